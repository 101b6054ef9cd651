/-! COUNTFALL: what is asked of arguments (laid by wip/whole/tools, from the specs there) -/
/-! COUNTFALL, words: what is asked of arguments; sums; the set of models -/
/-- v is one of 0 to N - 1 -/
def vB (v : Int32) (N : Nat) : Bool := decide (0 ≤ v.toInt ∧ v.toInt < N)
theorem vB_t {v : Int32} {N : Nat} (hN : N < 2 ^ 31) (h : vB v N = true) : ∃ x, x < N ∧ v = nI x := by
  rcases i_cases v N hN with q | q
  · exact q
  · exact absurd (of_decide_eq_true h) q
theorem vB_nI {x N : Nat} (h : x < N) (hN : N < 2 ^ 31) : vB (nI x) N = true := decide_eq_true (by rw [nI_toInt (by omega)]; omega)
theorem vB_f {v : Int32} {N : Nat} (h : ¬ (0 ≤ v.toInt ∧ v.toInt < N)) : vB v N = false := decide_eq_false h
theorem vB_big {x N : Nat} (h : N ≤ x) (hx : x < 2 ^ 31) : vB (nI x) N = false := vB_f (by rw [nI_toInt hx]; omega)
theorem vB_neg {v : Int32} {N : Nat} (h : v < 0) : vB v N = false := vB_f (in_neg h)
theorem vB_ge {v : Int32} {N : Nat} (h : ¬ v < nI N) (hN : N < 2 ^ 31) : vB v N = false := vB_f (in_big (i32_le.mpr h) hN)
theorem vB_in {v : Int32} {N : Nat} (h1 : ¬ v < 0) (h2 : v < nI N) (hN : N < 2 ^ 31) : vB v N = true := decide_eq_true (in_mid h1 (fun q => i32_le.mp q h2) hN)
/-- the number of what is thrown, 0 for nothing -/
def cd1 (a : Bool) : Nat := if a then 1 else 0
def cd2 (a b : Bool) : Nat := if a then 1 else if b then 2 else 0
def cd3 (a b c : Bool) : Nat := if a then 1 else if b then 2 else if c then 3 else 0
def cd4 (a b c d : Bool) : Nat := if a then 1 else if b then 2 else if c then 3 else if d then 4 else 0
/-- the product of the weights of an assignment's values -/
def prodN (wf wt : Nat → Nat) (a : Nat) : Nat → Nat
  | 0 => 1
  | k + 1 => prodN wf wt a k * (if a.testBit k then wt k else wf k)
def sumI (X : Nat → Bool) (f : Nat → Nat) : Nat → Nat
  | 0 => 0
  | k + 1 => sumI X f k + (if X k then f k else 0)
/-- in the assignment hold all constraints of lv, and the evidence -/
def mdc (sd se nc : Nat) (cs : Nat → CN) (lv a : Nat) : Bool := decide (a &&& sd = se) && metN cs nc lv a
def mdl (n sd se nc : Nat) (cs : Nat → CN) (lv : Nat) : Nat → Bool := fun a => decide (a < 2 ^ n) && mdc sd se nc cs lv a
theorem mdl_hi {n sd se nc lv a : Nat} {cs : Nat → CN} (h : 2 ^ n ≤ a) : mdl n sd se nc cs lv a = false := by unfold mdl; rw [decide_eq_false (by omega)]; rfl
theorem sumI_congr {X Y : Nat → Bool} {f g : Nat → Nat} {n : Nat} (h : ∀ a, a < n → X a = Y a ∧ (X a = true → f a = g a)) : sumI X f n = sumI Y g n := by
  induction n with
  | zero => rfl
  | succ n ih =>
    simp only [sumI]
    rw [ih (fun a ha => h a (by omega)), (h n (by omega)).1]
    by_cases e : Y n = true
    · rw [if_pos e, if_pos e, (h n (by omega)).2 ((h n (by omega)).1.trans e)]
    · rw [if_neg e, if_neg e]
theorem sumI_le {X : Nat → Bool} {f : Nat → Nat} {n b : Nat} (h : ∀ a, a < n → f a ≤ b) : sumI X f n ≤ n * b := by
  induction n with
  | zero => exact Nat.zero_le _
  | succ n ih =>
    simp only [sumI]
    have := ih (fun a ha => h a (by omega))
    have := h n (by omega)
    rw [Nat.add_mul, Nat.one_mul]
    split <;> omega
theorem two_pow10 {n : Nat} (h : n ≤ 10) : 2 ^ n ≤ 1024 := Nat.pow_le_pow_right (by decide) h
theorem nAnd_ev {n x : Nat} (hx : x < 2 ^ 32) (hn : n ≤ 10) : nAnd x (2 ^ n - 1) = 0 ↔ x < 2 ^ n := by
  unfold nAnd
  rw [Nat.and_two_pow_sub_one_eq_mod]
  constructor
  · intro h
    have e : x = x % 2 ^ n := by
      apply Nat.eq_of_testBit_eq
      intro j
      have := congrArg (fun z => z.testBit j) h
      simp only [Nat.testBit_xor, Nat.zero_testBit] at this
      revert this
      cases x.testBit j <;> cases (x % 2 ^ n).testBit j <;> simp
    rw [e]; exact Nat.mod_lt _ (Nat.two_pow_pos n)
  · intro h
    rw [Nat.mod_eq_of_lt h, Nat.xor_self]
section JQQ
variable {p : Program} {l : Launch} {e : Env} {R : Room} {s : State} {m : MethodId} {args : Array Value} {below : List Frame} {meth : Method} {c : Code} {H : Heap} {locs : List Loc} {cells slots : Nat} {Q : State → Prop}
variable {cc : ByteArray} {pc : Nat} {ls : Array Slot} {rest st : List Value} {D : va_G} {cy : Nat → ClassId} {A : Nat → Prop} {H0 : Heap} {w : va_W} {Ts : List Cond} {nL : Nat} {own : String}
theorem jx_callq {L : List (Nat × String)} {C : String} {index maxL mc ms MC MS n k b ci : Nat} {y : MethodName} {bytes : ByteArray} {ret : Option FieldType} {ws' : List Cond} {rm : Room} {As : List Value} {post postO : Option Value → va_W → Prop} {postx postxO : String → va_W → Prop} {q : vw_C} {fs : List Value} {rt : Option FieldType} {nm : String}
    (S : CallFix p m c cc nL s args Ts own) (hK : jK D cy s) (hA : ∀ q, s.heap.size ≤ q → A q) (hW : jW D A s.heap w H locs) (hQ : vx_MQ below (jQ D cy A postO) (jXC D cy A postxO) args s MC MS A = Q) (htab : ∀ x ∈ c.exceptionTable.toList, False) (hrt : jRt meth rt nm) (hx : jX A s s.heap ∧ jXS L s)
    (hM : jMx L l y (Cond.code y bytes maxL ret :: ws') rm D cy w (.ref b :: As) mc ms post postx) (hG : GoodIn Ts (wsV own index C y (Cond.code y bytes maxL ret :: ws'))) (hy : y.cls = C ∧ jk y n)
    (he : w[k]? = some (b, .inr (ci, fs))) (hc : vwCl[ci]? = some q) (hq : q.1 = C)
    (hR : (rm.cells = mc ∧ rm.slots = ms) ∧ rm.frames + 1 ≤ R.frames ∧ 8 + (maxL + 11) + rm.locals ≤ R.locals) (hn : As.length = n) (hl : ls.size = nL) (hst : st = As.reverse ++ .ref b :: rest) (hcat : (rest.map fun v => v.category).sum ≤ 8)
    (hdg : decode cc pc = .ok (.invokevirtual index, 3)) (hf : cells + mc ≤ R.cells ∧ slots + ms ≤ R.slots) (hmc : cells + mc ≤ MC ∧ slots + ms ≤ MS) (kx : ∀ (E : String) (u : va_W), postx E u → postxO E u)
    (kk : ∀ (v : Option Value) (u : va_W) (H1 : Heap) (locs1 : List Loc), post v u → jW D A s.heap u H1 locs1 → W p l e R s m args below meth c H1 locs1 (cells + mc) (slots + ms) Q (F0 m (pc + 3) ls (v.toList ++ rest))) :
    W p l e R s m args below meth c H locs cells slots Q (F0 m pc ls st) := by
  subst hQ
  exact jx_callV S hK hA hW htab hrt hx hM hG hy he hc hq hR hn hl hst hcat hdg hf hmc kx kk
end JQQ
theorem nI_hi {x : Nat} (h : 2 ^ 31 ≤ x) (hx : x < 2 ^ 32) : (nI x).toInt = (x : Int) - 2 ^ 32 := by
  show (BitVec.ofNat 32 x).toInt = _
  rw [BitVec.toInt_eq_toNat_cond, BitVec.toNat_ofNat, Nat.mod_eq_of_lt hx]
  rw [if_neg (by omega)]
  omega
/-- the row of slots -/
def slF (ad : Nat → Nat) : Nat → Option Nat := fun j => if j < 4 then some (ad (43 + 3 * j)) else none
theorem slF_at {ad : Nat → Nat} {j : Nat} (h : j < 4) : slF ad j = some (ad (43 + 3 * j)) := if_pos h
/-- checkVariable -/
theorem c_X11_checkVariable (l : Launch) (htr : l.stackTraces = false) (D : va_G) (cy : Nat → ClassId) {w : va_W} (ad : Nat → Nat) (n sd se : Nat) (fr : Bool) (v : Int32) (hO : w[0]? = some (ad 0, .inr (10, [.int (nI n), .ref (ad 1), .ref (ad 3), .ref (ad 5), .int (nI sd), .int (nI se), .ref (ad 7), .ref (ad 9), .ref (ad 11), .ref (ad 20), .int (bI fr), .ref (ad 23), .ref (ad 26), .ref (ad 31), .ref (ad 42)]))) (hn : n ≤ 10) : jMx jTexts l yX11_checkVariable (jws yX11_checkVariable cX11_checkVariable 2 none) (jR 8 1 6) D cy w [.ref (ad 0), .int v] 1 6 (fun vv uu => ∃ (xN : Nat), vv = none ∧ xN < n ∧ v = nI xN ∧ w = uu) (fun EE uu => ((EE = "java/lang/IndexOutOfBoundsException" ∧ (vB v n = false))) ∧ w = uu) := by
  refine jx_of (by decide) rfl (Nat.le_of_ble_eq_true rfl) ?_
  intro p e s m args below meth c A ls Q hQ S hr hK hA H locs hW hl htab hx
  have hl : lv_has ls 2 [(0, .ref (ad 0)), (1, .int v)] := hl
  refine lv_iload_n S.1 S.2.1 dX11_checkVariable_0 rfl (lv_at hl 1 rfl) ?_
  refine lv_if_lt (tgt := 12) S.1 S.2.1 dX11_checkVariable_1 (by decide) (fun c_1 => ?_) (fun c_1 => ?_)
  · subst hQ
    obtain ⟨sa, hsa⟩ := hx.2.1 (313, "no such variable") (by decide)
    exact jx_throwW (text := "no such variable") (names := jNm) (sa := sa) S htr jfit_315 jfit_n wcl_X11_311 wini_java_lang_IndexOutOfBoundsException vxg_315 vxn_315 vxh_315 (by decide) hsa hx hK hW hl.1 htab hr.2.1 ⟨by decide, by decide, by decide, by decide⟩ ⟨by decide, by decide⟩ dX11_checkVariable_12 dX11_checkVariable_15 dX11_checkVariable_16 dX11_checkVariable_19 dX11_checkVariable_22 (⟨⟨rfl, by first | exact vB_neg c_1 | exact vB_ge c_9 (by omega)⟩, rfl⟩)
  · refine lv_iload_n S.1 S.2.1 dX11_checkVariable_4 rfl (lv_at hl 1 rfl) ?_
    refine lv_aload_n S.1 S.2.1 dX11_checkVariable_5 rfl (lv_at hl 0 rfl) ?_
    refine j_get (ci := 10) (C := RX11) (T := TX11) (N := 15) (v := .int (nI n)) S (fun w h => List.mem_cons_of_mem _ (inG11 w h)) hK hW hO rfl 0 (by decide) (List.mem_cons_of_mem _ wfl_X11_77) (fun _ h9 => h9) rfl dX11_checkVariable_6 ?_
    refine lv_icmp_lt (tgt := 23) S.1 S.2.1 dX11_checkVariable_9 (by decide) (fun c_9 => ?_) (fun c_9 => ?_)
    · subst hQ
      refine vx_ret ?_
      exact j_vret (u := w) S hr hK hW dX11_checkVariable_23 ⟨by decide, by decide⟩ (by obtain ⟨x, h1, h2⟩ := vB_t (by omega) (vB_in c_1 c_9 (by omega)); exact ⟨x, rfl, h1, h2, rfl⟩)
    · subst hQ
      obtain ⟨sa, hsa⟩ := hx.2.1 (313, "no such variable") (by decide)
      exact jx_throwW (text := "no such variable") (names := jNm) (sa := sa) S htr jfit_315 jfit_n wcl_X11_311 wini_java_lang_IndexOutOfBoundsException vxg_315 vxn_315 vxh_315 (by decide) hsa hx hK hW hl.1 htab hr.2.1 ⟨by decide, by decide, by decide, by decide⟩ ⟨by decide, by decide⟩ dX11_checkVariable_12 dX11_checkVariable_15 dX11_checkVariable_16 dX11_checkVariable_19 dX11_checkVariable_22 (⟨⟨rfl, by first | exact vB_neg c_1 | exact vB_ge c_9 (by omega)⟩, rfl⟩)
/-- checkPlace -/
theorem c_X11_checkPlace (l : Launch) (htr : l.stackTraces = false) (D : va_G) (cy : Nat → ClassId) {w : va_W} (ad : Nat → Nat) (n sd se : Nat) (fr : Bool) (v : Int32) (hO : w[0]? = some (ad 0, .inr (10, [.int (nI n), .ref (ad 1), .ref (ad 3), .ref (ad 5), .int (nI sd), .int (nI se), .ref (ad 7), .ref (ad 9), .ref (ad 11), .ref (ad 20), .int (bI fr), .ref (ad 23), .ref (ad 26), .ref (ad 31), .ref (ad 42)]))) (hn : n ≤ 10) : jMx jTexts l yX11_checkPlace (jws yX11_checkPlace cX11_checkPlace 2 none) (jR 8 1 6) D cy w [.ref (ad 0), .int v] 1 6 (fun vv uu => ∃ (xN : Nat), vv = none ∧ xN < n ∧ v = nI xN ∧ w = uu) (fun EE uu => ((EE = "java/lang/IndexOutOfBoundsException" ∧ (vB v n = false))) ∧ w = uu) := by
  refine jx_of (by decide) rfl (Nat.le_of_ble_eq_true rfl) ?_
  intro p e s m args below meth c A ls Q hQ S hr hK hA H locs hW hl htab hx
  have hl : lv_has ls 2 [(0, .ref (ad 0)), (1, .int v)] := hl
  refine lv_iload_n S.1 S.2.1 dX11_checkPlace_0 rfl (lv_at hl 1 rfl) ?_
  refine lv_if_lt (tgt := 12) S.1 S.2.1 dX11_checkPlace_1 (by decide) (fun c_1 => ?_) (fun c_1 => ?_)
  · subst hQ
    obtain ⟨sa, hsa⟩ := hx.2.1 (316, "no such place") (by decide)
    exact jx_throwW (text := "no such place") (names := jNm) (sa := sa) S htr jfit_315 jfit_n wcl_X11_311 wini_java_lang_IndexOutOfBoundsException vxg_315 vxn_315 vxh_315 (by decide) hsa hx hK hW hl.1 htab hr.2.1 ⟨by decide, by decide, by decide, by decide⟩ ⟨by decide, by decide⟩ dX11_checkPlace_12 dX11_checkPlace_15 dX11_checkPlace_16 dX11_checkPlace_19 dX11_checkPlace_22 (⟨⟨rfl, by first | exact vB_neg c_1 | exact vB_ge c_9 (by omega)⟩, rfl⟩)
  · refine lv_iload_n S.1 S.2.1 dX11_checkPlace_4 rfl (lv_at hl 1 rfl) ?_
    refine lv_aload_n S.1 S.2.1 dX11_checkPlace_5 rfl (lv_at hl 0 rfl) ?_
    refine j_get (ci := 10) (C := RX11) (T := TX11) (N := 15) (v := .int (nI n)) S (fun w h => List.mem_cons_of_mem _ (inG11 w h)) hK hW hO rfl 0 (by decide) (List.mem_cons_of_mem _ wfl_X11_77) (fun _ h9 => h9) rfl dX11_checkPlace_6 ?_
    refine lv_icmp_lt (tgt := 23) S.1 S.2.1 dX11_checkPlace_9 (by decide) (fun c_9 => ?_) (fun c_9 => ?_)
    · subst hQ
      refine vx_ret ?_
      exact j_vret (u := w) S hr hK hW dX11_checkPlace_23 ⟨by decide, by decide⟩ (by obtain ⟨x, h1, h2⟩ := vB_t (by omega) (vB_in c_1 c_9 (by omega)); exact ⟨x, rfl, h1, h2, rfl⟩)
    · subst hQ
      obtain ⟨sa, hsa⟩ := hx.2.1 (316, "no such place") (by decide)
      exact jx_throwW (text := "no such place") (names := jNm) (sa := sa) S htr jfit_315 jfit_n wcl_X11_311 wini_java_lang_IndexOutOfBoundsException vxg_315 vxn_315 vxh_315 (by decide) hsa hx hK hW hl.1 htab hr.2.1 ⟨by decide, by decide, by decide, by decide⟩ ⟨by decide, by decide⟩ dX11_checkPlace_12 dX11_checkPlace_15 dX11_checkPlace_16 dX11_checkPlace_19 dX11_checkPlace_22 (⟨⟨rfl, by first | exact vB_neg c_1 | exact vB_ge c_9 (by omega)⟩, rfl⟩)
/-- countAssignments -/
theorem c_X11_countAssignments (l : Launch) (D : va_G) (cy : Nat → ClassId) {w : va_W} (ad : Nat → Nat) (n sd se : Nat) (fr : Bool) (hO : w[0]? = some (ad 0, .inr (10, [.int (nI n), .ref (ad 1), .ref (ad 3), .ref (ad 5), .int (nI sd), .int (nI se), .ref (ad 7), .ref (ad 9), .ref (ad 11), .ref (ad 20), .int (bI fr), .ref (ad 23), .ref (ad 26), .ref (ad 31), .ref (ad 42)]))) (hn : n ≤ 10) : jM l yX11_countAssignments (jws yX11_countAssignments cX11_countAssignments 1 (some .int)) (jR 0 0 0) D cy w [.ref (ad 0)] 0 0 (fun vv uu => vv = some (.int (nI (2 ^ n))) ∧ w = uu) := by
  refine j_of (by decide) rfl (Nat.le_of_ble_eq_true rfl) ?_
  intro p e s m args below meth c A ls Q hQ S hr hK hA H locs hW hl
  have hl : lv_has ls 1 [(0, .ref (ad 0))] := hl
  refine lv_iconst (v := nI 1) S.1 S.2.1 dX11_countAssignments_0 (by decide) ?_
  refine lv_aload_n S.1 S.2.1 dX11_countAssignments_1 rfl (lv_at hl 0 rfl) ?_
  refine j_get (ci := 10) (C := RX11) (T := TX11) (N := 15) (v := .int (nI n)) S (fun w h => List.mem_cons_of_mem _ (inG11 w h)) hK hW hO rfl 0 (by decide) (List.mem_cons_of_mem _ wfl_X11_77) (fun _ h9 => h9) rfl dX11_countAssignments_2 ?_
  refine jn_shl1 S (by omega) dX11_countAssignments_5 ?_
  subst hQ
  exact j_iret (u := w) S hr (rfl) hK hW dX11_countAssignments_6 ⟨by decide, by decide⟩ (⟨rfl, rfl⟩)
/-- everyVariable -/
theorem c_X11_everyVariable (l : Launch) (D : va_G) (cy : Nat → ClassId) {w : va_W} (ad : Nat → Nat) (n sd se : Nat) (fr : Bool) (hO : w[0]? = some (ad 0, .inr (10, [.int (nI n), .ref (ad 1), .ref (ad 3), .ref (ad 5), .int (nI sd), .int (nI se), .ref (ad 7), .ref (ad 9), .ref (ad 11), .ref (ad 20), .int (bI fr), .ref (ad 23), .ref (ad 26), .ref (ad 31), .ref (ad 42)]))) (hn : n ≤ 10) : jM l yX11_everyVariable (jws yX11_everyVariable cX11_everyVariable 1 (some .int)) (jR 1 0 0) D cy w [.ref (ad 0)] 0 0 (fun vv uu => vv = some (.int (nI (2 ^ n - 1))) ∧ w = uu) := by
  refine j_of (by decide) rfl (Nat.le_of_ble_eq_true rfl) ?_
  intro p e s m args below meth c A ls Q hQ S hr hK hA H locs hW hl
  have hl : lv_has ls 1 [(0, .ref (ad 0))] := hl
  refine lv_aload_n S.1 S.2.1 dX11_everyVariable_0 rfl (lv_at hl 0 rfl) ?_
  refine j_callV (k := 0) (ci := 10) (q := (RX11, TX11, 15)) (As := []) (rest := []) S hK hA hW (c_X11_countAssignments l D cy ad n sd se fr hO   (by omega)) (jgo wm_X11_221) yk_X11_countAssignments hO rfl rfl ⟨⟨rfl, rfl⟩, by decide, by decide⟩ rfl hl.1 rfl (Nat.le_of_ble_eq_true rfl) dX11_everyVariable_1 ⟨Nat.le_of_ble_eq_true rfl, Nat.le_of_ble_eq_true rfl⟩ (fun v u H locs hp hW => ?_)
  obtain ⟨rfl, rfl⟩ := hp
  refine W.eq (g2 := F0 m 4 ls [.int (nI (2 ^ n))]) rfl ?_
  have hpn := Nat.two_pow_pos n
  refine lv_iconst (v := nI 1) S.1 S.2.1 dX11_everyVariable_4 (by decide) ?_
  refine jn_sub S (by omega) dX11_everyVariable_5 ?_
  subst hQ
  exact j_iret (u := w) S hr (rfl) hK hW dX11_everyVariable_6 ⟨by decide, by decide⟩ (⟨rfl, rfl⟩)
/-- openVariables -/
theorem c_X11_openVariables (l : Launch) (D : va_G) (cy : Nat → ClassId) {w : va_W} (ad : Nat → Nat) (n sd se : Nat) (fr : Bool) (hO : w[0]? = some (ad 0, .inr (10, [.int (nI n), .ref (ad 1), .ref (ad 3), .ref (ad 5), .int (nI sd), .int (nI se), .ref (ad 7), .ref (ad 9), .ref (ad 11), .ref (ad 20), .int (bI fr), .ref (ad 23), .ref (ad 26), .ref (ad 31), .ref (ad 42)]))) (hn : n ≤ 10) : jM l yX11_openVariables (jws yX11_openVariables cX11_openVariables 1 (some .int)) (jR 2 0 0) D cy w [.ref (ad 0)] 0 0 (fun vv uu => vv = some (.int (nI (nAnd (2 ^ n - 1) sd))) ∧ w = uu) := by
  refine j_of (by decide) rfl (Nat.le_of_ble_eq_true rfl) ?_
  intro p e s m args below meth c A ls Q hQ S hr hK hA H locs hW hl
  have hl : lv_has ls 1 [(0, .ref (ad 0))] := hl
  refine lv_aload_n S.1 S.2.1 dX11_openVariables_0 rfl (lv_at hl 0 rfl) ?_
  refine j_callV (k := 0) (ci := 10) (q := (RX11, TX11, 15)) (As := []) (rest := []) S hK hA hW (c_X11_everyVariable l D cy ad n sd se fr hO   (by omega)) (jgo wm_X11_318) yk_X11_everyVariable hO rfl rfl ⟨⟨rfl, rfl⟩, by decide, by decide⟩ rfl hl.1 rfl (Nat.le_of_ble_eq_true rfl) dX11_openVariables_1 ⟨Nat.le_of_ble_eq_true rfl, Nat.le_of_ble_eq_true rfl⟩ (fun v u H locs hp hW => ?_)
  obtain ⟨rfl, rfl⟩ := hp
  refine W.eq (g2 := F0 m 4 ls [.int (nI (2 ^ n - 1))]) rfl ?_
  refine lv_aload_n S.1 S.2.1 dX11_openVariables_4 rfl (lv_at hl 0 rfl) ?_
  refine j_get (ci := 10) (C := RX11) (T := TX11) (N := 15) (v := .int (nI sd)) S (fun w h => List.mem_cons_of_mem _ (inG11 w h)) hK hW hO rfl 4 (by decide) (List.mem_cons_of_mem _ wfl_X11_176) (fun _ h9 => h9) rfl dX11_openVariables_5 ?_
  refine lv_iconst (v := (-1)) S.1 S.2.1 dX11_openVariables_8 (by decide) ?_
  refine lv_ixor S.1 S.2.1 dX11_openVariables_9 ?_
  refine jn_andn S dX11_openVariables_10 ?_
  subst hQ
  exact j_iret (u := w) S hr (rfl) hK hW dX11_openVariables_11 ⟨by decide, by decide⟩ (⟨rfl, rfl⟩)
/-- isSettled -/
theorem c_X11_isSettled (l : Launch) (D : va_G) (cy : Nat → ClassId) {w : va_W} (ad : Nat → Nat) (n sd se : Nat) (fr : Bool) (v : Nat) (hO : w[0]? = some (ad 0, .inr (10, [.int (nI n), .ref (ad 1), .ref (ad 3), .ref (ad 5), .int (nI sd), .int (nI se), .ref (ad 7), .ref (ad 9), .ref (ad 11), .ref (ad 20), .int (bI fr), .ref (ad 23), .ref (ad 26), .ref (ad 31), .ref (ad 42)]))) (hn : n ≤ 10) (hsd : sd < 1024) (hv : v < 10) : jM l yX11_isSettled (jws yX11_isSettled cX11_isSettled 2 (some .boolean)) (jR 0 0 0) D cy w [.ref (ad 0), .int (nI v)] 0 0 (fun vv uu => vv = some (.int (bI (sd.testBit v))) ∧ w = uu) := by
  refine j_of (by decide) rfl (Nat.le_of_ble_eq_true rfl) ?_
  intro p e s m args below meth c A ls Q hQ S hr hK hA H locs hW hl
  have hl : lv_has ls 2 [(0, .ref (ad 0)), (1, .int (nI v))] := hl
  refine lv_aload_n S.1 S.2.1 dX11_isSettled_0 rfl (lv_at hl 0 rfl) ?_
  refine j_get (ci := 10) (C := RX11) (T := TX11) (N := 15) (v := .int (nI sd)) S (fun w h => List.mem_cons_of_mem _ (inG11 w h)) hK hW hO rfl 4 (by decide) (List.mem_cons_of_mem _ wfl_X11_176) (fun _ h9 => h9) rfl dX11_isSettled_1 ?_
  refine lv_iload_n S.1 S.2.1 dX11_isSettled_4 rfl (lv_at hl 1 rfl) ?_
  refine jn_shr S (by omega) (by omega) dX11_isSettled_5 ?_
  refine lv_iconst (v := nI 1) S.1 S.2.1 dX11_isSettled_6 (by decide) ?_
  refine jn_and S dX11_isSettled_7 ?_
  refine lv_topi_to (y := bI (sd.testBit v)) (nI_bit _ _) ?_
  refine jb_if_eq (tgt := 15) S dX11_isSettled_8 (by decide) (fun c_8 => ?_) (fun c_8 => ?_)
  · refine lv_iconst (v := nI 0) S.1 S.2.1 dX11_isSettled_15 (by decide) ?_
    subst hQ
    exact j_iret (u := w) S hr (rfl) hK hW dX11_isSettled_16 ⟨by decide, by decide⟩ (⟨bI_F c_8, rfl⟩)
  · refine lv_iconst (v := nI 1) S.1 S.2.1 dX11_isSettled_11 (by decide) ?_
    refine lv_goto (tgt := 16) S.1 S.2.1 dX11_isSettled_12 (by decide) ?_
    subst hQ
    exact j_iret (u := w) S hr (rfl) hK hW dX11_isSettled_16 ⟨by decide, by decide⟩ (⟨bI_T c_8, rfl⟩)
/-- checkSet -/
theorem c_X11_checkSet (l : Launch) (htr : l.stackTraces = false) (D : va_G) (cy : Nat → ClassId) {w : va_W} (ad : Nat → Nat) (n sd se : Nat) (fr : Bool) (x : Int32) (hO : w[0]? = some (ad 0, .inr (10, [.int (nI n), .ref (ad 1), .ref (ad 3), .ref (ad 5), .int (nI sd), .int (nI se), .ref (ad 7), .ref (ad 9), .ref (ad 11), .ref (ad 20), .int (bI fr), .ref (ad 23), .ref (ad 26), .ref (ad 31), .ref (ad 42)]))) (hn : n ≤ 10) : jMx jTexts l yX11_checkSet (jws yX11_checkSet cX11_checkSet 2 none) (jR 8 1 6) D cy w [.ref (ad 0), .int x] 1 6 (fun vv uu => ∃ (xN : Nat), vv = none ∧ xN < 2 ^ n ∧ x = nI xN ∧ w = uu) (fun EE uu => ((EE = "java/lang/IllegalArgumentException" ∧ (vB x (2 ^ n) = false))) ∧ w = uu) := by
  obtain ⟨x0, hx0, rfl⟩ := wb_of32 x
  have hpn := two_pow10 hn
  refine jx_of (by decide) rfl (Nat.le_of_ble_eq_true rfl) ?_
  intro p e s m args below meth c A ls Q hQ S hr hK hA H locs hW hl htab hx
  have hl : lv_has ls 2 [(0, .ref (ad 0)), (1, .int (nI x0))] := hl
  refine lv_iload_n S.1 S.2.1 dX11_checkSet_0 rfl (lv_at hl 1 rfl) ?_
  refine lv_aload_n S.1 S.2.1 dX11_checkSet_1 rfl (lv_at hl 0 rfl) ?_
  refine j_callV (k := 0) (ci := 10) (q := (RX11, TX11, 15)) (As := []) (rest := [.int (nI x0)]) S hK hA hW (c_X11_everyVariable l D cy ad n sd se fr hO   (by omega)) (jgo wm_X11_318) yk_X11_everyVariable hO rfl rfl ⟨⟨rfl, rfl⟩, by decide, by decide⟩ rfl hl.1 rfl (Nat.le_of_ble_eq_true rfl) dX11_checkSet_2 ⟨Nat.le_of_ble_eq_true rfl, Nat.le_of_ble_eq_true rfl⟩ (fun v u H locs hp hW => ?_)
  obtain ⟨rfl, rfl⟩ := hp
  refine W.eq (g2 := F0 m 5 ls [.int (nI (2 ^ n - 1)), .int (nI x0)]) rfl ?_
  refine lv_iconst (v := (-1)) S.1 S.2.1 dX11_checkSet_5 (by decide) ?_
  refine lv_ixor S.1 S.2.1 dX11_checkSet_6 ?_
  refine jn_andn S dX11_checkSet_7 ?_
  have hna : nAnd x0 (2 ^ n - 1) < 2 ^ 32 := nAnd_lt hx0
  refine jn_if_eq (tgt := 22) S (by omega) dX11_checkSet_8 (by decide) (fun c_8 => ?_) (fun c_8 => ?_)
  · subst hQ
    refine vx_ret ?_
    exact j_vret (u := w) S hr hK hW dX11_checkSet_22 ⟨by decide, by decide⟩ (⟨x0, rfl, (nAnd_ev hx0 hn).mp c_8, rfl, rfl⟩)
  · subst hQ
    obtain ⟨sa, hsa⟩ := hx.2.1 (321, "a variable is not there") (by decide)
    exact jx_throwW (text := "a variable is not there") (names := jNm) (sa := sa) S htr jfit_105 jfit_n wcl_X11_101 wini_java_lang_IllegalArgumentException vxg_105 vxn_105 vxh_105 (by decide) hsa hx hK hW hl.1 htab hr.2.1 ⟨by decide, by decide, by decide, by decide⟩ ⟨by decide, by decide⟩ dX11_checkSet_11 dX11_checkSet_14 dX11_checkSet_15 dX11_checkSet_18 dX11_checkSet_21 (⟨⟨rfl, by rcases Nat.lt_or_ge x0 (2 ^ 31) with q | q; exact vB_big (Nat.not_lt.mp (fun z => c_8 ((nAnd_ev hx0 hn).mpr z))) q; exact vB_f (by rw [nI_hi q hx0]; omega)⟩, rfl⟩)
/-- checkNotEmpty -/
theorem c_X11_checkNotEmpty (l : Launch) (htr : l.stackTraces = false) (D : va_G) (cy : Nat → ClassId) {w : va_W} (ad : Nat → Nat) (x : Nat) (hx : x < 1024) : jMx jTexts l yX11_checkNotEmpty (jws yX11_checkNotEmpty cX11_checkNotEmpty 2 none) (jR 8 1 6) D cy w [.ref (ad 0), .int (nI x)] 1 6 (fun vv uu => vv = none ∧ x ≠ 0 ∧ w = uu) (fun EE uu => ((EE = "java/lang/IllegalArgumentException" ∧ (x = 0))) ∧ w = uu) := by
  refine jx_of (by decide) rfl (Nat.le_of_ble_eq_true rfl) ?_
  intro p e s m args below meth c A ls Q hQ S hr hK hA H locs hW hl htab hx
  have hl : lv_has ls 2 [(0, .ref (ad 0)), (1, .int (nI x))] := hl
  refine lv_iload_n S.1 S.2.1 dX11_checkNotEmpty_0 rfl (lv_at hl 1 rfl) ?_
  refine jn_if_ne (tgt := 15) S (by omega) dX11_checkNotEmpty_1 (by decide) (fun c_1 => ?_) (fun c_1 => ?_)
  · subst hQ
    refine vx_ret ?_
    exact j_vret (u := w) S hr hK hW dX11_checkNotEmpty_15 ⟨by decide, by decide⟩ (⟨rfl, c_1, rfl⟩)
  · subst hQ
    obtain ⟨sa, hsa⟩ := hx.2.1 (323, "no variable at all") (by decide)
    exact jx_throwW (text := "no variable at all") (names := jNm) (sa := sa) S htr jfit_105 jfit_n wcl_X11_101 wini_java_lang_IllegalArgumentException vxg_105 vxn_105 vxh_105 (by decide) hsa hx hK hW hl.1 htab hr.2.1 ⟨by decide, by decide, by decide, by decide⟩ ⟨by decide, by decide⟩ dX11_checkNotEmpty_4 dX11_checkNotEmpty_7 dX11_checkNotEmpty_8 dX11_checkNotEmpty_11 dX11_checkNotEmpty_14 (⟨⟨rfl, by first | assumption | omega⟩, rfl⟩)
/-- checkValue -/
theorem c_X11_checkValue (l : Launch) (htr : l.stackTraces = false) (D : va_G) (cy : Nat → ClassId) {w : va_W} (ad : Nat → Nat) (v : Int32) : jMx jTexts l yX11_checkValue (jws yX11_checkValue cX11_checkValue 2 none) (jR 8 1 6) D cy w [.ref (ad 0), .int v] 1 6 (fun vv uu => ∃ (xN : Nat), vv = none ∧ xN < 2 ∧ v = nI xN ∧ w = uu) (fun EE uu => ((EE = "java/lang/IllegalArgumentException" ∧ (vB v 2 = false))) ∧ w = uu) := by
  refine jx_of (by decide) rfl (Nat.le_of_ble_eq_true rfl) ?_
  intro p e s m args below meth c A ls Q hQ S hr hK hA H locs hW hl htab hx
  have hl : lv_has ls 2 [(0, .ref (ad 0)), (1, .int v)] := hl
  refine lv_iload_n S.1 S.2.1 dX11_checkValue_0 rfl (lv_at hl 1 rfl) ?_
  refine lv_if_eq (tgt := 20) S.1 S.2.1 dX11_checkValue_1 (by decide) (fun c_1 => ?_) (fun c_1 => ?_)
  · subst hQ
    refine vx_ret ?_
    exact j_vret (u := w) S hr hK hW dX11_checkValue_20 ⟨by decide, by decide⟩ (by first | exact ⟨0, rfl, by decide, c_1, rfl⟩ | exact ⟨1, rfl, by decide, c_6, rfl⟩)
  · refine lv_iload_n S.1 S.2.1 dX11_checkValue_4 rfl (lv_at hl 1 rfl) ?_
    refine lv_iconst (v := nI 1) S.1 S.2.1 dX11_checkValue_5 (by decide) ?_
    refine lv_icmp_eq (tgt := 20) S.1 S.2.1 dX11_checkValue_6 (by decide) (fun c_6 => ?_) (fun c_6 => ?_)
    · subst hQ
      refine vx_ret ?_
      exact j_vret (u := w) S hr hK hW dX11_checkValue_20 ⟨by decide, by decide⟩ (by first | exact ⟨0, rfl, by decide, c_1, rfl⟩ | exact ⟨1, rfl, by decide, c_6, rfl⟩)
    · subst hQ
      obtain ⟨sa, hsa⟩ := hx.2.1 (325, "neither 0 nor 1") (by decide)
      exact jx_throwW (text := "neither 0 nor 1") (names := jNm) (sa := sa) S htr jfit_105 jfit_n wcl_X11_101 wini_java_lang_IllegalArgumentException vxg_105 vxn_105 vxh_105 (by decide) hsa hx hK hW hl.1 htab hr.2.1 ⟨by decide, by decide, by decide, by decide⟩ ⟨by decide, by decide⟩ dX11_checkValue_9 dX11_checkValue_12 dX11_checkValue_13 dX11_checkValue_16 dX11_checkValue_19 (⟨⟨rfl, by rcases i_cases v 2 (by decide) with ⟨x, h1, rfl⟩ | q; rcases (show x = 0 ∨ x = 1 by omega) with rfl | rfl; exact absurd rfl c_1; exact absurd rfl c_6; exact vB_f q⟩, rfl⟩)
/-- checkRoom -/
theorem c_X11_checkRoom (l : Launch) (htr : l.stackTraces = false) (D : va_G) (cy : Nat → ClassId) {w : va_W} (ad : Nat → Nat) (n sd se : Nat) (fr : Bool) (nc lv : Nat) (tf : Nat → Option Nat) (hO : w[0]? = some (ad 0, .inr (10, [.int (nI n), .ref (ad 1), .ref (ad 3), .ref (ad 5), .int (nI sd), .int (nI se), .ref (ad 7), .ref (ad 9), .ref (ad 11), .ref (ad 20), .int (bI fr), .ref (ad 23), .ref (ad 26), .ref (ad 31), .ref (ad 42)]))) (hC : w[9]? = some (ad 9, .inr (4, [.ref (ad 10), .int (nI nc), .int (nI lv)]))) (hT : w[10]? = some (ad 10, .inl (cy 5, 20, .inr (.inr (.inr (.inr tf)))))) (hnc : nc ≤ 20) : jMx jTexts l yX11_checkRoom (jws yX11_checkRoom cX11_checkRoom 1 none) (jR 8 1 6) D cy w [.ref (ad 0)] 1 6 (fun vv uu => vv = none ∧ nc < 20 ∧ w = uu) (fun EE uu => ((EE = "java/lang/IllegalStateException" ∧ (nc = 20))) ∧ w = uu) := by
  refine jx_of (by decide) rfl (Nat.le_of_ble_eq_true rfl) ?_
  intro p e s m args below meth c A ls Q hQ S hr hK hA H locs hW hl htab hx
  have hl : lv_has ls 1 [(0, .ref (ad 0))] := hl
  refine lv_aload_n S.1 S.2.1 dX11_checkRoom_0 rfl (lv_at hl 0 rfl) ?_
  refine j_get (ci := 10) (C := RX11) (T := TX11) (N := 15) (v := .ref (ad 9)) S (fun w h => List.mem_cons_of_mem _ (inG11 w h)) hK hW hO rfl 7 (by decide) (List.mem_cons_of_mem _ wfl_X11_34) (fun _ h9 => h9) rfl dX11_checkRoom_1 ?_
  refine j_callV (k := 9) (ci := 4) (q := (RX5, TX5, 3)) (As := []) (rest := []) S hK hA hW (c_X5_count l D cy ad nc lv tf hC hT   ) (jgo wm_X11_327) yk_X5_count hC rfl rfl ⟨⟨rfl, rfl⟩, by decide, by decide⟩ rfl hl.1 rfl (Nat.le_of_ble_eq_true rfl) dX11_checkRoom_4 ⟨Nat.le_of_ble_eq_true rfl, Nat.le_of_ble_eq_true rfl⟩ (fun v u H locs hp hW => ?_)
  obtain ⟨rfl, rfl⟩ := hp
  refine W.eq (g2 := F0 m 7 ls [.int (nI nc)]) rfl ?_
  refine lv_bipush (v := nI 20) S.1 S.2.1 dX11_checkRoom_7 (by decide) ?_
  refine jn_cmp_lt (tgt := 23) S (by omega) (by omega) dX11_checkRoom_9 (by decide) (fun c_9 => ?_) (fun c_9 => ?_)
  · subst hQ
    refine vx_ret ?_
    exact j_vret (u := w) S hr hK hW dX11_checkRoom_23 ⟨by decide, by decide⟩ (⟨rfl, c_9, rfl⟩)
  · subst hQ
    obtain ⟨sa, hsa⟩ := hx.2.1 (330, "20 constraints were told") (by decide)
    exact jx_throwW (text := "20 constraints were told") (names := jNm) (sa := sa) S htr jfit_85 jfit_n wcl_X11_81 wini_java_lang_IllegalStateException vxg_85 vxn_85 vxh_85 (by decide) hsa hx hK hW hl.1 htab hr.2.1 ⟨by decide, by decide, by decide, by decide⟩ ⟨by decide, by decide⟩ dX11_checkRoom_12 dX11_checkRoom_15 dX11_checkRoom_16 dX11_checkRoom_19 dX11_checkRoom_22 (⟨⟨rfl, by first | assumption | omega⟩, rfl⟩)
/-- checkOpen -/
theorem c_X11_checkOpen (l : Launch) (htr : l.stackTraces = false) (D : va_G) (cy : Nat → ClassId) {w : va_W} (ad : Nat → Nat) (n sd se : Nat) (fr : Bool) (v : Nat) (hO : w[0]? = some (ad 0, .inr (10, [.int (nI n), .ref (ad 1), .ref (ad 3), .ref (ad 5), .int (nI sd), .int (nI se), .ref (ad 7), .ref (ad 9), .ref (ad 11), .ref (ad 20), .int (bI fr), .ref (ad 23), .ref (ad 26), .ref (ad 31), .ref (ad 42)]))) (hn : n ≤ 10) (hsd : sd < 1024) (hv : v < 10) : jMx jTexts l yX11_checkOpen (jws yX11_checkOpen cX11_checkOpen 2 none) (jR 8 1 6) D cy w [.ref (ad 0), .int (nI v)] 1 6 (fun vv uu => vv = none ∧ sd.testBit v = false ∧ w = uu) (fun EE uu => ((EE = "java/util/NoSuchElementException" ∧ (sd.testBit v = true))) ∧ w = uu) := by
  refine jx_of (by decide) rfl (Nat.le_of_ble_eq_true rfl) ?_
  intro p e s m args below meth c A ls Q hQ S hr hK hA H locs hW hl htab hx
  have hl : lv_has ls 2 [(0, .ref (ad 0)), (1, .int (nI v))] := hl
  refine lv_aload_n S.1 S.2.1 dX11_checkOpen_0 rfl (lv_at hl 0 rfl) ?_
  refine lv_iload_n S.1 S.2.1 dX11_checkOpen_1 rfl (lv_at hl 1 rfl) ?_
  refine j_callV (k := 0) (ci := 10) (q := (RX11, TX11, 15)) (As := [.int (nI v)]) (rest := []) S hK hA hW (c_X11_isSettled l D cy ad n sd se fr v hO   (by omega) (by omega) (by omega)) (jgo wm_X11_170) yk_X11_isSettled hO rfl rfl ⟨⟨rfl, rfl⟩, by decide, by decide⟩ rfl hl.1 rfl (Nat.le_of_ble_eq_true rfl) dX11_checkOpen_2 ⟨Nat.le_of_ble_eq_true rfl, Nat.le_of_ble_eq_true rfl⟩ (fun v u H locs hp hW => ?_)
  obtain ⟨rfl, rfl⟩ := hp
  refine W.eq (g2 := F0 m 5 ls [.int (bI (sd.testBit v))]) rfl ?_
  refine jb_if_eq (tgt := 19) S dX11_checkOpen_5 (by decide) (fun c_5 => ?_) (fun c_5 => ?_)
  · subst hQ
    refine vx_ret ?_
    exact j_vret (u := w) S hr hK hW dX11_checkOpen_19 ⟨by decide, by decide⟩ (⟨rfl, c_5, rfl⟩)
  · subst hQ
    obtain ⟨sa, hsa⟩ := hx.2.1 (332, "the variable has evidence") (by decide)
    exact jx_throwN (text := "the variable has evidence") (sa := sa) S htr jfit_242 (by decide +kernel) (by decide +kernel) jB13_0 jB13_1 jB13_2 jB13_5 wcl_X11_238 wini_java_util_NoSuchElementException vxg_242 vxn_242 vxh_242 (by decide) hsa hx hK hW hl.1 htab hr.2.1 ⟨by decide, by decide, by decide, by decide⟩ ⟨by decide, by decide⟩ dX11_checkOpen_8 dX11_checkOpen_11 (Or.inr ⟨dX11_checkOpen_12, rfl⟩) dX11_checkOpen_15 dX11_checkOpen_18 (⟨⟨rfl, by first | assumption | omega⟩, rfl⟩)
/-- checkKept -/
theorem c_X11_checkKept (l : Launch) (htr : l.stackTraces = false) (D : va_G) (cy : Nat → ClassId) {w : va_W} (ka kl kw ao al aw : Nat) (vs : Int32) (ad : Nat → Nat) (X : Nat → Bool) (hA1 : w[ka]? = some (ao, .inr (0, [.ref al, .int vs]))) (hA2 : w[kl]? = some (al, .inr (6, [.ref aw]))) (hA3 : w[kw]? = some (aw, .inl (cy 1, 16, .inr (.inl (wd X))))) : jMx jTexts l yX11_checkKept (jws yX11_checkKept cX11_checkKept 2 none) (jR 8 1 6) D cy w [.ref (ad 0), .ref ao] 1 6 (fun vv uu => vv = none ∧ vs ≠ -1 ∧ w = uu) (fun EE uu => ((EE = "java/util/NoSuchElementException" ∧ (vs = -1))) ∧ w = uu) := by
  refine jx_of (by decide) rfl (Nat.le_of_ble_eq_true rfl) ?_
  intro p e s m args below meth c A ls Q hQ S hr hK hA H locs hW hl htab hx
  have hl : lv_has ls 2 [(0, .ref (ad 0)), (1, .ref ao)] := hl
  refine lv_aload_n S.1 S.2.1 dX11_checkKept_0 rfl (lv_at hl 1 rfl) ?_
  refine j_callV (k := ka) (ci := 0) (q := (RX0, TX0, 2)) (As := []) (rest := []) S hK hA hW (c_X0_isMade l D cy ka kl kw ao al aw vs X hA1 hA2 hA3   ) (jgo wm_X11_334) yk_X0_isMade hA1 rfl rfl ⟨⟨rfl, rfl⟩, by decide, by decide⟩ rfl hl.1 rfl (Nat.le_of_ble_eq_true rfl) dX11_checkKept_1 ⟨Nat.le_of_ble_eq_true rfl, Nat.le_of_ble_eq_true rfl⟩ (fun v u H locs hp hW => ?_)
  obtain ⟨rfl, rfl⟩ := hp
  refine W.eq (g2 := F0 m 4 ls [.int (bI (decide ¬ vs = (-1)))]) rfl ?_
  refine jb_if_ne (tgt := 18) S dX11_checkKept_4 (by decide) (fun c_4 => ?_) (fun c_4 => ?_)
  · subst hQ
    refine vx_ret ?_
    exact j_vret (u := w) S hr hK hW dX11_checkKept_18 ⟨by decide, by decide⟩ (⟨rfl, of_decide_eq_true c_4, rfl⟩)
  · subst hQ
    obtain ⟨sa, hsa⟩ := hx.2.1 (338, "the slot keeps nothing") (by decide)
    exact jx_throwN (text := "the slot keeps nothing") (sa := sa) S htr jfit_242 (by decide +kernel) (by decide +kernel) jB13_0 jB13_1 jB13_2 jB13_5 wcl_X11_238 wini_java_util_NoSuchElementException vxg_242 vxn_242 vxh_242 (by decide) hsa hx hK hW hl.1 htab hr.2.1 ⟨by decide, by decide, by decide, by decide⟩ ⟨by decide, by decide⟩ dX11_checkKept_7 dX11_checkKept_10 (Or.inr ⟨dX11_checkKept_11, rfl⟩) dX11_checkKept_14 dX11_checkKept_17 (⟨⟨rfl, by simpa using c_4⟩, rfl⟩)
/-- checkAsManyAsNow -/
theorem c_X11_checkAsManyAsNow (l : Launch) (htr : l.stackTraces = false) (D : va_G) (cy : Nat → ClassId) {w : va_W} (ka kl kw ao al aw : Nat) (vs : Int32) (X : Nat → Bool) (ad : Nat → Nat) (n sd se : Nat) (fr : Bool) (hA1 : w[ka]? = some (ao, .inr (0, [.ref al, .int vs]))) (hA2 : w[kl]? = some (al, .inr (6, [.ref aw]))) (hA3 : w[kw]? = some (aw, .inl (cy 1, 16, .inr (.inl (wd X))))) (hO : w[0]? = some (ad 0, .inr (10, [.int (nI n), .ref (ad 1), .ref (ad 3), .ref (ad 5), .int (nI sd), .int (nI se), .ref (ad 7), .ref (ad 9), .ref (ad 11), .ref (ad 20), .int (bI fr), .ref (ad 23), .ref (ad 26), .ref (ad 31), .ref (ad 42)]))) : jMx jTexts l yX11_checkAsManyAsNow (jws yX11_checkAsManyAsNow cX11_checkAsManyAsNow 2 none) (jR 8 1 6) D cy w [.ref (ad 0), .ref ao] 1 6 (fun vv uu => vv = none ∧ vs = nI n ∧ w = uu) (fun EE uu => ((EE = "java/lang/UnsupportedOperationException" ∧ (vs ≠ nI n))) ∧ w = uu) := by
  refine jx_of (by decide) rfl (Nat.le_of_ble_eq_true rfl) ?_
  intro p e s m args below meth c A ls Q hQ S hr hK hA H locs hW hl htab hx
  have hl : lv_has ls 2 [(0, .ref (ad 0)), (1, .ref ao)] := hl
  refine lv_aload_n S.1 S.2.1 dX11_checkAsManyAsNow_0 rfl (lv_at hl 1 rfl) ?_
  refine j_callV (k := ka) (ci := 0) (q := (RX0, TX0, 2)) (As := []) (rest := []) S hK hA hW (c_X0_variables l D cy ka kl kw ao al aw vs X hA1 hA2 hA3   ) (jgo wm_X11_340) yk_X0_variables hA1 rfl rfl ⟨⟨rfl, rfl⟩, by decide, by decide⟩ rfl hl.1 rfl (Nat.le_of_ble_eq_true rfl) dX11_checkAsManyAsNow_1 ⟨Nat.le_of_ble_eq_true rfl, Nat.le_of_ble_eq_true rfl⟩ (fun v u H locs hp hW => ?_)
  obtain ⟨rfl, rfl⟩ := hp
  refine W.eq (g2 := F0 m 4 ls [.int vs]) rfl ?_
  refine lv_aload_n S.1 S.2.1 dX11_checkAsManyAsNow_4 rfl (lv_at hl 0 rfl) ?_
  refine j_get (ci := 10) (C := RX11) (T := TX11) (N := 15) (v := .int (nI n)) S (fun w h => List.mem_cons_of_mem _ (inG11 w h)) hK hW hO rfl 0 (by decide) (List.mem_cons_of_mem _ wfl_X11_77) (fun _ h9 => h9) rfl dX11_checkAsManyAsNow_5 ?_
  refine lv_icmp_eq (tgt := 22) S.1 S.2.1 dX11_checkAsManyAsNow_8 (by decide) (fun c_8 => ?_) (fun c_8 => ?_)
  · subst hQ
    refine vx_ret ?_
    exact j_vret (u := w) S hr hK hW dX11_checkAsManyAsNow_22 ⟨by decide, by decide⟩ (⟨rfl, c_8, rfl⟩)
  · subst hQ
    obtain ⟨sa, hsa⟩ := hx.2.1 (344, "not as many variables as there are now") (by decide)
    exact jx_throwW (text := "not as many variables as there are now") (names := jNm) (sa := sa) S htr jfit_346 jfit_n wcl_X11_342 wini_java_lang_UnsupportedOperationException vxg_346 vxn_346 vxh_346 (by decide) hsa hx hK hW hl.1 htab hr.2.1 ⟨by decide, by decide, by decide, by decide⟩ ⟨by decide, by decide⟩ dX11_checkAsManyAsNow_11 dX11_checkAsManyAsNow_14 dX11_checkAsManyAsNow_15 dX11_checkAsManyAsNow_18 dX11_checkAsManyAsNow_21 (⟨⟨rfl, by first | assumption | omega⟩, rfl⟩)
/-- checkAlike -/
theorem c_X11_checkAlike (l : Launch) (htr : l.stackTraces = false) (D : va_G) (cy : Nat → ClassId) {w : va_W} (ka kl kw ao al aw : Nat) (vs : Int32) (X : Nat → Bool) (kal kll kwl aol all awl : Nat) (vsl : Int32) (Xl : Nat → Bool) (ad : Nat → Nat) (n sd se : Nat) (fr : Bool) (hA1 : w[ka]? = some (ao, .inr (0, [.ref al, .int vs]))) (hA2 : w[kl]? = some (al, .inr (6, [.ref aw]))) (hA3 : w[kw]? = some (aw, .inl (cy 1, 16, .inr (.inl (wd X))))) (hA1l : w[kal]? = some (aol, .inr (0, [.ref all, .int vsl]))) (hA2l : w[kll]? = some (all, .inr (6, [.ref awl]))) (hA3l : w[kwl]? = some (awl, .inl (cy 1, 16, .inr (.inl (wd Xl))))) (hO : w[0]? = some (ad 0, .inr (10, [.int (nI n), .ref (ad 1), .ref (ad 3), .ref (ad 5), .int (nI sd), .int (nI se), .ref (ad 7), .ref (ad 9), .ref (ad 11), .ref (ad 20), .int (bI fr), .ref (ad 23), .ref (ad 26), .ref (ad 31), .ref (ad 42)]))) : jMx jTexts l yX11_checkAlike (jws yX11_checkAlike cX11_checkAlike 3 none) (jR 9 3 18) D cy w [.ref (ad 0), .ref ao, .ref aol] 3 18 (fun vv uu => vv = none ∧ vs ≠ -1 ∧ vsl ≠ -1 ∧ vs = vsl ∧ w = uu) (fun EE uu => ((EE = "java/util/NoSuchElementException" ∧ (vs = -1 ∨ vsl = -1)) ∨ (EE = "java/lang/UnsupportedOperationException" ∧ (vs ≠ -1 ∧ vsl ≠ -1 ∧ vs ≠ vsl))) ∧ w = uu) := by
  refine jx_of (by decide) rfl (Nat.le_of_ble_eq_true rfl) ?_
  intro p e s m args below meth c A ls Q hQ S hr hK hA H locs hW hl htab hx
  have hl : lv_has ls 3 [(0, .ref (ad 0)), (1, .ref ao), (2, .ref aol)] := hl
  refine lv_aload_n S.1 S.2.1 dX11_checkAlike_0 rfl (lv_at hl 0 rfl) ?_
  refine lv_aload_n S.1 S.2.1 dX11_checkAlike_1 rfl (lv_at hl 1 rfl) ?_
  refine jx_callq (k := 0) (ci := 10) (q := (RX11, TX11, 15)) (As := [.ref ao]) (rest := []) S hK hA hW hQ htab hr hx (c_X11_checkKept l htr D cy ka kl kw ao al aw vs ad X hA1 hA2 hA3   ) (jgo wm_X11_287) yk_X11_checkKept hO rfl rfl ⟨⟨rfl, rfl⟩, by decide, by decide⟩ rfl hl.1 rfl (Nat.le_of_ble_eq_true rfl) dX11_checkAlike_2 ⟨Nat.le_of_ble_eq_true rfl, Nat.le_of_ble_eq_true rfl⟩ ⟨by decide, by decide⟩ (fun E u h => by obtain ⟨⟨e1, h⟩, e⟩ := h; exact ⟨Or.inl ⟨e1, by first | exact h | exact Or.inl h | exact Or.inr h | exact Or.inr (Or.inl h) | exact Or.inr (Or.inr h) | omega | (simp at h ⊢; omega)⟩, e⟩) (fun v u H locs hp hW => ?_)
  obtain ⟨rfl, hp2_0, rfl⟩ := hp
  refine W.eq (g2 := F0 m 5 ls []) rfl ?_
  refine lv_aload_n S.1 S.2.1 dX11_checkAlike_5 rfl (lv_at hl 0 rfl) ?_
  refine lv_aload_n S.1 S.2.1 dX11_checkAlike_6 rfl (lv_at hl 2 rfl) ?_
  refine jx_callq (k := 0) (ci := 10) (q := (RX11, TX11, 15)) (As := [.ref aol]) (rest := []) S hK hA hW hQ htab hr hx (c_X11_checkKept l htr D cy kal kll kwl aol all awl vsl ad Xl hA1l hA2l hA3l   ) (jgo wm_X11_287) yk_X11_checkKept hO rfl rfl ⟨⟨rfl, rfl⟩, by decide, by decide⟩ rfl hl.1 rfl (Nat.le_of_ble_eq_true rfl) dX11_checkAlike_7 ⟨Nat.le_of_ble_eq_true rfl, Nat.le_of_ble_eq_true rfl⟩ ⟨by decide, by decide⟩ (fun E u h => by obtain ⟨⟨e1, h⟩, e⟩ := h; exact ⟨Or.inl ⟨e1, by first | exact h | exact Or.inl h | exact Or.inr h | exact Or.inr (Or.inl h) | exact Or.inr (Or.inr h) | omega | (simp at h ⊢; omega)⟩, e⟩) (fun v u H locs hp hW => ?_)
  obtain ⟨rfl, hp7_0, rfl⟩ := hp
  refine W.eq (g2 := F0 m 10 ls []) rfl ?_
  refine lv_aload_n S.1 S.2.1 dX11_checkAlike_10 rfl (lv_at hl 1 rfl) ?_
  refine j_callV (k := ka) (ci := 0) (q := (RX0, TX0, 2)) (As := []) (rest := []) S hK hA hW (c_X0_variables l D cy ka kl kw ao al aw vs X hA1 hA2 hA3   ) (jgo wm_X11_340) yk_X0_variables hA1 rfl rfl ⟨⟨rfl, rfl⟩, by decide, by decide⟩ rfl hl.1 rfl (Nat.le_of_ble_eq_true rfl) dX11_checkAlike_11 ⟨Nat.le_of_ble_eq_true rfl, Nat.le_of_ble_eq_true rfl⟩ (fun v u H locs hp hW => ?_)
  obtain ⟨rfl, rfl⟩ := hp
  refine W.eq (g2 := F0 m 14 ls [.int vs]) rfl ?_
  refine lv_aload_n S.1 S.2.1 dX11_checkAlike_14 rfl (lv_at hl 2 rfl) ?_
  refine j_callV (k := kal) (ci := 0) (q := (RX0, TX0, 2)) (As := []) (rest := [.int vs]) S hK hA hW (c_X0_variables l D cy kal kll kwl aol all awl vsl Xl hA1l hA2l hA3l   ) (jgo wm_X11_340) yk_X0_variables hA1l rfl rfl ⟨⟨rfl, rfl⟩, by decide, by decide⟩ rfl hl.1 rfl (Nat.le_of_ble_eq_true rfl) dX11_checkAlike_15 ⟨Nat.le_of_ble_eq_true rfl, Nat.le_of_ble_eq_true rfl⟩ (fun v u H locs hp hW => ?_)
  obtain ⟨rfl, rfl⟩ := hp
  refine W.eq (g2 := F0 m 18 ls [.int vsl, .int vs]) rfl ?_
  refine lv_icmp_eq (tgt := 32) S.1 S.2.1 dX11_checkAlike_18 (by decide) (fun c_18 => ?_) (fun c_18 => ?_)
  · subst hQ
    refine vx_ret ?_
    exact j_vret (u := w) S hr hK hW dX11_checkAlike_32 ⟨by decide, by decide⟩ (⟨rfl, hp2_0, hp7_0, c_18, rfl⟩)
  · subst hQ
    obtain ⟨sa, hsa⟩ := hx.2.1 (347, "unlike numbers of variables") (by decide)
    exact jx_throwW (text := "unlike numbers of variables") (names := jNm) (sa := sa) S htr jfit_346 jfit_n wcl_X11_342 wini_java_lang_UnsupportedOperationException vxg_346 vxn_346 vxh_346 (by decide) hsa hx hK hW hl.1 htab hr.2.1 ⟨by decide, by decide, by decide, by decide⟩ ⟨by decide, by decide⟩ dX11_checkAlike_21 dX11_checkAlike_24 dX11_checkAlike_25 dX11_checkAlike_28 dX11_checkAlike_31 (⟨Or.inr (⟨rfl, ⟨hp2_0, hp7_0, c_18⟩⟩), rfl⟩)
/-- constraintAt: a told one -/
theorem c_X11_constraintAtY (l : Launch) (D : va_G) (cy : Nat → ClassId) {w : va_W} (ad : Nat → Nat) (n sd se : Nat) (fr : Bool) (nc lv : Nat) (tf : Nat → Option Nat) (cp ca : Nat → Nat) (cs : Nat → CN) (j : Nat) (hO : w[0]? = some (ad 0, .inr (10, [.int (nI n), .ref (ad 1), .ref (ad 3), .ref (ad 5), .int (nI sd), .int (nI se), .ref (ad 7), .ref (ad 9), .ref (ad 11), .ref (ad 20), .int (bI fr), .ref (ad 23), .ref (ad 26), .ref (ad 31), .ref (ad 42)]))) (hC : w[9]? = some (ad 9, .inr (4, [.ref (ad 10), .int (nI nc), .int (nI lv)]))) (hT : w[10]? = some (ad 10, .inl (cy 5, 20, .inr (.inr (.inr (.inr tf)))))) (hcon : conOK w nc tf cp ca cs) (hj : j < nc) : jM l yX11_constraintAt (jws yX11_constraintAt cX11_constraintAt 3 (some (.object "Countfall$Constraint"))) (jR 8 0 0) D cy w [.ref (ad 0), .int (nI j)] 0 0 (fun vv uu => vv = some (.ref (ca j)) ∧ w = uu) := by
  have hm20 := hcon.1
  refine j_of (by decide) rfl (Nat.le_of_ble_eq_true rfl) ?_
  intro p e s m args below meth c A ls Q hQ S hr hK hA H locs hW hl
  have hl : lv_has ls 3 [(0, .ref (ad 0)), (1, .int (nI j))] := hl
  refine lv_aload_n S.1 S.2.1 dX11_constraintAt_0 rfl (lv_at hl 0 rfl) ?_
  refine j_get (ci := 10) (C := RX11) (T := TX11) (N := 15) (v := .ref (ad 9)) S (fun w h => List.mem_cons_of_mem _ (inG11 w h)) hK hW hO rfl 7 (by decide) (List.mem_cons_of_mem _ wfl_X11_34) (fun _ h9 => h9) rfl dX11_constraintAt_1 ?_
  refine lv_iload_n S.1 S.2.1 dX11_constraintAt_4 rfl (lv_at hl 1 rfl) ?_
  refine j_callV (k := 9) (ci := 4) (q := (RX5, TX5, 3)) (As := [.int (nI j)]) (rest := []) S hK hA hW (c_X5_atY l D cy ad nc lv tf cp ca cs j hC hT hcon  (by omega)) (jgo wm_X11_349) yk_X5_at hC rfl rfl ⟨⟨rfl, rfl⟩, by decide, by decide⟩ rfl hl.1 rfl (Nat.le_of_ble_eq_true rfl) dX11_constraintAt_5 ⟨Nat.le_of_ble_eq_true rfl, Nat.le_of_ble_eq_true rfl⟩ (fun v u H locs hp hW => ?_)
  obtain ⟨rfl, rfl⟩ := hp
  refine W.eq (g2 := F0 m 8 ls [.ref (ca j)]) rfl ?_
  refine lv_astore_n (lv' := [(2, .ref (ca j)), (0, .ref (ad 0)), (1, .int (nI j))]) S.1 S.2.1 dX11_constraintAt_8 rfl hl (by decide) rfl (fun ls hl => ?_)
  refine lv_aload_n S.1 S.2.1 dX11_constraintAt_9 rfl (lv_at hl 0 rfl) ?_
  refine lv_ifnonnull (tgt := 24) S.1 S.2.1 dX11_constraintAt_10 (by decide) ?_
  refine lv_aload_n S.1 S.2.1 dX11_constraintAt_24 rfl (lv_at hl 0 rfl) ?_
  subst hQ
  exact j_aret (u := w) S hr (Or.inr ⟨_, rfl⟩) hK hW dX11_constraintAt_25 ⟨by decide, by decide⟩ (⟨rfl, rfl⟩)
/-- constraintAt: none there -/
theorem c_X11_constraintAtN (l : Launch) (htr : l.stackTraces = false) (D : va_G) (cy : Nat → ClassId) {w : va_W} (ad : Nat → Nat) (n sd se : Nat) (fr : Bool) (nc lv : Nat) (tf : Nat → Option Nat) (cp ca : Nat → Nat) (cs : Nat → CN) (v : Int32) (hO : w[0]? = some (ad 0, .inr (10, [.int (nI n), .ref (ad 1), .ref (ad 3), .ref (ad 5), .int (nI sd), .int (nI se), .ref (ad 7), .ref (ad 9), .ref (ad 11), .ref (ad 20), .int (bI fr), .ref (ad 23), .ref (ad 26), .ref (ad 31), .ref (ad 42)]))) (hC : w[9]? = some (ad 9, .inr (4, [.ref (ad 10), .int (nI nc), .int (nI lv)]))) (hT : w[10]? = some (ad 10, .inl (cy 5, 20, .inr (.inr (.inr (.inr tf)))))) (hcon : conOK w nc tf cp ca cs) (hv : vB v nc = false) : jMx jTexts l yX11_constraintAt (jws yX11_constraintAt cX11_constraintAt 3 (some (.object "Countfall$Constraint"))) (jR 8 1 6) D cy w [.ref (ad 0), .int v] 1 6 (fun vv uu => vv = none ∧ False ∧ w = uu) (fun EE uu => ((EE = "java/lang/IndexOutOfBoundsException" ∧ (vB v nc = false))) ∧ w = uu) := by
  have hm20 := hcon.1
  refine jx_of (by decide) rfl (Nat.le_of_ble_eq_true rfl) ?_
  intro p e s m args below meth c A ls Q hQ S hr hK hA H locs hW hl htab hx
  have hl : lv_has ls 3 [(0, .ref (ad 0)), (1, .int v)] := hl
  refine lv_aload_n S.1 S.2.1 dX11_constraintAt_0 rfl (lv_at hl 0 rfl) ?_
  refine j_get (ci := 10) (C := RX11) (T := TX11) (N := 15) (v := .ref (ad 9)) S (fun w h => List.mem_cons_of_mem _ (inG11 w h)) hK hW hO rfl 7 (by decide) (List.mem_cons_of_mem _ wfl_X11_34) (fun _ h9 => h9) rfl dX11_constraintAt_1 ?_
  refine lv_iload_n S.1 S.2.1 dX11_constraintAt_4 rfl (lv_at hl 1 rfl) ?_
  refine j_callV (k := 9) (ci := 4) (q := (RX5, TX5, 3)) (As := [.int v]) (rest := []) S hK hA hW (c_X5_atN l D cy ad nc lv tf cp ca cs v hC hT hcon  (of_decide_eq_false hv)) (jgo wm_X11_349) yk_X5_at hC rfl rfl ⟨⟨rfl, rfl⟩, by decide, by decide⟩ rfl hl.1 rfl (Nat.le_of_ble_eq_true rfl) dX11_constraintAt_5 ⟨Nat.le_of_ble_eq_true rfl, Nat.le_of_ble_eq_true rfl⟩ (fun v u H locs hp hW => ?_)
  obtain ⟨rfl, rfl⟩ := hp
  refine W.eq (g2 := F0 m 8 ls [.null]) rfl ?_
  refine lv_astore_nN (lv' := [(2, .null), (0, .ref (ad 0)), (1, .int v)]) S.1 S.2.1 dX11_constraintAt_8 rfl hl (by decide) rfl (fun ls hl => ?_)
  refine lv_aload_nN S.1 S.2.1 dX11_constraintAt_9 rfl (lv_at hl 0 rfl) ?_
  refine lv_ifnonnullN S.1 S.2.1 dX11_constraintAt_10 ?_
  subst hQ
  obtain ⟨sa, hsa⟩ := hx.2.1 (351, "no such constraint") (by decide)
  exact jx_throwW (text := "no such constraint") (names := jNm) (sa := sa) S htr jfit_315 jfit_n wcl_X11_311 wini_java_lang_IndexOutOfBoundsException vxg_315 vxn_315 vxh_315 (by decide) hsa hx hK hW hl.1 htab hr.2.1 ⟨by decide, by decide, by decide, by decide⟩ ⟨by decide, by decide⟩ dX11_constraintAt_13 dX11_constraintAt_16 dX11_constraintAt_17 dX11_constraintAt_20 dX11_constraintAt_23 (⟨⟨rfl, by first | assumption | omega⟩, rfl⟩)
/-- slotAt: a slot -/
theorem c_X11_slotAtY (l : Launch) (D : va_G) (cy : Nat → ClassId) {w : va_W} (ad : Nat → Nat) (n sd se : Nat) (fr : Bool) (j : Nat) (hO : w[0]? = some (ad 0, .inr (10, [.int (nI n), .ref (ad 1), .ref (ad 3), .ref (ad 5), .int (nI sd), .int (nI se), .ref (ad 7), .ref (ad 9), .ref (ad 11), .ref (ad 20), .int (bI fr), .ref (ad 23), .ref (ad 26), .ref (ad 31), .ref (ad 42)]))) (hS : w[42]? = some (ad 42, .inl (cy 4, 4, .inr (.inr (.inr (.inr (slF ad))))))) (hj : j < 4) : jM l yX11_slotAt (jws yX11_slotAt cX11_slotAt 3 (some (.object "Countfall$Assignments"))) (jR 8 0 0) D cy w [.ref (ad 0), .int (nI j)] 0 0 (fun vv uu => vv = some (.ref (ad (43 + 3 * j))) ∧ w = uu) := by
  refine j_of (by decide) rfl (Nat.le_of_ble_eq_true rfl) ?_
  intro p e s m args below meth c A ls Q hQ S hr hK hA H locs hW hl
  have hl : lv_has ls 3 [(0, .ref (ad 0)), (1, .int (nI j))] := hl
  refine lv_iload_n S.1 S.2.1 dX11_slotAt_0 rfl (lv_at hl 1 rfl) ?_
  refine jn_if_lt (tgt := 22) S (by omega) dX11_slotAt_1 (by decide) ?_
  refine lv_iload_n S.1 S.2.1 dX11_slotAt_4 rfl (lv_at hl 1 rfl) ?_
  refine lv_aload_n S.1 S.2.1 dX11_slotAt_5 rfl (lv_at hl 0 rfl) ?_
  refine j_get (ci := 10) (C := RX11) (T := TX11) (N := 15) (v := .ref (ad 42)) S (fun w h => List.mem_cons_of_mem _ (inG11 w h)) hK hW hO rfl 14 (by decide) (List.mem_cons_of_mem _ wfl_X11_69) (fun _ h9 => h9) rfl dX11_slotAt_6 ?_
  refine j_alen (t0 := 4) S hK hW hS rfl dX11_slotAt_9 ?_
  refine jn_cmp_ge (tgt := 22) S (by omega) (by omega) dX11_slotAt_10 (by decide) (fun c_10 => ?_) (fun c_10 => ?_)
  · exact absurd c_10 (by omega)
  · refine lv_aload_n S.1 S.2.1 dX11_slotAt_13 rfl (lv_at hl 0 rfl) ?_
    refine j_get (ci := 10) (C := RX11) (T := TX11) (N := 15) (v := .ref (ad 42)) S (fun w h => List.mem_cons_of_mem _ (inG11 w h)) hK hW hO rfl 14 (by decide) (List.mem_cons_of_mem _ wfl_X11_69) (fun _ h9 => h9) rfl dX11_slotAt_14 ?_
    refine lv_iload_n S.1 S.2.1 dX11_slotAt_17 rfl (lv_at hl 1 rfl) ?_
    refine j_aald (t0 := 4) (x := .ref (ad (43 + 3 * j))) S hK hW hS rfl (vp_in_nI (by omega) (by omega)) (nI_clamp (by omega)) (by rw [slF_at hj]; rfl) dX11_slotAt_18 ?_
    refine lv_goto (tgt := 23) S.1 S.2.1 dX11_slotAt_19 (by decide) ?_
    refine lv_astore_n (lv' := [(2, .ref (ad (43 + 3 * j))), (0, .ref (ad 0)), (1, .int (nI j))]) S.1 S.2.1 dX11_slotAt_23 rfl hl (by decide) rfl (fun ls hl => ?_)
    refine lv_aload_n S.1 S.2.1 dX11_slotAt_24 rfl (lv_at hl 0 rfl) ?_
    refine lv_ifnonnull (tgt := 39) S.1 S.2.1 dX11_slotAt_25 (by decide) ?_
    refine lv_aload_n S.1 S.2.1 dX11_slotAt_39 rfl (lv_at hl 0 rfl) ?_
    subst hQ
    exact j_aret (u := w) S hr (Or.inr ⟨_, rfl⟩) hK hW dX11_slotAt_40 ⟨by decide, by decide⟩ (⟨rfl, rfl⟩)
/-- slotAt: none there -/
theorem c_X11_slotAtN (l : Launch) (htr : l.stackTraces = false) (D : va_G) (cy : Nat → ClassId) {w : va_W} (ad : Nat → Nat) (n sd se : Nat) (fr : Bool) (v : Int32) (hO : w[0]? = some (ad 0, .inr (10, [.int (nI n), .ref (ad 1), .ref (ad 3), .ref (ad 5), .int (nI sd), .int (nI se), .ref (ad 7), .ref (ad 9), .ref (ad 11), .ref (ad 20), .int (bI fr), .ref (ad 23), .ref (ad 26), .ref (ad 31), .ref (ad 42)]))) (hS : w[42]? = some (ad 42, .inl (cy 4, 4, .inr (.inr (.inr (.inr (slF ad))))))) (hv : vB v 4 = false) : jMx jTexts l yX11_slotAt (jws yX11_slotAt cX11_slotAt 3 (some (.object "Countfall$Assignments"))) (jR 8 1 6) D cy w [.ref (ad 0), .int v] 1 6 (fun vv uu => vv = none ∧ False ∧ w = uu) (fun EE uu => ((EE = "java/lang/IllegalArgumentException" ∧ (vB v 4 = false))) ∧ w = uu) := by
  refine jx_of (by decide) rfl (Nat.le_of_ble_eq_true rfl) ?_
  intro p e s m args below meth c A ls Q hQ S hr hK hA H locs hW hl htab hx
  have hl : lv_has ls 3 [(0, .ref (ad 0)), (1, .int v)] := hl
  refine lv_iload_n S.1 S.2.1 dX11_slotAt_0 rfl (lv_at hl 1 rfl) ?_
  refine lv_if_lt (tgt := 22) S.1 S.2.1 dX11_slotAt_1 (by decide) (fun c_1 => ?_) (fun c_1 => ?_)
  · refine lv_null S.1 S.2.1 dX11_slotAt_22 ?_
    refine lv_astore_nN (lv' := [(2, .null), (0, .ref (ad 0)), (1, .int v)]) S.1 S.2.1 dX11_slotAt_23 rfl hl (by decide) rfl (fun ls hl => ?_)
    refine lv_aload_nN S.1 S.2.1 dX11_slotAt_24 rfl (lv_at hl 0 rfl) ?_
    refine lv_ifnonnullN S.1 S.2.1 dX11_slotAt_25 ?_
    subst hQ
    obtain ⟨sa, hsa⟩ := hx.2.1 (353, "no such slot") (by decide)
    exact jx_throwW (text := "no such slot") (names := jNm) (sa := sa) S htr jfit_105 jfit_n wcl_X11_101 wini_java_lang_IllegalArgumentException vxg_105 vxn_105 vxh_105 (by decide) hsa hx hK hW hl.1 htab hr.2.1 ⟨by decide, by decide, by decide, by decide⟩ ⟨by decide, by decide⟩ dX11_slotAt_28 dX11_slotAt_31 dX11_slotAt_32 dX11_slotAt_35 dX11_slotAt_38 (⟨⟨rfl, by first | assumption | omega⟩, rfl⟩)
  · refine lv_iload_n S.1 S.2.1 dX11_slotAt_4 rfl (lv_at hl 1 rfl) ?_
    refine lv_aload_n S.1 S.2.1 dX11_slotAt_5 rfl (lv_at hl 0 rfl) ?_
    refine j_get (ci := 10) (C := RX11) (T := TX11) (N := 15) (v := .ref (ad 42)) S (fun w h => List.mem_cons_of_mem _ (inG11 w h)) hK hW hO rfl 14 (by decide) (List.mem_cons_of_mem _ wfl_X11_69) (fun _ h9 => h9) rfl dX11_slotAt_6 ?_
    refine j_alen (t0 := 4) S hK hW hS rfl dX11_slotAt_9 ?_
    refine lv_icmp_ge (tgt := 22) S.1 S.2.1 dX11_slotAt_10 (by decide) (fun c_10 => ?_) (fun c_10 => ?_)
    · refine lv_null S.1 S.2.1 dX11_slotAt_22 ?_
      refine lv_astore_nN (lv' := [(2, .null), (0, .ref (ad 0)), (1, .int v)]) S.1 S.2.1 dX11_slotAt_23 rfl hl (by decide) rfl (fun ls hl => ?_)
      refine lv_aload_nN S.1 S.2.1 dX11_slotAt_24 rfl (lv_at hl 0 rfl) ?_
      refine lv_ifnonnullN S.1 S.2.1 dX11_slotAt_25 ?_
      subst hQ
      obtain ⟨sa, hsa⟩ := hx.2.1 (353, "no such slot") (by decide)
      exact jx_throwW (text := "no such slot") (names := jNm) (sa := sa) S htr jfit_105 jfit_n wcl_X11_101 wini_java_lang_IllegalArgumentException vxg_105 vxn_105 vxh_105 (by decide) hsa hx hK hW hl.1 htab hr.2.1 ⟨by decide, by decide, by decide, by decide⟩ ⟨by decide, by decide⟩ dX11_slotAt_28 dX11_slotAt_31 dX11_slotAt_32 dX11_slotAt_35 dX11_slotAt_38 (⟨⟨rfl, by first | assumption | omega⟩, rfl⟩)
    · exact absurd (vB_in (N := 4) c_1 (Classical.not_not.mp (fun q => c_10 (i32_le.mpr q))) (by decide)) (by rw [hv]; decide)
