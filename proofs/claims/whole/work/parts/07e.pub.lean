/-! COUNTFALL: its first public methods (laid by wip/whole/tools, from the specs there) -/
/-! COUNTFALL, numbers of its first answers -/
/-- the weights' product over parts, and what is counted so far -/
def mprN (nc : Nat) (cs : Nat → CN) (lv se op : Nat) : Nat → Nat × Nat
  | 0 => (1, 0)
  | k + 1 => if (nAnd op (mprN nc cs lv se op k).2).testBit k then ((mprN nc cs lv se op k).1 * cntP nc cs lv se (itP nc cs lv op k 10), (mprN nc cs lv se op k).2 ||| itP nc cs lv op k 10) else mprN nc cs lv se op k
/-- the number of parts, and what is passed so far -/
def prtN (nc : Nat) (cs : Nat → CN) (lv op : Nat) : Nat → Nat × Nat
  | 0 => (0, 0)
  | k + 1 => if (nAnd op (prtN nc cs lv op k).2).testBit k then ((prtN nc cs lv op k).1 + 1, (prtN nc cs lv op k).2 ||| itP nc cs lv op k 10) else prtN nc cs lv op k
theorem mprN_t {nc lv se op k : Nat} {cs : Nat → CN} (h : (nAnd op (mprN nc cs lv se op k).2).testBit k = true) : mprN nc cs lv se op (k + 1) = ((mprN nc cs lv se op k).1 * cntP nc cs lv se (itP nc cs lv op k 10), (mprN nc cs lv se op k).2 ||| itP nc cs lv op k 10) := if_pos h
theorem mprN_f {nc lv se op k : Nat} {cs : Nat → CN} (h : (nAnd op (mprN nc cs lv se op k).2).testBit k = false) : mprN nc cs lv se op (k + 1) = mprN nc cs lv se op k := if_neg (by rw [h]; decide)
theorem prtN_t {nc lv op k : Nat} {cs : Nat → CN} (h : (nAnd op (prtN nc cs lv op k).2).testBit k = true) : prtN nc cs lv op (k + 1) = ((prtN nc cs lv op k).1 + 1, (prtN nc cs lv op k).2 ||| itP nc cs lv op k 10) := if_pos h
theorem prtN_f {nc lv op k : Nat} {cs : Nat → CN} (h : (nAnd op (prtN nc cs lv op k).2).testBit k = false) : prtN nc cs lv op (k + 1) = prtN nc cs lv op k := if_neg (by rw [h]; decide)
theorem and_pow_t {x v : Nat} (h : x &&& 2 ^ v ≠ 0) : x.testBit v = true := by cases z : x.testBit v; exact absurd ((and_pow0 x v).mpr z) h; rfl
def anyB (g : Nat → Bool) : Nat → Bool
  | 0 => false
  | n + 1 => anyB g n || g n
theorem vB_gt {v : Int32} {N : Nat} (h : nI N < v) (hN : N + 1 < 2 ^ 31) : vB v (N + 1) = false := vB_f (fun q => by
  have := Int32.lt_iff_toInt_lt.mp h
  rw [nI_toInt (by omega)] at this; omega)
theorem vB_le {v : Int32} {N : Nat} (h1 : ¬ v < 0) (h2 : ¬ nI N < v) (hN : N + 1 < 2 ^ 31) : vB v (N + 1) = true := decide_eq_true (by
  have a := mt Int32.lt_iff_toInt_lt.mpr h1
  have b := mt Int32.lt_iff_toInt_lt.mpr h2
  have h0 : (0 : Int32).toInt = 0 := rfl
  rw [nI_toInt (by omega)] at b; omega)
/-- a least and a greatest number of a bound -/
def bdB (lo hi : Int32) : Bool := decide (0 ≤ lo.toInt ∧ lo.toInt ≤ hi.toInt ∧ hi.toInt ≤ 10)
theorem bdB_t {lo hi : Int32} (h : bdB lo hi = true) : ∃ a b, a ≤ b ∧ b ≤ 10 ∧ lo = nI a ∧ hi = nI b := by
  have h := of_decide_eq_true h
  exact ⟨lo.toInt.toNat, hi.toInt.toNat, by omega, by omega, by apply Int32.toInt_inj.mp; rw [nI_toInt (by omega)]; omega, by apply Int32.toInt_inj.mp; rw [nI_toInt (by omega)]; omega⟩
theorem bdB_1 {lo hi : Int32} (h : lo < 0) : bdB lo hi = false := decide_eq_false (fun q => by
  have := Int32.lt_iff_toInt_lt.mp h
  have h0 : (0 : Int32).toInt = 0 := rfl
  omega)
theorem bdB_2 {lo hi : Int32} (h : nI 10 < hi) : bdB lo hi = false := decide_eq_false (fun q => by
  have := Int32.lt_iff_toInt_lt.mp h
  rw [nI_toInt (by decide)] at this; omega)
theorem bdB_3 {lo hi : Int32} (h : ¬ lo ≤ hi) : bdB lo hi = false := decide_eq_false (fun q => h (Int32.le_iff_toInt_le.mpr q.2.1))
theorem bdB_ok {lo hi : Int32} (h1 : ¬ lo < 0) (h2 : ¬ nI 10 < hi) (h3 : lo ≤ hi) : bdB lo hi = true := decide_eq_true (by
  have a := mt Int32.lt_iff_toInt_lt.mpr h1
  have b := mt Int32.lt_iff_toInt_lt.mpr h2
  have c := Int32.le_iff_toInt_le.mp h3
  have h0 : (0 : Int32).toInt = 0 := rfl
  rw [nI_toInt (by decide)] at b; omega)
/-- addVariable -/
theorem c_X11_addVariable (l : Launch) (htr : l.stackTraces = false) (D : va_G) (cy : Nat → ClassId) {w : va_W} (ad : Nat → Nat) (n sd se : Nat) (fr : Bool) (wf wt pr od : Nat → Nat) (hO : w[0]? = some (ad 0, .inr (10, [.int (nI n), .ref (ad 1), .ref (ad 3), .ref (ad 5), .int (nI sd), .int (nI se), .ref (ad 7), .ref (ad 9), .ref (ad 11), .ref (ad 20), .int (bI fr), .ref (ad 23), .ref (ad 26), .ref (ad 31), .ref (ad 42)]))) (hFo : w[1]? = some (ad 1, .inr (5, [.ref (ad 2)]))) (hFa : w[2]? = some (ad 2, .inl (cy 0, 10, .inl (nf wf)))) (hGo : w[3]? = some (ad 3, .inr (5, [.ref (ad 4)]))) (hGa : w[4]? = some (ad 4, .inl (cy 0, 10, .inl (nf wt)))) (hDo : w[5]? = some (ad 5, .inr (6, [.ref (ad 6)]))) (hDa : w[6]? = some (ad 6, .inl (cy 1, 1024, .inr (.inl (lf pr))))) (hOo : w[7]? = some (ad 7, .inr (5, [.ref (ad 8)]))) (hOa : w[8]? = some (ad 8, .inl (cy 0, 10, .inl (nf od)))) (hn : n ≤ 10) (hwf : ∀ j, wf j ≤ 9) (hwt : ∀ j, wt j ≤ 9) : jMx jTexts l yX11_addVariable (jws yX11_addVariable cX11_addVariable 2 (some .int)) (jR 8 1 6) D cy w [.ref (ad 0)] 1 6 (fun vv uu => vv = some (.int (nI n)) ∧ n < 10 ∧ jU w uu [0, 2, 4, 6, 8] ∧ uu[0]? = some (ad 0, .inr (10, [.int (nI (n + 1)), .ref (ad 1), .ref (ad 3), .ref (ad 5), .int (nI sd), .int (nI se), .ref (ad 7), .ref (ad 9), .ref (ad 11), .ref (ad 20), .int (bI false), .ref (ad 23), .ref (ad 26), .ref (ad 31), .ref (ad 42)])) ∧ uu[2]? = some (ad 2, .inl (cy 0, 10, .inl (nf (upB wf n 1)))) ∧ uu[4]? = some (ad 4, .inl (cy 0, 10, .inl (nf (upB wt n 1)))) ∧ uu[6]? = some (ad 6, .inl (cy 1, 1024, .inr (.inl (lf (mixN (2 ^ (n + 1)) (fun d => prodN (upB wf n 1) (upB wt n 1) d (n + 1)) pr))))) ∧ uu[8]? = some (ad 8, .inl (cy 0, 10, .inl (nf (upB od n n))))) (fun EE uu => ((EE = "java/lang/IllegalStateException" ∧ (n = 10))) ∧ w = uu) := by
  refine jx_of (by decide) rfl (Nat.le_of_ble_eq_true rfl) ?_
  intro p e s m args below meth c A ls Q hQ S hr hK hA H locs hW hl htab hx
  have hl : lv_has ls 2 [(0, .ref (ad 0))] := hl
  refine lv_aload_n S.1 S.2.1 dX11_addVariable_0 rfl (lv_at hl 0 rfl) ?_
  refine j_get (ci := 10) (C := RX11) (T := TX11) (N := 15) (v := .int (nI n)) S (fun w h => List.mem_cons_of_mem _ (inG11 w h)) hK hW hO rfl 0 (by decide) (List.mem_cons_of_mem _ wfl_X11_77) (fun _ h9 => h9) rfl dX11_addVariable_1 ?_
  refine lv_bipush (v := nI 10) S.1 S.2.1 dX11_addVariable_4 (by decide) ?_
  refine jn_cmp_lt (tgt := 19) S (by omega) (by omega) dX11_addVariable_6 (by decide) (fun c_6 => ?_) (fun c_6 => ?_)
  · refine lv_aload_n S.1 S.2.1 dX11_addVariable_19 rfl (lv_at hl 0 rfl) ?_
    refine j_get (ci := 10) (C := RX11) (T := TX11) (N := 15) (v := .int (nI n)) S (fun w h => List.mem_cons_of_mem _ (inG11 w h)) hK hW hO rfl 0 (by decide) (List.mem_cons_of_mem _ wfl_X11_77) (fun _ h9 => h9) rfl dX11_addVariable_20 ?_
    refine lv_istore_n (lv' := [(1, .int (nI n)), (0, .ref (ad 0))]) S.1 S.2.1 dX11_addVariable_23 rfl hl (by decide) rfl (fun ls hl => ?_)
    refine lv_aload_n S.1 S.2.1 dX11_addVariable_24 rfl (lv_at hl 1 rfl) ?_
    refine lv_dup S.1 S.2.1 dX11_addVariable_25 rfl ?_
    refine j_get (ci := 10) (C := RX11) (T := TX11) (N := 15) (v := .int (nI n)) S (fun w h => List.mem_cons_of_mem _ (inG11 w h)) hK hW hO rfl 0 (by decide) (List.mem_cons_of_mem _ wfl_X11_77) (fun _ h9 => h9) rfl dX11_addVariable_26 ?_
    refine lv_iconst (v := nI 1) S.1 S.2.1 dX11_addVariable_29 (by decide) ?_
    refine jn_add S dX11_addVariable_30 ?_
    refine j_put (ci := 10) (C := RX11) (T := TX11) (N := 15) (ty := .int) S (fun w h => List.mem_cons_of_mem _ (inG11 w h)) tyX11 tyX11_ok nmX11 hK hW hO rfl 0 (by decide) (List.mem_cons_of_mem _ wfl_X11_77) (fun _ h9 => h9) rfl (by decide +kernel) (rfl) (rfl) (Nat.le_of_ble_eq_true rfl) dX11_addVariable_31 (fun H locs w_ hU1 hN1 hW => ?_)
    have hU : jU w w_ [0, 2, 4, 6, 8] := jU.mono hU1 (by decide)
    have hFa_ := hU1.get hFa (by decide)
    have hGa_ := hU1.get hGa (by decide)
    have hDa_ := hU1.get hDa (by decide)
    have hOa_ := hU1.get hOa (by decide)
    have hO_ : w_[0]? = some (ad 0, .inr (10, [.int (nI (n + 1)), .ref (ad 1), .ref (ad 3), .ref (ad 5), .int (nI sd), .int (nI se), .ref (ad 7), .ref (ad 9), .ref (ad 11), .ref (ad 20), .int (bI fr), .ref (ad 23), .ref (ad 26), .ref (ad 31), .ref (ad 42)])) := hN1
    clear hU1 hN1
    refine lv_aload_n S.1 S.2.1 dX11_addVariable_34 rfl (lv_at hl 1 rfl) ?_
    refine j_get (ci := 10) (C := RX11) (T := TX11) (N := 15) (v := .ref (ad 1)) S (fun w h => List.mem_cons_of_mem _ (inG11 w h)) hK hW hO_ rfl 1 (by decide) (List.mem_cons_of_mem _ wfl_X11_14) (fun _ h9 => h9) rfl dX11_addVariable_35 ?_
    refine lv_iload_n S.1 S.2.1 dX11_addVariable_38 rfl (lv_at hl 0 rfl) ?_
    refine lv_iconst (v := nI 1) S.1 S.2.1 dX11_addVariable_39 (by decide) ?_
    refine j_callV (k := 1) (ci := 5) (q := (RX6, TX6, 1)) (As := [.int (nI n), .int (nI 1)]) (rest := []) S hK hA hW (c_X6_putN l D cy 1 2 (ad 1) (ad 2) 10 n wf 1 (hU.get hFo (by decide)) hFa_   (by omega) (by decide)) (jgo wm_X11_88) yk_X6_put (hU.get hFo (by decide)) rfl rfl ⟨⟨rfl, rfl⟩, by decide, by decide⟩ rfl hl.1 rfl (Nat.le_of_ble_eq_true rfl) dX11_addVariable_40 ⟨Nat.le_of_ble_eq_true rfl, Nat.le_of_ble_eq_true rfl⟩ (fun v w_ H locs hp hW => ?_)
    obtain ⟨rfl, hU1, hN1⟩ := hp
    have hU := hU.then hU1 (by decide)
    have hGa_ := hU1.get hGa_ (by decide)
    have hDa_ := hU1.get hDa_ (by decide)
    have hOa_ := hU1.get hOa_ (by decide)
    have hO_ := hU1.get hO_ (by decide)
    have hFa_ : w_[2]? = some (ad 2, .inl (cy 0, 10, .inl (nf (upB wf n 1)))) := hN1
    clear hU1 hN1
    refine W.eq (g2 := F0 m 43 ls []) rfl ?_
    refine lv_aload_n S.1 S.2.1 dX11_addVariable_43 rfl (lv_at hl 1 rfl) ?_
    refine j_get (ci := 10) (C := RX11) (T := TX11) (N := 15) (v := .ref (ad 3)) S (fun w h => List.mem_cons_of_mem _ (inG11 w h)) hK hW hO_ rfl 2 (by decide) (List.mem_cons_of_mem _ wfl_X11_18) (fun _ h9 => h9) rfl dX11_addVariable_44 ?_
    refine lv_iload_n S.1 S.2.1 dX11_addVariable_47 rfl (lv_at hl 0 rfl) ?_
    refine lv_iconst (v := nI 1) S.1 S.2.1 dX11_addVariable_48 (by decide) ?_
    refine j_callV (k := 3) (ci := 5) (q := (RX6, TX6, 1)) (As := [.int (nI n), .int (nI 1)]) (rest := []) S hK hA hW (c_X6_putN l D cy 3 4 (ad 3) (ad 4) 10 n wt 1 (hU.get hGo (by decide)) hGa_   (by omega) (by decide)) (jgo wm_X11_88) yk_X6_put (hU.get hGo (by decide)) rfl rfl ⟨⟨rfl, rfl⟩, by decide, by decide⟩ rfl hl.1 rfl (Nat.le_of_ble_eq_true rfl) dX11_addVariable_49 ⟨Nat.le_of_ble_eq_true rfl, Nat.le_of_ble_eq_true rfl⟩ (fun v w_ H locs hp hW => ?_)
    obtain ⟨rfl, hU1, hN1⟩ := hp
    have hU := hU.then hU1 (by decide)
    have hFa_ := hU1.get hFa_ (by decide)
    have hDa_ := hU1.get hDa_ (by decide)
    have hOa_ := hU1.get hOa_ (by decide)
    have hO_ := hU1.get hO_ (by decide)
    have hGa_ : w_[4]? = some (ad 4, .inl (cy 0, 10, .inl (nf (upB wt n 1)))) := hN1
    clear hU1 hN1
    refine W.eq (g2 := F0 m 52 ls []) rfl ?_
    refine lv_aload_n S.1 S.2.1 dX11_addVariable_52 rfl (lv_at hl 1 rfl) ?_
    refine j_get (ci := 10) (C := RX11) (T := TX11) (N := 15) (v := .ref (ad 7)) S (fun w h => List.mem_cons_of_mem _ (inG11 w h)) hK hW hO_ rfl 6 (by decide) (List.mem_cons_of_mem _ wfl_X11_28) (fun _ h9 => h9) rfl dX11_addVariable_53 ?_
    refine lv_iload_n S.1 S.2.1 dX11_addVariable_56 rfl (lv_at hl 0 rfl) ?_
    refine lv_iload_n S.1 S.2.1 dX11_addVariable_57 rfl (lv_at hl 0 rfl) ?_
    refine j_callV (k := 7) (ci := 5) (q := (RX6, TX6, 1)) (As := [.int (nI n), .int (nI n)]) (rest := []) S hK hA hW (c_X6_putN l D cy 7 8 (ad 7) (ad 8) 10 n od n (hU.get hOo (by decide)) hOa_   (by omega) (by decide)) (jgo wm_X11_88) yk_X6_put (hU.get hOo (by decide)) rfl rfl ⟨⟨rfl, rfl⟩, by decide, by decide⟩ rfl hl.1 rfl (Nat.le_of_ble_eq_true rfl) dX11_addVariable_58 ⟨Nat.le_of_ble_eq_true rfl, Nat.le_of_ble_eq_true rfl⟩ (fun v w_ H locs hp hW => ?_)
    obtain ⟨rfl, hU1, hN1⟩ := hp
    have hU := hU.then hU1 (by decide)
    have hFa_ := hU1.get hFa_ (by decide)
    have hGa_ := hU1.get hGa_ (by decide)
    have hDa_ := hU1.get hDa_ (by decide)
    have hO_ := hU1.get hO_ (by decide)
    have hOa_ : w_[8]? = some (ad 8, .inl (cy 0, 10, .inl (nf (upB od n n)))) := hN1
    clear hU1 hN1
    refine W.eq (g2 := F0 m 61 ls []) rfl ?_
    refine lv_aload_n S.1 S.2.1 dX11_addVariable_61 rfl (lv_at hl 1 rfl) ?_
    refine j_callV (k := 0) (ci := 10) (q := (RX11, TX11, 15)) (As := []) (rest := []) S hK hA hW (c_X11_multiplyWeights l D cy ad (n + 1) sd se fr (upB wf n 1) (upB wt n 1) pr hO_ (hU.get hFo (by decide)) hFa_ (hU.get hGo (by decide)) hGa_ (hU.get hDo (by decide)) hDa_   (by omega) (fun j => by unfold upB; split <;> first | omega | exact hwf j) (fun j => by unfold upB; split <;> first | omega | exact hwt j)) (jgo wm_X11_91) yk_X11_multiplyWeights hO_ rfl rfl ⟨⟨rfl, rfl⟩, by decide, by decide⟩ rfl hl.1 rfl (Nat.le_of_ble_eq_true rfl) dX11_addVariable_62 ⟨Nat.le_of_ble_eq_true rfl, Nat.le_of_ble_eq_true rfl⟩ (fun v w_ H locs hp hW => ?_)
    obtain ⟨rfl, hU1, hN1⟩ := hp
    have hU := hU.then hU1 (by decide)
    have hFa_ := hU1.get hFa_ (by decide)
    have hGa_ := hU1.get hGa_ (by decide)
    have hOa_ := hU1.get hOa_ (by decide)
    have hO_ := hU1.get hO_ (by decide)
    have hDa_ : w_[6]? = some (ad 6, .inl (cy 1, 1024, .inr (.inl (lf (mixN (2 ^ (n + 1)) (fun d => prodN (upB wf n 1) (upB wt n 1) d (n + 1)) pr))))) := hN1
    clear hU1 hN1
    refine W.eq (g2 := F0 m 65 ls []) rfl ?_
    refine lv_aload_n S.1 S.2.1 dX11_addVariable_65 rfl (lv_at hl 1 rfl) ?_
    refine lv_iconst (v := nI 0) S.1 S.2.1 dX11_addVariable_66 (by decide) ?_
    refine j_put (ci := 10) (C := RX11) (T := TX11) (N := 15) (ty := .boolean) S (fun w h => List.mem_cons_of_mem _ (inG11 w h)) tyX11 tyX11_ok nmX11 hK hW hO_ rfl 10 (by decide) (List.mem_cons_of_mem _ wfl_X11_94) (fun _ h9 => h9) rfl (by decide +kernel) (rfl) (rfl) (Nat.le_of_ble_eq_true rfl) dX11_addVariable_67 (fun H locs w_ hU1 hN1 hW => ?_)
    have hU := hU.then hU1 (by decide)
    have hFa_ := hU1.get hFa_ (by decide)
    have hGa_ := hU1.get hGa_ (by decide)
    have hDa_ := hU1.get hDa_ (by decide)
    have hOa_ := hU1.get hOa_ (by decide)
    have hO_ : w_[0]? = some (ad 0, .inr (10, [.int (nI (n + 1)), .ref (ad 1), .ref (ad 3), .ref (ad 5), .int (nI sd), .int (nI se), .ref (ad 7), .ref (ad 9), .ref (ad 11), .ref (ad 20), .int (nI 0), .ref (ad 23), .ref (ad 26), .ref (ad 31), .ref (ad 42)])) := hN1
    clear hU1 hN1
    refine lv_iload_n S.1 S.2.1 dX11_addVariable_70 rfl (lv_at hl 0 rfl) ?_
    subst hQ
    refine vx_ret ?_
    exact j_iret (u := w_) S hr (rfl) hK hW dX11_addVariable_71 ⟨by decide, by decide⟩ (⟨rfl, c_6, hU, hO_, hFa_, hGa_, hDa_, hOa_⟩)
  · subst hQ
    obtain ⟨sa, hsa⟩ := hx.2.1 (83, "there are 10 variables") (by decide)
    exact jx_throw (text := "there are 10 variables") (names := jNm) (sa := sa) S htr jfit_85 jfit_n wcl_X11_81 wini_java_lang_IllegalStateException vxg_85 vxn_85 vxh_85 (by decide) hsa hx hK hW hl.1 htab hr.2.1 ⟨by decide, by decide, by decide, by decide⟩ ⟨by decide, by decide⟩ dX11_addVariable_9 dX11_addVariable_12 dX11_addVariable_13 dX11_addVariable_15 dX11_addVariable_18 (⟨⟨rfl, by first | assumption | omega⟩, rfl⟩)
/-- setWeights -/
theorem c_X11_setWeights (l : Launch) (htr : l.stackTraces = false) (D : va_G) (cy : Nat → ClassId) {w : va_W} (ad : Nat → Nat) (n sd se : Nat) (fr : Bool) (wf wt pr : Nat → Nat) (v no ye : Int32) (hO : w[0]? = some (ad 0, .inr (10, [.int (nI n), .ref (ad 1), .ref (ad 3), .ref (ad 5), .int (nI sd), .int (nI se), .ref (ad 7), .ref (ad 9), .ref (ad 11), .ref (ad 20), .int (bI fr), .ref (ad 23), .ref (ad 26), .ref (ad 31), .ref (ad 42)]))) (hFo : w[1]? = some (ad 1, .inr (5, [.ref (ad 2)]))) (hFa : w[2]? = some (ad 2, .inl (cy 0, 10, .inl (nf wf)))) (hGo : w[3]? = some (ad 3, .inr (5, [.ref (ad 4)]))) (hGa : w[4]? = some (ad 4, .inl (cy 0, 10, .inl (nf wt)))) (hDo : w[5]? = some (ad 5, .inr (6, [.ref (ad 6)]))) (hDa : w[6]? = some (ad 6, .inl (cy 1, 1024, .inr (.inl (lf pr))))) (hn : n ≤ 10) (hwf : ∀ j, wf j ≤ 9) (hwt : ∀ j, wt j ≤ 9) : jMx jTexts l yX11_setWeights (jws yX11_setWeights cX11_setWeights 5 (some .int)) (jR 9 2 12) D cy w [.ref (ad 0), .int v, .int no, .int ye] 2 12 (fun vv uu => ∃ (x : Nat), ∃ (a : Nat), ∃ (b : Nat), vv = some (.int (nI (10 * wf x + wt x))) ∧ x < n ∧ v = nI x ∧ a < 10 ∧ no = nI a ∧ b < 10 ∧ ye = nI b ∧ jU w uu [2, 4, 6] ∧ uu[2]? = some (ad 2, .inl (cy 0, 10, .inl (nf (upB wf x a)))) ∧ uu[4]? = some (ad 4, .inl (cy 0, 10, .inl (nf (upB wt x b)))) ∧ uu[6]? = some (ad 6, .inl (cy 1, 1024, .inr (.inl (lf (mixN (2 ^ n) (fun d => prodN (upB wf x a) (upB wt x b) d n) pr)))))) (fun EE uu => ((EE = "java/lang/IndexOutOfBoundsException" ∧ (vB v n = false)) ∨ (EE = "java/lang/IllegalArgumentException" ∧ ((∃ x, x < n ∧ v = nI x) ∧ (vB no 10 = false ∨ vB ye 10 = false)))) ∧ w = uu) := by
  refine jx_of (by decide) rfl (Nat.le_of_ble_eq_true rfl) ?_
  intro p e s m args below meth c A ls Q hQ S hr hK hA H locs hW hl htab hx
  have hl : lv_has ls 5 [(0, .ref (ad 0)), (1, .int v), (2, .int no), (3, .int ye)] := hl
  refine lv_aload_n S.1 S.2.1 dX11_setWeights_0 rfl (lv_at hl 0 rfl) ?_
  refine lv_iload_n S.1 S.2.1 dX11_setWeights_1 rfl (lv_at hl 1 rfl) ?_
  refine jx_callq (k := 0) (ci := 10) (q := (RX11, TX11, 15)) (As := [.int v]) (rest := []) S hK hA hW hQ htab hr hx (c_X11_checkVariable l htr D cy ad n sd se fr v hO   (by omega)) (jgo wm_X11_98) yk_X11_checkVariable hO rfl rfl ⟨⟨rfl, rfl⟩, by decide, by decide⟩ rfl hl.1 rfl (Nat.le_of_ble_eq_true rfl) dX11_setWeights_2 ⟨Nat.le_of_ble_eq_true rfl, Nat.le_of_ble_eq_true rfl⟩ ⟨by decide, by decide⟩ (fun E u h => by obtain ⟨⟨e1, h⟩, e⟩ := h; exact ⟨Or.inl ⟨e1, by first | exact h | exact Or.inl h | exact Or.inr h | exact Or.inr (Or.inl h) | exact Or.inr (Or.inr h) | omega | (simp at h ⊢; omega)⟩, e⟩) (fun v u H locs hp hW => ?_)
  obtain ⟨xN_2, rfl, hp2_0, hp2_1, rfl⟩ := hp
  refine W.eq (g2 := F0 m 5 ls []) rfl ?_
  subst hp2_1
  refine lv_iload_n S.1 S.2.1 dX11_setWeights_5 rfl (lv_at hl 2 rfl) ?_
  refine lv_if_lt (tgt := 25) S.1 S.2.1 dX11_setWeights_6 (by decide) (fun c_6 => ?_) (fun c_6 => ?_)
  · subst hQ
    obtain ⟨sa, hsa⟩ := hx.2.1 (103, "a weight is not from 0 to 9") (by decide)
    exact jx_throw (text := "a weight is not from 0 to 9") (names := jNm) (sa := sa) S htr jfit_105 jfit_n wcl_X11_101 wini_java_lang_IllegalArgumentException vxg_105 vxn_105 vxh_105 (by decide) hsa hx hK hW hl.1 htab hr.2.1 ⟨by decide, by decide, by decide, by decide⟩ ⟨by decide, by decide⟩ dX11_setWeights_25 dX11_setWeights_28 dX11_setWeights_29 dX11_setWeights_31 dX11_setWeights_34 (⟨Or.inr (⟨rfl, ⟨⟨xN_2, hp2_0, rfl⟩, by first | exact Or.inl (vB_neg c_6) | exact Or.inl (vB_gt (N := 9) c_12 (by decide)) | exact Or.inr (vB_neg c_16) | exact Or.inr (vB_gt (N := 9) (by first | exact c_22 | exact Classical.not_not.mp (fun q => c_22 (i32_le.mpr q))) (by decide))⟩⟩), rfl⟩)
  · refine lv_iload_n S.1 S.2.1 dX11_setWeights_9 rfl (lv_at hl 2 rfl) ?_
    refine lv_bipush (v := nI 9) S.1 S.2.1 dX11_setWeights_10 (by decide) ?_
    refine lv_icmp_gt (tgt := 25) S.1 S.2.1 dX11_setWeights_12 (by decide) (fun c_12 => ?_) (fun c_12 => ?_)
    · subst hQ
      obtain ⟨sa, hsa⟩ := hx.2.1 (103, "a weight is not from 0 to 9") (by decide)
      exact jx_throw (text := "a weight is not from 0 to 9") (names := jNm) (sa := sa) S htr jfit_105 jfit_n wcl_X11_101 wini_java_lang_IllegalArgumentException vxg_105 vxn_105 vxh_105 (by decide) hsa hx hK hW hl.1 htab hr.2.1 ⟨by decide, by decide, by decide, by decide⟩ ⟨by decide, by decide⟩ dX11_setWeights_25 dX11_setWeights_28 dX11_setWeights_29 dX11_setWeights_31 dX11_setWeights_34 (⟨Or.inr (⟨rfl, ⟨⟨xN_2, hp2_0, rfl⟩, by first | exact Or.inl (vB_neg c_6) | exact Or.inl (vB_gt (N := 9) c_12 (by decide)) | exact Or.inr (vB_neg c_16) | exact Or.inr (vB_gt (N := 9) (by first | exact c_22 | exact Classical.not_not.mp (fun q => c_22 (i32_le.mpr q))) (by decide))⟩⟩), rfl⟩)
    · refine lv_iload_n S.1 S.2.1 dX11_setWeights_15 rfl (lv_at hl 3 rfl) ?_
      refine lv_if_lt (tgt := 25) S.1 S.2.1 dX11_setWeights_16 (by decide) (fun c_16 => ?_) (fun c_16 => ?_)
      · subst hQ
        obtain ⟨sa, hsa⟩ := hx.2.1 (103, "a weight is not from 0 to 9") (by decide)
        exact jx_throw (text := "a weight is not from 0 to 9") (names := jNm) (sa := sa) S htr jfit_105 jfit_n wcl_X11_101 wini_java_lang_IllegalArgumentException vxg_105 vxn_105 vxh_105 (by decide) hsa hx hK hW hl.1 htab hr.2.1 ⟨by decide, by decide, by decide, by decide⟩ ⟨by decide, by decide⟩ dX11_setWeights_25 dX11_setWeights_28 dX11_setWeights_29 dX11_setWeights_31 dX11_setWeights_34 (⟨Or.inr (⟨rfl, ⟨⟨xN_2, hp2_0, rfl⟩, by first | exact Or.inl (vB_neg c_6) | exact Or.inl (vB_gt (N := 9) c_12 (by decide)) | exact Or.inr (vB_neg c_16) | exact Or.inr (vB_gt (N := 9) (by first | exact c_22 | exact Classical.not_not.mp (fun q => c_22 (i32_le.mpr q))) (by decide))⟩⟩), rfl⟩)
      · refine lv_iload_n S.1 S.2.1 dX11_setWeights_19 rfl (lv_at hl 3 rfl) ?_
        refine lv_bipush (v := nI 9) S.1 S.2.1 dX11_setWeights_20 (by decide) ?_
        refine lv_icmp_le (tgt := 35) S.1 S.2.1 dX11_setWeights_22 (by decide) (fun c_22 => ?_) (fun c_22 => ?_)
        · obtain ⟨a, ha1, rfl⟩ := vB_t (by decide) (vB_le (N := 9) c_6 (by first | exact c_12 | exact i32_le.mp c_12) (by decide))
          obtain ⟨b, hb1, rfl⟩ := vB_t (by decide) (vB_le (N := 9) c_16 (by first | exact c_22 | exact i32_le.mp c_22) (by decide))
          refine lv_bipush (v := nI 10) S.1 S.2.1 dX11_setWeights_35 (by decide) ?_
          refine lv_aload_n S.1 S.2.1 dX11_setWeights_37 rfl (lv_at hl 0 rfl) ?_
          refine j_get (ci := 10) (C := RX11) (T := TX11) (N := 15) (v := .ref (ad 1)) S (fun w h => List.mem_cons_of_mem _ (inG11 w h)) hK hW hO rfl 1 (by decide) (List.mem_cons_of_mem _ wfl_X11_14) (fun _ h9 => h9) rfl dX11_setWeights_38 ?_
          refine lv_iload_n S.1 S.2.1 dX11_setWeights_41 rfl (lv_at hl 1 rfl) ?_
          refine j_callV (k := 1) (ci := 5) (q := (RX6, TX6, 1)) (As := [.int (nI xN_2)]) (rest := [.int (nI 10)]) S hK hA hW (c_X6_atN l D cy 1 2 (ad 1) (ad 2) 10 xN_2 wf hFo hFa   (by omega) (by decide)) (jgo wm_X11_106) yk_X6_at hFo rfl rfl ⟨⟨rfl, rfl⟩, by decide, by decide⟩ rfl hl.1 rfl (Nat.le_of_ble_eq_true rfl) dX11_setWeights_42 ⟨Nat.le_of_ble_eq_true rfl, Nat.le_of_ble_eq_true rfl⟩ (fun v u H locs hp hW => ?_)
          obtain ⟨rfl, rfl⟩ := hp
          refine W.eq (g2 := F0 m 45 ls [.int (nI (wf xN_2)), .int (nI 10)]) rfl ?_
          refine jn_mul S dX11_setWeights_45 ?_
          refine lv_aload_n S.1 S.2.1 dX11_setWeights_46 rfl (lv_at hl 0 rfl) ?_
          refine j_get (ci := 10) (C := RX11) (T := TX11) (N := 15) (v := .ref (ad 3)) S (fun w h => List.mem_cons_of_mem _ (inG11 w h)) hK hW hO rfl 2 (by decide) (List.mem_cons_of_mem _ wfl_X11_18) (fun _ h9 => h9) rfl dX11_setWeights_47 ?_
          refine lv_iload_n S.1 S.2.1 dX11_setWeights_50 rfl (lv_at hl 1 rfl) ?_
          refine j_callV (k := 3) (ci := 5) (q := (RX6, TX6, 1)) (As := [.int (nI xN_2)]) (rest := [.int (nI (10 * (wf xN_2)))]) S hK hA hW (c_X6_atN l D cy 3 4 (ad 3) (ad 4) 10 xN_2 wt hGo hGa   (by omega) (by decide)) (jgo wm_X11_106) yk_X6_at hGo rfl rfl ⟨⟨rfl, rfl⟩, by decide, by decide⟩ rfl hl.1 rfl (Nat.le_of_ble_eq_true rfl) dX11_setWeights_51 ⟨Nat.le_of_ble_eq_true rfl, Nat.le_of_ble_eq_true rfl⟩ (fun v u H locs hp hW => ?_)
          obtain ⟨rfl, rfl⟩ := hp
          refine W.eq (g2 := F0 m 54 ls [.int (nI (wt xN_2)), .int (nI (10 * (wf xN_2)))]) rfl ?_
          refine jn_add S dX11_setWeights_54 ?_
          refine lv_istore (lv' := [(4, .int (nI ((10 * (wf xN_2)) + (wt xN_2)))), (0, .ref (ad 0)), (1, .int (nI xN_2)), (2, .int (nI a)), (3, .int (nI b))]) S.1 S.2.1 dX11_setWeights_55 hl (by decide) rfl (fun ls hl => ?_)
          refine lv_aload_n S.1 S.2.1 dX11_setWeights_57 rfl (lv_at hl 1 rfl) ?_
          refine j_get (ci := 10) (C := RX11) (T := TX11) (N := 15) (v := .ref (ad 1)) S (fun w h => List.mem_cons_of_mem _ (inG11 w h)) hK hW hO rfl 1 (by decide) (List.mem_cons_of_mem _ wfl_X11_14) (fun _ h9 => h9) rfl dX11_setWeights_58 ?_
          refine lv_iload_n S.1 S.2.1 dX11_setWeights_61 rfl (lv_at hl 2 rfl) ?_
          refine lv_iload_n S.1 S.2.1 dX11_setWeights_62 rfl (lv_at hl 3 rfl) ?_
          refine j_callV (k := 1) (ci := 5) (q := (RX6, TX6, 1)) (As := [.int (nI xN_2), .int (nI a)]) (rest := []) S hK hA hW (c_X6_putN l D cy 1 2 (ad 1) (ad 2) 10 xN_2 wf a hFo hFa   (by omega) (by decide)) (jgo wm_X11_88) yk_X6_put hFo rfl rfl ⟨⟨rfl, rfl⟩, by decide, by decide⟩ rfl hl.1 rfl (Nat.le_of_ble_eq_true rfl) dX11_setWeights_63 ⟨Nat.le_of_ble_eq_true rfl, Nat.le_of_ble_eq_true rfl⟩ (fun v w_ H locs hp hW => ?_)
          obtain ⟨rfl, hU1, hN1⟩ := hp
          have hU : jU w w_ [2, 4, 6] := jU.mono hU1 (by decide)
          have hGa_ := hU1.get hGa (by decide)
          have hDa_ := hU1.get hDa (by decide)
          have hFa_ : w_[2]? = some (ad 2, .inl (cy 0, 10, .inl (nf (upB wf xN_2 a)))) := hN1
          clear hU1 hN1
          refine W.eq (g2 := F0 m 66 ls []) rfl ?_
          refine lv_aload_n S.1 S.2.1 dX11_setWeights_66 rfl (lv_at hl 1 rfl) ?_
          refine j_get (ci := 10) (C := RX11) (T := TX11) (N := 15) (v := .ref (ad 3)) S (fun w h => List.mem_cons_of_mem _ (inG11 w h)) hK hW (hU.get hO (by decide)) rfl 2 (by decide) (List.mem_cons_of_mem _ wfl_X11_18) (fun _ h9 => h9) rfl dX11_setWeights_67 ?_
          refine lv_iload_n S.1 S.2.1 dX11_setWeights_70 rfl (lv_at hl 2 rfl) ?_
          refine lv_iload_n S.1 S.2.1 dX11_setWeights_71 rfl (lv_at hl 4 rfl) ?_
          refine j_callV (k := 3) (ci := 5) (q := (RX6, TX6, 1)) (As := [.int (nI xN_2), .int (nI b)]) (rest := []) S hK hA hW (c_X6_putN l D cy 3 4 (ad 3) (ad 4) 10 xN_2 wt b (hU.get hGo (by decide)) hGa_   (by omega) (by decide)) (jgo wm_X11_88) yk_X6_put (hU.get hGo (by decide)) rfl rfl ⟨⟨rfl, rfl⟩, by decide, by decide⟩ rfl hl.1 rfl (Nat.le_of_ble_eq_true rfl) dX11_setWeights_72 ⟨Nat.le_of_ble_eq_true rfl, Nat.le_of_ble_eq_true rfl⟩ (fun v w_ H locs hp hW => ?_)
          obtain ⟨rfl, hU1, hN1⟩ := hp
          have hU := hU.then hU1 (by decide)
          have hDa_ := hU1.get hDa_ (by decide)
          have hFa_ := hU1.get hFa_ (by decide)
          have hGa_ : w_[4]? = some (ad 4, .inl (cy 0, 10, .inl (nf (upB wt xN_2 b)))) := hN1
          clear hU1 hN1
          refine W.eq (g2 := F0 m 75 ls []) rfl ?_
          refine lv_aload_n S.1 S.2.1 dX11_setWeights_75 rfl (lv_at hl 1 rfl) ?_
          refine j_callV (k := 0) (ci := 10) (q := (RX11, TX11, 15)) (As := []) (rest := []) S hK hA hW (c_X11_multiplyWeights l D cy ad n sd se fr (upB wf xN_2 a) (upB wt xN_2 b) pr (hU.get hO (by decide)) (hU.get hFo (by decide)) hFa_ (hU.get hGo (by decide)) hGa_ (hU.get hDo (by decide)) hDa_   (by omega) (fun j => by unfold upB; split <;> first | omega | exact hwf j) (fun j => by unfold upB; split <;> first | omega | exact hwt j)) (jgo wm_X11_91) yk_X11_multiplyWeights (hU.get hO (by decide)) rfl rfl ⟨⟨rfl, rfl⟩, by decide, by decide⟩ rfl hl.1 rfl (Nat.le_of_ble_eq_true rfl) dX11_setWeights_76 ⟨Nat.le_of_ble_eq_true rfl, Nat.le_of_ble_eq_true rfl⟩ (fun v w_ H locs hp hW => ?_)
          obtain ⟨rfl, hU1, hN1⟩ := hp
          have hU := hU.then hU1 (by decide)
          have hGa_ := hU1.get hGa_ (by decide)
          have hFa_ := hU1.get hFa_ (by decide)
          have hDa_ : w_[6]? = some (ad 6, .inl (cy 1, 1024, .inr (.inl (lf (mixN (2 ^ n) (fun d => prodN (upB wf xN_2 a) (upB wt xN_2 b) d n) pr))))) := hN1
          clear hU1 hN1
          refine W.eq (g2 := F0 m 79 ls []) rfl ?_
          refine lv_iload S.1 S.2.1 dX11_setWeights_79 (lv_at hl 0 rfl) ?_
          subst hQ
          refine vx_ret ?_
          exact j_iret (u := w_) S hr (rfl) hK hW dX11_setWeights_81 ⟨by decide, by decide⟩ (⟨xN_2, a, b, rfl, hp2_0, rfl, ha1, rfl, hb1, rfl, hU, hFa_, hGa_, hDa_⟩)
        · subst hQ
          obtain ⟨sa, hsa⟩ := hx.2.1 (103, "a weight is not from 0 to 9") (by decide)
          exact jx_throw (text := "a weight is not from 0 to 9") (names := jNm) (sa := sa) S htr jfit_105 jfit_n wcl_X11_101 wini_java_lang_IllegalArgumentException vxg_105 vxn_105 vxh_105 (by decide) hsa hx hK hW hl.1 htab hr.2.1 ⟨by decide, by decide, by decide, by decide⟩ ⟨by decide, by decide⟩ dX11_setWeights_25 dX11_setWeights_28 dX11_setWeights_29 dX11_setWeights_31 dX11_setWeights_34 (⟨Or.inr (⟨rfl, ⟨⟨xN_2, hp2_0, rfl⟩, by first | exact Or.inl (vB_neg c_6) | exact Or.inl (vB_gt (N := 9) c_12 (by decide)) | exact Or.inr (vB_neg c_16) | exact Or.inr (vB_gt (N := 9) (by first | exact c_22 | exact Classical.not_not.mp (fun q => c_22 (i32_le.mpr q))) (by decide))⟩⟩), rfl⟩)
/-- addClause -/
theorem c_X11_addClause (l : Launch) (htr : l.stackTraces = false) (D : va_G) (cy : Nat → ClassId) {w : va_W} (ad : Nat → Nat) (n sd se : Nat) (fr : Bool) (nc lv : Nat) (tf : Nat → Option Nat) (y o : Int32) (nL : Nat) (hO : w[0]? = some (ad 0, .inr (10, [.int (nI n), .ref (ad 1), .ref (ad 3), .ref (ad 5), .int (nI sd), .int (nI se), .ref (ad 7), .ref (ad 9), .ref (ad 11), .ref (ad 20), .int (bI fr), .ref (ad 23), .ref (ad 26), .ref (ad 31), .ref (ad 42)]))) (hC : w[9]? = some (ad 9, .inr (4, [.ref (ad 10), .int (nI nc), .int (nI lv)]))) (hT : w[10]? = some (ad 10, .inl (cy 5, 20, .inr (.inr (.inr (.inr tf)))))) (hlen : w.length = nL) (hn : n ≤ 10) (hnc : nc ≤ 20) (hnL : 76 ≤ nL) : jMx jTexts l yX11_addClause (jws yX11_addClause cX11_addClause 3 (some .int)) (jR 10 5 28) D cy w [.ref (ad 0), .int y, .int o] 5 28 (fun vv uu => ∃ (a : Nat), ∃ (b : Nat), ∃ (q : Nat), vv = some (.int (nI nc)) ∧ nc < 20 ∧ a < 2 ^ n ∧ y = nI a ∧ b < 2 ^ n ∧ o = nI b ∧ a ||| b ≠ 0 ∧ uu[nL]? = some (q, .inr (cobj (111, a, b, 0, 0))) ∧ jU w uu [0, 9, 10] ∧ uu[0]? = some (ad 0, .inr (10, [.int (nI n), .ref (ad 1), .ref (ad 3), .ref (ad 5), .int (nI sd), .int (nI se), .ref (ad 7), .ref (ad 9), .ref (ad 11), .ref (ad 20), .int (bI false), .ref (ad 23), .ref (ad 26), .ref (ad 31), .ref (ad 42)])) ∧ uu[9]? = some (ad 9, .inr (4, [.ref (ad 10), .int (nI (nc + 1)), .int (nI (lv ||| 2 ^ nc))])) ∧ uu[10]? = some (ad 10, .inl (cy 5, 20, .inr (.inr (.inr (.inr (va_up tf nc (some q)))))))) (fun EE uu => ((EE = "java/lang/IllegalArgumentException" ∧ (vB y (2 ^ n) = false ∨ vB o (2 ^ n) = false ∨ (∃ a b, a < 2 ^ n ∧ b < 2 ^ n ∧ y = nI a ∧ o = nI b ∧ a ||| b = 0))) ∨ (EE = "java/lang/IllegalStateException" ∧ (nc = 20 ∧ (∃ a b, a < 2 ^ n ∧ b < 2 ^ n ∧ y = nI a ∧ o = nI b ∧ a ||| b ≠ 0)))) ∧ w = uu) := by
  have hlen0 := hlen
  have hpn := two_pow10 hn
  refine jx_of (by decide) rfl (Nat.le_of_ble_eq_true rfl) ?_
  intro p e s m args below meth c A ls Q hQ S hr hK hA H locs hW hl htab hx
  have hl : lv_has ls 3 [(0, .ref (ad 0)), (1, .int y), (2, .int o)] := hl
  refine lv_aload_n S.1 S.2.1 dX11_addClause_0 rfl (lv_at hl 0 rfl) ?_
  refine lv_iload_n S.1 S.2.1 dX11_addClause_1 rfl (lv_at hl 1 rfl) ?_
  refine jx_callq (k := 0) (ci := 10) (q := (RX11, TX11, 15)) (As := [.int y]) (rest := []) S hK hA hW hQ htab hr hx (c_X11_checkSet l htr D cy ad n sd se fr y hO   (by omega)) (jgo wm_X11_110) yk_X11_checkSet hO rfl rfl ⟨⟨rfl, rfl⟩, by decide, by decide⟩ rfl hl.1 rfl (Nat.le_of_ble_eq_true rfl) dX11_addClause_2 ⟨Nat.le_of_ble_eq_true rfl, Nat.le_of_ble_eq_true rfl⟩ ⟨by decide, by decide⟩ (fun E u h => by obtain ⟨⟨e1, h⟩, e⟩ := h; exact ⟨Or.inl ⟨e1, Or.inl h⟩, e⟩) (fun v u H locs hp hW => ?_)
  obtain ⟨xN_2, rfl, hp2_0, hp2_1, rfl⟩ := hp
  refine W.eq (g2 := F0 m 5 ls []) rfl ?_
  subst hp2_1
  refine lv_aload_n S.1 S.2.1 dX11_addClause_5 rfl (lv_at hl 0 rfl) ?_
  refine lv_iload_n S.1 S.2.1 dX11_addClause_6 rfl (lv_at hl 2 rfl) ?_
  refine jx_callq (k := 0) (ci := 10) (q := (RX11, TX11, 15)) (As := [.int o]) (rest := []) S hK hA hW hQ htab hr hx (c_X11_checkSet l htr D cy ad n sd se fr o hO   (by omega)) (jgo wm_X11_110) yk_X11_checkSet hO rfl rfl ⟨⟨rfl, rfl⟩, by decide, by decide⟩ rfl hl.1 rfl (Nat.le_of_ble_eq_true rfl) dX11_addClause_7 ⟨Nat.le_of_ble_eq_true rfl, Nat.le_of_ble_eq_true rfl⟩ ⟨by decide, by decide⟩ (fun E u h => by obtain ⟨⟨e1, h⟩, e⟩ := h; exact ⟨Or.inl ⟨e1, Or.inr (Or.inl h)⟩, e⟩) (fun v u H locs hp hW => ?_)
  obtain ⟨xN_7, rfl, hp7_0, hp7_1, rfl⟩ := hp
  refine W.eq (g2 := F0 m 10 ls []) rfl ?_
  subst hp7_1
  refine lv_aload_n S.1 S.2.1 dX11_addClause_10 rfl (lv_at hl 0 rfl) ?_
  refine lv_iload_n S.1 S.2.1 dX11_addClause_11 rfl (lv_at hl 1 rfl) ?_
  refine lv_iload_n S.1 S.2.1 dX11_addClause_12 rfl (lv_at hl 2 rfl) ?_
  refine jn_or S dX11_addClause_13 ?_
  refine jx_callq (k := 0) (ci := 10) (q := (RX11, TX11, 15)) (As := [.int (nI (xN_2 ||| xN_7))]) (rest := []) S hK hA hW hQ htab hr hx (c_X11_checkNotEmpty l htr D cy ad (xN_2 ||| xN_7)    (Nat.lt_of_lt_of_le (Nat.or_lt_two_pow hp2_0 hp7_0) (two_pow10 hn))) (jgo wm_X11_113) yk_X11_checkNotEmpty hO rfl rfl ⟨⟨rfl, rfl⟩, by decide, by decide⟩ rfl hl.1 rfl (Nat.le_of_ble_eq_true rfl) dX11_addClause_14 ⟨Nat.le_of_ble_eq_true rfl, Nat.le_of_ble_eq_true rfl⟩ ⟨by decide, by decide⟩ (fun E u h => by obtain ⟨⟨e1, h⟩, e⟩ := h; exact ⟨Or.inl ⟨e1, Or.inr (Or.inr ⟨xN_2, xN_7, hp2_0, hp7_0, rfl, rfl, h⟩)⟩, e⟩) (fun v u H locs hp hW => ?_)
  obtain ⟨rfl, hp14_0, rfl⟩ := hp
  refine W.eq (g2 := F0 m 17 ls []) rfl ?_
  refine lv_aload_n S.1 S.2.1 dX11_addClause_17 rfl (lv_at hl 0 rfl) ?_
  refine jx_callq (k := 0) (ci := 10) (q := (RX11, TX11, 15)) (As := []) (rest := []) S hK hA hW hQ htab hr hx (c_X11_checkRoom l htr D cy ad n sd se fr nc lv tf hO hC hT   (hnc)) (jgo wm_X11_116) yk_X11_checkRoom hO rfl rfl ⟨⟨rfl, rfl⟩, by decide, by decide⟩ rfl hl.1 rfl (Nat.le_of_ble_eq_true rfl) dX11_addClause_18 ⟨Nat.le_of_ble_eq_true rfl, Nat.le_of_ble_eq_true rfl⟩ ⟨by decide, by decide⟩ (fun E u h => by obtain ⟨⟨e1, h⟩, e⟩ := h; exact ⟨Or.inr (⟨e1, ⟨h, xN_2, xN_7, hp2_0, hp7_0, rfl, rfl, hp14_0⟩⟩), e⟩) (fun v u H locs hp hW => ?_)
  obtain ⟨rfl, hp18_0, rfl⟩ := hp
  refine W.eq (g2 := F0 m 21 ls []) rfl ?_
  refine lv_aload_n S.1 S.2.1 dX11_addClause_21 rfl (lv_at hl 0 rfl) ?_
  refine j_newL (C := RX3) (T := TX3) (N := 4) (ci := 3) (fs := [.int 0, .int 0, .int 0, .int 0]) S (fun w h => List.mem_cons_of_mem _ (inG3 w h)) tyX3 tyX3_ok (List.mem_cons_of_mem _ wcl_X11_119) (List.mem_cons_of_mem _ wmk_X3) (List.mem_cons_of_mem _ wini_X3) hK hA hW hlen rfl (by decide +kernel) (Nat.le_of_ble_eq_true rfl) (Nat.le_of_ble_eq_true rfl) dX11_addClause_22 (fun q_1 H w_ hU1 hN1 hlen hW => ?_)
  have hU : jU w w_ [0, 9, 10, nL] := jU.mono hU1 (by first | (simp; done) | (simp; omega))
  have hO_ := hU1.get hO (by first | (simp; done) | (simp; omega))
  have hC_ := hU1.get hC (by first | (simp; done) | (simp; omega))
  have hT_ := hU1.get hT (by first | (simp; done) | (simp; omega))
  have hO2_ : w_[nL]? = some (q_1, .inr (3, [.int (nI 0), .int (nI 0), .int (nI 0), .int (nI 0)])) := hN1
  clear hU1 hN1
  refine lv_dup S.1 S.2.1 dX11_addClause_25 rfl ?_
  refine lv_iload_n S.1 S.2.1 dX11_addClause_26 rfl (lv_at hl 1 rfl) ?_
  refine lv_iload_n S.1 S.2.1 dX11_addClause_27 rfl (lv_at hl 2 rfl) ?_
  refine j_callI (As := [.int (nI xN_2), .int (nI xN_7)]) (rest := [.ref q_1, .ref (ad 0)]) S hK hA hW (c_X3_init l D cy nL q_1 xN_2 xN_7 hO2_   ) wm_X11_121 yk_X3_init ⟨⟨rfl, rfl⟩, by decide, by decide⟩ rfl hl.1 rfl (Nat.le_of_ble_eq_true rfl) dX11_addClause_28 ⟨Nat.le_of_ble_eq_true rfl, Nat.le_of_ble_eq_true rfl⟩ (fun v w_ H locs hp hW => ?_)
  obtain ⟨rfl, hU1, hN1⟩ := hp
  have hU := hU.then hU1 (by first | (simp; done) | (simp; omega))
  have hO_ := hU1.get hO_ (by first | (simp; done) | (simp; omega))
  have hC_ := hU1.get hC_ (by first | (simp; done) | (simp; omega))
  have hT_ := hU1.get hT_ (by first | (simp; done) | (simp; omega))
  have hO2_ : w_[nL]? = some (q_1, .inr (3, [.int (nI 111), .int (nI (xN_2 ||| xN_7)), .int (nI xN_2), .int (nI xN_7)])) := hN1
  clear hU1 hN1
  refine W.eq (g2 := F0 m 31 ls [.ref q_1, .ref (ad 0)]) rfl ?_
  have okq : okC (111, xN_2, xN_7, 0, 0) := ⟨Or.inl rfl, by show xN_2 < 1024; omega, by show xN_7 < 1024; omega, (by decide : 0 < 1024), (by decide : 0 < 1024)⟩
  refine j_callV (k := 0) (ci := 10) (q := (RX11, TX11, 15)) (As := [.ref q_1]) (rest := []) S hK hA hW (c_X11_tell l D cy ad n sd se fr nc lv tf nL q_1 (111, xN_2, xN_7, 0, 0) hO_ hC_ hT_   (by omega) (by rw [cobj_o rfl]; exact hO2_) (okq) (by omega)) (jgo wm_X11_123) yk_X11_tell hO_ rfl rfl ⟨⟨rfl, rfl⟩, by decide, by decide⟩ rfl hl.1 rfl (Nat.le_of_ble_eq_true rfl) dX11_addClause_31 ⟨Nat.le_of_ble_eq_true rfl, Nat.le_of_ble_eq_true rfl⟩ (fun v w_ H locs hp hW => ?_)
  obtain ⟨rfl, hU1, hN1, hN2, hN3⟩ := hp
  have hU := hU.then hU1 (by first | (simp; done) | (simp; omega))
  have hO2_ := hU1.get hO2_ (by first | (simp; done) | (simp; omega))
  have hO_ : w_[0]? = some (ad 0, .inr (10, [.int (nI n), .ref (ad 1), .ref (ad 3), .ref (ad 5), .int (nI sd), .int (nI se), .ref (ad 7), .ref (ad 9), .ref (ad 11), .ref (ad 20), .int (bI false), .ref (ad 23), .ref (ad 26), .ref (ad 31), .ref (ad 42)])) := hN1
  have hC_ : w_[9]? = some (ad 9, .inr (4, [.ref (ad 10), .int (nI (nc + 1)), .int (nI (lv ||| 2 ^ nc))])) := hN2
  have hT_ : w_[10]? = some (ad 10, .inl (cy 5, 20, .inr (.inr (.inr (.inr (va_up tf nc (some q_1))))))) := hN3
  clear hU1 hN1 hN2 hN3
  refine W.eq (g2 := F0 m 34 ls [.int (nI nc)]) rfl ?_
  subst hQ
  refine vx_ret ?_
  exact j_iret (u := w_) S hr (rfl) hK hW dX11_addClause_34 ⟨by decide, by decide⟩ (⟨xN_2, xN_7, _, rfl, by omega, hp2_0, rfl, hp7_0, rfl, hp14_0, by rw [cobj_o rfl]; exact hO2_, (jU.low hU hlen0 (by first | (simp; done) | (simp; omega))), hO_, hC_, hT_⟩)
/-- addParity -/
theorem c_X11_addParity (l : Launch) (htr : l.stackTraces = false) (D : va_G) (cy : Nat → ClassId) {w : va_W} (ad : Nat → Nat) (n sd se : Nat) (fr : Bool) (nc lv : Nat) (tf : Nat → Option Nat) (y r : Int32) (nL : Nat) (hO : w[0]? = some (ad 0, .inr (10, [.int (nI n), .ref (ad 1), .ref (ad 3), .ref (ad 5), .int (nI sd), .int (nI se), .ref (ad 7), .ref (ad 9), .ref (ad 11), .ref (ad 20), .int (bI fr), .ref (ad 23), .ref (ad 26), .ref (ad 31), .ref (ad 42)]))) (hC : w[9]? = some (ad 9, .inr (4, [.ref (ad 10), .int (nI nc), .int (nI lv)]))) (hT : w[10]? = some (ad 10, .inl (cy 5, 20, .inr (.inr (.inr (.inr tf)))))) (hlen : w.length = nL) (hn : n ≤ 10) (hnc : nc ≤ 20) (hnL : 76 ≤ nL) : jMx jTexts l yX11_addParity (jws yX11_addParity cX11_addParity 3 (some .int)) (jR 10 5 27) D cy w [.ref (ad 0), .int y, .int r] 5 27 (fun vv uu => ∃ (a : Nat), ∃ (b : Nat), ∃ (q : Nat), vv = some (.int (nI nc)) ∧ nc < 20 ∧ a < 2 ^ n ∧ y = nI a ∧ b < 2 ∧ r = nI b ∧ a ≠ 0 ∧ uu[nL]? = some (q, .inr (cobj (120, a, 0, b, b))) ∧ jU w uu [0, 9, 10] ∧ uu[0]? = some (ad 0, .inr (10, [.int (nI n), .ref (ad 1), .ref (ad 3), .ref (ad 5), .int (nI sd), .int (nI se), .ref (ad 7), .ref (ad 9), .ref (ad 11), .ref (ad 20), .int (bI false), .ref (ad 23), .ref (ad 26), .ref (ad 31), .ref (ad 42)])) ∧ uu[9]? = some (ad 9, .inr (4, [.ref (ad 10), .int (nI (nc + 1)), .int (nI (lv ||| 2 ^ nc))])) ∧ uu[10]? = some (ad 10, .inl (cy 5, 20, .inr (.inr (.inr (.inr (va_up tf nc (some q)))))))) (fun EE uu => ((EE = "java/lang/IllegalArgumentException" ∧ (vB y (2 ^ n) = false ∨ y = nI 0 ∨ vB r 2 = false)) ∨ (EE = "java/lang/IllegalStateException" ∧ (nc = 20 ∧ (∃ a b, a < 2 ^ n ∧ b < 2 ∧ y = nI a ∧ r = nI b ∧ a ≠ 0)))) ∧ w = uu) := by
  have hlen0 := hlen
  have hpn := two_pow10 hn
  refine jx_of (by decide) rfl (Nat.le_of_ble_eq_true rfl) ?_
  intro p e s m args below meth c A ls Q hQ S hr hK hA H locs hW hl htab hx
  have hl : lv_has ls 3 [(0, .ref (ad 0)), (1, .int y), (2, .int r)] := hl
  refine lv_aload_n S.1 S.2.1 dX11_addParity_0 rfl (lv_at hl 0 rfl) ?_
  refine lv_iload_n S.1 S.2.1 dX11_addParity_1 rfl (lv_at hl 1 rfl) ?_
  refine jx_callq (k := 0) (ci := 10) (q := (RX11, TX11, 15)) (As := [.int y]) (rest := []) S hK hA hW hQ htab hr hx (c_X11_checkSet l htr D cy ad n sd se fr y hO   (by omega)) (jgo wm_X11_110) yk_X11_checkSet hO rfl rfl ⟨⟨rfl, rfl⟩, by decide, by decide⟩ rfl hl.1 rfl (Nat.le_of_ble_eq_true rfl) dX11_addParity_2 ⟨Nat.le_of_ble_eq_true rfl, Nat.le_of_ble_eq_true rfl⟩ ⟨by decide, by decide⟩ (fun E u h => by obtain ⟨⟨e1, h⟩, e⟩ := h; exact ⟨Or.inl ⟨e1, Or.inl h⟩, e⟩) (fun v u H locs hp hW => ?_)
  obtain ⟨xN_2, rfl, hp2_0, hp2_1, rfl⟩ := hp
  refine W.eq (g2 := F0 m 5 ls []) rfl ?_
  subst hp2_1
  refine lv_aload_n S.1 S.2.1 dX11_addParity_5 rfl (lv_at hl 0 rfl) ?_
  refine lv_iload_n S.1 S.2.1 dX11_addParity_6 rfl (lv_at hl 1 rfl) ?_
  refine jx_callq (k := 0) (ci := 10) (q := (RX11, TX11, 15)) (As := [.int (nI xN_2)]) (rest := []) S hK hA hW hQ htab hr hx (c_X11_checkNotEmpty l htr D cy ad xN_2    (by omega)) (jgo wm_X11_113) yk_X11_checkNotEmpty hO rfl rfl ⟨⟨rfl, rfl⟩, by decide, by decide⟩ rfl hl.1 rfl (Nat.le_of_ble_eq_true rfl) dX11_addParity_7 ⟨Nat.le_of_ble_eq_true rfl, Nat.le_of_ble_eq_true rfl⟩ ⟨by decide, by decide⟩ (fun E u h => by obtain ⟨⟨e1, h⟩, e⟩ := h; exact ⟨Or.inl ⟨e1, Or.inr (Or.inl (by rw [h]))⟩, e⟩) (fun v u H locs hp hW => ?_)
  obtain ⟨rfl, hp7_0, rfl⟩ := hp
  refine W.eq (g2 := F0 m 10 ls []) rfl ?_
  refine lv_aload_n S.1 S.2.1 dX11_addParity_10 rfl (lv_at hl 0 rfl) ?_
  refine lv_iload_n S.1 S.2.1 dX11_addParity_11 rfl (lv_at hl 2 rfl) ?_
  refine jx_callq (k := 0) (ci := 10) (q := (RX11, TX11, 15)) (As := [.int r]) (rest := []) S hK hA hW hQ htab hr hx (c_X11_checkValue l htr D cy ad r    ) (jgo wm_X11_127) yk_X11_checkValue hO rfl rfl ⟨⟨rfl, rfl⟩, by decide, by decide⟩ rfl hl.1 rfl (Nat.le_of_ble_eq_true rfl) dX11_addParity_12 ⟨Nat.le_of_ble_eq_true rfl, Nat.le_of_ble_eq_true rfl⟩ ⟨by decide, by decide⟩ (fun E u h => by obtain ⟨⟨e1, h⟩, e⟩ := h; exact ⟨Or.inl ⟨e1, Or.inr (Or.inr h)⟩, e⟩) (fun v u H locs hp hW => ?_)
  obtain ⟨xN_12, rfl, hp12_0, hp12_1, rfl⟩ := hp
  refine W.eq (g2 := F0 m 15 ls []) rfl ?_
  subst hp12_1
  refine lv_aload_n S.1 S.2.1 dX11_addParity_15 rfl (lv_at hl 0 rfl) ?_
  refine jx_callq (k := 0) (ci := 10) (q := (RX11, TX11, 15)) (As := []) (rest := []) S hK hA hW hQ htab hr hx (c_X11_checkRoom l htr D cy ad n sd se fr nc lv tf hO hC hT   (hnc)) (jgo wm_X11_116) yk_X11_checkRoom hO rfl rfl ⟨⟨rfl, rfl⟩, by decide, by decide⟩ rfl hl.1 rfl (Nat.le_of_ble_eq_true rfl) dX11_addParity_16 ⟨Nat.le_of_ble_eq_true rfl, Nat.le_of_ble_eq_true rfl⟩ ⟨by decide, by decide⟩ (fun E u h => by obtain ⟨⟨e1, h⟩, e⟩ := h; exact ⟨Or.inr (⟨e1, ⟨h, xN_2, xN_12, hp2_0, hp12_0, rfl, rfl, hp7_0⟩⟩), e⟩) (fun v u H locs hp hW => ?_)
  obtain ⟨rfl, hp16_0, rfl⟩ := hp
  refine W.eq (g2 := F0 m 19 ls []) rfl ?_
  refine lv_aload_n S.1 S.2.1 dX11_addParity_19 rfl (lv_at hl 0 rfl) ?_
  refine j_newL (C := RX8) (T := TX8) (N := 3) (ci := 7) (fs := [.int 0, .int 0, .int 0]) S (fun w h => List.mem_cons_of_mem _ (inG8 w h)) tyX8 tyX8_ok (List.mem_cons_of_mem _ wcl_X11_130) (List.mem_cons_of_mem _ wmk_X8) (List.mem_cons_of_mem _ wini_X8) hK hA hW hlen rfl (by decide +kernel) (Nat.le_of_ble_eq_true rfl) (Nat.le_of_ble_eq_true rfl) dX11_addParity_20 (fun q_1 H w_ hU1 hN1 hlen hW => ?_)
  have hU : jU w w_ [0, 9, 10, nL] := jU.mono hU1 (by first | (simp; done) | (simp; omega))
  have hO_ := hU1.get hO (by first | (simp; done) | (simp; omega))
  have hC_ := hU1.get hC (by first | (simp; done) | (simp; omega))
  have hT_ := hU1.get hT (by first | (simp; done) | (simp; omega))
  have hO2_ : w_[nL]? = some (q_1, .inr (7, [.int (nI 0), .int (nI 0), .int (nI 0)])) := hN1
  clear hU1 hN1
  refine lv_dup S.1 S.2.1 dX11_addParity_23 rfl ?_
  refine lv_iload_n S.1 S.2.1 dX11_addParity_24 rfl (lv_at hl 1 rfl) ?_
  refine lv_iload_n S.1 S.2.1 dX11_addParity_25 rfl (lv_at hl 2 rfl) ?_
  refine j_callI (As := [.int (nI xN_2), .int (nI xN_12)]) (rest := [.ref q_1, .ref (ad 0)]) S hK hA hW (c_X8_init l D cy nL q_1 xN_2 xN_12 hO2_   ) wm_X11_132 yk_X8_init ⟨⟨rfl, rfl⟩, by decide, by decide⟩ rfl hl.1 rfl (Nat.le_of_ble_eq_true rfl) dX11_addParity_26 ⟨Nat.le_of_ble_eq_true rfl, Nat.le_of_ble_eq_true rfl⟩ (fun v w_ H locs hp hW => ?_)
  obtain ⟨rfl, hU1, hN1⟩ := hp
  have hU := hU.then hU1 (by first | (simp; done) | (simp; omega))
  have hO_ := hU1.get hO_ (by first | (simp; done) | (simp; omega))
  have hC_ := hU1.get hC_ (by first | (simp; done) | (simp; omega))
  have hT_ := hU1.get hT_ (by first | (simp; done) | (simp; omega))
  have hO2_ : w_[nL]? = some (q_1, .inr (7, [.int (nI 120), .int (nI xN_2), .int (nI xN_12)])) := hN1
  clear hU1 hN1
  refine W.eq (g2 := F0 m 29 ls [.ref q_1, .ref (ad 0)]) rfl ?_
  have okq : okC (120, xN_2, 0, xN_12, xN_12) := ⟨Or.inr (Or.inl rfl), by show xN_2 < 1024; omega, (by decide : 0 < 1024), by show xN_12 < 1024; omega, by show xN_12 < 1024; omega⟩
  have hmb : mbs (120, xN_2, 0, xN_12, xN_12) = xN_2 := Nat.or_zero _
  refine j_callV (k := 0) (ci := 10) (q := (RX11, TX11, 15)) (As := [.ref q_1]) (rest := []) S hK hA hW (c_X11_tell l D cy ad n sd se fr nc lv tf nL q_1 (120, xN_2, 0, xN_12, xN_12) hO_ hC_ hT_   (by omega) (by rw [cobj_x rfl, hmb]; exact hO2_) (okq) (by omega)) (jgo wm_X11_123) yk_X11_tell hO_ rfl rfl ⟨⟨rfl, rfl⟩, by decide, by decide⟩ rfl hl.1 rfl (Nat.le_of_ble_eq_true rfl) dX11_addParity_29 ⟨Nat.le_of_ble_eq_true rfl, Nat.le_of_ble_eq_true rfl⟩ (fun v w_ H locs hp hW => ?_)
  obtain ⟨rfl, hU1, hN1, hN2, hN3⟩ := hp
  have hU := hU.then hU1 (by first | (simp; done) | (simp; omega))
  have hO2_ := hU1.get hO2_ (by first | (simp; done) | (simp; omega))
  have hO_ : w_[0]? = some (ad 0, .inr (10, [.int (nI n), .ref (ad 1), .ref (ad 3), .ref (ad 5), .int (nI sd), .int (nI se), .ref (ad 7), .ref (ad 9), .ref (ad 11), .ref (ad 20), .int (bI false), .ref (ad 23), .ref (ad 26), .ref (ad 31), .ref (ad 42)])) := hN1
  have hC_ : w_[9]? = some (ad 9, .inr (4, [.ref (ad 10), .int (nI (nc + 1)), .int (nI (lv ||| 2 ^ nc))])) := hN2
  have hT_ : w_[10]? = some (ad 10, .inl (cy 5, 20, .inr (.inr (.inr (.inr (va_up tf nc (some q_1))))))) := hN3
  clear hU1 hN1 hN2 hN3
  refine W.eq (g2 := F0 m 32 ls [.int (nI nc)]) rfl ?_
  subst hQ
  refine vx_ret ?_
  exact j_iret (u := w_) S hr (rfl) hK hW dX11_addParity_32 ⟨by decide, by decide⟩ (⟨xN_2, xN_12, _, rfl, by omega, hp2_0, rfl, hp12_0, rfl, hp7_0, by rw [cobj_x rfl, hmb]; exact hO2_, (jU.low hU hlen0 (by first | (simp; done) | (simp; omega))), hO_, hC_, hT_⟩)
/-- addBound -/
theorem c_X11_addBound (l : Launch) (htr : l.stackTraces = false) (D : va_G) (cy : Nat → ClassId) {w : va_W} (ad : Nat → Nat) (n sd se : Nat) (fr : Bool) (nc lv : Nat) (tf : Nat → Option Nat) (y lo hi : Int32) (nL : Nat) (hO : w[0]? = some (ad 0, .inr (10, [.int (nI n), .ref (ad 1), .ref (ad 3), .ref (ad 5), .int (nI sd), .int (nI se), .ref (ad 7), .ref (ad 9), .ref (ad 11), .ref (ad 20), .int (bI fr), .ref (ad 23), .ref (ad 26), .ref (ad 31), .ref (ad 42)]))) (hC : w[9]? = some (ad 9, .inr (4, [.ref (ad 10), .int (nI nc), .int (nI lv)]))) (hT : w[10]? = some (ad 10, .inl (cy 5, 20, .inr (.inr (.inr (.inr tf)))))) (hlen : w.length = nL) (hn : n ≤ 10) (hnc : nc ≤ 20) (hnL : 76 ≤ nL) : jMx jTexts l yX11_addBound (jws yX11_addBound cX11_addBound 4 (some .int)) (jR 10 5 28) D cy w [.ref (ad 0), .int y, .int lo, .int hi] 5 28 (fun vv uu => ∃ (a : Nat), ∃ (b : Nat), ∃ (d : Nat), ∃ (q : Nat), vv = some (.int (nI nc)) ∧ nc < 20 ∧ a < 2 ^ n ∧ y = nI a ∧ b ≤ d ∧ d ≤ 10 ∧ lo = nI b ∧ hi = nI d ∧ a ≠ 0 ∧ uu[nL]? = some (q, .inr (cobj (107, a, 0, b, d))) ∧ jU w uu [0, 9, 10] ∧ uu[0]? = some (ad 0, .inr (10, [.int (nI n), .ref (ad 1), .ref (ad 3), .ref (ad 5), .int (nI sd), .int (nI se), .ref (ad 7), .ref (ad 9), .ref (ad 11), .ref (ad 20), .int (bI false), .ref (ad 23), .ref (ad 26), .ref (ad 31), .ref (ad 42)])) ∧ uu[9]? = some (ad 9, .inr (4, [.ref (ad 10), .int (nI (nc + 1)), .int (nI (lv ||| 2 ^ nc))])) ∧ uu[10]? = some (ad 10, .inl (cy 5, 20, .inr (.inr (.inr (.inr (va_up tf nc (some q)))))))) (fun EE uu => ((EE = "java/lang/IllegalArgumentException" ∧ (vB y (2 ^ n) = false ∨ y = nI 0 ∨ bdB lo hi = false)) ∨ (EE = "java/lang/IllegalStateException" ∧ (nc = 20 ∧ (∃ a lo1 hi1, a < 2 ^ n ∧ lo1 ≤ hi1 ∧ hi1 ≤ 10 ∧ y = nI a ∧ lo = nI lo1 ∧ hi = nI hi1 ∧ a ≠ 0)))) ∧ w = uu) := by
  have hlen0 := hlen
  have hpn := two_pow10 hn
  refine jx_of (by decide) rfl (Nat.le_of_ble_eq_true rfl) ?_
  intro p e s m args below meth c A ls Q hQ S hr hK hA H locs hW hl htab hx
  have hl : lv_has ls 4 [(0, .ref (ad 0)), (1, .int y), (2, .int lo), (3, .int hi)] := hl
  refine lv_aload_n S.1 S.2.1 dX11_addBound_0 rfl (lv_at hl 0 rfl) ?_
  refine lv_iload_n S.1 S.2.1 dX11_addBound_1 rfl (lv_at hl 1 rfl) ?_
  refine jx_callq (k := 0) (ci := 10) (q := (RX11, TX11, 15)) (As := [.int y]) (rest := []) S hK hA hW hQ htab hr hx (c_X11_checkSet l htr D cy ad n sd se fr y hO   (by omega)) (jgo wm_X11_110) yk_X11_checkSet hO rfl rfl ⟨⟨rfl, rfl⟩, by decide, by decide⟩ rfl hl.1 rfl (Nat.le_of_ble_eq_true rfl) dX11_addBound_2 ⟨Nat.le_of_ble_eq_true rfl, Nat.le_of_ble_eq_true rfl⟩ ⟨by decide, by decide⟩ (fun E u h => by obtain ⟨⟨e1, h⟩, e⟩ := h; exact ⟨Or.inl ⟨e1, Or.inl h⟩, e⟩) (fun v u H locs hp hW => ?_)
  obtain ⟨xN_2, rfl, hp2_0, hp2_1, rfl⟩ := hp
  refine W.eq (g2 := F0 m 5 ls []) rfl ?_
  subst hp2_1
  refine lv_aload_n S.1 S.2.1 dX11_addBound_5 rfl (lv_at hl 0 rfl) ?_
  refine lv_iload_n S.1 S.2.1 dX11_addBound_6 rfl (lv_at hl 1 rfl) ?_
  refine jx_callq (k := 0) (ci := 10) (q := (RX11, TX11, 15)) (As := [.int (nI xN_2)]) (rest := []) S hK hA hW hQ htab hr hx (c_X11_checkNotEmpty l htr D cy ad xN_2    (by omega)) (jgo wm_X11_113) yk_X11_checkNotEmpty hO rfl rfl ⟨⟨rfl, rfl⟩, by decide, by decide⟩ rfl hl.1 rfl (Nat.le_of_ble_eq_true rfl) dX11_addBound_7 ⟨Nat.le_of_ble_eq_true rfl, Nat.le_of_ble_eq_true rfl⟩ ⟨by decide, by decide⟩ (fun E u h => by obtain ⟨⟨e1, h⟩, e⟩ := h; exact ⟨Or.inl ⟨e1, Or.inr (Or.inl (by rw [h]))⟩, e⟩) (fun v u H locs hp hW => ?_)
  obtain ⟨rfl, hp7_0, rfl⟩ := hp
  refine W.eq (g2 := F0 m 10 ls []) rfl ?_
  refine lv_iload_n S.1 S.2.1 dX11_addBound_10 rfl (lv_at hl 2 rfl) ?_
  refine lv_if_lt (tgt := 25) S.1 S.2.1 dX11_addBound_11 (by decide) (fun c_11 => ?_) (fun c_11 => ?_)
  · subst hQ
    obtain ⟨sa, hsa⟩ := hx.2.1 (133, "the numbers are not from 0 to 10, or the least is greater") (by decide)
    exact jx_throw (text := "the numbers are not from 0 to 10, or the least is greater") (names := jNm) (sa := sa) S htr jfit_105 jfit_n wcl_X11_101 wini_java_lang_IllegalArgumentException vxg_105 vxn_105 vxh_105 (by decide) hsa hx hK hW hl.1 htab hr.2.1 ⟨by decide, by decide, by decide, by decide⟩ ⟨by decide, by decide⟩ dX11_addBound_25 dX11_addBound_28 dX11_addBound_29 dX11_addBound_31 dX11_addBound_34 (⟨Or.inl ⟨rfl, Or.inr (Or.inr (by first | exact bdB_1 c_11 | exact bdB_2 c_17 | exact bdB_3 (by first | exact c_22 | exact fun q => c_22 q)))⟩, rfl⟩)
  · refine lv_iload_n S.1 S.2.1 dX11_addBound_14 rfl (lv_at hl 3 rfl) ?_
    refine lv_bipush (v := nI 10) S.1 S.2.1 dX11_addBound_15 (by decide) ?_
    refine lv_icmp_gt (tgt := 25) S.1 S.2.1 dX11_addBound_17 (by decide) (fun c_17 => ?_) (fun c_17 => ?_)
    · subst hQ
      obtain ⟨sa, hsa⟩ := hx.2.1 (133, "the numbers are not from 0 to 10, or the least is greater") (by decide)
      exact jx_throw (text := "the numbers are not from 0 to 10, or the least is greater") (names := jNm) (sa := sa) S htr jfit_105 jfit_n wcl_X11_101 wini_java_lang_IllegalArgumentException vxg_105 vxn_105 vxh_105 (by decide) hsa hx hK hW hl.1 htab hr.2.1 ⟨by decide, by decide, by decide, by decide⟩ ⟨by decide, by decide⟩ dX11_addBound_25 dX11_addBound_28 dX11_addBound_29 dX11_addBound_31 dX11_addBound_34 (⟨Or.inl ⟨rfl, Or.inr (Or.inr (by first | exact bdB_1 c_11 | exact bdB_2 c_17 | exact bdB_3 (by first | exact c_22 | exact fun q => c_22 q)))⟩, rfl⟩)
    · refine lv_iload_n S.1 S.2.1 dX11_addBound_20 rfl (lv_at hl 2 rfl) ?_
      refine lv_iload_n S.1 S.2.1 dX11_addBound_21 rfl (lv_at hl 3 rfl) ?_
      refine lv_icmp_le (tgt := 35) S.1 S.2.1 dX11_addBound_22 (by decide) (fun c_22 => ?_) (fun c_22 => ?_)
      · obtain ⟨b1, b2, hb1, hb2, rfl, rfl⟩ := bdB_t (bdB_ok c_11 (by first | exact c_17 | exact i32_le.mp c_17) c_22)
        refine lv_aload_n S.1 S.2.1 dX11_addBound_35 rfl (lv_at hl 0 rfl) ?_
        refine jx_callq (k := 0) (ci := 10) (q := (RX11, TX11, 15)) (As := []) (rest := []) S hK hA hW hQ htab hr hx (c_X11_checkRoom l htr D cy ad n sd se fr nc lv tf hO hC hT   (hnc)) (jgo wm_X11_116) yk_X11_checkRoom hO rfl rfl ⟨⟨rfl, rfl⟩, by decide, by decide⟩ rfl hl.1 rfl (Nat.le_of_ble_eq_true rfl) dX11_addBound_36 ⟨Nat.le_of_ble_eq_true rfl, Nat.le_of_ble_eq_true rfl⟩ ⟨by decide, by decide⟩ (fun E u h => by obtain ⟨⟨e1, h⟩, e⟩ := h; exact ⟨Or.inr (⟨e1, ⟨h, xN_2, b1, b2, hp2_0, hb1, hb2, rfl, rfl, rfl, hp7_0⟩⟩), e⟩) (fun v u H locs hp hW => ?_)
        obtain ⟨rfl, hp36_0, rfl⟩ := hp
        refine W.eq (g2 := F0 m 39 ls []) rfl ?_
        refine lv_aload_n S.1 S.2.1 dX11_addBound_39 rfl (lv_at hl 0 rfl) ?_
        refine j_newL (C := RX1) (T := TX1) (N := 4) (ci := 1) (fs := [.int 0, .int 0, .int 0, .int 0]) S (fun w h => List.mem_cons_of_mem _ (inG1 w h)) tyX1 tyX1_ok (List.mem_cons_of_mem _ wcl_X11_135) (List.mem_cons_of_mem _ wmk_X1) (List.mem_cons_of_mem _ wini_X1) hK hA hW hlen rfl (by decide +kernel) (Nat.le_of_ble_eq_true rfl) (Nat.le_of_ble_eq_true rfl) dX11_addBound_40 (fun q_1 H w_ hU1 hN1 hlen hW => ?_)
        have hU : jU w w_ [0, 9, 10, nL] := jU.mono hU1 (by first | (simp; done) | (simp; omega))
        have hO_ := hU1.get hO (by first | (simp; done) | (simp; omega))
        have hC_ := hU1.get hC (by first | (simp; done) | (simp; omega))
        have hT_ := hU1.get hT (by first | (simp; done) | (simp; omega))
        have hO2_ : w_[nL]? = some (q_1, .inr (1, [.int (nI 0), .int (nI 0), .int (nI 0), .int (nI 0)])) := hN1
        clear hU1 hN1
        refine lv_dup S.1 S.2.1 dX11_addBound_43 rfl ?_
        refine lv_iload_n S.1 S.2.1 dX11_addBound_44 rfl (lv_at hl 1 rfl) ?_
        refine lv_iload_n S.1 S.2.1 dX11_addBound_45 rfl (lv_at hl 2 rfl) ?_
        refine lv_iload_n S.1 S.2.1 dX11_addBound_46 rfl (lv_at hl 3 rfl) ?_
        refine j_callI (As := [.int (nI xN_2), .int (nI b1), .int (nI b2)]) (rest := [.ref q_1, .ref (ad 0)]) S hK hA hW (c_X1_init l D cy nL q_1 xN_2 b1 b2 hO2_   ) wm_X11_137 yk_X1_init ⟨⟨rfl, rfl⟩, by decide, by decide⟩ rfl hl.1 rfl (Nat.le_of_ble_eq_true rfl) dX11_addBound_47 ⟨Nat.le_of_ble_eq_true rfl, Nat.le_of_ble_eq_true rfl⟩ (fun v w_ H locs hp hW => ?_)
        obtain ⟨rfl, hU1, hN1⟩ := hp
        have hU := hU.then hU1 (by first | (simp; done) | (simp; omega))
        have hO_ := hU1.get hO_ (by first | (simp; done) | (simp; omega))
        have hC_ := hU1.get hC_ (by first | (simp; done) | (simp; omega))
        have hT_ := hU1.get hT_ (by first | (simp; done) | (simp; omega))
        have hO2_ : w_[nL]? = some (q_1, .inr (1, [.int (nI 107), .int (nI xN_2), .int (nI b1), .int (nI b2)])) := hN1
        clear hU1 hN1
        refine W.eq (g2 := F0 m 50 ls [.ref q_1, .ref (ad 0)]) rfl ?_
        have okq : okC (107, xN_2, 0, b1, b2) := ⟨Or.inr (Or.inr rfl), by show xN_2 < 1024; omega, (by decide : 0 < 1024), by show b1 < 1024; omega, by show b2 < 1024; omega⟩
        have hmb : mbs (107, xN_2, 0, b1, b2) = xN_2 := Nat.or_zero _
        refine j_callV (k := 0) (ci := 10) (q := (RX11, TX11, 15)) (As := [.ref q_1]) (rest := []) S hK hA hW (c_X11_tell l D cy ad n sd se fr nc lv tf nL q_1 (107, xN_2, 0, b1, b2) hO_ hC_ hT_   (by omega) (by rw [cobj_k rfl, hmb]; exact hO2_) (okq) (by omega)) (jgo wm_X11_123) yk_X11_tell hO_ rfl rfl ⟨⟨rfl, rfl⟩, by decide, by decide⟩ rfl hl.1 rfl (Nat.le_of_ble_eq_true rfl) dX11_addBound_50 ⟨Nat.le_of_ble_eq_true rfl, Nat.le_of_ble_eq_true rfl⟩ (fun v w_ H locs hp hW => ?_)
        obtain ⟨rfl, hU1, hN1, hN2, hN3⟩ := hp
        have hU := hU.then hU1 (by first | (simp; done) | (simp; omega))
        have hO2_ := hU1.get hO2_ (by first | (simp; done) | (simp; omega))
        have hO_ : w_[0]? = some (ad 0, .inr (10, [.int (nI n), .ref (ad 1), .ref (ad 3), .ref (ad 5), .int (nI sd), .int (nI se), .ref (ad 7), .ref (ad 9), .ref (ad 11), .ref (ad 20), .int (bI false), .ref (ad 23), .ref (ad 26), .ref (ad 31), .ref (ad 42)])) := hN1
        have hC_ : w_[9]? = some (ad 9, .inr (4, [.ref (ad 10), .int (nI (nc + 1)), .int (nI (lv ||| 2 ^ nc))])) := hN2
        have hT_ : w_[10]? = some (ad 10, .inl (cy 5, 20, .inr (.inr (.inr (.inr (va_up tf nc (some q_1))))))) := hN3
        clear hU1 hN1 hN2 hN3
        refine W.eq (g2 := F0 m 53 ls [.int (nI nc)]) rfl ?_
        subst hQ
        refine vx_ret ?_
        exact j_iret (u := w_) S hr (rfl) hK hW dX11_addBound_53 ⟨by decide, by decide⟩ (⟨xN_2, b1, b2, _, rfl, by omega, hp2_0, rfl, hb1, hb2, rfl, rfl, hp7_0, by rw [cobj_k rfl, hmb]; exact hO2_, (jU.low hU hlen0 (by first | (simp; done) | (simp; omega))), hO_, hC_, hT_⟩)
      · subst hQ
        obtain ⟨sa, hsa⟩ := hx.2.1 (133, "the numbers are not from 0 to 10, or the least is greater") (by decide)
        exact jx_throw (text := "the numbers are not from 0 to 10, or the least is greater") (names := jNm) (sa := sa) S htr jfit_105 jfit_n wcl_X11_101 wini_java_lang_IllegalArgumentException vxg_105 vxn_105 vxh_105 (by decide) hsa hx hK hW hl.1 htab hr.2.1 ⟨by decide, by decide, by decide, by decide⟩ ⟨by decide, by decide⟩ dX11_addBound_25 dX11_addBound_28 dX11_addBound_29 dX11_addBound_31 dX11_addBound_34 (⟨Or.inl ⟨rfl, Or.inr (Or.inr (by first | exact bdB_1 c_11 | exact bdB_2 c_17 | exact bdB_3 (by first | exact c_22 | exact fun q => c_22 q)))⟩, rfl⟩)
/-- drop -/
theorem c_X11_drop (l : Launch) (htr : l.stackTraces = false) (D : va_G) (cy : Nat → ClassId) {w : va_W} (ad : Nat → Nat) (n sd se : Nat) (fr : Bool) (nc lv : Nat) (tf : Nat → Option Nat) (cp ca : Nat → Nat) (cs : Nat → CN) (v : Int32) (hO : w[0]? = some (ad 0, .inr (10, [.int (nI n), .ref (ad 1), .ref (ad 3), .ref (ad 5), .int (nI sd), .int (nI se), .ref (ad 7), .ref (ad 9), .ref (ad 11), .ref (ad 20), .int (bI fr), .ref (ad 23), .ref (ad 26), .ref (ad 31), .ref (ad 42)]))) (hC : w[9]? = some (ad 9, .inr (4, [.ref (ad 10), .int (nI nc), .int (nI lv)]))) (hT : w[10]? = some (ad 10, .inl (cy 5, 20, .inr (.inr (.inr (.inr tf)))))) (hcon : conOK w nc tf cp ca cs) (hn : n ≤ 10) (hlv : lv < 2 ^ 20) : jMx jTexts l yX11_drop (jws yX11_drop cX11_drop 2 (some .int)) (jR 9 2 12) D cy w [.ref (ad 0), .int v] 2 12 (fun vv uu => ∃ (j : Nat), vv = some (.int (nI (cnt (nAnd lv (2 ^ j)).testBit 32))) ∧ j < nc ∧ v = nI j ∧ lv.testBit j = true ∧ jU w uu [0, 9] ∧ uu[0]? = some (ad 0, .inr (10, [.int (nI n), .ref (ad 1), .ref (ad 3), .ref (ad 5), .int (nI sd), .int (nI se), .ref (ad 7), .ref (ad 9), .ref (ad 11), .ref (ad 20), .int (bI false), .ref (ad 23), .ref (ad 26), .ref (ad 31), .ref (ad 42)])) ∧ uu[9]? = some (ad 9, .inr (4, [.ref (ad 10), .int (nI nc), .int (nI (nAnd lv (2 ^ j)))]))) (fun EE uu => ((EE = "java/lang/IndexOutOfBoundsException" ∧ (vB v nc = false)) ∨ (EE = "java/lang/IllegalStateException" ∧ (∃ j, j < nc ∧ v = nI j ∧ lv.testBit j = false))) ∧ w = uu) := by
  have hm20 := hcon.1
  refine jx_of (by decide) rfl (Nat.le_of_ble_eq_true rfl) ?_
  intro p e s m args below meth c A ls Q hQ S hr hK hA H locs hW hl htab hx
  have hl : lv_has ls 2 [(0, .ref (ad 0)), (1, .int v)] := hl
  rcases i_cases v nc (by have := hcon.1; omega) with ⟨j, hj, rfl⟩ | hv
  · refine lv_aload_n S.1 S.2.1 dX11_drop_0 rfl (lv_at hl 0 rfl) ?_
    refine lv_iload_n S.1 S.2.1 dX11_drop_1 rfl (lv_at hl 1 rfl) ?_
    refine j_callV (k := 0) (ci := 10) (q := (RX11, TX11, 15)) (As := [.int (nI j)]) (rest := []) S hK hA hW (c_X11_constraintAtY l D cy ad n sd se fr nc lv tf cp ca cs j hO hC hT hcon  (by omega)) (jgo wm_X11_140) yk_X11_constraintAt hO rfl rfl ⟨⟨rfl, rfl⟩, by decide, by decide⟩ rfl hl.1 rfl (Nat.le_of_ble_eq_true rfl) dX11_drop_2 ⟨Nat.le_of_ble_eq_true rfl, Nat.le_of_ble_eq_true rfl⟩ (fun v u H locs hp hW => ?_)
    obtain ⟨rfl, rfl⟩ := hp
    refine W.eq (g2 := F0 m 5 ls [.ref (ca j)]) rfl ?_
    refine lv_pop S.1 S.2.1 dX11_drop_5 rfl ?_
    refine lv_aload_n S.1 S.2.1 dX11_drop_6 rfl (lv_at hl 0 rfl) ?_
    refine j_get (ci := 10) (C := RX11) (T := TX11) (N := 15) (v := .ref (ad 9)) S (fun w h => List.mem_cons_of_mem _ (inG11 w h)) hK hW hO rfl 7 (by decide) (List.mem_cons_of_mem _ wfl_X11_34) (fun _ h9 => h9) rfl dX11_drop_7 ?_
    refine lv_iload_n S.1 S.2.1 dX11_drop_10 rfl (lv_at hl 1 rfl) ?_
    refine j_callV (k := 9) (ci := 4) (q := (RX5, TX5, 3)) (As := [.int (nI j)]) (rest := []) S hK hA hW (c_X5_isLive l D cy ad nc lv tf cp ca cs j hC hT hcon  (by omega) (by omega)) (jgo wm_X11_144) yk_X5_isLive hC rfl rfl ⟨⟨rfl, rfl⟩, by decide, by decide⟩ rfl hl.1 rfl (Nat.le_of_ble_eq_true rfl) dX11_drop_11 ⟨Nat.le_of_ble_eq_true rfl, Nat.le_of_ble_eq_true rfl⟩ (fun v u H locs hp hW => ?_)
    obtain ⟨rfl, rfl⟩ := hp
    refine W.eq (g2 := F0 m 14 ls [.int (bI (lv.testBit j))]) rfl ?_
    refine jb_if_ne (tgt := 27) S dX11_drop_14 (by decide) (fun c_14 => ?_) (fun c_14 => ?_)
    · refine lv_aload_n S.1 S.2.1 dX11_drop_27 rfl (lv_at hl 0 rfl) ?_
      refine j_get (ci := 10) (C := RX11) (T := TX11) (N := 15) (v := .ref (ad 9)) S (fun w h => List.mem_cons_of_mem _ (inG11 w h)) hK hW hO rfl 7 (by decide) (List.mem_cons_of_mem _ wfl_X11_34) (fun _ h9 => h9) rfl dX11_drop_28 ?_
      refine lv_iload_n S.1 S.2.1 dX11_drop_31 rfl (lv_at hl 1 rfl) ?_
      refine j_callV (k := 9) (ci := 4) (q := (RX5, TX5, 3)) (As := [.int (nI j)]) (rest := []) S hK hA hW (c_X5_strike l D cy ad nc lv tf j hC hT   (by omega)) (jgo wm_X11_150) yk_X5_strike hC rfl rfl ⟨⟨rfl, rfl⟩, by decide, by decide⟩ rfl hl.1 rfl (Nat.le_of_ble_eq_true rfl) dX11_drop_32 ⟨Nat.le_of_ble_eq_true rfl, Nat.le_of_ble_eq_true rfl⟩ (fun v w_ H locs hp hW => ?_)
      obtain ⟨rfl, hU1, hN1⟩ := hp
      have hU : jU w w_ [0, 9] := jU.mono hU1 (by decide)
      have hO_ := hU1.get hO (by decide)
      have hC_ : w_[9]? = some (ad 9, .inr (4, [.ref (ad 10), .int (nI nc), .int (nI (nAnd lv (2 ^ j)))])) := hN1
      clear hU1 hN1
      refine W.eq (g2 := F0 m 35 ls []) rfl ?_
      refine lv_aload_n S.1 S.2.1 dX11_drop_35 rfl (lv_at hl 0 rfl) ?_
      refine lv_iconst (v := nI 0) S.1 S.2.1 dX11_drop_36 (by decide) ?_
      refine j_put (ci := 10) (C := RX11) (T := TX11) (N := 15) (ty := .boolean) S (fun w h => List.mem_cons_of_mem _ (inG11 w h)) tyX11 tyX11_ok nmX11 hK hW hO_ rfl 10 (by decide) (List.mem_cons_of_mem _ wfl_X11_94) (fun _ h9 => h9) rfl (by decide +kernel) (rfl) (rfl) (Nat.le_of_ble_eq_true rfl) dX11_drop_37 (fun H locs w_ hU1 hN1 hW => ?_)
      have hU := hU.then hU1 (by decide)
      have hC_ := hU1.get hC_ (by decide)
      have hO_ : w_[0]? = some (ad 0, .inr (10, [.int (nI n), .ref (ad 1), .ref (ad 3), .ref (ad 5), .int (nI sd), .int (nI se), .ref (ad 7), .ref (ad 9), .ref (ad 11), .ref (ad 20), .int (nI 0), .ref (ad 23), .ref (ad 26), .ref (ad 31), .ref (ad 42)])) := hN1
      clear hU1 hN1
      refine lv_aload_n S.1 S.2.1 dX11_drop_40 rfl (lv_at hl 0 rfl) ?_
      refine j_get (ci := 10) (C := RX11) (T := TX11) (N := 15) (v := .ref (ad 9)) S (fun w h => List.mem_cons_of_mem _ (inG11 w h)) hK hW hO_ rfl 7 (by decide) (List.mem_cons_of_mem _ wfl_X11_34) (fun _ h9 => h9) rfl dX11_drop_41 ?_
      refine j_callV (k := 9) (ci := 4) (q := (RX5, TX5, 3)) (As := []) (rest := []) S hK hA hW (c_X5_live l D cy ad nc (nAnd lv (2 ^ j)) tf hC_ (hU.get hT (by decide))   ) (jgo wm_X11_153) yk_X5_live hC_ rfl rfl ⟨⟨rfl, rfl⟩, by decide, by decide⟩ rfl hl.1 rfl (Nat.le_of_ble_eq_true rfl) dX11_drop_44 ⟨Nat.le_of_ble_eq_true rfl, Nat.le_of_ble_eq_true rfl⟩ (fun v u H locs hp hW => ?_)
      obtain ⟨rfl, rfl⟩ := hp
      refine W.eq (g2 := F0 m 47 ls [.int (nI (nAnd lv (2 ^ j)))]) rfl ?_
      refine j_callJ (As := [.int (nI (nAnd lv (2 ^ j)))]) (rest := []) S hK hA hW (c_J6_bitCount_0f7a4 l D cy (nAnd lv (2 ^ j))    (by have := nAnd_le lv (2 ^ j); omega)) (jgo wm_X11_157) yk_J6_bitCount_0f7a4 ⟨⟨rfl, rfl⟩, by decide, by decide⟩ rfl hl.1 rfl (Nat.le_of_ble_eq_true rfl) dX11_drop_47 ⟨Nat.le_of_ble_eq_true rfl, Nat.le_of_ble_eq_true rfl⟩ (fun v u H locs hp hW => ?_)
      obtain ⟨rfl, rfl⟩ := hp
      refine W.eq (g2 := F0 m 50 ls [.int (nI (cnt (nAnd lv (2 ^ j)).testBit 32))]) rfl ?_
      subst hQ
      refine vx_ret ?_
      exact j_iret (u := w_) S hr (rfl) hK hW dX11_drop_50 ⟨by decide, by decide⟩ (⟨j, rfl, hj, rfl, c_14, hU, hO_, hC_⟩)
    · subst hQ
      obtain ⟨sa, hsa⟩ := hx.2.1 (148, "the constraint was dropped") (by decide)
      exact jx_throw (text := "the constraint was dropped") (names := jNm) (sa := sa) S htr jfit_85 jfit_n wcl_X11_81 wini_java_lang_IllegalStateException vxg_85 vxn_85 vxh_85 (by decide) hsa hx hK hW hl.1 htab hr.2.1 ⟨by decide, by decide, by decide, by decide⟩ ⟨by decide, by decide⟩ dX11_drop_17 dX11_drop_20 dX11_drop_21 dX11_drop_23 dX11_drop_26 (⟨Or.inr (⟨rfl, ⟨j, hj, rfl, c_14⟩⟩), rfl⟩)
  · have hv := vB_f hv
    refine lv_aload_n S.1 S.2.1 dX11_drop_0 rfl (lv_at hl 0 rfl) ?_
    refine lv_iload_n S.1 S.2.1 dX11_drop_1 rfl (lv_at hl 1 rfl) ?_
    refine jx_callq (k := 0) (ci := 10) (q := (RX11, TX11, 15)) (As := [.int v]) (rest := []) S hK hA hW hQ htab hr hx (c_X11_constraintAtN l htr D cy ad n sd se fr nc lv tf cp ca cs v hO hC hT hcon  (hv)) (jgo wm_X11_140) yk_X11_constraintAt hO rfl rfl ⟨⟨rfl, rfl⟩, by decide, by decide⟩ rfl hl.1 rfl (Nat.le_of_ble_eq_true rfl) dX11_drop_2 ⟨Nat.le_of_ble_eq_true rfl, Nat.le_of_ble_eq_true rfl⟩ ⟨by decide, by decide⟩ (fun E u h => by obtain ⟨⟨e1, h⟩, e⟩ := h; exact ⟨Or.inl ⟨e1, h⟩, e⟩) (fun v u H locs hp hW => ?_)
    obtain ⟨rfl, hp2_0, rfl⟩ := hp
    refine W.eq (g2 := F0 m 5 ls []) rfl ?_
    exact hp2_0.elim
/-- kind -/
theorem c_X11_kind (l : Launch) (htr : l.stackTraces = false) (D : va_G) (cy : Nat → ClassId) {w : va_W} (ad : Nat → Nat) (n sd se : Nat) (fr : Bool) (nc lv : Nat) (tf : Nat → Option Nat) (cp ca : Nat → Nat) (cs : Nat → CN) (v : Int32) (hO : w[0]? = some (ad 0, .inr (10, [.int (nI n), .ref (ad 1), .ref (ad 3), .ref (ad 5), .int (nI sd), .int (nI se), .ref (ad 7), .ref (ad 9), .ref (ad 11), .ref (ad 20), .int (bI fr), .ref (ad 23), .ref (ad 26), .ref (ad 31), .ref (ad 42)]))) (hC : w[9]? = some (ad 9, .inr (4, [.ref (ad 10), .int (nI nc), .int (nI lv)]))) (hT : w[10]? = some (ad 10, .inl (cy 5, 20, .inr (.inr (.inr (.inr tf)))))) (hcon : conOK w nc tf cp ca cs) (hn : n ≤ 10) : jMx jTexts l yX11_kind (jws yX11_kind cX11_kind 2 (some .char)) (jR 9 1 6) D cy w [.ref (ad 0), .int v] 1 6 (fun vv uu => ∃ (j : Nat), vv = some (.int (nI ((cs j).1))) ∧ j < nc ∧ v = nI j ∧ w = uu) (fun EE uu => ((EE = "java/lang/IndexOutOfBoundsException" ∧ (vB v nc = false))) ∧ w = uu) := by
  have hm20 := hcon.1
  refine jx_of (by decide) rfl (Nat.le_of_ble_eq_true rfl) ?_
  intro p e s m args below meth c A ls Q hQ S hr hK hA H locs hW hl htab hx
  have hl : lv_has ls 2 [(0, .ref (ad 0)), (1, .int v)] := hl
  rcases i_cases v nc (by have := hcon.1; omega) with ⟨j, hj, rfl⟩ | hv
  · refine lv_aload_n S.1 S.2.1 dX11_kind_0 rfl (lv_at hl 0 rfl) ?_
    refine lv_iload_n S.1 S.2.1 dX11_kind_1 rfl (lv_at hl 1 rfl) ?_
    refine j_callV (k := 0) (ci := 10) (q := (RX11, TX11, 15)) (As := [.int (nI j)]) (rest := []) S hK hA hW (c_X11_constraintAtY l D cy ad n sd se fr nc lv tf cp ca cs j hO hC hT hcon  (by omega)) (jgo wm_X11_140) yk_X11_constraintAt hO rfl rfl ⟨⟨rfl, rfl⟩, by decide, by decide⟩ rfl hl.1 rfl (Nat.le_of_ble_eq_true rfl) dX11_kind_2 ⟨Nat.le_of_ble_eq_true rfl, Nat.le_of_ble_eq_true rfl⟩ (fun v u H locs hp hW => ?_)
    obtain ⟨rfl, rfl⟩ := hp
    refine W.eq (g2 := F0 m 5 ls [.ref (ca j)]) rfl ?_
    refine j_sign (k := cp j) (cn := cs j) S hK hW (hcon.2.2.2 j (by omega)).2.1 (hcon.2.2.2 j (by omega)).2.2 wfl_X11_162 dX11_kind_5 ?_
    subst hQ
    refine vx_ret ?_
    exact j_iret (u := w) S hr ((pk_charN (by rcases (hcon.2.2.2 j hj).2.2.1 with q | q | q <;> omega)).1) hK hW dX11_kind_8 ⟨by decide, by decide⟩ (⟨j, rfl, hj, rfl, rfl⟩)
  · have hv := vB_f hv
    refine lv_aload_n S.1 S.2.1 dX11_kind_0 rfl (lv_at hl 0 rfl) ?_
    refine lv_iload_n S.1 S.2.1 dX11_kind_1 rfl (lv_at hl 1 rfl) ?_
    refine jx_callq (k := 0) (ci := 10) (q := (RX11, TX11, 15)) (As := [.int v]) (rest := []) S hK hA hW hQ htab hr hx (c_X11_constraintAtN l htr D cy ad n sd se fr nc lv tf cp ca cs v hO hC hT hcon  (hv)) (jgo wm_X11_140) yk_X11_constraintAt hO rfl rfl ⟨⟨rfl, rfl⟩, by decide, by decide⟩ rfl hl.1 rfl (Nat.le_of_ble_eq_true rfl) dX11_kind_2 ⟨Nat.le_of_ble_eq_true rfl, Nat.le_of_ble_eq_true rfl⟩ ⟨by decide, by decide⟩ (fun E u h => by obtain ⟨⟨e1, h⟩, e⟩ := h; exact ⟨⟨e1, h⟩, e⟩) (fun v u H locs hp hW => ?_)
    obtain ⟨rfl, hp2_0, rfl⟩ := hp
    refine W.eq (g2 := F0 m 5 ls []) rfl ?_
    exact hp2_0.elim
/-- holds -/
theorem c_X11_holds (l : Launch) (htr : l.stackTraces = false) (D : va_G) (cy : Nat → ClassId) {w : va_W} (ad : Nat → Nat) (n sd se : Nat) (fr : Bool) (nc lv : Nat) (tf : Nat → Option Nat) (cp ca : Nat → Nat) (cs : Nat → CN) (v a : Int32) (hO : w[0]? = some (ad 0, .inr (10, [.int (nI n), .ref (ad 1), .ref (ad 3), .ref (ad 5), .int (nI sd), .int (nI se), .ref (ad 7), .ref (ad 9), .ref (ad 11), .ref (ad 20), .int (bI fr), .ref (ad 23), .ref (ad 26), .ref (ad 31), .ref (ad 42)]))) (hC : w[9]? = some (ad 9, .inr (4, [.ref (ad 10), .int (nI nc), .int (nI lv)]))) (hT : w[10]? = some (ad 10, .inl (cy 5, 20, .inr (.inr (.inr (.inr tf)))))) (hcon : conOK w nc tf cp ca cs) (hn : n ≤ 10) : jMx jTexts l yX11_holds (jws yX11_holds cX11_holds 4 (some .boolean)) (jR 9 1 6) D cy w [.ref (ad 0), .int v, .int a] 1 6 (fun vv uu => ∃ (j : Nat), ∃ (x : Nat), vv = some (.int (bI (heldC (cs j) x))) ∧ j < nc ∧ v = nI j ∧ x < 2 ^ n ∧ a = nI x ∧ w = uu) (fun EE uu => ((EE = "java/lang/IndexOutOfBoundsException" ∧ (vB v nc = false)) ∨ (EE = "java/lang/IllegalArgumentException" ∧ ((∃ j, j < nc ∧ v = nI j) ∧ vB a (2 ^ n) = false))) ∧ w = uu) := by
  have hm20 := hcon.1
  have hpn := two_pow10 hn
  refine jx_of (by decide) rfl (Nat.le_of_ble_eq_true rfl) ?_
  intro p e s m args below meth c A ls Q hQ S hr hK hA H locs hW hl htab hx
  have hl : lv_has ls 4 [(0, .ref (ad 0)), (1, .int v), (2, .int a)] := hl
  rcases i_cases v nc (by have := hcon.1; omega) with ⟨j, hj, rfl⟩ | hv
  · refine lv_aload_n S.1 S.2.1 dX11_holds_0 rfl (lv_at hl 0 rfl) ?_
    refine lv_iload_n S.1 S.2.1 dX11_holds_1 rfl (lv_at hl 1 rfl) ?_
    refine j_callV (k := 0) (ci := 10) (q := (RX11, TX11, 15)) (As := [.int (nI j)]) (rest := []) S hK hA hW (c_X11_constraintAtY l D cy ad n sd se fr nc lv tf cp ca cs j hO hC hT hcon  (by omega)) (jgo wm_X11_140) yk_X11_constraintAt hO rfl rfl ⟨⟨rfl, rfl⟩, by decide, by decide⟩ rfl hl.1 rfl (Nat.le_of_ble_eq_true rfl) dX11_holds_2 ⟨Nat.le_of_ble_eq_true rfl, Nat.le_of_ble_eq_true rfl⟩ (fun v u H locs hp hW => ?_)
    obtain ⟨rfl, rfl⟩ := hp
    refine W.eq (g2 := F0 m 5 ls [.ref (ca j)]) rfl ?_
    refine lv_astore_n (lv' := [(3, .ref (ca j)), (0, .ref (ad 0)), (1, .int (nI j)), (2, .int a)]) S.1 S.2.1 dX11_holds_5 rfl hl (by decide) rfl (fun ls hl => ?_)
    refine lv_aload_n S.1 S.2.1 dX11_holds_6 rfl (lv_at hl 1 rfl) ?_
    refine lv_iload_n S.1 S.2.1 dX11_holds_7 rfl (lv_at hl 3 rfl) ?_
    refine jx_callq (k := 0) (ci := 10) (q := (RX11, TX11, 15)) (As := [.int a]) (rest := []) S hK hA hW hQ htab hr hx (c_X11_checkSet l htr D cy ad n sd se fr a hO   (by omega)) (jgo wm_X11_110) yk_X11_checkSet hO rfl rfl ⟨⟨rfl, rfl⟩, by decide, by decide⟩ rfl hl.1 rfl (Nat.le_of_ble_eq_true rfl) dX11_holds_8 ⟨Nat.le_of_ble_eq_true rfl, Nat.le_of_ble_eq_true rfl⟩ ⟨by decide, by decide⟩ (fun E u h => by obtain ⟨⟨e1, h⟩, e⟩ := h; exact ⟨Or.inr (⟨e1, ⟨⟨j, hj, rfl⟩, h⟩⟩), e⟩) (fun v u H locs hp hW => ?_)
    obtain ⟨xN_8, rfl, hp8_0, hp8_1, rfl⟩ := hp
    refine W.eq (g2 := F0 m 11 ls []) rfl ?_
    subst hp8_1
    refine lv_aload_n S.1 S.2.1 dX11_holds_11 rfl (lv_at hl 0 rfl) ?_
    refine lv_iload_n S.1 S.2.1 dX11_holds_12 rfl (lv_at hl 3 rfl) ?_
    refine j_met (k := cp j) (cn := cs j) (rest := []) S hK hA hW (hcon.2.2.2 j (by omega)).2.1 (hcon.2.2.2 j (by omega)).2.2 (by omega) wmA_X11_179_X3 wmA_X11_179_X8 wmA_X11_179_X1 ⟨Nat.le_of_ble_eq_true rfl, Nat.le_of_ble_eq_true rfl⟩ hl.1 (Nat.le_of_ble_eq_true rfl) dX11_holds_13 ⟨Nat.le_of_ble_eq_true rfl, Nat.le_of_ble_eq_true rfl⟩ (fun H locs hW => ?_)
    subst hQ
    refine vx_ret ?_
    exact j_iret (u := w) S hr (bI_nar _) hK hW dX11_holds_16 ⟨by decide, by decide⟩ (⟨j, xN_8, rfl, hj, rfl, hp8_0, rfl, rfl⟩)
  · have hv := vB_f hv
    refine lv_aload_n S.1 S.2.1 dX11_holds_0 rfl (lv_at hl 0 rfl) ?_
    refine lv_iload_n S.1 S.2.1 dX11_holds_1 rfl (lv_at hl 1 rfl) ?_
    refine jx_callq (k := 0) (ci := 10) (q := (RX11, TX11, 15)) (As := [.int v]) (rest := []) S hK hA hW hQ htab hr hx (c_X11_constraintAtN l htr D cy ad n sd se fr nc lv tf cp ca cs v hO hC hT hcon  (hv)) (jgo wm_X11_140) yk_X11_constraintAt hO rfl rfl ⟨⟨rfl, rfl⟩, by decide, by decide⟩ rfl hl.1 rfl (Nat.le_of_ble_eq_true rfl) dX11_holds_2 ⟨Nat.le_of_ble_eq_true rfl, Nat.le_of_ble_eq_true rfl⟩ ⟨by decide, by decide⟩ (fun E u h => by obtain ⟨⟨e1, h⟩, e⟩ := h; exact ⟨Or.inl ⟨e1, h⟩, e⟩) (fun v u H locs hp hW => ?_)
    obtain ⟨rfl, hp2_0, rfl⟩ := hp
    refine W.eq (g2 := F0 m 5 ls []) rfl ?_
    exact hp2_0.elim
