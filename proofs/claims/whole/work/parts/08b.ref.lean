/-! THE REFERENCE: constraints and evidence (laid by wip/whole/tools, from the specs there) -/
/-! THE REFERENCE: constraints, models, weights -/
theorem ck_upd (cs : Nat → CN) (m : Nat) (c : CN) : upd (nf (ckd cs)) m (nI c.1) = nf (ckd (upB cs m c)) := by
  funext j; unfold upd nf ckd upB; split <;> rfl
theorem cs_upd (cs : Nat → CN) (m : Nat) (c : CN) : upd (nf (cst cs)) m (nI c.2.1) = nf (cst (upB cs m c)) := by
  funext j; unfold upd nf cst upB; split <;> rfl
theorem co_upd (cs : Nat → CN) (m : Nat) (c : CN) : upd (nf (cot cs)) m (nI c.2.2.1) = nf (cot (upB cs m c)) := by
  funext j; unfold upd nf cot upB; split <;> rfl
theorem cl_upd (cs : Nat → CN) (m : Nat) (c : CN) : upd (nf (cle cs)) m (nI c.2.2.2.1) = nf (cle (upB cs m c)) := by
  funext j; unfold upd nf cle upB; split <;> rfl
theorem cg_upd (cs : Nat → CN) (m : Nat) (c : CN) : upd (nf (cgr cs)) m (nI c.2.2.2.2) = nf (cgr (upB cs m c)) := by
  funext j; unfold upd nf cgr upB; split <;> rfl
theorem mbs_0 {c : CN} (h : c.2.2.1 = 0) : mbs c = c.2.1 := by unfold mbs; rw [h, Nat.or_zero]
theorem held_t1 {c : CN} {a : Nat} (h : c.1 = 111) (h1 : c.2.1 &&& a ≠ 0) : heldC c a = true := by
  rw [held_o h]; exact decide_eq_true (fun q => h1 (by rw [Nat.and_comm]; exact (or_0.mp q).1))
theorem held_t2 {c : CN} {a : Nat} (h : c.1 = 111) (h1 : nAnd c.2.2.1 a ≠ 0) : heldC c a = true := by
  rw [held_o h]; exact decide_eq_true (fun q => h1 (or_0.mp q).2)
theorem held_f {c : CN} {a : Nat} (h : c.1 = 111) (h1 : c.2.1 &&& a = 0) (h2 : nAnd c.2.2.1 a = 0) : heldC c a = false := by
  rw [held_o h]; exact decide_eq_false (fun q => q (or_0.mpr ⟨by rw [Nat.and_comm]; exact h1, h2⟩))
theorem held_p {c : CN} {a : Nat} (h : c.1 = 120) (h0 : c.2.2.1 = 0) : heldC c a = decide (cnt (c.2.1 &&& a).testBit 10 % 2 = c.2.2.2.1) := by rw [held_x h, mbs_0 h0, Nat.and_comm]
theorem held_b {c : CN} {a : Nat} (h : c.1 = 107) (h0 : c.2.2.1 = 0) : heldC c a = (decide (c.2.2.2.1 ≤ cnt (c.2.1 &&& a).testBit 10) && decide (cnt (c.2.1 &&& a).testBit 10 ≤ c.2.2.2.2)) := by rw [held_k h, mbs_0 h0, Nat.and_comm]
theorem mdc_t {n sd se nc lv a : Nat} {cs : Nat → CN} (hsd : sd < 2 ^ n) (hse : se &&& sd = se) (h1 : ∀ v, v < n → sd.testBit v = true → a.testBit v = se.testBit v) (h2 : ∀ c, c < nc → (!lv.testBit c || heldC (cs c) a) = true) : mdc sd se nc cs lv a = true := by
  rw [mdc_at, decide_eq_true ((ev_all hsd hse).mpr h1)]; exact allB_iff.mpr h2
theorem mdc_f1 {n sd se nc lv a v : Nat} {cs : Nat → CN} (hsd : sd < 2 ^ n) (hse : se &&& sd = se) (hv : v < n) (h : sd.testBit v = true) (h1 : a.testBit v ≠ se.testBit v) : mdc sd se nc cs lv a = false := by
  rw [mdc_at, decide_eq_false (fun q => h1 ((ev_all hsd hse).mp q v hv h))]; rfl
theorem mdc_f2 {sd se nc lv a c : Nat} {cs : Nat → CN} (hc : c < nc) (h : (!lv.testBit c || heldC (cs c) a) = false) : mdc sd se nc cs lv a = false := by
  rw [mdc_at, show metN cs nc lv a = false from allB_false hc h, Bool.and_false]
theorem bd_ref {lo hi : Int32} (h1 : vB lo 11 = true) (h2 : (decide (lo ≤ hi) && decide (hi ≤ nI 10)) = true) (h3 : bdB lo hi = false) : False := by
  have a := of_decide_eq_true h1
  rw [Bool.and_eq_true] at h2
  have b := Int32.le_iff_toInt_le.mp (of_decide_eq_true h2.1)
  have c := Int32.le_iff_toInt_le.mp (of_decide_eq_true h2.2)
  rw [nI_toInt (by decide)] at c
  exact absurd h3 (by rw [show bdB lo hi = true from decide_eq_true ⟨a.1, b, by omega⟩]; decide)
theorem ev_ref {e : Int32} (h : (decide (-1 ≤ e) && decide (e ≤ nI 1)) = true) : ev3 e := by
  rw [Bool.and_eq_true] at h
  exact ev3_t (i32_le.mp (of_decide_eq_true h.1)) (of_decide_eq_true h.2)
/-- adds -/
theorem c_X12_adds_ok (l : Launch) (D : va_G) (cy : Nat → ClassId) {w : va_W} (ad : Nat → Nat) (th n nc : Nat) (cs : Nat → CN) (kd s1 s2 s3 s4 : Nat) (gO : w[55]? = some (ad 55, .inr (11, [.int (nI th), .ref (ad 56), .ref (ad 57), .ref (ad 58), .ref (ad 59), .ref (ad 60), .ref (ad 61), .ref (ad 62), .ref (ad 63), .ref (ad 64), .ref (ad 65), .int (nI n), .int (nI nc), .ref (ad 66), .ref (ad 71), .ref (ad 72), .ref (ad 73)]))) (gC0 : w[60]? = some (ad 60, .inl (cy 2, 20, .inl (nf (ckd cs))))) (gC1 : w[61]? = some (ad 61, .inl (cy 0, 20, .inl (nf (cst cs))))) (gC2 : w[62]? = some (ad 62, .inl (cy 0, 20, .inl (nf (cot cs))))) (gC3 : w[63]? = some (ad 63, .inl (cy 0, 20, .inl (nf (cle cs))))) (gC4 : w[64]? = some (ad 64, .inl (cy 0, 20, .inl (nf (cgr cs))))) (hnc : nc < 20) (hkd : kd < 65536) : jM l yX12_adds (jws yX12_adds cX12_adds 6 (some .int)) (jR 1 0 0) D cy w [.ref (ad 55), .int (nI kd), .int (nI s1), .int (nI s2), .int (nI s3), .int (nI s4)] 0 0 (fun vv uu => vv = some (.int (nI nc)) ∧ jU w uu [55, 60, 61, 62, 63, 64] ∧ uu[55]? = some (ad 55, .inr (11, [.int (nI th), .ref (ad 56), .ref (ad 57), .ref (ad 58), .ref (ad 59), .ref (ad 60), .ref (ad 61), .ref (ad 62), .ref (ad 63), .ref (ad 64), .ref (ad 65), .int (nI n), .int (nI (nc + 1)), .ref (ad 66), .ref (ad 71), .ref (ad 72), .ref (ad 73)])) ∧ uu[60]? = some (ad 60, .inl (cy 2, 20, .inl (nf (ckd (upB cs nc (kd, s1, s2, s3, s4)))))) ∧ uu[61]? = some (ad 61, .inl (cy 0, 20, .inl (nf (cst (upB cs nc (kd, s1, s2, s3, s4)))))) ∧ uu[62]? = some (ad 62, .inl (cy 0, 20, .inl (nf (cot (upB cs nc (kd, s1, s2, s3, s4)))))) ∧ uu[63]? = some (ad 63, .inl (cy 0, 20, .inl (nf (cle (upB cs nc (kd, s1, s2, s3, s4)))))) ∧ uu[64]? = some (ad 64, .inl (cy 0, 20, .inl (nf (cgr (upB cs nc (kd, s1, s2, s3, s4))))))) := by
  refine j_of (by decide) rfl (Nat.le_of_ble_eq_true rfl) ?_
  intro p e s m args below meth c A ls Q hQ S hr hK hA H locs hW hl
  have hl : lv_has ls 6 [(0, .ref (ad 55)), (1, .int (nI kd)), (2, .int (nI s1)), (3, .int (nI s2)), (4, .int (nI s3)), (5, .int (nI s4))] := hl
  refine lv_aload_n S.1 S.2.1 dX12_adds_0 rfl (lv_at hl 0 rfl) ?_
  refine j_get (ci := 11) (C := RX12) (T := TX12) (N := 17) (v := .int (nI nc)) S (fun w h => List.mem_cons_of_mem _ (inG12 w h)) hK hW gO rfl 12 (by decide) (List.mem_cons_of_mem _ wfl_X12_79) (fun _ h9 => h9) rfl dX12_adds_1 ?_
  refine lv_bipush (v := nI 20) S.1 S.2.1 dX12_adds_4 (by decide) ?_
  refine jn_cmp_ne (tgt := 15) S (by omega) (by omega) dX12_adds_6 (by decide) (fun c_6 => ?_) (fun c_6 => ?_)
  · refine lv_aload_n S.1 S.2.1 dX12_adds_15 rfl (lv_at hl 0 rfl) ?_
    refine j_get (ci := 11) (C := RX12) (T := TX12) (N := 17) (v := .ref (ad 60)) S (fun w h => List.mem_cons_of_mem _ (inG12 w h)) hK hW gO rfl 5 (by decide) (List.mem_cons_of_mem _ wfl_X12_30) (fun _ h9 => h9) rfl dX12_adds_16 ?_
    refine lv_aload_n S.1 S.2.1 dX12_adds_19 rfl (lv_at hl 0 rfl) ?_
    refine j_get (ci := 11) (C := RX12) (T := TX12) (N := 17) (v := .int (nI nc)) S (fun w h => List.mem_cons_of_mem _ (inG12 w h)) hK hW gO rfl 12 (by decide) (List.mem_cons_of_mem _ wfl_X12_79) (fun _ h9 => h9) rfl dX12_adds_20 ?_
    refine lv_iload_n S.1 S.2.1 dX12_adds_23 rfl (lv_at hl 1 rfl) ?_
    refine j_cast S hK hW gC0 (vp_in_nI (by omega) (by omega)) (nI_clamp (by omega)) (vp_narC hkd) dX12_adds_24 (fun H locs w_ hU1 hN1 hW => ?_)
    have hU : jU w w_ [55, 60, 61, 62, 63, 64] := jU.mono hU1 (by decide)
    have gO_ := hU1.get gO (by decide)
    have gC1_ := hU1.get gC1 (by decide)
    have gC2_ := hU1.get gC2 (by decide)
    have gC3_ := hU1.get gC3 (by decide)
    have gC4_ := hU1.get gC4 (by decide)
    have gC0_ : w_[60]? = some (ad 60, .inl (cy 2, 20, .inl (upd (nf (ckd cs)) nc (nI kd)))) := hN1
    clear hU1 hN1
    refine lv_aload_n S.1 S.2.1 dX12_adds_25 rfl (lv_at hl 0 rfl) ?_
    refine j_get (ci := 11) (C := RX12) (T := TX12) (N := 17) (v := .ref (ad 61)) S (fun w h => List.mem_cons_of_mem _ (inG12 w h)) hK hW gO_ rfl 6 (by decide) (List.mem_cons_of_mem _ wfl_X12_34) (fun _ h9 => h9) rfl dX12_adds_26 ?_
    refine lv_aload_n S.1 S.2.1 dX12_adds_29 rfl (lv_at hl 0 rfl) ?_
    refine j_get (ci := 11) (C := RX12) (T := TX12) (N := 17) (v := .int (nI nc)) S (fun w h => List.mem_cons_of_mem _ (inG12 w h)) hK hW gO_ rfl 12 (by decide) (List.mem_cons_of_mem _ wfl_X12_79) (fun _ h9 => h9) rfl dX12_adds_30 ?_
    refine lv_iload_n S.1 S.2.1 dX12_adds_33 rfl (lv_at hl 2 rfl) ?_
    refine j_iast S hK hW gC1_ (vp_in_nI (by omega) (by omega)) (nI_clamp (by omega)) dX12_adds_34 (fun H locs w_ hU1 hN1 hW => ?_)
    have hU := hU.then hU1 (by decide)
    have gO_ := hU1.get gO_ (by decide)
    have gC2_ := hU1.get gC2_ (by decide)
    have gC3_ := hU1.get gC3_ (by decide)
    have gC4_ := hU1.get gC4_ (by decide)
    have gC0_ := hU1.get gC0_ (by decide)
    have gC1_ : w_[61]? = some (ad 61, .inl (cy 0, 20, .inl (upd (nf (cst cs)) nc (nI s1)))) := hN1
    clear hU1 hN1
    refine lv_aload_n S.1 S.2.1 dX12_adds_35 rfl (lv_at hl 0 rfl) ?_
    refine j_get (ci := 11) (C := RX12) (T := TX12) (N := 17) (v := .ref (ad 62)) S (fun w h => List.mem_cons_of_mem _ (inG12 w h)) hK hW gO_ rfl 7 (by decide) (List.mem_cons_of_mem _ wfl_X12_37) (fun _ h9 => h9) rfl dX12_adds_36 ?_
    refine lv_aload_n S.1 S.2.1 dX12_adds_39 rfl (lv_at hl 0 rfl) ?_
    refine j_get (ci := 11) (C := RX12) (T := TX12) (N := 17) (v := .int (nI nc)) S (fun w h => List.mem_cons_of_mem _ (inG12 w h)) hK hW gO_ rfl 12 (by decide) (List.mem_cons_of_mem _ wfl_X12_79) (fun _ h9 => h9) rfl dX12_adds_40 ?_
    refine lv_iload_n S.1 S.2.1 dX12_adds_43 rfl (lv_at hl 3 rfl) ?_
    refine j_iast S hK hW gC2_ (vp_in_nI (by omega) (by omega)) (nI_clamp (by omega)) dX12_adds_44 (fun H locs w_ hU1 hN1 hW => ?_)
    have hU := hU.then hU1 (by decide)
    have gO_ := hU1.get gO_ (by decide)
    have gC1_ := hU1.get gC1_ (by decide)
    have gC3_ := hU1.get gC3_ (by decide)
    have gC4_ := hU1.get gC4_ (by decide)
    have gC0_ := hU1.get gC0_ (by decide)
    have gC2_ : w_[62]? = some (ad 62, .inl (cy 0, 20, .inl (upd (nf (cot cs)) nc (nI s2)))) := hN1
    clear hU1 hN1
    refine lv_aload_n S.1 S.2.1 dX12_adds_45 rfl (lv_at hl 0 rfl) ?_
    refine j_get (ci := 11) (C := RX12) (T := TX12) (N := 17) (v := .ref (ad 63)) S (fun w h => List.mem_cons_of_mem _ (inG12 w h)) hK hW gO_ rfl 8 (by decide) (List.mem_cons_of_mem _ wfl_X12_40) (fun _ h9 => h9) rfl dX12_adds_46 ?_
    refine lv_aload_n S.1 S.2.1 dX12_adds_49 rfl (lv_at hl 0 rfl) ?_
    refine j_get (ci := 11) (C := RX12) (T := TX12) (N := 17) (v := .int (nI nc)) S (fun w h => List.mem_cons_of_mem _ (inG12 w h)) hK hW gO_ rfl 12 (by decide) (List.mem_cons_of_mem _ wfl_X12_79) (fun _ h9 => h9) rfl dX12_adds_50 ?_
    refine lv_iload S.1 S.2.1 dX12_adds_53 (lv_at hl 4 rfl) ?_
    refine j_iast S hK hW gC3_ (vp_in_nI (by omega) (by omega)) (nI_clamp (by omega)) dX12_adds_55 (fun H locs w_ hU1 hN1 hW => ?_)
    have hU := hU.then hU1 (by decide)
    have gO_ := hU1.get gO_ (by decide)
    have gC1_ := hU1.get gC1_ (by decide)
    have gC2_ := hU1.get gC2_ (by decide)
    have gC4_ := hU1.get gC4_ (by decide)
    have gC0_ := hU1.get gC0_ (by decide)
    have gC3_ : w_[63]? = some (ad 63, .inl (cy 0, 20, .inl (upd (nf (cle cs)) nc (nI s3)))) := hN1
    clear hU1 hN1
    refine lv_aload_n S.1 S.2.1 dX12_adds_56 rfl (lv_at hl 0 rfl) ?_
    refine j_get (ci := 11) (C := RX12) (T := TX12) (N := 17) (v := .ref (ad 64)) S (fun w h => List.mem_cons_of_mem _ (inG12 w h)) hK hW gO_ rfl 9 (by decide) (List.mem_cons_of_mem _ wfl_X12_43) (fun _ h9 => h9) rfl dX12_adds_57 ?_
    refine lv_aload_n S.1 S.2.1 dX12_adds_60 rfl (lv_at hl 0 rfl) ?_
    refine j_get (ci := 11) (C := RX12) (T := TX12) (N := 17) (v := .int (nI nc)) S (fun w h => List.mem_cons_of_mem _ (inG12 w h)) hK hW gO_ rfl 12 (by decide) (List.mem_cons_of_mem _ wfl_X12_79) (fun _ h9 => h9) rfl dX12_adds_61 ?_
    refine lv_iload S.1 S.2.1 dX12_adds_64 (lv_at hl 5 rfl) ?_
    refine j_iast S hK hW gC4_ (vp_in_nI (by omega) (by omega)) (nI_clamp (by omega)) dX12_adds_66 (fun H locs w_ hU1 hN1 hW => ?_)
    have hU := hU.then hU1 (by decide)
    have gO_ := hU1.get gO_ (by decide)
    have gC1_ := hU1.get gC1_ (by decide)
    have gC2_ := hU1.get gC2_ (by decide)
    have gC3_ := hU1.get gC3_ (by decide)
    have gC0_ := hU1.get gC0_ (by decide)
    have gC4_ : w_[64]? = some (ad 64, .inl (cy 0, 20, .inl (upd (nf (cgr cs)) nc (nI s4)))) := hN1
    clear hU1 hN1
    refine lv_aload_n S.1 S.2.1 dX12_adds_67 rfl (lv_at hl 0 rfl) ?_
    refine lv_dup S.1 S.2.1 dX12_adds_68 rfl ?_
    refine j_get (ci := 11) (C := RX12) (T := TX12) (N := 17) (v := .int (nI nc)) S (fun w h => List.mem_cons_of_mem _ (inG12 w h)) hK hW gO_ rfl 12 (by decide) (List.mem_cons_of_mem _ wfl_X12_79) (fun _ h9 => h9) rfl dX12_adds_69 ?_
    refine lv_iconst (v := nI 1) S.1 S.2.1 dX12_adds_72 (by decide) ?_
    refine jn_add S dX12_adds_73 ?_
    refine j_put (ci := 11) (C := RX12) (T := TX12) (N := 17) (ty := .int) S (fun w h => List.mem_cons_of_mem _ (inG12 w h)) tyX12 tyX12_ok nmX12 hK hW gO_ rfl 12 (by decide) (List.mem_cons_of_mem _ wfl_X12_79) (fun _ h9 => h9) rfl (by decide +kernel) (rfl) (rfl) (Nat.le_of_ble_eq_true rfl) dX12_adds_74 (fun H locs w_ hU1 hN1 hW => ?_)
    have hU := hU.then hU1 (by decide)
    have gC1_ := hU1.get gC1_ (by decide)
    have gC2_ := hU1.get gC2_ (by decide)
    have gC3_ := hU1.get gC3_ (by decide)
    have gC4_ := hU1.get gC4_ (by decide)
    have gC0_ := hU1.get gC0_ (by decide)
    have gO_ : w_[55]? = some (ad 55, .inr (11, [.int (nI th), .ref (ad 56), .ref (ad 57), .ref (ad 58), .ref (ad 59), .ref (ad 60), .ref (ad 61), .ref (ad 62), .ref (ad 63), .ref (ad 64), .ref (ad 65), .int (nI n), .int (nI (nc + 1)), .ref (ad 66), .ref (ad 71), .ref (ad 72), .ref (ad 73)])) := hN1
    clear hU1 hN1
    refine lv_aload_n S.1 S.2.1 dX12_adds_77 rfl (lv_at hl 0 rfl) ?_
    refine j_get (ci := 11) (C := RX12) (T := TX12) (N := 17) (v := .int (nI (nc + 1))) S (fun w h => List.mem_cons_of_mem _ (inG12 w h)) hK hW gO_ rfl 12 (by decide) (List.mem_cons_of_mem _ wfl_X12_79) (fun _ h9 => h9) rfl dX12_adds_78 ?_
    refine lv_iconst (v := nI 1) S.1 S.2.1 dX12_adds_81 (by decide) ?_
    refine jn_sub S (by omega) dX12_adds_82 ?_
    subst hQ
    exact j_iret (u := w_) S hr (rfl) hK hW dX12_adds_83 ⟨by decide, by decide⟩ (⟨rfl, hU, gO_, by rw [← ck_upd]; exact gC0_, by rw [← cs_upd]; exact gC1_, by rw [← co_upd]; exact gC2_, by rw [← cl_upd]; exact gC3_, by rw [← cg_upd]; exact gC4_⟩)
  · exact absurd c_6 (by omega)
/-- adds, no room -/
theorem c_X12_adds_b (l : Launch) (D : va_G) (cy : Nat → ClassId) {w : va_W} (ad : Nat → Nat) (th n nc : Nat) (kd s1 s2 s3 s4 : Nat) (gO : w[55]? = some (ad 55, .inr (11, [.int (nI th), .ref (ad 56), .ref (ad 57), .ref (ad 58), .ref (ad 59), .ref (ad 60), .ref (ad 61), .ref (ad 62), .ref (ad 63), .ref (ad 64), .ref (ad 65), .int (nI n), .int (nI nc), .ref (ad 66), .ref (ad 71), .ref (ad 72), .ref (ad 73)]))) (hnc : nc = 20) : jM l yX12_adds (jws yX12_adds cX12_adds 6 (some .int)) (jR 1 0 0) D cy w [.ref (ad 55), .int (nI kd), .int (nI s1), .int (nI s2), .int (nI s3), .int (nI s4)] 0 0 (fun vv uu => vv = some (.int (nI 0)) ∧ jU w uu [55] ∧ uu[55]? = some (ad 55, .inr (11, [.int (nI 2), .ref (ad 56), .ref (ad 57), .ref (ad 58), .ref (ad 59), .ref (ad 60), .ref (ad 61), .ref (ad 62), .ref (ad 63), .ref (ad 64), .ref (ad 65), .int (nI n), .int (nI nc), .ref (ad 66), .ref (ad 71), .ref (ad 72), .ref (ad 73)]))) := by
  refine j_of (by decide) rfl (Nat.le_of_ble_eq_true rfl) ?_
  intro p e s m args below meth c A ls Q hQ S hr hK hA H locs hW hl
  have hl : lv_has ls 6 [(0, .ref (ad 55)), (1, .int (nI kd)), (2, .int (nI s1)), (3, .int (nI s2)), (4, .int (nI s3)), (5, .int (nI s4))] := hl
  refine lv_aload_n S.1 S.2.1 dX12_adds_0 rfl (lv_at hl 0 rfl) ?_
  refine j_get (ci := 11) (C := RX12) (T := TX12) (N := 17) (v := .int (nI nc)) S (fun w h => List.mem_cons_of_mem _ (inG12 w h)) hK hW gO rfl 12 (by decide) (List.mem_cons_of_mem _ wfl_X12_79) (fun _ h9 => h9) rfl dX12_adds_1 ?_
  refine lv_bipush (v := nI 20) S.1 S.2.1 dX12_adds_4 (by decide) ?_
  refine jn_cmp_ne (tgt := 15) S (by omega) (by omega) dX12_adds_6 (by decide) (fun c_6 => ?_) (fun c_6 => ?_)
  · exact absurd hnc c_6
  · refine lv_aload_n S.1 S.2.1 dX12_adds_9 rfl (lv_at hl 0 rfl) ?_
    refine lv_iconst (v := nI 2) S.1 S.2.1 dX12_adds_10 (by decide) ?_
    refine j_callV (k := 55) (ci := 11) (q := (RX12, TX12, 17)) (As := [.int (nI 2)]) (rest := []) S hK hA hW (c_X12_fails l D cy ad th n nc 2 gO   ) (jgo wm_X12_71) yk_X12_fails gO rfl rfl ⟨⟨rfl, rfl⟩, by decide, by decide⟩ rfl hl.1 rfl (Nat.le_of_ble_eq_true rfl) dX12_adds_11 ⟨Nat.le_of_ble_eq_true rfl, Nat.le_of_ble_eq_true rfl⟩ (fun v w_ H locs hp hW => ?_)
    obtain ⟨rfl, hU1, hN1⟩ := hp
    have hU : jU w w_ [55] := jU.mono hU1 (by decide)
    have gO_ : w_[55]? = some (ad 55, .inr (11, [.int (nI 2), .ref (ad 56), .ref (ad 57), .ref (ad 58), .ref (ad 59), .ref (ad 60), .ref (ad 61), .ref (ad 62), .ref (ad 63), .ref (ad 64), .ref (ad 65), .int (nI n), .int (nI nc), .ref (ad 66), .ref (ad 71), .ref (ad 72), .ref (ad 73)])) := hN1
    clear hU1 hN1
    refine W.eq (g2 := F0 m 14 ls [.int (nI 0)]) rfl ?_
    subst hQ
    exact j_iret (u := w_) S hr (rfl) hK hW dX12_adds_14 ⟨by decide, by decide⟩ (⟨rfl, hU, gO_⟩)
/-- addClause -/
theorem c_X12_addClause_ok (l : Launch) (D : va_G) (cy : Nat → ClassId) {w : va_W} (ad : Nat → Nat) (th n nc : Nat) (cs : Nat → CN) (a b : Nat) (gO : w[55]? = some (ad 55, .inr (11, [.int (nI th), .ref (ad 56), .ref (ad 57), .ref (ad 58), .ref (ad 59), .ref (ad 60), .ref (ad 61), .ref (ad 62), .ref (ad 63), .ref (ad 64), .ref (ad 65), .int (nI n), .int (nI nc), .ref (ad 66), .ref (ad 71), .ref (ad 72), .ref (ad 73)]))) (gC0 : w[60]? = some (ad 60, .inl (cy 2, 20, .inl (nf (ckd cs))))) (gC1 : w[61]? = some (ad 61, .inl (cy 0, 20, .inl (nf (cst cs))))) (gC2 : w[62]? = some (ad 62, .inl (cy 0, 20, .inl (nf (cot cs))))) (gC3 : w[63]? = some (ad 63, .inl (cy 0, 20, .inl (nf (cle cs))))) (gC4 : w[64]? = some (ad 64, .inl (cy 0, 20, .inl (nf (cgr cs))))) (hn : n ≤ 10) (hnc : nc < 20) (ha : a < 2 ^ n) (hb : b < 2 ^ n) (hab : a ||| b ≠ 0) : jM l yX12_addClause (jws yX12_addClause cX12_addClause 3 (some .int)) (jR 2 0 0) D cy w [.ref (ad 55), .int (nI a), .int (nI b)] 0 0 (fun vv uu => vv = some (.int (nI nc)) ∧ jU w uu [55, 60, 61, 62, 63, 64] ∧ uu[55]? = some (ad 55, .inr (11, [.int (nI 0), .ref (ad 56), .ref (ad 57), .ref (ad 58), .ref (ad 59), .ref (ad 60), .ref (ad 61), .ref (ad 62), .ref (ad 63), .ref (ad 64), .ref (ad 65), .int (nI n), .int (nI (nc + 1)), .ref (ad 66), .ref (ad 71), .ref (ad 72), .ref (ad 73)])) ∧ uu[60]? = some (ad 60, .inl (cy 2, 20, .inl (nf (ckd (upB cs nc (111, a, b, 0, 0)))))) ∧ uu[61]? = some (ad 61, .inl (cy 0, 20, .inl (nf (cst (upB cs nc (111, a, b, 0, 0)))))) ∧ uu[62]? = some (ad 62, .inl (cy 0, 20, .inl (nf (cot (upB cs nc (111, a, b, 0, 0)))))) ∧ uu[63]? = some (ad 63, .inl (cy 0, 20, .inl (nf (cle (upB cs nc (111, a, b, 0, 0)))))) ∧ uu[64]? = some (ad 64, .inl (cy 0, 20, .inl (nf (cgr (upB cs nc (111, a, b, 0, 0))))))) := by
  refine j_of (by decide) rfl (Nat.le_of_ble_eq_true rfl) ?_
  intro p e s m args below meth c A ls Q hQ S hr hK hA H locs hW hl
  have hl : lv_has ls 3 [(0, .ref (ad 55)), (1, .int (nI a)), (2, .int (nI b))] := hl
  refine lv_aload_n S.1 S.2.1 dX12_addClause_0 rfl (lv_at hl 0 rfl) ?_
  refine lv_iconst (v := nI 0) S.1 S.2.1 dX12_addClause_1 (by decide) ?_
  refine j_put (ci := 11) (C := RX12) (T := TX12) (N := 17) (ty := .int) S (fun w h => List.mem_cons_of_mem _ (inG12 w h)) tyX12 tyX12_ok nmX12 hK hW gO rfl 0 (by decide) (List.mem_cons_of_mem _ wfl_X12_1) (fun _ h9 => h9) rfl (by decide +kernel) (rfl) (rfl) (Nat.le_of_ble_eq_true rfl) dX12_addClause_2 (fun H locs w_ hU1 hN1 hW => ?_)
  have hU : jU w w_ [55, 60, 61, 62, 63, 64] := jU.mono hU1 (by decide)
  have gC0_ := hU1.get gC0 (by decide)
  have gC1_ := hU1.get gC1 (by decide)
  have gC2_ := hU1.get gC2 (by decide)
  have gC3_ := hU1.get gC3 (by decide)
  have gC4_ := hU1.get gC4 (by decide)
  have gO_ : w_[55]? = some (ad 55, .inr (11, [.int (nI 0), .ref (ad 56), .ref (ad 57), .ref (ad 58), .ref (ad 59), .ref (ad 60), .ref (ad 61), .ref (ad 62), .ref (ad 63), .ref (ad 64), .ref (ad 65), .int (nI n), .int (nI nc), .ref (ad 66), .ref (ad 71), .ref (ad 72), .ref (ad 73)])) := hN1
  clear hU1 hN1
  refine lv_aload_n S.1 S.2.1 dX12_addClause_5 rfl (lv_at hl 0 rfl) ?_
  refine lv_iload_n S.1 S.2.1 dX12_addClause_6 rfl (lv_at hl 1 rfl) ?_
  refine j_callV (k := 55) (ci := 11) (q := (RX12, TX12, 17)) (As := [.int (nI a)]) (rest := []) S hK hA hW (c_X12_isSet l D cy ad 0 n nc (nI a) gO_   (by omega)) (jgo wm_X12_82) yk_X12_isSet gO_ rfl rfl ⟨⟨rfl, rfl⟩, by decide, by decide⟩ rfl hl.1 rfl (Nat.le_of_ble_eq_true rfl) dX12_addClause_7 ⟨Nat.le_of_ble_eq_true rfl, Nat.le_of_ble_eq_true rfl⟩ (fun v u H locs hp hW => ?_)
  obtain ⟨rfl, rfl⟩ := hp
  refine W.eq (g2 := F0 m 10 ls [.int (bI (vB (nI a) (2 ^ n)))]) rfl ?_
  refine jb_if_eq (tgt := 27) S dX12_addClause_10 (by decide) (fun c_10 => ?_) (fun c_10 => ?_)
  · exact absurd (vB_nI ha (by have := two_pow10 hn; omega)) (by rw [c_10]; decide)
  · refine lv_aload_n S.1 S.2.1 dX12_addClause_13 rfl (lv_at hl 0 rfl) ?_
    refine lv_iload_n S.1 S.2.1 dX12_addClause_14 rfl (lv_at hl 2 rfl) ?_
    refine j_callV (k := 55) (ci := 11) (q := (RX12, TX12, 17)) (As := [.int (nI b)]) (rest := []) S hK hA hW (c_X12_isSet l D cy ad 0 n nc (nI b) gO_   (by omega)) (jgo wm_X12_82) yk_X12_isSet gO_ rfl rfl ⟨⟨rfl, rfl⟩, by decide, by decide⟩ rfl hl.1 rfl (Nat.le_of_ble_eq_true rfl) dX12_addClause_15 ⟨Nat.le_of_ble_eq_true rfl, Nat.le_of_ble_eq_true rfl⟩ (fun v u H locs hp hW => ?_)
    obtain ⟨rfl, rfl⟩ := hp
    refine W.eq (g2 := F0 m 18 ls [.int (bI (vB (nI b) (2 ^ n)))]) rfl ?_
    refine jb_if_eq (tgt := 27) S dX12_addClause_18 (by decide) (fun c_18 => ?_) (fun c_18 => ?_)
    · exact absurd (vB_nI hb (by have := two_pow10 hn; omega)) (by rw [c_18]; decide)
    · refine lv_iload_n S.1 S.2.1 dX12_addClause_21 rfl (lv_at hl 1 rfl) ?_
      refine lv_iload_n S.1 S.2.1 dX12_addClause_22 rfl (lv_at hl 2 rfl) ?_
      refine jn_or S dX12_addClause_23 ?_
      have hor : a ||| b < 1024 := Nat.or_lt_two_pow (n := 10) (by have := two_pow10 hn; omega) (by have := two_pow10 hn; omega)
      refine jn_if_ne (tgt := 33) S (by omega) dX12_addClause_24 (by decide) (fun c_24 => ?_) (fun c_24 => ?_)
      · refine lv_aload_n S.1 S.2.1 dX12_addClause_33 rfl (lv_at hl 0 rfl) ?_
        refine lv_bipush (v := nI 111) S.1 S.2.1 dX12_addClause_34 (by decide) ?_
        refine lv_iload_n S.1 S.2.1 dX12_addClause_36 rfl (lv_at hl 1 rfl) ?_
        refine lv_iload_n S.1 S.2.1 dX12_addClause_37 rfl (lv_at hl 2 rfl) ?_
        refine lv_iconst (v := nI 0) S.1 S.2.1 dX12_addClause_38 (by decide) ?_
        refine lv_iconst (v := nI 0) S.1 S.2.1 dX12_addClause_39 (by decide) ?_
        refine j_callV (k := 55) (ci := 11) (q := (RX12, TX12, 17)) (As := [.int (nI 111), .int (nI a), .int (nI b), .int (nI 0), .int (nI 0)]) (rest := []) S hK hA hW (c_X12_adds_ok l D cy ad 0 n nc cs 111 a b 0 0 gO_ gC0_ gC1_ gC2_ gC3_ gC4_   (by omega) (by decide)) (jgo wm_X12_85) yk_X12_adds gO_ rfl rfl ⟨⟨rfl, rfl⟩, by decide, by decide⟩ rfl hl.1 rfl (Nat.le_of_ble_eq_true rfl) dX12_addClause_40 ⟨Nat.le_of_ble_eq_true rfl, Nat.le_of_ble_eq_true rfl⟩ (fun v w_ H locs hp hW => ?_)
        obtain ⟨rfl, hU1, hN1, hN2, hN3, hN4, hN5, hN6⟩ := hp
        have hU := hU.then hU1 (by decide)
        have gO_ : w_[55]? = some (ad 55, .inr (11, [.int (nI 0), .ref (ad 56), .ref (ad 57), .ref (ad 58), .ref (ad 59), .ref (ad 60), .ref (ad 61), .ref (ad 62), .ref (ad 63), .ref (ad 64), .ref (ad 65), .int (nI n), .int (nI (nc + 1)), .ref (ad 66), .ref (ad 71), .ref (ad 72), .ref (ad 73)])) := hN1
        have gC0_ : w_[60]? = some (ad 60, .inl (cy 2, 20, .inl (nf (ckd (upB cs nc (111, a, b, 0, 0)))))) := hN2
        have gC1_ : w_[61]? = some (ad 61, .inl (cy 0, 20, .inl (nf (cst (upB cs nc (111, a, b, 0, 0)))))) := hN3
        have gC2_ : w_[62]? = some (ad 62, .inl (cy 0, 20, .inl (nf (cot (upB cs nc (111, a, b, 0, 0)))))) := hN4
        have gC3_ : w_[63]? = some (ad 63, .inl (cy 0, 20, .inl (nf (cle (upB cs nc (111, a, b, 0, 0)))))) := hN5
        have gC4_ : w_[64]? = some (ad 64, .inl (cy 0, 20, .inl (nf (cgr (upB cs nc (111, a, b, 0, 0)))))) := hN6
        clear hU1 hN1 hN2 hN3 hN4 hN5 hN6
        refine W.eq (g2 := F0 m 43 ls [.int (nI nc)]) rfl ?_
        subst hQ
        exact j_iret (u := w_) S hr (rfl) hK hW dX12_addClause_43 ⟨by decide, by decide⟩ (⟨rfl, hU, gO_, gC0_, gC1_, gC2_, gC3_, gC4_⟩)
      · exact absurd c_24 hab
/-- addClause, no room -/
theorem c_X12_addClause_b2 (l : Launch) (D : va_G) (cy : Nat → ClassId) {w : va_W} (ad : Nat → Nat) (th n nc : Nat) (a b : Nat) (gO : w[55]? = some (ad 55, .inr (11, [.int (nI th), .ref (ad 56), .ref (ad 57), .ref (ad 58), .ref (ad 59), .ref (ad 60), .ref (ad 61), .ref (ad 62), .ref (ad 63), .ref (ad 64), .ref (ad 65), .int (nI n), .int (nI nc), .ref (ad 66), .ref (ad 71), .ref (ad 72), .ref (ad 73)]))) (hn : n ≤ 10) (hnc : nc = 20) (ha : a < 2 ^ n) (hb : b < 2 ^ n) (hab : a ||| b ≠ 0) : jM l yX12_addClause (jws yX12_addClause cX12_addClause 3 (some .int)) (jR 2 0 0) D cy w [.ref (ad 55), .int (nI a), .int (nI b)] 0 0 (fun vv uu => vv = some (.int (nI 0)) ∧ jU w uu [55] ∧ uu[55]? = some (ad 55, .inr (11, [.int (nI 2), .ref (ad 56), .ref (ad 57), .ref (ad 58), .ref (ad 59), .ref (ad 60), .ref (ad 61), .ref (ad 62), .ref (ad 63), .ref (ad 64), .ref (ad 65), .int (nI n), .int (nI nc), .ref (ad 66), .ref (ad 71), .ref (ad 72), .ref (ad 73)]))) := by
  refine j_of (by decide) rfl (Nat.le_of_ble_eq_true rfl) ?_
  intro p e s m args below meth c A ls Q hQ S hr hK hA H locs hW hl
  have hl : lv_has ls 3 [(0, .ref (ad 55)), (1, .int (nI a)), (2, .int (nI b))] := hl
  refine lv_aload_n S.1 S.2.1 dX12_addClause_0 rfl (lv_at hl 0 rfl) ?_
  refine lv_iconst (v := nI 0) S.1 S.2.1 dX12_addClause_1 (by decide) ?_
  refine j_put (ci := 11) (C := RX12) (T := TX12) (N := 17) (ty := .int) S (fun w h => List.mem_cons_of_mem _ (inG12 w h)) tyX12 tyX12_ok nmX12 hK hW gO rfl 0 (by decide) (List.mem_cons_of_mem _ wfl_X12_1) (fun _ h9 => h9) rfl (by decide +kernel) (rfl) (rfl) (Nat.le_of_ble_eq_true rfl) dX12_addClause_2 (fun H locs w_ hU1 hN1 hW => ?_)
  have hU : jU w w_ [55] := jU.mono hU1 (by decide)
  have gO_ : w_[55]? = some (ad 55, .inr (11, [.int (nI 0), .ref (ad 56), .ref (ad 57), .ref (ad 58), .ref (ad 59), .ref (ad 60), .ref (ad 61), .ref (ad 62), .ref (ad 63), .ref (ad 64), .ref (ad 65), .int (nI n), .int (nI nc), .ref (ad 66), .ref (ad 71), .ref (ad 72), .ref (ad 73)])) := hN1
  clear hU1 hN1
  refine lv_aload_n S.1 S.2.1 dX12_addClause_5 rfl (lv_at hl 0 rfl) ?_
  refine lv_iload_n S.1 S.2.1 dX12_addClause_6 rfl (lv_at hl 1 rfl) ?_
  refine j_callV (k := 55) (ci := 11) (q := (RX12, TX12, 17)) (As := [.int (nI a)]) (rest := []) S hK hA hW (c_X12_isSet l D cy ad 0 n nc (nI a) gO_   (by omega)) (jgo wm_X12_82) yk_X12_isSet gO_ rfl rfl ⟨⟨rfl, rfl⟩, by decide, by decide⟩ rfl hl.1 rfl (Nat.le_of_ble_eq_true rfl) dX12_addClause_7 ⟨Nat.le_of_ble_eq_true rfl, Nat.le_of_ble_eq_true rfl⟩ (fun v u H locs hp hW => ?_)
  obtain ⟨rfl, rfl⟩ := hp
  refine W.eq (g2 := F0 m 10 ls [.int (bI (vB (nI a) (2 ^ n)))]) rfl ?_
  refine jb_if_eq (tgt := 27) S dX12_addClause_10 (by decide) (fun c_10 => ?_) (fun c_10 => ?_)
  · exact absurd (vB_nI ha (by have := two_pow10 hn; omega)) (by rw [c_10]; decide)
  · refine lv_aload_n S.1 S.2.1 dX12_addClause_13 rfl (lv_at hl 0 rfl) ?_
    refine lv_iload_n S.1 S.2.1 dX12_addClause_14 rfl (lv_at hl 2 rfl) ?_
    refine j_callV (k := 55) (ci := 11) (q := (RX12, TX12, 17)) (As := [.int (nI b)]) (rest := []) S hK hA hW (c_X12_isSet l D cy ad 0 n nc (nI b) gO_   (by omega)) (jgo wm_X12_82) yk_X12_isSet gO_ rfl rfl ⟨⟨rfl, rfl⟩, by decide, by decide⟩ rfl hl.1 rfl (Nat.le_of_ble_eq_true rfl) dX12_addClause_15 ⟨Nat.le_of_ble_eq_true rfl, Nat.le_of_ble_eq_true rfl⟩ (fun v u H locs hp hW => ?_)
    obtain ⟨rfl, rfl⟩ := hp
    refine W.eq (g2 := F0 m 18 ls [.int (bI (vB (nI b) (2 ^ n)))]) rfl ?_
    refine jb_if_eq (tgt := 27) S dX12_addClause_18 (by decide) (fun c_18 => ?_) (fun c_18 => ?_)
    · exact absurd (vB_nI hb (by have := two_pow10 hn; omega)) (by rw [c_18]; decide)
    · refine lv_iload_n S.1 S.2.1 dX12_addClause_21 rfl (lv_at hl 1 rfl) ?_
      refine lv_iload_n S.1 S.2.1 dX12_addClause_22 rfl (lv_at hl 2 rfl) ?_
      refine jn_or S dX12_addClause_23 ?_
      have hor : a ||| b < 1024 := Nat.or_lt_two_pow (n := 10) (by have := two_pow10 hn; omega) (by have := two_pow10 hn; omega)
      refine jn_if_ne (tgt := 33) S (by omega) dX12_addClause_24 (by decide) (fun c_24 => ?_) (fun c_24 => ?_)
      · refine lv_aload_n S.1 S.2.1 dX12_addClause_33 rfl (lv_at hl 0 rfl) ?_
        refine lv_bipush (v := nI 111) S.1 S.2.1 dX12_addClause_34 (by decide) ?_
        refine lv_iload_n S.1 S.2.1 dX12_addClause_36 rfl (lv_at hl 1 rfl) ?_
        refine lv_iload_n S.1 S.2.1 dX12_addClause_37 rfl (lv_at hl 2 rfl) ?_
        refine lv_iconst (v := nI 0) S.1 S.2.1 dX12_addClause_38 (by decide) ?_
        refine lv_iconst (v := nI 0) S.1 S.2.1 dX12_addClause_39 (by decide) ?_
        refine j_callV (k := 55) (ci := 11) (q := (RX12, TX12, 17)) (As := [.int (nI 111), .int (nI a), .int (nI b), .int (nI 0), .int (nI 0)]) (rest := []) S hK hA hW (c_X12_adds_b l D cy ad 0 n nc 111 a b 0 0 gO_   (by omega)) (jgo wm_X12_85) yk_X12_adds gO_ rfl rfl ⟨⟨rfl, rfl⟩, by decide, by decide⟩ rfl hl.1 rfl (Nat.le_of_ble_eq_true rfl) dX12_addClause_40 ⟨Nat.le_of_ble_eq_true rfl, Nat.le_of_ble_eq_true rfl⟩ (fun v w_ H locs hp hW => ?_)
        obtain ⟨rfl, hU1, hN1⟩ := hp
        have hU := hU.then hU1 (by decide)
        have gO_ : w_[55]? = some (ad 55, .inr (11, [.int (nI 2), .ref (ad 56), .ref (ad 57), .ref (ad 58), .ref (ad 59), .ref (ad 60), .ref (ad 61), .ref (ad 62), .ref (ad 63), .ref (ad 64), .ref (ad 65), .int (nI n), .int (nI nc), .ref (ad 66), .ref (ad 71), .ref (ad 72), .ref (ad 73)])) := hN1
        clear hU1 hN1
        refine W.eq (g2 := F0 m 43 ls [.int (nI 0)]) rfl ?_
        subst hQ
        exact j_iret (u := w_) S hr (rfl) hK hW dX12_addClause_43 ⟨by decide, by decide⟩ (⟨rfl, hU, gO_⟩)
      · exact absurd c_24 hab
/-- addClause, wrong arguments -/
theorem c_X12_addClause_b1 (l : Launch) (D : va_G) (cy : Nat → ClassId) {w : va_W} (ad : Nat → Nat) (th n nc : Nat) (y o : Int32) (gO : w[55]? = some (ad 55, .inr (11, [.int (nI th), .ref (ad 56), .ref (ad 57), .ref (ad 58), .ref (ad 59), .ref (ad 60), .ref (ad 61), .ref (ad 62), .ref (ad 63), .ref (ad 64), .ref (ad 65), .int (nI n), .int (nI nc), .ref (ad 66), .ref (ad 71), .ref (ad 72), .ref (ad 73)]))) (hn : n ≤ 10) (hv : vB y (2 ^ n) = false ∨ vB o (2 ^ n) = false ∨ y ||| o = 0) : jM l yX12_addClause (jws yX12_addClause cX12_addClause 3 (some .int)) (jR 2 0 0) D cy w [.ref (ad 55), .int y, .int o] 0 0 (fun vv uu => vv = some (.int (nI 0)) ∧ jU w uu [55] ∧ uu[55]? = some (ad 55, .inr (11, [.int (nI 1), .ref (ad 56), .ref (ad 57), .ref (ad 58), .ref (ad 59), .ref (ad 60), .ref (ad 61), .ref (ad 62), .ref (ad 63), .ref (ad 64), .ref (ad 65), .int (nI n), .int (nI nc), .ref (ad 66), .ref (ad 71), .ref (ad 72), .ref (ad 73)]))) := by
  refine j_of (by decide) rfl (Nat.le_of_ble_eq_true rfl) ?_
  intro p e s m args below meth c A ls Q hQ S hr hK hA H locs hW hl
  have hl : lv_has ls 3 [(0, .ref (ad 55)), (1, .int y), (2, .int o)] := hl
  refine lv_aload_n S.1 S.2.1 dX12_addClause_0 rfl (lv_at hl 0 rfl) ?_
  refine lv_iconst (v := nI 0) S.1 S.2.1 dX12_addClause_1 (by decide) ?_
  refine j_put (ci := 11) (C := RX12) (T := TX12) (N := 17) (ty := .int) S (fun w h => List.mem_cons_of_mem _ (inG12 w h)) tyX12 tyX12_ok nmX12 hK hW gO rfl 0 (by decide) (List.mem_cons_of_mem _ wfl_X12_1) (fun _ h9 => h9) rfl (by decide +kernel) (rfl) (rfl) (Nat.le_of_ble_eq_true rfl) dX12_addClause_2 (fun H locs w_ hU1 hN1 hW => ?_)
  have hU : jU w w_ [55] := jU.mono hU1 (by decide)
  have gO_ : w_[55]? = some (ad 55, .inr (11, [.int (nI 0), .ref (ad 56), .ref (ad 57), .ref (ad 58), .ref (ad 59), .ref (ad 60), .ref (ad 61), .ref (ad 62), .ref (ad 63), .ref (ad 64), .ref (ad 65), .int (nI n), .int (nI nc), .ref (ad 66), .ref (ad 71), .ref (ad 72), .ref (ad 73)])) := hN1
  clear hU1 hN1
  refine lv_aload_n S.1 S.2.1 dX12_addClause_5 rfl (lv_at hl 0 rfl) ?_
  refine lv_iload_n S.1 S.2.1 dX12_addClause_6 rfl (lv_at hl 1 rfl) ?_
  refine j_callV (k := 55) (ci := 11) (q := (RX12, TX12, 17)) (As := [.int y]) (rest := []) S hK hA hW (c_X12_isSet l D cy ad 0 n nc y gO_   (by omega)) (jgo wm_X12_82) yk_X12_isSet gO_ rfl rfl ⟨⟨rfl, rfl⟩, by decide, by decide⟩ rfl hl.1 rfl (Nat.le_of_ble_eq_true rfl) dX12_addClause_7 ⟨Nat.le_of_ble_eq_true rfl, Nat.le_of_ble_eq_true rfl⟩ (fun v u H locs hp hW => ?_)
  obtain ⟨rfl, rfl⟩ := hp
  refine W.eq (g2 := F0 m 10 ls [.int (bI (vB y (2 ^ n)))]) rfl ?_
  refine jb_if_eq (tgt := 27) S dX12_addClause_10 (by decide) (fun c_10 => ?_) (fun c_10 => ?_)
  · refine lv_aload_n S.1 S.2.1 dX12_addClause_27 rfl (lv_at hl 0 rfl) ?_
    refine lv_iconst (v := nI 1) S.1 S.2.1 dX12_addClause_28 (by decide) ?_
    refine j_callV (k := 55) (ci := 11) (q := (RX12, TX12, 17)) (As := [.int (nI 1)]) (rest := []) S hK hA hW (c_X12_fails l D cy ad 0 n nc 1 gO_   ) (jgo wm_X12_71) yk_X12_fails gO_ rfl rfl ⟨⟨rfl, rfl⟩, by decide, by decide⟩ rfl hl.1 rfl (Nat.le_of_ble_eq_true rfl) dX12_addClause_29 ⟨Nat.le_of_ble_eq_true rfl, Nat.le_of_ble_eq_true rfl⟩ (fun v w_ H locs hp hW => ?_)
    obtain ⟨rfl, hU1, hN1⟩ := hp
    have hU := hU.then hU1 (by decide)
    have gO_ : w_[55]? = some (ad 55, .inr (11, [.int (nI 1), .ref (ad 56), .ref (ad 57), .ref (ad 58), .ref (ad 59), .ref (ad 60), .ref (ad 61), .ref (ad 62), .ref (ad 63), .ref (ad 64), .ref (ad 65), .int (nI n), .int (nI nc), .ref (ad 66), .ref (ad 71), .ref (ad 72), .ref (ad 73)])) := hN1
    clear hU1 hN1
    refine W.eq (g2 := F0 m 32 ls [.int (nI 0)]) rfl ?_
    subst hQ
    exact j_iret (u := w_) S hr (rfl) hK hW dX12_addClause_32 ⟨by decide, by decide⟩ (⟨rfl, hU, gO_⟩)
  · refine lv_aload_n S.1 S.2.1 dX12_addClause_13 rfl (lv_at hl 0 rfl) ?_
    refine lv_iload_n S.1 S.2.1 dX12_addClause_14 rfl (lv_at hl 2 rfl) ?_
    refine j_callV (k := 55) (ci := 11) (q := (RX12, TX12, 17)) (As := [.int o]) (rest := []) S hK hA hW (c_X12_isSet l D cy ad 0 n nc o gO_   (by omega)) (jgo wm_X12_82) yk_X12_isSet gO_ rfl rfl ⟨⟨rfl, rfl⟩, by decide, by decide⟩ rfl hl.1 rfl (Nat.le_of_ble_eq_true rfl) dX12_addClause_15 ⟨Nat.le_of_ble_eq_true rfl, Nat.le_of_ble_eq_true rfl⟩ (fun v u H locs hp hW => ?_)
    obtain ⟨rfl, rfl⟩ := hp
    refine W.eq (g2 := F0 m 18 ls [.int (bI (vB o (2 ^ n)))]) rfl ?_
    refine jb_if_eq (tgt := 27) S dX12_addClause_18 (by decide) (fun c_18 => ?_) (fun c_18 => ?_)
    · refine lv_aload_n S.1 S.2.1 dX12_addClause_27 rfl (lv_at hl 0 rfl) ?_
      refine lv_iconst (v := nI 1) S.1 S.2.1 dX12_addClause_28 (by decide) ?_
      refine j_callV (k := 55) (ci := 11) (q := (RX12, TX12, 17)) (As := [.int (nI 1)]) (rest := []) S hK hA hW (c_X12_fails l D cy ad 0 n nc 1 gO_   ) (jgo wm_X12_71) yk_X12_fails gO_ rfl rfl ⟨⟨rfl, rfl⟩, by decide, by decide⟩ rfl hl.1 rfl (Nat.le_of_ble_eq_true rfl) dX12_addClause_29 ⟨Nat.le_of_ble_eq_true rfl, Nat.le_of_ble_eq_true rfl⟩ (fun v w_ H locs hp hW => ?_)
      obtain ⟨rfl, hU1, hN1⟩ := hp
      have hU := hU.then hU1 (by decide)
      have gO_ : w_[55]? = some (ad 55, .inr (11, [.int (nI 1), .ref (ad 56), .ref (ad 57), .ref (ad 58), .ref (ad 59), .ref (ad 60), .ref (ad 61), .ref (ad 62), .ref (ad 63), .ref (ad 64), .ref (ad 65), .int (nI n), .int (nI nc), .ref (ad 66), .ref (ad 71), .ref (ad 72), .ref (ad 73)])) := hN1
      clear hU1 hN1
      refine W.eq (g2 := F0 m 32 ls [.int (nI 0)]) rfl ?_
      subst hQ
      exact j_iret (u := w_) S hr (rfl) hK hW dX12_addClause_32 ⟨by decide, by decide⟩ (⟨rfl, hU, gO_⟩)
    · refine lv_iload_n S.1 S.2.1 dX12_addClause_21 rfl (lv_at hl 1 rfl) ?_
      refine lv_iload_n S.1 S.2.1 dX12_addClause_22 rfl (lv_at hl 2 rfl) ?_
      refine lv_ior S.1 S.2.1 dX12_addClause_23 ?_
      refine lv_if_ne (tgt := 33) S.1 S.2.1 dX12_addClause_24 (by decide) (fun c_24 => ?_) (fun c_24 => ?_)
      · exact (by rcases hv with q | q | q; rw [c_10] at q; cases q; rw [c_18] at q; cases q; exact (c_24 q).elim)
      · refine lv_aload_n S.1 S.2.1 dX12_addClause_27 rfl (lv_at hl 0 rfl) ?_
        refine lv_iconst (v := nI 1) S.1 S.2.1 dX12_addClause_28 (by decide) ?_
        refine j_callV (k := 55) (ci := 11) (q := (RX12, TX12, 17)) (As := [.int (nI 1)]) (rest := []) S hK hA hW (c_X12_fails l D cy ad 0 n nc 1 gO_   ) (jgo wm_X12_71) yk_X12_fails gO_ rfl rfl ⟨⟨rfl, rfl⟩, by decide, by decide⟩ rfl hl.1 rfl (Nat.le_of_ble_eq_true rfl) dX12_addClause_29 ⟨Nat.le_of_ble_eq_true rfl, Nat.le_of_ble_eq_true rfl⟩ (fun v w_ H locs hp hW => ?_)
        obtain ⟨rfl, hU1, hN1⟩ := hp
        have hU := hU.then hU1 (by decide)
        have gO_ : w_[55]? = some (ad 55, .inr (11, [.int (nI 1), .ref (ad 56), .ref (ad 57), .ref (ad 58), .ref (ad 59), .ref (ad 60), .ref (ad 61), .ref (ad 62), .ref (ad 63), .ref (ad 64), .ref (ad 65), .int (nI n), .int (nI nc), .ref (ad 66), .ref (ad 71), .ref (ad 72), .ref (ad 73)])) := hN1
        clear hU1 hN1
        refine W.eq (g2 := F0 m 32 ls [.int (nI 0)]) rfl ?_
        subst hQ
        exact j_iret (u := w_) S hr (rfl) hK hW dX12_addClause_32 ⟨by decide, by decide⟩ (⟨rfl, hU, gO_⟩)
/-- addParity -/
theorem c_X12_addParity_ok (l : Launch) (D : va_G) (cy : Nat → ClassId) {w : va_W} (ad : Nat → Nat) (th n nc : Nat) (cs : Nat → CN) (a b : Nat) (gO : w[55]? = some (ad 55, .inr (11, [.int (nI th), .ref (ad 56), .ref (ad 57), .ref (ad 58), .ref (ad 59), .ref (ad 60), .ref (ad 61), .ref (ad 62), .ref (ad 63), .ref (ad 64), .ref (ad 65), .int (nI n), .int (nI nc), .ref (ad 66), .ref (ad 71), .ref (ad 72), .ref (ad 73)]))) (gC0 : w[60]? = some (ad 60, .inl (cy 2, 20, .inl (nf (ckd cs))))) (gC1 : w[61]? = some (ad 61, .inl (cy 0, 20, .inl (nf (cst cs))))) (gC2 : w[62]? = some (ad 62, .inl (cy 0, 20, .inl (nf (cot cs))))) (gC3 : w[63]? = some (ad 63, .inl (cy 0, 20, .inl (nf (cle cs))))) (gC4 : w[64]? = some (ad 64, .inl (cy 0, 20, .inl (nf (cgr cs))))) (hn : n ≤ 10) (hnc : nc < 20) (ha : a < 2 ^ n) (hb : b < 2) (hab : a ≠ 0) : jM l yX12_addParity (jws yX12_addParity cX12_addParity 3 (some .int)) (jR 2 0 0) D cy w [.ref (ad 55), .int (nI a), .int (nI b)] 0 0 (fun vv uu => vv = some (.int (nI nc)) ∧ jU w uu [55, 60, 61, 62, 63, 64] ∧ uu[55]? = some (ad 55, .inr (11, [.int (nI 0), .ref (ad 56), .ref (ad 57), .ref (ad 58), .ref (ad 59), .ref (ad 60), .ref (ad 61), .ref (ad 62), .ref (ad 63), .ref (ad 64), .ref (ad 65), .int (nI n), .int (nI (nc + 1)), .ref (ad 66), .ref (ad 71), .ref (ad 72), .ref (ad 73)])) ∧ uu[60]? = some (ad 60, .inl (cy 2, 20, .inl (nf (ckd (upB cs nc (120, a, 0, b, b)))))) ∧ uu[61]? = some (ad 61, .inl (cy 0, 20, .inl (nf (cst (upB cs nc (120, a, 0, b, b)))))) ∧ uu[62]? = some (ad 62, .inl (cy 0, 20, .inl (nf (cot (upB cs nc (120, a, 0, b, b)))))) ∧ uu[63]? = some (ad 63, .inl (cy 0, 20, .inl (nf (cle (upB cs nc (120, a, 0, b, b)))))) ∧ uu[64]? = some (ad 64, .inl (cy 0, 20, .inl (nf (cgr (upB cs nc (120, a, 0, b, b))))))) := by
  refine j_of (by decide) rfl (Nat.le_of_ble_eq_true rfl) ?_
  intro p e s m args below meth c A ls Q hQ S hr hK hA H locs hW hl
  have hl : lv_has ls 3 [(0, .ref (ad 55)), (1, .int (nI a)), (2, .int (nI b))] := hl
  refine lv_aload_n S.1 S.2.1 dX12_addParity_0 rfl (lv_at hl 0 rfl) ?_
  refine lv_iconst (v := nI 0) S.1 S.2.1 dX12_addParity_1 (by decide) ?_
  refine j_put (ci := 11) (C := RX12) (T := TX12) (N := 17) (ty := .int) S (fun w h => List.mem_cons_of_mem _ (inG12 w h)) tyX12 tyX12_ok nmX12 hK hW gO rfl 0 (by decide) (List.mem_cons_of_mem _ wfl_X12_1) (fun _ h9 => h9) rfl (by decide +kernel) (rfl) (rfl) (Nat.le_of_ble_eq_true rfl) dX12_addParity_2 (fun H locs w_ hU1 hN1 hW => ?_)
  have hU : jU w w_ [55, 60, 61, 62, 63, 64] := jU.mono hU1 (by decide)
  have gC0_ := hU1.get gC0 (by decide)
  have gC1_ := hU1.get gC1 (by decide)
  have gC2_ := hU1.get gC2 (by decide)
  have gC3_ := hU1.get gC3 (by decide)
  have gC4_ := hU1.get gC4 (by decide)
  have gO_ : w_[55]? = some (ad 55, .inr (11, [.int (nI 0), .ref (ad 56), .ref (ad 57), .ref (ad 58), .ref (ad 59), .ref (ad 60), .ref (ad 61), .ref (ad 62), .ref (ad 63), .ref (ad 64), .ref (ad 65), .int (nI n), .int (nI nc), .ref (ad 66), .ref (ad 71), .ref (ad 72), .ref (ad 73)])) := hN1
  clear hU1 hN1
  refine lv_aload_n S.1 S.2.1 dX12_addParity_5 rfl (lv_at hl 0 rfl) ?_
  refine lv_iload_n S.1 S.2.1 dX12_addParity_6 rfl (lv_at hl 1 rfl) ?_
  refine j_callV (k := 55) (ci := 11) (q := (RX12, TX12, 17)) (As := [.int (nI a)]) (rest := []) S hK hA hW (c_X12_isSet l D cy ad 0 n nc (nI a) gO_   (by omega)) (jgo wm_X12_82) yk_X12_isSet gO_ rfl rfl ⟨⟨rfl, rfl⟩, by decide, by decide⟩ rfl hl.1 rfl (Nat.le_of_ble_eq_true rfl) dX12_addParity_7 ⟨Nat.le_of_ble_eq_true rfl, Nat.le_of_ble_eq_true rfl⟩ (fun v u H locs hp hW => ?_)
  obtain ⟨rfl, rfl⟩ := hp
  refine W.eq (g2 := F0 m 10 ls [.int (bI (vB (nI a) (2 ^ n)))]) rfl ?_
  refine jb_if_eq (tgt := 26) S dX12_addParity_10 (by decide) (fun c_10 => ?_) (fun c_10 => ?_)
  · exact absurd (vB_nI ha (by have := two_pow10 hn; omega)) (by rw [c_10]; decide)
  · refine lv_iload_n S.1 S.2.1 dX12_addParity_13 rfl (lv_at hl 1 rfl) ?_
    have ha10 : a < 1024 := by have := two_pow10 hn; omega
    refine jn_if_eq (tgt := 26) S (by omega) dX12_addParity_14 (by decide) (fun c_14 => ?_) (fun c_14 => ?_)
    · exact absurd c_14 hab
    · refine lv_iload_n S.1 S.2.1 dX12_addParity_17 rfl (lv_at hl 2 rfl) ?_
      refine lv_iconst (v := nI 0) S.1 S.2.1 dX12_addParity_18 (by decide) ?_
      refine lv_iconst (v := nI 1) S.1 S.2.1 dX12_addParity_19 (by decide) ?_
      refine j_callS (As := [.int (nI b), .int (nI 0), .int (nI 1)]) (rest := []) S hK hA hW (c_X12_isBetween l D cy (nI b) (nI 0) (nI 1)    ) (jgo wm_X12_67) yk_X12_isBetween ⟨⟨rfl, rfl⟩, by decide, by decide⟩ rfl hl.1 rfl (Nat.le_of_ble_eq_true rfl) dX12_addParity_20 ⟨Nat.le_of_ble_eq_true rfl, Nat.le_of_ble_eq_true rfl⟩ (fun v u H locs hp hW => ?_)
      obtain ⟨rfl, rfl⟩ := hp
      refine W.eq (g2 := F0 m 23 ls [.int (bI (decide ((nI 0) ≤ (nI b)) && decide ((nI b) ≤ (nI 1))))]) rfl ?_
      refine lv_topi_to (y := bI (vB (nI b) 2)) (by rw [btw_k (k := 1) (by decide)]) ?_
      refine jb_if_ne (tgt := 32) S dX12_addParity_23 (by decide) (fun c_23 => ?_) (fun c_23 => ?_)
      · refine lv_aload_n S.1 S.2.1 dX12_addParity_32 rfl (lv_at hl 0 rfl) ?_
        refine lv_bipush (v := nI 120) S.1 S.2.1 dX12_addParity_33 (by decide) ?_
        refine lv_iload_n S.1 S.2.1 dX12_addParity_35 rfl (lv_at hl 1 rfl) ?_
        refine lv_iconst (v := nI 0) S.1 S.2.1 dX12_addParity_36 (by decide) ?_
        refine lv_iload_n S.1 S.2.1 dX12_addParity_37 rfl (lv_at hl 2 rfl) ?_
        refine lv_iload_n S.1 S.2.1 dX12_addParity_38 rfl (lv_at hl 2 rfl) ?_
        refine j_callV (k := 55) (ci := 11) (q := (RX12, TX12, 17)) (As := [.int (nI 120), .int (nI a), .int (nI 0), .int (nI b), .int (nI b)]) (rest := []) S hK hA hW (c_X12_adds_ok l D cy ad 0 n nc cs 120 a 0 b b gO_ gC0_ gC1_ gC2_ gC3_ gC4_   (by omega) (by decide)) (jgo wm_X12_85) yk_X12_adds gO_ rfl rfl ⟨⟨rfl, rfl⟩, by decide, by decide⟩ rfl hl.1 rfl (Nat.le_of_ble_eq_true rfl) dX12_addParity_39 ⟨Nat.le_of_ble_eq_true rfl, Nat.le_of_ble_eq_true rfl⟩ (fun v w_ H locs hp hW => ?_)
        obtain ⟨rfl, hU1, hN1, hN2, hN3, hN4, hN5, hN6⟩ := hp
        have hU := hU.then hU1 (by decide)
        have gO_ : w_[55]? = some (ad 55, .inr (11, [.int (nI 0), .ref (ad 56), .ref (ad 57), .ref (ad 58), .ref (ad 59), .ref (ad 60), .ref (ad 61), .ref (ad 62), .ref (ad 63), .ref (ad 64), .ref (ad 65), .int (nI n), .int (nI (nc + 1)), .ref (ad 66), .ref (ad 71), .ref (ad 72), .ref (ad 73)])) := hN1
        have gC0_ : w_[60]? = some (ad 60, .inl (cy 2, 20, .inl (nf (ckd (upB cs nc (120, a, 0, b, b)))))) := hN2
        have gC1_ : w_[61]? = some (ad 61, .inl (cy 0, 20, .inl (nf (cst (upB cs nc (120, a, 0, b, b)))))) := hN3
        have gC2_ : w_[62]? = some (ad 62, .inl (cy 0, 20, .inl (nf (cot (upB cs nc (120, a, 0, b, b)))))) := hN4
        have gC3_ : w_[63]? = some (ad 63, .inl (cy 0, 20, .inl (nf (cle (upB cs nc (120, a, 0, b, b)))))) := hN5
        have gC4_ : w_[64]? = some (ad 64, .inl (cy 0, 20, .inl (nf (cgr (upB cs nc (120, a, 0, b, b)))))) := hN6
        clear hU1 hN1 hN2 hN3 hN4 hN5 hN6
        refine W.eq (g2 := F0 m 42 ls [.int (nI nc)]) rfl ?_
        subst hQ
        exact j_iret (u := w_) S hr (rfl) hK hW dX12_addParity_42 ⟨by decide, by decide⟩ (⟨rfl, hU, gO_, gC0_, gC1_, gC2_, gC3_, gC4_⟩)
      · exact absurd (vB_nI hb (by decide)) (by rw [c_23]; decide)
/-- addParity, no room -/
theorem c_X12_addParity_b2 (l : Launch) (D : va_G) (cy : Nat → ClassId) {w : va_W} (ad : Nat → Nat) (th n nc : Nat) (a b : Nat) (gO : w[55]? = some (ad 55, .inr (11, [.int (nI th), .ref (ad 56), .ref (ad 57), .ref (ad 58), .ref (ad 59), .ref (ad 60), .ref (ad 61), .ref (ad 62), .ref (ad 63), .ref (ad 64), .ref (ad 65), .int (nI n), .int (nI nc), .ref (ad 66), .ref (ad 71), .ref (ad 72), .ref (ad 73)]))) (hn : n ≤ 10) (hnc : nc = 20) (ha : a < 2 ^ n) (hb : b < 2) (hab : a ≠ 0) : jM l yX12_addParity (jws yX12_addParity cX12_addParity 3 (some .int)) (jR 2 0 0) D cy w [.ref (ad 55), .int (nI a), .int (nI b)] 0 0 (fun vv uu => vv = some (.int (nI 0)) ∧ jU w uu [55] ∧ uu[55]? = some (ad 55, .inr (11, [.int (nI 2), .ref (ad 56), .ref (ad 57), .ref (ad 58), .ref (ad 59), .ref (ad 60), .ref (ad 61), .ref (ad 62), .ref (ad 63), .ref (ad 64), .ref (ad 65), .int (nI n), .int (nI nc), .ref (ad 66), .ref (ad 71), .ref (ad 72), .ref (ad 73)]))) := by
  refine j_of (by decide) rfl (Nat.le_of_ble_eq_true rfl) ?_
  intro p e s m args below meth c A ls Q hQ S hr hK hA H locs hW hl
  have hl : lv_has ls 3 [(0, .ref (ad 55)), (1, .int (nI a)), (2, .int (nI b))] := hl
  refine lv_aload_n S.1 S.2.1 dX12_addParity_0 rfl (lv_at hl 0 rfl) ?_
  refine lv_iconst (v := nI 0) S.1 S.2.1 dX12_addParity_1 (by decide) ?_
  refine j_put (ci := 11) (C := RX12) (T := TX12) (N := 17) (ty := .int) S (fun w h => List.mem_cons_of_mem _ (inG12 w h)) tyX12 tyX12_ok nmX12 hK hW gO rfl 0 (by decide) (List.mem_cons_of_mem _ wfl_X12_1) (fun _ h9 => h9) rfl (by decide +kernel) (rfl) (rfl) (Nat.le_of_ble_eq_true rfl) dX12_addParity_2 (fun H locs w_ hU1 hN1 hW => ?_)
  have hU : jU w w_ [55] := jU.mono hU1 (by decide)
  have gO_ : w_[55]? = some (ad 55, .inr (11, [.int (nI 0), .ref (ad 56), .ref (ad 57), .ref (ad 58), .ref (ad 59), .ref (ad 60), .ref (ad 61), .ref (ad 62), .ref (ad 63), .ref (ad 64), .ref (ad 65), .int (nI n), .int (nI nc), .ref (ad 66), .ref (ad 71), .ref (ad 72), .ref (ad 73)])) := hN1
  clear hU1 hN1
  refine lv_aload_n S.1 S.2.1 dX12_addParity_5 rfl (lv_at hl 0 rfl) ?_
  refine lv_iload_n S.1 S.2.1 dX12_addParity_6 rfl (lv_at hl 1 rfl) ?_
  refine j_callV (k := 55) (ci := 11) (q := (RX12, TX12, 17)) (As := [.int (nI a)]) (rest := []) S hK hA hW (c_X12_isSet l D cy ad 0 n nc (nI a) gO_   (by omega)) (jgo wm_X12_82) yk_X12_isSet gO_ rfl rfl ⟨⟨rfl, rfl⟩, by decide, by decide⟩ rfl hl.1 rfl (Nat.le_of_ble_eq_true rfl) dX12_addParity_7 ⟨Nat.le_of_ble_eq_true rfl, Nat.le_of_ble_eq_true rfl⟩ (fun v u H locs hp hW => ?_)
  obtain ⟨rfl, rfl⟩ := hp
  refine W.eq (g2 := F0 m 10 ls [.int (bI (vB (nI a) (2 ^ n)))]) rfl ?_
  refine jb_if_eq (tgt := 26) S dX12_addParity_10 (by decide) (fun c_10 => ?_) (fun c_10 => ?_)
  · exact absurd (vB_nI ha (by have := two_pow10 hn; omega)) (by rw [c_10]; decide)
  · refine lv_iload_n S.1 S.2.1 dX12_addParity_13 rfl (lv_at hl 1 rfl) ?_
    have ha10 : a < 1024 := by have := two_pow10 hn; omega
    refine jn_if_eq (tgt := 26) S (by omega) dX12_addParity_14 (by decide) (fun c_14 => ?_) (fun c_14 => ?_)
    · exact absurd c_14 hab
    · refine lv_iload_n S.1 S.2.1 dX12_addParity_17 rfl (lv_at hl 2 rfl) ?_
      refine lv_iconst (v := nI 0) S.1 S.2.1 dX12_addParity_18 (by decide) ?_
      refine lv_iconst (v := nI 1) S.1 S.2.1 dX12_addParity_19 (by decide) ?_
      refine j_callS (As := [.int (nI b), .int (nI 0), .int (nI 1)]) (rest := []) S hK hA hW (c_X12_isBetween l D cy (nI b) (nI 0) (nI 1)    ) (jgo wm_X12_67) yk_X12_isBetween ⟨⟨rfl, rfl⟩, by decide, by decide⟩ rfl hl.1 rfl (Nat.le_of_ble_eq_true rfl) dX12_addParity_20 ⟨Nat.le_of_ble_eq_true rfl, Nat.le_of_ble_eq_true rfl⟩ (fun v u H locs hp hW => ?_)
      obtain ⟨rfl, rfl⟩ := hp
      refine W.eq (g2 := F0 m 23 ls [.int (bI (decide ((nI 0) ≤ (nI b)) && decide ((nI b) ≤ (nI 1))))]) rfl ?_
      refine lv_topi_to (y := bI (vB (nI b) 2)) (by rw [btw_k (k := 1) (by decide)]) ?_
      refine jb_if_ne (tgt := 32) S dX12_addParity_23 (by decide) (fun c_23 => ?_) (fun c_23 => ?_)
      · refine lv_aload_n S.1 S.2.1 dX12_addParity_32 rfl (lv_at hl 0 rfl) ?_
        refine lv_bipush (v := nI 120) S.1 S.2.1 dX12_addParity_33 (by decide) ?_
        refine lv_iload_n S.1 S.2.1 dX12_addParity_35 rfl (lv_at hl 1 rfl) ?_
        refine lv_iconst (v := nI 0) S.1 S.2.1 dX12_addParity_36 (by decide) ?_
        refine lv_iload_n S.1 S.2.1 dX12_addParity_37 rfl (lv_at hl 2 rfl) ?_
        refine lv_iload_n S.1 S.2.1 dX12_addParity_38 rfl (lv_at hl 2 rfl) ?_
        refine j_callV (k := 55) (ci := 11) (q := (RX12, TX12, 17)) (As := [.int (nI 120), .int (nI a), .int (nI 0), .int (nI b), .int (nI b)]) (rest := []) S hK hA hW (c_X12_adds_b l D cy ad 0 n nc 120 a 0 b b gO_   (by omega)) (jgo wm_X12_85) yk_X12_adds gO_ rfl rfl ⟨⟨rfl, rfl⟩, by decide, by decide⟩ rfl hl.1 rfl (Nat.le_of_ble_eq_true rfl) dX12_addParity_39 ⟨Nat.le_of_ble_eq_true rfl, Nat.le_of_ble_eq_true rfl⟩ (fun v w_ H locs hp hW => ?_)
        obtain ⟨rfl, hU1, hN1⟩ := hp
        have hU := hU.then hU1 (by decide)
        have gO_ : w_[55]? = some (ad 55, .inr (11, [.int (nI 2), .ref (ad 56), .ref (ad 57), .ref (ad 58), .ref (ad 59), .ref (ad 60), .ref (ad 61), .ref (ad 62), .ref (ad 63), .ref (ad 64), .ref (ad 65), .int (nI n), .int (nI nc), .ref (ad 66), .ref (ad 71), .ref (ad 72), .ref (ad 73)])) := hN1
        clear hU1 hN1
        refine W.eq (g2 := F0 m 42 ls [.int (nI 0)]) rfl ?_
        subst hQ
        exact j_iret (u := w_) S hr (rfl) hK hW dX12_addParity_42 ⟨by decide, by decide⟩ (⟨rfl, hU, gO_⟩)
      · exact absurd (vB_nI hb (by decide)) (by rw [c_23]; decide)
/-- addParity, wrong arguments -/
theorem c_X12_addParity_b1 (l : Launch) (D : va_G) (cy : Nat → ClassId) {w : va_W} (ad : Nat → Nat) (th n nc : Nat) (y r : Int32) (gO : w[55]? = some (ad 55, .inr (11, [.int (nI th), .ref (ad 56), .ref (ad 57), .ref (ad 58), .ref (ad 59), .ref (ad 60), .ref (ad 61), .ref (ad 62), .ref (ad 63), .ref (ad 64), .ref (ad 65), .int (nI n), .int (nI nc), .ref (ad 66), .ref (ad 71), .ref (ad 72), .ref (ad 73)]))) (hn : n ≤ 10) (hv : vB y (2 ^ n) = false ∨ y = nI 0 ∨ vB r 2 = false) : jM l yX12_addParity (jws yX12_addParity cX12_addParity 3 (some .int)) (jR 2 0 0) D cy w [.ref (ad 55), .int y, .int r] 0 0 (fun vv uu => vv = some (.int (nI 0)) ∧ jU w uu [55] ∧ uu[55]? = some (ad 55, .inr (11, [.int (nI 1), .ref (ad 56), .ref (ad 57), .ref (ad 58), .ref (ad 59), .ref (ad 60), .ref (ad 61), .ref (ad 62), .ref (ad 63), .ref (ad 64), .ref (ad 65), .int (nI n), .int (nI nc), .ref (ad 66), .ref (ad 71), .ref (ad 72), .ref (ad 73)]))) := by
  refine j_of (by decide) rfl (Nat.le_of_ble_eq_true rfl) ?_
  intro p e s m args below meth c A ls Q hQ S hr hK hA H locs hW hl
  have hl : lv_has ls 3 [(0, .ref (ad 55)), (1, .int y), (2, .int r)] := hl
  refine lv_aload_n S.1 S.2.1 dX12_addParity_0 rfl (lv_at hl 0 rfl) ?_
  refine lv_iconst (v := nI 0) S.1 S.2.1 dX12_addParity_1 (by decide) ?_
  refine j_put (ci := 11) (C := RX12) (T := TX12) (N := 17) (ty := .int) S (fun w h => List.mem_cons_of_mem _ (inG12 w h)) tyX12 tyX12_ok nmX12 hK hW gO rfl 0 (by decide) (List.mem_cons_of_mem _ wfl_X12_1) (fun _ h9 => h9) rfl (by decide +kernel) (rfl) (rfl) (Nat.le_of_ble_eq_true rfl) dX12_addParity_2 (fun H locs w_ hU1 hN1 hW => ?_)
  have hU : jU w w_ [55] := jU.mono hU1 (by decide)
  have gO_ : w_[55]? = some (ad 55, .inr (11, [.int (nI 0), .ref (ad 56), .ref (ad 57), .ref (ad 58), .ref (ad 59), .ref (ad 60), .ref (ad 61), .ref (ad 62), .ref (ad 63), .ref (ad 64), .ref (ad 65), .int (nI n), .int (nI nc), .ref (ad 66), .ref (ad 71), .ref (ad 72), .ref (ad 73)])) := hN1
  clear hU1 hN1
  refine lv_aload_n S.1 S.2.1 dX12_addParity_5 rfl (lv_at hl 0 rfl) ?_
  refine lv_iload_n S.1 S.2.1 dX12_addParity_6 rfl (lv_at hl 1 rfl) ?_
  refine j_callV (k := 55) (ci := 11) (q := (RX12, TX12, 17)) (As := [.int y]) (rest := []) S hK hA hW (c_X12_isSet l D cy ad 0 n nc y gO_   (by omega)) (jgo wm_X12_82) yk_X12_isSet gO_ rfl rfl ⟨⟨rfl, rfl⟩, by decide, by decide⟩ rfl hl.1 rfl (Nat.le_of_ble_eq_true rfl) dX12_addParity_7 ⟨Nat.le_of_ble_eq_true rfl, Nat.le_of_ble_eq_true rfl⟩ (fun v u H locs hp hW => ?_)
  obtain ⟨rfl, rfl⟩ := hp
  refine W.eq (g2 := F0 m 10 ls [.int (bI (vB y (2 ^ n)))]) rfl ?_
  refine jb_if_eq (tgt := 26) S dX12_addParity_10 (by decide) (fun c_10 => ?_) (fun c_10 => ?_)
  · refine lv_aload_n S.1 S.2.1 dX12_addParity_26 rfl (lv_at hl 0 rfl) ?_
    refine lv_iconst (v := nI 1) S.1 S.2.1 dX12_addParity_27 (by decide) ?_
    refine j_callV (k := 55) (ci := 11) (q := (RX12, TX12, 17)) (As := [.int (nI 1)]) (rest := []) S hK hA hW (c_X12_fails l D cy ad 0 n nc 1 gO_   ) (jgo wm_X12_71) yk_X12_fails gO_ rfl rfl ⟨⟨rfl, rfl⟩, by decide, by decide⟩ rfl hl.1 rfl (Nat.le_of_ble_eq_true rfl) dX12_addParity_28 ⟨Nat.le_of_ble_eq_true rfl, Nat.le_of_ble_eq_true rfl⟩ (fun v w_ H locs hp hW => ?_)
    obtain ⟨rfl, hU1, hN1⟩ := hp
    have hU := hU.then hU1 (by decide)
    have gO_ : w_[55]? = some (ad 55, .inr (11, [.int (nI 1), .ref (ad 56), .ref (ad 57), .ref (ad 58), .ref (ad 59), .ref (ad 60), .ref (ad 61), .ref (ad 62), .ref (ad 63), .ref (ad 64), .ref (ad 65), .int (nI n), .int (nI nc), .ref (ad 66), .ref (ad 71), .ref (ad 72), .ref (ad 73)])) := hN1
    clear hU1 hN1
    refine W.eq (g2 := F0 m 31 ls [.int (nI 0)]) rfl ?_
    subst hQ
    exact j_iret (u := w_) S hr (rfl) hK hW dX12_addParity_31 ⟨by decide, by decide⟩ (⟨rfl, hU, gO_⟩)
  · refine lv_iload_n S.1 S.2.1 dX12_addParity_13 rfl (lv_at hl 1 rfl) ?_
    refine lv_if_eq (tgt := 26) S.1 S.2.1 dX12_addParity_14 (by decide) (fun c_14 => ?_) (fun c_14 => ?_)
    · refine lv_aload_n S.1 S.2.1 dX12_addParity_26 rfl (lv_at hl 0 rfl) ?_
      refine lv_iconst (v := nI 1) S.1 S.2.1 dX12_addParity_27 (by decide) ?_
      refine j_callV (k := 55) (ci := 11) (q := (RX12, TX12, 17)) (As := [.int (nI 1)]) (rest := []) S hK hA hW (c_X12_fails l D cy ad 0 n nc 1 gO_   ) (jgo wm_X12_71) yk_X12_fails gO_ rfl rfl ⟨⟨rfl, rfl⟩, by decide, by decide⟩ rfl hl.1 rfl (Nat.le_of_ble_eq_true rfl) dX12_addParity_28 ⟨Nat.le_of_ble_eq_true rfl, Nat.le_of_ble_eq_true rfl⟩ (fun v w_ H locs hp hW => ?_)
      obtain ⟨rfl, hU1, hN1⟩ := hp
      have hU := hU.then hU1 (by decide)
      have gO_ : w_[55]? = some (ad 55, .inr (11, [.int (nI 1), .ref (ad 56), .ref (ad 57), .ref (ad 58), .ref (ad 59), .ref (ad 60), .ref (ad 61), .ref (ad 62), .ref (ad 63), .ref (ad 64), .ref (ad 65), .int (nI n), .int (nI nc), .ref (ad 66), .ref (ad 71), .ref (ad 72), .ref (ad 73)])) := hN1
      clear hU1 hN1
      refine W.eq (g2 := F0 m 31 ls [.int (nI 0)]) rfl ?_
      subst hQ
      exact j_iret (u := w_) S hr (rfl) hK hW dX12_addParity_31 ⟨by decide, by decide⟩ (⟨rfl, hU, gO_⟩)
    · refine lv_iload_n S.1 S.2.1 dX12_addParity_17 rfl (lv_at hl 2 rfl) ?_
      refine lv_iconst (v := nI 0) S.1 S.2.1 dX12_addParity_18 (by decide) ?_
      refine lv_iconst (v := nI 1) S.1 S.2.1 dX12_addParity_19 (by decide) ?_
      refine j_callS (As := [.int r, .int (nI 0), .int (nI 1)]) (rest := []) S hK hA hW (c_X12_isBetween l D cy r (nI 0) (nI 1)    ) (jgo wm_X12_67) yk_X12_isBetween ⟨⟨rfl, rfl⟩, by decide, by decide⟩ rfl hl.1 rfl (Nat.le_of_ble_eq_true rfl) dX12_addParity_20 ⟨Nat.le_of_ble_eq_true rfl, Nat.le_of_ble_eq_true rfl⟩ (fun v u H locs hp hW => ?_)
      obtain ⟨rfl, rfl⟩ := hp
      refine W.eq (g2 := F0 m 23 ls [.int (bI (decide ((nI 0) ≤ r) && decide (r ≤ (nI 1))))]) rfl ?_
      refine lv_topi_to (y := bI (vB r 2)) (by rw [btw_k (k := 1) (by decide)]) ?_
      refine jb_if_ne (tgt := 32) S dX12_addParity_23 (by decide) (fun c_23 => ?_) (fun c_23 => ?_)
      · exact (by rcases hv with q | q | q; rw [c_10] at q; cases q; exact (c_14 q).elim; rw [c_23] at q; cases q)
      · refine lv_aload_n S.1 S.2.1 dX12_addParity_26 rfl (lv_at hl 0 rfl) ?_
        refine lv_iconst (v := nI 1) S.1 S.2.1 dX12_addParity_27 (by decide) ?_
        refine j_callV (k := 55) (ci := 11) (q := (RX12, TX12, 17)) (As := [.int (nI 1)]) (rest := []) S hK hA hW (c_X12_fails l D cy ad 0 n nc 1 gO_   ) (jgo wm_X12_71) yk_X12_fails gO_ rfl rfl ⟨⟨rfl, rfl⟩, by decide, by decide⟩ rfl hl.1 rfl (Nat.le_of_ble_eq_true rfl) dX12_addParity_28 ⟨Nat.le_of_ble_eq_true rfl, Nat.le_of_ble_eq_true rfl⟩ (fun v w_ H locs hp hW => ?_)
        obtain ⟨rfl, hU1, hN1⟩ := hp
        have hU := hU.then hU1 (by decide)
        have gO_ : w_[55]? = some (ad 55, .inr (11, [.int (nI 1), .ref (ad 56), .ref (ad 57), .ref (ad 58), .ref (ad 59), .ref (ad 60), .ref (ad 61), .ref (ad 62), .ref (ad 63), .ref (ad 64), .ref (ad 65), .int (nI n), .int (nI nc), .ref (ad 66), .ref (ad 71), .ref (ad 72), .ref (ad 73)])) := hN1
        clear hU1 hN1
        refine W.eq (g2 := F0 m 31 ls [.int (nI 0)]) rfl ?_
        subst hQ
        exact j_iret (u := w_) S hr (rfl) hK hW dX12_addParity_31 ⟨by decide, by decide⟩ (⟨rfl, hU, gO_⟩)
/-- addBound -/
theorem c_X12_addBound_ok (l : Launch) (D : va_G) (cy : Nat → ClassId) {w : va_W} (ad : Nat → Nat) (th n nc : Nat) (cs : Nat → CN) (a lo hi : Nat) (gO : w[55]? = some (ad 55, .inr (11, [.int (nI th), .ref (ad 56), .ref (ad 57), .ref (ad 58), .ref (ad 59), .ref (ad 60), .ref (ad 61), .ref (ad 62), .ref (ad 63), .ref (ad 64), .ref (ad 65), .int (nI n), .int (nI nc), .ref (ad 66), .ref (ad 71), .ref (ad 72), .ref (ad 73)]))) (gC0 : w[60]? = some (ad 60, .inl (cy 2, 20, .inl (nf (ckd cs))))) (gC1 : w[61]? = some (ad 61, .inl (cy 0, 20, .inl (nf (cst cs))))) (gC2 : w[62]? = some (ad 62, .inl (cy 0, 20, .inl (nf (cot cs))))) (gC3 : w[63]? = some (ad 63, .inl (cy 0, 20, .inl (nf (cle cs))))) (gC4 : w[64]? = some (ad 64, .inl (cy 0, 20, .inl (nf (cgr cs))))) (hn : n ≤ 10) (hnc : nc < 20) (ha : a < 2 ^ n) (hlo : lo ≤ hi ∧ hi ≤ 10) (hab : a ≠ 0) : jM l yX12_addBound (jws yX12_addBound cX12_addBound 4 (some .int)) (jR 2 0 0) D cy w [.ref (ad 55), .int (nI a), .int (nI lo), .int (nI hi)] 0 0 (fun vv uu => vv = some (.int (nI nc)) ∧ jU w uu [55, 60, 61, 62, 63, 64] ∧ uu[55]? = some (ad 55, .inr (11, [.int (nI 0), .ref (ad 56), .ref (ad 57), .ref (ad 58), .ref (ad 59), .ref (ad 60), .ref (ad 61), .ref (ad 62), .ref (ad 63), .ref (ad 64), .ref (ad 65), .int (nI n), .int (nI (nc + 1)), .ref (ad 66), .ref (ad 71), .ref (ad 72), .ref (ad 73)])) ∧ uu[60]? = some (ad 60, .inl (cy 2, 20, .inl (nf (ckd (upB cs nc (107, a, 0, lo, hi)))))) ∧ uu[61]? = some (ad 61, .inl (cy 0, 20, .inl (nf (cst (upB cs nc (107, a, 0, lo, hi)))))) ∧ uu[62]? = some (ad 62, .inl (cy 0, 20, .inl (nf (cot (upB cs nc (107, a, 0, lo, hi)))))) ∧ uu[63]? = some (ad 63, .inl (cy 0, 20, .inl (nf (cle (upB cs nc (107, a, 0, lo, hi)))))) ∧ uu[64]? = some (ad 64, .inl (cy 0, 20, .inl (nf (cgr (upB cs nc (107, a, 0, lo, hi))))))) := by
  refine j_of (by decide) rfl (Nat.le_of_ble_eq_true rfl) ?_
  intro p e s m args below meth c A ls Q hQ S hr hK hA H locs hW hl
  have hl : lv_has ls 4 [(0, .ref (ad 55)), (1, .int (nI a)), (2, .int (nI lo)), (3, .int (nI hi))] := hl
  refine lv_aload_n S.1 S.2.1 dX12_addBound_0 rfl (lv_at hl 0 rfl) ?_
  refine lv_iconst (v := nI 0) S.1 S.2.1 dX12_addBound_1 (by decide) ?_
  refine j_put (ci := 11) (C := RX12) (T := TX12) (N := 17) (ty := .int) S (fun w h => List.mem_cons_of_mem _ (inG12 w h)) tyX12 tyX12_ok nmX12 hK hW gO rfl 0 (by decide) (List.mem_cons_of_mem _ wfl_X12_1) (fun _ h9 => h9) rfl (by decide +kernel) (rfl) (rfl) (Nat.le_of_ble_eq_true rfl) dX12_addBound_2 (fun H locs w_ hU1 hN1 hW => ?_)
  have hU : jU w w_ [55, 60, 61, 62, 63, 64] := jU.mono hU1 (by decide)
  have gC0_ := hU1.get gC0 (by decide)
  have gC1_ := hU1.get gC1 (by decide)
  have gC2_ := hU1.get gC2 (by decide)
  have gC3_ := hU1.get gC3 (by decide)
  have gC4_ := hU1.get gC4 (by decide)
  have gO_ : w_[55]? = some (ad 55, .inr (11, [.int (nI 0), .ref (ad 56), .ref (ad 57), .ref (ad 58), .ref (ad 59), .ref (ad 60), .ref (ad 61), .ref (ad 62), .ref (ad 63), .ref (ad 64), .ref (ad 65), .int (nI n), .int (nI nc), .ref (ad 66), .ref (ad 71), .ref (ad 72), .ref (ad 73)])) := hN1
  clear hU1 hN1
  refine lv_aload_n S.1 S.2.1 dX12_addBound_5 rfl (lv_at hl 0 rfl) ?_
  refine lv_iload_n S.1 S.2.1 dX12_addBound_6 rfl (lv_at hl 1 rfl) ?_
  refine j_callV (k := 55) (ci := 11) (q := (RX12, TX12, 17)) (As := [.int (nI a)]) (rest := []) S hK hA hW (c_X12_isSet l D cy ad 0 n nc (nI a) gO_   (by omega)) (jgo wm_X12_82) yk_X12_isSet gO_ rfl rfl ⟨⟨rfl, rfl⟩, by decide, by decide⟩ rfl hl.1 rfl (Nat.le_of_ble_eq_true rfl) dX12_addBound_7 ⟨Nat.le_of_ble_eq_true rfl, Nat.le_of_ble_eq_true rfl⟩ (fun v u H locs hp hW => ?_)
  obtain ⟨rfl, rfl⟩ := hp
  refine W.eq (g2 := F0 m 10 ls [.int (bI (vB (nI a) (2 ^ n)))]) rfl ?_
  refine jb_if_eq (tgt := 37) S dX12_addBound_10 (by decide) (fun c_10 => ?_) (fun c_10 => ?_)
  · exact absurd (vB_nI ha (by have := two_pow10 hn; omega)) (by rw [c_10]; decide)
  · refine lv_iload_n S.1 S.2.1 dX12_addBound_13 rfl (lv_at hl 1 rfl) ?_
    have ha10 : a < 1024 := by have := two_pow10 hn; omega
    refine jn_if_eq (tgt := 37) S (by omega) dX12_addBound_14 (by decide) (fun c_14 => ?_) (fun c_14 => ?_)
    · exact absurd c_14 hab
    · refine lv_iload_n S.1 S.2.1 dX12_addBound_17 rfl (lv_at hl 2 rfl) ?_
      refine lv_iconst (v := nI 0) S.1 S.2.1 dX12_addBound_18 (by decide) ?_
      refine lv_bipush (v := nI 10) S.1 S.2.1 dX12_addBound_19 (by decide) ?_
      refine j_callS (As := [.int (nI lo), .int (nI 0), .int (nI 10)]) (rest := []) S hK hA hW (c_X12_isBetween l D cy (nI lo) (nI 0) (nI 10)    ) (jgo wm_X12_67) yk_X12_isBetween ⟨⟨rfl, rfl⟩, by decide, by decide⟩ rfl hl.1 rfl (Nat.le_of_ble_eq_true rfl) dX12_addBound_21 ⟨Nat.le_of_ble_eq_true rfl, Nat.le_of_ble_eq_true rfl⟩ (fun v u H locs hp hW => ?_)
      obtain ⟨rfl, rfl⟩ := hp
      refine W.eq (g2 := F0 m 24 ls [.int (bI (decide ((nI 0) ≤ (nI lo)) && decide ((nI lo) ≤ (nI 10))))]) rfl ?_
      refine lv_topi_to (y := bI (vB (nI lo) 11)) (by rw [btw_k (k := 10) (by decide)]) ?_
      refine jb_if_eq (tgt := 37) S dX12_addBound_24 (by decide) (fun c_24 => ?_) (fun c_24 => ?_)
      · exact absurd (vB_nI (show lo < 11 by omega) (by decide)) (by rw [c_24]; decide)
      · refine lv_iload_n S.1 S.2.1 dX12_addBound_27 rfl (lv_at hl 3 rfl) ?_
        refine lv_iload_n S.1 S.2.1 dX12_addBound_28 rfl (lv_at hl 2 rfl) ?_
        refine lv_bipush (v := nI 10) S.1 S.2.1 dX12_addBound_29 (by decide) ?_
        refine j_callS (As := [.int (nI hi), .int (nI lo), .int (nI 10)]) (rest := []) S hK hA hW (c_X12_isBetween l D cy (nI hi) (nI lo) (nI 10)    ) (jgo wm_X12_67) yk_X12_isBetween ⟨⟨rfl, rfl⟩, by decide, by decide⟩ rfl hl.1 rfl (Nat.le_of_ble_eq_true rfl) dX12_addBound_31 ⟨Nat.le_of_ble_eq_true rfl, Nat.le_of_ble_eq_true rfl⟩ (fun v u H locs hp hW => ?_)
        obtain ⟨rfl, rfl⟩ := hp
        refine W.eq (g2 := F0 m 34 ls [.int (bI (decide ((nI lo) ≤ (nI hi)) && decide ((nI hi) ≤ (nI 10))))]) rfl ?_
        refine jb_if_ne (tgt := 43) S dX12_addBound_34 (by decide) (fun c_34 => ?_) (fun c_34 => ?_)
        · refine lv_aload_n S.1 S.2.1 dX12_addBound_43 rfl (lv_at hl 0 rfl) ?_
          refine lv_bipush (v := nI 107) S.1 S.2.1 dX12_addBound_44 (by decide) ?_
          refine lv_iload_n S.1 S.2.1 dX12_addBound_46 rfl (lv_at hl 1 rfl) ?_
          refine lv_iconst (v := nI 0) S.1 S.2.1 dX12_addBound_47 (by decide) ?_
          refine lv_iload_n S.1 S.2.1 dX12_addBound_48 rfl (lv_at hl 2 rfl) ?_
          refine lv_iload_n S.1 S.2.1 dX12_addBound_49 rfl (lv_at hl 3 rfl) ?_
          refine j_callV (k := 55) (ci := 11) (q := (RX12, TX12, 17)) (As := [.int (nI 107), .int (nI a), .int (nI 0), .int (nI lo), .int (nI hi)]) (rest := []) S hK hA hW (c_X12_adds_ok l D cy ad 0 n nc cs 107 a 0 lo hi gO_ gC0_ gC1_ gC2_ gC3_ gC4_   (by omega) (by decide)) (jgo wm_X12_85) yk_X12_adds gO_ rfl rfl ⟨⟨rfl, rfl⟩, by decide, by decide⟩ rfl hl.1 rfl (Nat.le_of_ble_eq_true rfl) dX12_addBound_50 ⟨Nat.le_of_ble_eq_true rfl, Nat.le_of_ble_eq_true rfl⟩ (fun v w_ H locs hp hW => ?_)
          obtain ⟨rfl, hU1, hN1, hN2, hN3, hN4, hN5, hN6⟩ := hp
          have hU := hU.then hU1 (by decide)
          have gO_ : w_[55]? = some (ad 55, .inr (11, [.int (nI 0), .ref (ad 56), .ref (ad 57), .ref (ad 58), .ref (ad 59), .ref (ad 60), .ref (ad 61), .ref (ad 62), .ref (ad 63), .ref (ad 64), .ref (ad 65), .int (nI n), .int (nI (nc + 1)), .ref (ad 66), .ref (ad 71), .ref (ad 72), .ref (ad 73)])) := hN1
          have gC0_ : w_[60]? = some (ad 60, .inl (cy 2, 20, .inl (nf (ckd (upB cs nc (107, a, 0, lo, hi)))))) := hN2
          have gC1_ : w_[61]? = some (ad 61, .inl (cy 0, 20, .inl (nf (cst (upB cs nc (107, a, 0, lo, hi)))))) := hN3
          have gC2_ : w_[62]? = some (ad 62, .inl (cy 0, 20, .inl (nf (cot (upB cs nc (107, a, 0, lo, hi)))))) := hN4
          have gC3_ : w_[63]? = some (ad 63, .inl (cy 0, 20, .inl (nf (cle (upB cs nc (107, a, 0, lo, hi)))))) := hN5
          have gC4_ : w_[64]? = some (ad 64, .inl (cy 0, 20, .inl (nf (cgr (upB cs nc (107, a, 0, lo, hi)))))) := hN6
          clear hU1 hN1 hN2 hN3 hN4 hN5 hN6
          refine W.eq (g2 := F0 m 53 ls [.int (nI nc)]) rfl ?_
          subst hQ
          exact j_iret (u := w_) S hr (rfl) hK hW dX12_addBound_53 ⟨by decide, by decide⟩ (⟨rfl, hU, gO_, gC0_, gC1_, gC2_, gC3_, gC4_⟩)
        · exact absurd (and_tt (decide_eq_true ((nI_leI (by omega) (by omega)).mpr hlo.1)) (decide_eq_true ((nI_leI (by omega) (by omega)).mpr hlo.2))) (by rw [c_34]; decide)
/-- addBound, no room -/
theorem c_X12_addBound_b2 (l : Launch) (D : va_G) (cy : Nat → ClassId) {w : va_W} (ad : Nat → Nat) (th n nc : Nat) (a lo hi : Nat) (gO : w[55]? = some (ad 55, .inr (11, [.int (nI th), .ref (ad 56), .ref (ad 57), .ref (ad 58), .ref (ad 59), .ref (ad 60), .ref (ad 61), .ref (ad 62), .ref (ad 63), .ref (ad 64), .ref (ad 65), .int (nI n), .int (nI nc), .ref (ad 66), .ref (ad 71), .ref (ad 72), .ref (ad 73)]))) (hn : n ≤ 10) (hnc : nc = 20) (ha : a < 2 ^ n) (hlo : lo ≤ hi ∧ hi ≤ 10) (hab : a ≠ 0) : jM l yX12_addBound (jws yX12_addBound cX12_addBound 4 (some .int)) (jR 2 0 0) D cy w [.ref (ad 55), .int (nI a), .int (nI lo), .int (nI hi)] 0 0 (fun vv uu => vv = some (.int (nI 0)) ∧ jU w uu [55] ∧ uu[55]? = some (ad 55, .inr (11, [.int (nI 2), .ref (ad 56), .ref (ad 57), .ref (ad 58), .ref (ad 59), .ref (ad 60), .ref (ad 61), .ref (ad 62), .ref (ad 63), .ref (ad 64), .ref (ad 65), .int (nI n), .int (nI nc), .ref (ad 66), .ref (ad 71), .ref (ad 72), .ref (ad 73)]))) := by
  refine j_of (by decide) rfl (Nat.le_of_ble_eq_true rfl) ?_
  intro p e s m args below meth c A ls Q hQ S hr hK hA H locs hW hl
  have hl : lv_has ls 4 [(0, .ref (ad 55)), (1, .int (nI a)), (2, .int (nI lo)), (3, .int (nI hi))] := hl
  refine lv_aload_n S.1 S.2.1 dX12_addBound_0 rfl (lv_at hl 0 rfl) ?_
  refine lv_iconst (v := nI 0) S.1 S.2.1 dX12_addBound_1 (by decide) ?_
  refine j_put (ci := 11) (C := RX12) (T := TX12) (N := 17) (ty := .int) S (fun w h => List.mem_cons_of_mem _ (inG12 w h)) tyX12 tyX12_ok nmX12 hK hW gO rfl 0 (by decide) (List.mem_cons_of_mem _ wfl_X12_1) (fun _ h9 => h9) rfl (by decide +kernel) (rfl) (rfl) (Nat.le_of_ble_eq_true rfl) dX12_addBound_2 (fun H locs w_ hU1 hN1 hW => ?_)
  have hU : jU w w_ [55] := jU.mono hU1 (by decide)
  have gO_ : w_[55]? = some (ad 55, .inr (11, [.int (nI 0), .ref (ad 56), .ref (ad 57), .ref (ad 58), .ref (ad 59), .ref (ad 60), .ref (ad 61), .ref (ad 62), .ref (ad 63), .ref (ad 64), .ref (ad 65), .int (nI n), .int (nI nc), .ref (ad 66), .ref (ad 71), .ref (ad 72), .ref (ad 73)])) := hN1
  clear hU1 hN1
  refine lv_aload_n S.1 S.2.1 dX12_addBound_5 rfl (lv_at hl 0 rfl) ?_
  refine lv_iload_n S.1 S.2.1 dX12_addBound_6 rfl (lv_at hl 1 rfl) ?_
  refine j_callV (k := 55) (ci := 11) (q := (RX12, TX12, 17)) (As := [.int (nI a)]) (rest := []) S hK hA hW (c_X12_isSet l D cy ad 0 n nc (nI a) gO_   (by omega)) (jgo wm_X12_82) yk_X12_isSet gO_ rfl rfl ⟨⟨rfl, rfl⟩, by decide, by decide⟩ rfl hl.1 rfl (Nat.le_of_ble_eq_true rfl) dX12_addBound_7 ⟨Nat.le_of_ble_eq_true rfl, Nat.le_of_ble_eq_true rfl⟩ (fun v u H locs hp hW => ?_)
  obtain ⟨rfl, rfl⟩ := hp
  refine W.eq (g2 := F0 m 10 ls [.int (bI (vB (nI a) (2 ^ n)))]) rfl ?_
  refine jb_if_eq (tgt := 37) S dX12_addBound_10 (by decide) (fun c_10 => ?_) (fun c_10 => ?_)
  · exact absurd (vB_nI ha (by have := two_pow10 hn; omega)) (by rw [c_10]; decide)
  · refine lv_iload_n S.1 S.2.1 dX12_addBound_13 rfl (lv_at hl 1 rfl) ?_
    have ha10 : a < 1024 := by have := two_pow10 hn; omega
    refine jn_if_eq (tgt := 37) S (by omega) dX12_addBound_14 (by decide) (fun c_14 => ?_) (fun c_14 => ?_)
    · exact absurd c_14 hab
    · refine lv_iload_n S.1 S.2.1 dX12_addBound_17 rfl (lv_at hl 2 rfl) ?_
      refine lv_iconst (v := nI 0) S.1 S.2.1 dX12_addBound_18 (by decide) ?_
      refine lv_bipush (v := nI 10) S.1 S.2.1 dX12_addBound_19 (by decide) ?_
      refine j_callS (As := [.int (nI lo), .int (nI 0), .int (nI 10)]) (rest := []) S hK hA hW (c_X12_isBetween l D cy (nI lo) (nI 0) (nI 10)    ) (jgo wm_X12_67) yk_X12_isBetween ⟨⟨rfl, rfl⟩, by decide, by decide⟩ rfl hl.1 rfl (Nat.le_of_ble_eq_true rfl) dX12_addBound_21 ⟨Nat.le_of_ble_eq_true rfl, Nat.le_of_ble_eq_true rfl⟩ (fun v u H locs hp hW => ?_)
      obtain ⟨rfl, rfl⟩ := hp
      refine W.eq (g2 := F0 m 24 ls [.int (bI (decide ((nI 0) ≤ (nI lo)) && decide ((nI lo) ≤ (nI 10))))]) rfl ?_
      refine lv_topi_to (y := bI (vB (nI lo) 11)) (by rw [btw_k (k := 10) (by decide)]) ?_
      refine jb_if_eq (tgt := 37) S dX12_addBound_24 (by decide) (fun c_24 => ?_) (fun c_24 => ?_)
      · exact absurd (vB_nI (show lo < 11 by omega) (by decide)) (by rw [c_24]; decide)
      · refine lv_iload_n S.1 S.2.1 dX12_addBound_27 rfl (lv_at hl 3 rfl) ?_
        refine lv_iload_n S.1 S.2.1 dX12_addBound_28 rfl (lv_at hl 2 rfl) ?_
        refine lv_bipush (v := nI 10) S.1 S.2.1 dX12_addBound_29 (by decide) ?_
        refine j_callS (As := [.int (nI hi), .int (nI lo), .int (nI 10)]) (rest := []) S hK hA hW (c_X12_isBetween l D cy (nI hi) (nI lo) (nI 10)    ) (jgo wm_X12_67) yk_X12_isBetween ⟨⟨rfl, rfl⟩, by decide, by decide⟩ rfl hl.1 rfl (Nat.le_of_ble_eq_true rfl) dX12_addBound_31 ⟨Nat.le_of_ble_eq_true rfl, Nat.le_of_ble_eq_true rfl⟩ (fun v u H locs hp hW => ?_)
        obtain ⟨rfl, rfl⟩ := hp
        refine W.eq (g2 := F0 m 34 ls [.int (bI (decide ((nI lo) ≤ (nI hi)) && decide ((nI hi) ≤ (nI 10))))]) rfl ?_
        refine jb_if_ne (tgt := 43) S dX12_addBound_34 (by decide) (fun c_34 => ?_) (fun c_34 => ?_)
        · refine lv_aload_n S.1 S.2.1 dX12_addBound_43 rfl (lv_at hl 0 rfl) ?_
          refine lv_bipush (v := nI 107) S.1 S.2.1 dX12_addBound_44 (by decide) ?_
          refine lv_iload_n S.1 S.2.1 dX12_addBound_46 rfl (lv_at hl 1 rfl) ?_
          refine lv_iconst (v := nI 0) S.1 S.2.1 dX12_addBound_47 (by decide) ?_
          refine lv_iload_n S.1 S.2.1 dX12_addBound_48 rfl (lv_at hl 2 rfl) ?_
          refine lv_iload_n S.1 S.2.1 dX12_addBound_49 rfl (lv_at hl 3 rfl) ?_
          refine j_callV (k := 55) (ci := 11) (q := (RX12, TX12, 17)) (As := [.int (nI 107), .int (nI a), .int (nI 0), .int (nI lo), .int (nI hi)]) (rest := []) S hK hA hW (c_X12_adds_b l D cy ad 0 n nc 107 a 0 lo hi gO_   (by omega)) (jgo wm_X12_85) yk_X12_adds gO_ rfl rfl ⟨⟨rfl, rfl⟩, by decide, by decide⟩ rfl hl.1 rfl (Nat.le_of_ble_eq_true rfl) dX12_addBound_50 ⟨Nat.le_of_ble_eq_true rfl, Nat.le_of_ble_eq_true rfl⟩ (fun v w_ H locs hp hW => ?_)
          obtain ⟨rfl, hU1, hN1⟩ := hp
          have hU := hU.then hU1 (by decide)
          have gO_ : w_[55]? = some (ad 55, .inr (11, [.int (nI 2), .ref (ad 56), .ref (ad 57), .ref (ad 58), .ref (ad 59), .ref (ad 60), .ref (ad 61), .ref (ad 62), .ref (ad 63), .ref (ad 64), .ref (ad 65), .int (nI n), .int (nI nc), .ref (ad 66), .ref (ad 71), .ref (ad 72), .ref (ad 73)])) := hN1
          clear hU1 hN1
          refine W.eq (g2 := F0 m 53 ls [.int (nI 0)]) rfl ?_
          subst hQ
          exact j_iret (u := w_) S hr (rfl) hK hW dX12_addBound_53 ⟨by decide, by decide⟩ (⟨rfl, hU, gO_⟩)
        · exact absurd (and_tt (decide_eq_true ((nI_leI (by omega) (by omega)).mpr hlo.1)) (decide_eq_true ((nI_leI (by omega) (by omega)).mpr hlo.2))) (by rw [c_34]; decide)
/-- addBound, wrong arguments -/
theorem c_X12_addBound_b1 (l : Launch) (D : va_G) (cy : Nat → ClassId) {w : va_W} (ad : Nat → Nat) (th n nc : Nat) (y lo hi : Int32) (gO : w[55]? = some (ad 55, .inr (11, [.int (nI th), .ref (ad 56), .ref (ad 57), .ref (ad 58), .ref (ad 59), .ref (ad 60), .ref (ad 61), .ref (ad 62), .ref (ad 63), .ref (ad 64), .ref (ad 65), .int (nI n), .int (nI nc), .ref (ad 66), .ref (ad 71), .ref (ad 72), .ref (ad 73)]))) (hn : n ≤ 10) (hv : vB y (2 ^ n) = false ∨ y = nI 0 ∨ bdB lo hi = false) : jM l yX12_addBound (jws yX12_addBound cX12_addBound 4 (some .int)) (jR 2 0 0) D cy w [.ref (ad 55), .int y, .int lo, .int hi] 0 0 (fun vv uu => vv = some (.int (nI 0)) ∧ jU w uu [55] ∧ uu[55]? = some (ad 55, .inr (11, [.int (nI 1), .ref (ad 56), .ref (ad 57), .ref (ad 58), .ref (ad 59), .ref (ad 60), .ref (ad 61), .ref (ad 62), .ref (ad 63), .ref (ad 64), .ref (ad 65), .int (nI n), .int (nI nc), .ref (ad 66), .ref (ad 71), .ref (ad 72), .ref (ad 73)]))) := by
  refine j_of (by decide) rfl (Nat.le_of_ble_eq_true rfl) ?_
  intro p e s m args below meth c A ls Q hQ S hr hK hA H locs hW hl
  have hl : lv_has ls 4 [(0, .ref (ad 55)), (1, .int y), (2, .int lo), (3, .int hi)] := hl
  refine lv_aload_n S.1 S.2.1 dX12_addBound_0 rfl (lv_at hl 0 rfl) ?_
  refine lv_iconst (v := nI 0) S.1 S.2.1 dX12_addBound_1 (by decide) ?_
  refine j_put (ci := 11) (C := RX12) (T := TX12) (N := 17) (ty := .int) S (fun w h => List.mem_cons_of_mem _ (inG12 w h)) tyX12 tyX12_ok nmX12 hK hW gO rfl 0 (by decide) (List.mem_cons_of_mem _ wfl_X12_1) (fun _ h9 => h9) rfl (by decide +kernel) (rfl) (rfl) (Nat.le_of_ble_eq_true rfl) dX12_addBound_2 (fun H locs w_ hU1 hN1 hW => ?_)
  have hU : jU w w_ [55] := jU.mono hU1 (by decide)
  have gO_ : w_[55]? = some (ad 55, .inr (11, [.int (nI 0), .ref (ad 56), .ref (ad 57), .ref (ad 58), .ref (ad 59), .ref (ad 60), .ref (ad 61), .ref (ad 62), .ref (ad 63), .ref (ad 64), .ref (ad 65), .int (nI n), .int (nI nc), .ref (ad 66), .ref (ad 71), .ref (ad 72), .ref (ad 73)])) := hN1
  clear hU1 hN1
  refine lv_aload_n S.1 S.2.1 dX12_addBound_5 rfl (lv_at hl 0 rfl) ?_
  refine lv_iload_n S.1 S.2.1 dX12_addBound_6 rfl (lv_at hl 1 rfl) ?_
  refine j_callV (k := 55) (ci := 11) (q := (RX12, TX12, 17)) (As := [.int y]) (rest := []) S hK hA hW (c_X12_isSet l D cy ad 0 n nc y gO_   (by omega)) (jgo wm_X12_82) yk_X12_isSet gO_ rfl rfl ⟨⟨rfl, rfl⟩, by decide, by decide⟩ rfl hl.1 rfl (Nat.le_of_ble_eq_true rfl) dX12_addBound_7 ⟨Nat.le_of_ble_eq_true rfl, Nat.le_of_ble_eq_true rfl⟩ (fun v u H locs hp hW => ?_)
  obtain ⟨rfl, rfl⟩ := hp
  refine W.eq (g2 := F0 m 10 ls [.int (bI (vB y (2 ^ n)))]) rfl ?_
  refine jb_if_eq (tgt := 37) S dX12_addBound_10 (by decide) (fun c_10 => ?_) (fun c_10 => ?_)
  · refine lv_aload_n S.1 S.2.1 dX12_addBound_37 rfl (lv_at hl 0 rfl) ?_
    refine lv_iconst (v := nI 1) S.1 S.2.1 dX12_addBound_38 (by decide) ?_
    refine j_callV (k := 55) (ci := 11) (q := (RX12, TX12, 17)) (As := [.int (nI 1)]) (rest := []) S hK hA hW (c_X12_fails l D cy ad 0 n nc 1 gO_   ) (jgo wm_X12_71) yk_X12_fails gO_ rfl rfl ⟨⟨rfl, rfl⟩, by decide, by decide⟩ rfl hl.1 rfl (Nat.le_of_ble_eq_true rfl) dX12_addBound_39 ⟨Nat.le_of_ble_eq_true rfl, Nat.le_of_ble_eq_true rfl⟩ (fun v w_ H locs hp hW => ?_)
    obtain ⟨rfl, hU1, hN1⟩ := hp
    have hU := hU.then hU1 (by decide)
    have gO_ : w_[55]? = some (ad 55, .inr (11, [.int (nI 1), .ref (ad 56), .ref (ad 57), .ref (ad 58), .ref (ad 59), .ref (ad 60), .ref (ad 61), .ref (ad 62), .ref (ad 63), .ref (ad 64), .ref (ad 65), .int (nI n), .int (nI nc), .ref (ad 66), .ref (ad 71), .ref (ad 72), .ref (ad 73)])) := hN1
    clear hU1 hN1
    refine W.eq (g2 := F0 m 42 ls [.int (nI 0)]) rfl ?_
    subst hQ
    exact j_iret (u := w_) S hr (rfl) hK hW dX12_addBound_42 ⟨by decide, by decide⟩ (⟨rfl, hU, gO_⟩)
  · refine lv_iload_n S.1 S.2.1 dX12_addBound_13 rfl (lv_at hl 1 rfl) ?_
    refine lv_if_eq (tgt := 37) S.1 S.2.1 dX12_addBound_14 (by decide) (fun c_14 => ?_) (fun c_14 => ?_)
    · refine lv_aload_n S.1 S.2.1 dX12_addBound_37 rfl (lv_at hl 0 rfl) ?_
      refine lv_iconst (v := nI 1) S.1 S.2.1 dX12_addBound_38 (by decide) ?_
      refine j_callV (k := 55) (ci := 11) (q := (RX12, TX12, 17)) (As := [.int (nI 1)]) (rest := []) S hK hA hW (c_X12_fails l D cy ad 0 n nc 1 gO_   ) (jgo wm_X12_71) yk_X12_fails gO_ rfl rfl ⟨⟨rfl, rfl⟩, by decide, by decide⟩ rfl hl.1 rfl (Nat.le_of_ble_eq_true rfl) dX12_addBound_39 ⟨Nat.le_of_ble_eq_true rfl, Nat.le_of_ble_eq_true rfl⟩ (fun v w_ H locs hp hW => ?_)
      obtain ⟨rfl, hU1, hN1⟩ := hp
      have hU := hU.then hU1 (by decide)
      have gO_ : w_[55]? = some (ad 55, .inr (11, [.int (nI 1), .ref (ad 56), .ref (ad 57), .ref (ad 58), .ref (ad 59), .ref (ad 60), .ref (ad 61), .ref (ad 62), .ref (ad 63), .ref (ad 64), .ref (ad 65), .int (nI n), .int (nI nc), .ref (ad 66), .ref (ad 71), .ref (ad 72), .ref (ad 73)])) := hN1
      clear hU1 hN1
      refine W.eq (g2 := F0 m 42 ls [.int (nI 0)]) rfl ?_
      subst hQ
      exact j_iret (u := w_) S hr (rfl) hK hW dX12_addBound_42 ⟨by decide, by decide⟩ (⟨rfl, hU, gO_⟩)
    · refine lv_iload_n S.1 S.2.1 dX12_addBound_17 rfl (lv_at hl 2 rfl) ?_
      refine lv_iconst (v := nI 0) S.1 S.2.1 dX12_addBound_18 (by decide) ?_
      refine lv_bipush (v := nI 10) S.1 S.2.1 dX12_addBound_19 (by decide) ?_
      refine j_callS (As := [.int lo, .int (nI 0), .int (nI 10)]) (rest := []) S hK hA hW (c_X12_isBetween l D cy lo (nI 0) (nI 10)    ) (jgo wm_X12_67) yk_X12_isBetween ⟨⟨rfl, rfl⟩, by decide, by decide⟩ rfl hl.1 rfl (Nat.le_of_ble_eq_true rfl) dX12_addBound_21 ⟨Nat.le_of_ble_eq_true rfl, Nat.le_of_ble_eq_true rfl⟩ (fun v u H locs hp hW => ?_)
      obtain ⟨rfl, rfl⟩ := hp
      refine W.eq (g2 := F0 m 24 ls [.int (bI (decide ((nI 0) ≤ lo) && decide (lo ≤ (nI 10))))]) rfl ?_
      refine lv_topi_to (y := bI (vB lo 11)) (by rw [btw_k (k := 10) (by decide)]) ?_
      refine jb_if_eq (tgt := 37) S dX12_addBound_24 (by decide) (fun c_24 => ?_) (fun c_24 => ?_)
      · refine lv_aload_n S.1 S.2.1 dX12_addBound_37 rfl (lv_at hl 0 rfl) ?_
        refine lv_iconst (v := nI 1) S.1 S.2.1 dX12_addBound_38 (by decide) ?_
        refine j_callV (k := 55) (ci := 11) (q := (RX12, TX12, 17)) (As := [.int (nI 1)]) (rest := []) S hK hA hW (c_X12_fails l D cy ad 0 n nc 1 gO_   ) (jgo wm_X12_71) yk_X12_fails gO_ rfl rfl ⟨⟨rfl, rfl⟩, by decide, by decide⟩ rfl hl.1 rfl (Nat.le_of_ble_eq_true rfl) dX12_addBound_39 ⟨Nat.le_of_ble_eq_true rfl, Nat.le_of_ble_eq_true rfl⟩ (fun v w_ H locs hp hW => ?_)
        obtain ⟨rfl, hU1, hN1⟩ := hp
        have hU := hU.then hU1 (by decide)
        have gO_ : w_[55]? = some (ad 55, .inr (11, [.int (nI 1), .ref (ad 56), .ref (ad 57), .ref (ad 58), .ref (ad 59), .ref (ad 60), .ref (ad 61), .ref (ad 62), .ref (ad 63), .ref (ad 64), .ref (ad 65), .int (nI n), .int (nI nc), .ref (ad 66), .ref (ad 71), .ref (ad 72), .ref (ad 73)])) := hN1
        clear hU1 hN1
        refine W.eq (g2 := F0 m 42 ls [.int (nI 0)]) rfl ?_
        subst hQ
        exact j_iret (u := w_) S hr (rfl) hK hW dX12_addBound_42 ⟨by decide, by decide⟩ (⟨rfl, hU, gO_⟩)
      · refine lv_iload_n S.1 S.2.1 dX12_addBound_27 rfl (lv_at hl 3 rfl) ?_
        refine lv_iload_n S.1 S.2.1 dX12_addBound_28 rfl (lv_at hl 2 rfl) ?_
        refine lv_bipush (v := nI 10) S.1 S.2.1 dX12_addBound_29 (by decide) ?_
        refine j_callS (As := [.int hi, .int lo, .int (nI 10)]) (rest := []) S hK hA hW (c_X12_isBetween l D cy hi lo (nI 10)    ) (jgo wm_X12_67) yk_X12_isBetween ⟨⟨rfl, rfl⟩, by decide, by decide⟩ rfl hl.1 rfl (Nat.le_of_ble_eq_true rfl) dX12_addBound_31 ⟨Nat.le_of_ble_eq_true rfl, Nat.le_of_ble_eq_true rfl⟩ (fun v u H locs hp hW => ?_)
        obtain ⟨rfl, rfl⟩ := hp
        refine W.eq (g2 := F0 m 34 ls [.int (bI (decide (lo ≤ hi) && decide (hi ≤ (nI 10))))]) rfl ?_
        refine jb_if_ne (tgt := 43) S dX12_addBound_34 (by decide) (fun c_34 => ?_) (fun c_34 => ?_)
        · exact (by rcases hv with q | q | q; rw [c_10] at q; cases q; exact (c_14 q).elim; exact (bd_ref c_24 c_34 q).elim)
        · refine lv_aload_n S.1 S.2.1 dX12_addBound_37 rfl (lv_at hl 0 rfl) ?_
          refine lv_iconst (v := nI 1) S.1 S.2.1 dX12_addBound_38 (by decide) ?_
          refine j_callV (k := 55) (ci := 11) (q := (RX12, TX12, 17)) (As := [.int (nI 1)]) (rest := []) S hK hA hW (c_X12_fails l D cy ad 0 n nc 1 gO_   ) (jgo wm_X12_71) yk_X12_fails gO_ rfl rfl ⟨⟨rfl, rfl⟩, by decide, by decide⟩ rfl hl.1 rfl (Nat.le_of_ble_eq_true rfl) dX12_addBound_39 ⟨Nat.le_of_ble_eq_true rfl, Nat.le_of_ble_eq_true rfl⟩ (fun v w_ H locs hp hW => ?_)
          obtain ⟨rfl, hU1, hN1⟩ := hp
          have hU := hU.then hU1 (by decide)
          have gO_ : w_[55]? = some (ad 55, .inr (11, [.int (nI 1), .ref (ad 56), .ref (ad 57), .ref (ad 58), .ref (ad 59), .ref (ad 60), .ref (ad 61), .ref (ad 62), .ref (ad 63), .ref (ad 64), .ref (ad 65), .int (nI n), .int (nI nc), .ref (ad 66), .ref (ad 71), .ref (ad 72), .ref (ad 73)])) := hN1
          clear hU1 hN1
          refine W.eq (g2 := F0 m 42 ls [.int (nI 0)]) rfl ?_
          subst hQ
          exact j_iret (u := w_) S hr (rfl) hK hW dX12_addBound_42 ⟨by decide, by decide⟩ (⟨rfl, hU, gO_⟩)
/-- drop -/
theorem c_X12_drop_ok (l : Launch) (D : va_G) (cy : Nat → ClassId) {w : va_W} (ad : Nat → Nat) (th n nc : Nat) (lv : Nat) (j : Nat) (gO : w[55]? = some (ad 55, .inr (11, [.int (nI th), .ref (ad 56), .ref (ad 57), .ref (ad 58), .ref (ad 59), .ref (ad 60), .ref (ad 61), .ref (ad 62), .ref (ad 63), .ref (ad 64), .ref (ad 65), .int (nI n), .int (nI nc), .ref (ad 66), .ref (ad 71), .ref (ad 72), .ref (ad 73)]))) (gP : w[65]? = some (ad 65, .inl (cy 3, 20, .inl (bf (dpB nc lv))))) (hnc : nc ≤ 20) (hj : j < nc) (hl1 : lv.testBit j = true) : jM l yX12_drop (jws yX12_drop cX12_drop 4 (some .int)) (jR 2 0 0) D cy w [.ref (ad 55), .int (nI j)] 0 0 (fun vv uu => vv = some (.int (nI (cnt (nAnd lv (2 ^ j)).testBit nc))) ∧ jU w uu [55, 65] ∧ uu[55]? = some (ad 55, .inr (11, [.int (nI 0), .ref (ad 56), .ref (ad 57), .ref (ad 58), .ref (ad 59), .ref (ad 60), .ref (ad 61), .ref (ad 62), .ref (ad 63), .ref (ad 64), .ref (ad 65), .int (nI n), .int (nI nc), .ref (ad 66), .ref (ad 71), .ref (ad 72), .ref (ad 73)])) ∧ uu[65]? = some (ad 65, .inl (cy 3, 20, .inl (bf (dpB nc (nAnd lv (2 ^ j))))))) := by
  refine j_of (by decide) rfl (Nat.le_of_ble_eq_true rfl) ?_
  intro p e s m args below meth c A ls Q hQ S hr hK hA H locs hW hl
  have hl : lv_has ls 4 [(0, .ref (ad 55)), (1, .int (nI j))] := hl
  refine lv_aload_n S.1 S.2.1 dX12_drop_0 rfl (lv_at hl 0 rfl) ?_
  refine lv_iconst (v := nI 0) S.1 S.2.1 dX12_drop_1 (by decide) ?_
  refine j_put (ci := 11) (C := RX12) (T := TX12) (N := 17) (ty := .int) S (fun w h => List.mem_cons_of_mem _ (inG12 w h)) tyX12 tyX12_ok nmX12 hK hW gO rfl 0 (by decide) (List.mem_cons_of_mem _ wfl_X12_1) (fun _ h9 => h9) rfl (by decide +kernel) (rfl) (rfl) (Nat.le_of_ble_eq_true rfl) dX12_drop_2 (fun H locs w_ hU1 hN1 hW => ?_)
  have hU : jU w w_ [55, 65] := jU.mono hU1 (by decide)
  have gP_ := hU1.get gP (by decide)
  have gO_ : w_[55]? = some (ad 55, .inr (11, [.int (nI 0), .ref (ad 56), .ref (ad 57), .ref (ad 58), .ref (ad 59), .ref (ad 60), .ref (ad 61), .ref (ad 62), .ref (ad 63), .ref (ad 64), .ref (ad 65), .int (nI n), .int (nI nc), .ref (ad 66), .ref (ad 71), .ref (ad 72), .ref (ad 73)])) := hN1
  clear hU1 hN1
  refine lv_aload_n S.1 S.2.1 dX12_drop_5 rfl (lv_at hl 0 rfl) ?_
  refine lv_iload_n S.1 S.2.1 dX12_drop_6 rfl (lv_at hl 1 rfl) ?_
  refine j_callV (k := 55) (ci := 11) (q := (RX12, TX12, 17)) (As := [.int (nI j)]) (rest := []) S hK hA hW (c_X12_isConstraint l D cy ad 0 n nc (nI j) gO_   (by omega)) (jgo wm_X12_89) yk_X12_isConstraint gO_ rfl rfl ⟨⟨rfl, rfl⟩, by decide, by decide⟩ rfl hl.1 rfl (Nat.le_of_ble_eq_true rfl) dX12_drop_7 ⟨Nat.le_of_ble_eq_true rfl, Nat.le_of_ble_eq_true rfl⟩ (fun v u H locs hp hW => ?_)
  obtain ⟨rfl, rfl⟩ := hp
  refine W.eq (g2 := F0 m 10 ls [.int (bI (vB (nI j) nc))]) rfl ?_
  refine jb_if_ne (tgt := 19) S dX12_drop_10 (by decide) (fun c_10 => ?_) (fun c_10 => ?_)
  · refine lv_aload_n S.1 S.2.1 dX12_drop_19 rfl (lv_at hl 0 rfl) ?_
    refine j_get (ci := 11) (C := RX12) (T := TX12) (N := 17) (v := .ref (ad 65)) S (fun w h => List.mem_cons_of_mem _ (inG12 w h)) hK hW gO_ rfl 10 (by decide) (List.mem_cons_of_mem _ wfl_X12_46) (fun _ h9 => h9) rfl dX12_drop_20 ?_
    refine lv_iload_n S.1 S.2.1 dX12_drop_23 rfl (lv_at hl 1 rfl) ?_
    refine j_zald (x := bI (dpB nc lv j)) S hK hW gP_ (vp_in_nI (by omega) (by omega)) (nI_clamp (by omega)) (rfl) dX12_drop_24 ?_
    refine jb_if_eq (tgt := 34) S dX12_drop_25 (by decide) (fun c_25 => ?_) (fun c_25 => ?_)
    · refine lv_aload_n S.1 S.2.1 dX12_drop_34 rfl (lv_at hl 0 rfl) ?_
      refine j_get (ci := 11) (C := RX12) (T := TX12) (N := 17) (v := .ref (ad 65)) S (fun w h => List.mem_cons_of_mem _ (inG12 w h)) hK hW gO_ rfl 10 (by decide) (List.mem_cons_of_mem _ wfl_X12_46) (fun _ h9 => h9) rfl dX12_drop_35 ?_
      refine lv_iload_n S.1 S.2.1 dX12_drop_38 rfl (lv_at hl 1 rfl) ?_
      refine lv_iconst (v := nI 1) S.1 S.2.1 dX12_drop_39 (by decide) ?_
      refine j_zast S hK hW gP_ (vp_in_nI (by omega) (by omega)) (nI_clamp (by omega)) (rfl) dX12_drop_40 (fun H locs w_ hU1 hN1 hW => ?_)
      have hU := hU.then hU1 (by decide)
      have gO_ := hU1.get gO_ (by decide)
      have gP_ : w_[65]? = some (ad 65, .inl (cy 3, 20, .inl (upd (bf (dpB nc lv)) j (nI 1)))) := hN1
      clear hU1 hN1
      refine lv_iconst (v := nI 0) S.1 S.2.1 dX12_drop_41 (by decide) ?_
      refine lv_istore_n (lv' := [(2, .int (nI 0)), (0, .ref (ad 55)), (1, .int (nI j))]) S.1 S.2.1 dX12_drop_42 rfl hl (by decide) rfl (fun ls hl => ?_)
      refine lv_iconst (v := nI 0) S.1 S.2.1 dX12_drop_43 (by decide) ?_
      refine lv_istore_n (lv' := [(3, .int (nI 0)), (2, .int (nI 0)), (0, .ref (ad 55)), (1, .int (nI j))]) S.1 S.2.1 dX12_drop_44 rfl hl (by decide) rfl (fun ls hl => ?_)
      have gP_ : w_[65]? = some (ad 65, .inl (cy 3, 20, .inl (bf (dpB nc (nAnd lv (2 ^ j)))))) := by
        rw [← dpB_drop hj, ← bf_upd]; exact gP_
      have L45 : ∀ (k : Nat) (i : Nat), nc - i = k → (i ≤ nc) → ∀ (w_ : va_W), jU w w_ [55, 65] → (w_[55]? = some (ad 55, .inr (11, [.int (nI 0), .ref (ad 56), .ref (ad 57), .ref (ad 58), .ref (ad 59), .ref (ad 60), .ref (ad 61), .ref (ad 62), .ref (ad 63), .ref (ad 64), .ref (ad 65), .int (nI n), .int (nI nc), .ref (ad 66), .ref (ad 71), .ref (ad 72), .ref (ad 73)]))) → (w_[65]? = some (ad 65, .inl (cy 3, 20, .inl (bf (dpB nc (nAnd lv (2 ^ j))))))) → ∀ (H : Heap) (locs : List Loc) (ls : Array Slot), jW D A s.heap w_ H locs → lv_has ls 4 [(0, .ref (ad 55)), (1, .int (nI j)), (2, .int (nI (cnt (nAnd lv (2 ^ j)).testBit i))), (3, .int (nI i))] → W p l e (jR 2 0 0) s m args below meth c H locs 0 0 Q (F0 m 45 ls []) := by
        intro k
        induction k using Nat.strongRecOn with
        | ind k ih45 =>
        intro i hk hi w_ hU gO_ gP_ H locs ls hW hl
        subst hk
        refine lv_iload_n S.1 S.2.1 dX12_drop_45 rfl (lv_at hl 3 rfl) ?_
        refine lv_aload_n S.1 S.2.1 dX12_drop_46 rfl (lv_at hl 0 rfl) ?_
        refine j_get (ci := 11) (C := RX12) (T := TX12) (N := 17) (v := .int (nI nc)) S (fun w h => List.mem_cons_of_mem _ (inG12 w h)) hK hW gO_ rfl 12 (by decide) (List.mem_cons_of_mem _ wfl_X12_79) (fun _ h9 => h9) rfl dX12_drop_47 ?_
        refine jn_cmp_ge (tgt := 76) S (by omega) (by omega) dX12_drop_50 (by decide) (fun c_50 => ?_) (fun c_50 => ?_)
        · refine lv_iload_n S.1 S.2.1 dX12_drop_76 rfl (lv_at hl 2 rfl) ?_
          subst hQ
          refine j_iret (u := w_) S hr (rfl) hK hW dX12_drop_77 ⟨by decide, by decide⟩ ?_
          have ei : i = nc := by omega
          subst ei
          exact ⟨rfl, hU, gO_, gP_⟩
        · refine lv_iload_n S.1 S.2.1 dX12_drop_53 rfl (lv_at hl 2 rfl) ?_
          refine lv_aload_n S.1 S.2.1 dX12_drop_54 rfl (lv_at hl 0 rfl) ?_
          refine j_get (ci := 11) (C := RX12) (T := TX12) (N := 17) (v := .ref (ad 65)) S (fun w h => List.mem_cons_of_mem _ (inG12 w h)) hK hW gO_ rfl 10 (by decide) (List.mem_cons_of_mem _ wfl_X12_46) (fun _ h9 => h9) rfl dX12_drop_55 ?_
          refine lv_iload_n S.1 S.2.1 dX12_drop_58 rfl (lv_at hl 3 rfl) ?_
          refine j_zald (x := bI (dpB nc (nAnd lv (2 ^ j)) i)) S hK hW gP_ (vp_in_nI (by omega) (by omega)) (nI_clamp (by omega)) (rfl) dX12_drop_59 ?_
          refine jb_if_eq (tgt := 67) S dX12_drop_60 (by decide) (fun c_60 => ?_) (fun c_60 => ?_)
          · refine lv_iconst (v := nI 1) S.1 S.2.1 dX12_drop_67 (by decide) ?_
            refine jn_add S dX12_drop_68 ?_
            refine lv_topi_to (y := nI (cnt (nAnd lv (2 ^ j)).testBit (i + 1))) (congrArg nI (by first | exact (cnt_s1 (by rw [dpB_at (by omega)] at c_60; simpa using c_60)).symm | exact (cnt_s0 (by rw [dpB_at (by omega)] at c_60; simpa using c_60)).symm)) ?_
            refine lv_istore_n (lv' := [(2, .int (nI (cnt (nAnd lv (2 ^ j)).testBit (i + 1)))), (0, .ref (ad 55)), (1, .int (nI j)), (3, .int (nI i))]) S.1 S.2.1 dX12_drop_69 rfl hl (by decide) rfl (fun ls hl => ?_)
            refine lv_iinc (v := nI (i + 1)) (lv' := [(3, .int (nI (i + 1))), (2, .int (nI (cnt (nAnd lv (2 ^ j)).testBit (i + 1)))), (0, .ref (ad 55)), (1, .int (nI j))]) S.1 S.2.1 dX12_drop_70 hl (k := 3) rfl (nI_add _ 1) (by decide) rfl (fun ls hl => ?_)
            refine lv_goto (tgt := 45) S.1 S.2.1 dX12_drop_73 (by decide) ?_
            exact ih45 _ (by omega) (i + 1) rfl (by omega) w_ hU gO_ gP_ H locs ls hW (lv_sub hl [2, 3, 1, 0] rfl)
          · refine lv_iconst (v := nI 0) S.1 S.2.1 dX12_drop_63 (by decide) ?_
            refine lv_goto (tgt := 68) S.1 S.2.1 dX12_drop_64 (by decide) ?_
            refine jn_add S dX12_drop_68 ?_
            refine lv_topi_to (y := nI (cnt (nAnd lv (2 ^ j)).testBit (i + 1))) (congrArg nI (by first | exact (cnt_s1 (by rw [dpB_at (by omega)] at c_60; simpa using c_60)).symm | exact (cnt_s0 (by rw [dpB_at (by omega)] at c_60; simpa using c_60)).symm)) ?_
            refine lv_istore_n (lv' := [(2, .int (nI (cnt (nAnd lv (2 ^ j)).testBit (i + 1)))), (0, .ref (ad 55)), (1, .int (nI j)), (3, .int (nI i))]) S.1 S.2.1 dX12_drop_69 rfl hl (by decide) rfl (fun ls hl => ?_)
            refine lv_iinc (v := nI (i + 1)) (lv' := [(3, .int (nI (i + 1))), (2, .int (nI (cnt (nAnd lv (2 ^ j)).testBit (i + 1)))), (0, .ref (ad 55)), (1, .int (nI j))]) S.1 S.2.1 dX12_drop_70 hl (k := 3) rfl (nI_add _ 1) (by decide) rfl (fun ls hl => ?_)
            refine lv_goto (tgt := 45) S.1 S.2.1 dX12_drop_73 (by decide) ?_
            exact ih45 _ (by omega) (i + 1) rfl (by omega) w_ hU gO_ gP_ H locs ls hW (lv_sub hl [2, 3, 1, 0] rfl)
      exact L45 _ 0 rfl (Nat.zero_le _) w_ hU gO_ gP_ H locs ls hW (lv_sub hl [2, 3, 1, 0] rfl)
    · exact absurd c_25 (by rw [dpB_at hj, hl1]; decide)
  · exact absurd (vB_nI hj (by omega)) (by rw [c_10]; decide)
/-- drop, no such constraint -/
theorem c_X12_drop_b1 (l : Launch) (D : va_G) (cy : Nat → ClassId) {w : va_W} (ad : Nat → Nat) (th n nc : Nat) (v : Int32) (gO : w[55]? = some (ad 55, .inr (11, [.int (nI th), .ref (ad 56), .ref (ad 57), .ref (ad 58), .ref (ad 59), .ref (ad 60), .ref (ad 61), .ref (ad 62), .ref (ad 63), .ref (ad 64), .ref (ad 65), .int (nI n), .int (nI nc), .ref (ad 66), .ref (ad 71), .ref (ad 72), .ref (ad 73)]))) (hnc : nc ≤ 20) (hv : vB v nc = false) : jM l yX12_drop (jws yX12_drop cX12_drop 4 (some .int)) (jR 2 0 0) D cy w [.ref (ad 55), .int v] 0 0 (fun vv uu => vv = some (.int (nI 0)) ∧ jU w uu [55] ∧ uu[55]? = some (ad 55, .inr (11, [.int (nI 1), .ref (ad 56), .ref (ad 57), .ref (ad 58), .ref (ad 59), .ref (ad 60), .ref (ad 61), .ref (ad 62), .ref (ad 63), .ref (ad 64), .ref (ad 65), .int (nI n), .int (nI nc), .ref (ad 66), .ref (ad 71), .ref (ad 72), .ref (ad 73)]))) := by
  refine j_of (by decide) rfl (Nat.le_of_ble_eq_true rfl) ?_
  intro p e s m args below meth c A ls Q hQ S hr hK hA H locs hW hl
  have hl : lv_has ls 4 [(0, .ref (ad 55)), (1, .int v)] := hl
  refine lv_aload_n S.1 S.2.1 dX12_drop_0 rfl (lv_at hl 0 rfl) ?_
  refine lv_iconst (v := nI 0) S.1 S.2.1 dX12_drop_1 (by decide) ?_
  refine j_put (ci := 11) (C := RX12) (T := TX12) (N := 17) (ty := .int) S (fun w h => List.mem_cons_of_mem _ (inG12 w h)) tyX12 tyX12_ok nmX12 hK hW gO rfl 0 (by decide) (List.mem_cons_of_mem _ wfl_X12_1) (fun _ h9 => h9) rfl (by decide +kernel) (rfl) (rfl) (Nat.le_of_ble_eq_true rfl) dX12_drop_2 (fun H locs w_ hU1 hN1 hW => ?_)
  have hU : jU w w_ [55] := jU.mono hU1 (by decide)
  have gO_ : w_[55]? = some (ad 55, .inr (11, [.int (nI 0), .ref (ad 56), .ref (ad 57), .ref (ad 58), .ref (ad 59), .ref (ad 60), .ref (ad 61), .ref (ad 62), .ref (ad 63), .ref (ad 64), .ref (ad 65), .int (nI n), .int (nI nc), .ref (ad 66), .ref (ad 71), .ref (ad 72), .ref (ad 73)])) := hN1
  clear hU1 hN1
  refine lv_aload_n S.1 S.2.1 dX12_drop_5 rfl (lv_at hl 0 rfl) ?_
  refine lv_iload_n S.1 S.2.1 dX12_drop_6 rfl (lv_at hl 1 rfl) ?_
  refine j_callV (k := 55) (ci := 11) (q := (RX12, TX12, 17)) (As := [.int v]) (rest := []) S hK hA hW (c_X12_isConstraint l D cy ad 0 n nc v gO_   (by omega)) (jgo wm_X12_89) yk_X12_isConstraint gO_ rfl rfl ⟨⟨rfl, rfl⟩, by decide, by decide⟩ rfl hl.1 rfl (Nat.le_of_ble_eq_true rfl) dX12_drop_7 ⟨Nat.le_of_ble_eq_true rfl, Nat.le_of_ble_eq_true rfl⟩ (fun v u H locs hp hW => ?_)
  obtain ⟨rfl, rfl⟩ := hp
  refine W.eq (g2 := F0 m 10 ls [.int (bI (vB v nc))]) rfl ?_
  refine jb_if_ne (tgt := 19) S dX12_drop_10 (by decide) (fun c_10 => ?_) (fun c_10 => ?_)
  · exact absurd c_10 (by rw [hv]; decide)
  · refine lv_aload_n S.1 S.2.1 dX12_drop_13 rfl (lv_at hl 0 rfl) ?_
    refine lv_iconst (v := nI 1) S.1 S.2.1 dX12_drop_14 (by decide) ?_
    refine j_callV (k := 55) (ci := 11) (q := (RX12, TX12, 17)) (As := [.int (nI 1)]) (rest := []) S hK hA hW (c_X12_fails l D cy ad 0 n nc 1 gO_   ) (jgo wm_X12_71) yk_X12_fails gO_ rfl rfl ⟨⟨rfl, rfl⟩, by decide, by decide⟩ rfl hl.1 rfl (Nat.le_of_ble_eq_true rfl) dX12_drop_15 ⟨Nat.le_of_ble_eq_true rfl, Nat.le_of_ble_eq_true rfl⟩ (fun v w_ H locs hp hW => ?_)
    obtain ⟨rfl, hU1, hN1⟩ := hp
    have hU := hU.then hU1 (by decide)
    have gO_ : w_[55]? = some (ad 55, .inr (11, [.int (nI 1), .ref (ad 56), .ref (ad 57), .ref (ad 58), .ref (ad 59), .ref (ad 60), .ref (ad 61), .ref (ad 62), .ref (ad 63), .ref (ad 64), .ref (ad 65), .int (nI n), .int (nI nc), .ref (ad 66), .ref (ad 71), .ref (ad 72), .ref (ad 73)])) := hN1
    clear hU1 hN1
    refine W.eq (g2 := F0 m 18 ls [.int (nI 0)]) rfl ?_
    subst hQ
    exact j_iret (u := w_) S hr (rfl) hK hW dX12_drop_18 ⟨by decide, by decide⟩ (⟨rfl, hU, gO_⟩)
/-- drop, dropped -/
theorem c_X12_drop_b2 (l : Launch) (D : va_G) (cy : Nat → ClassId) {w : va_W} (ad : Nat → Nat) (th n nc : Nat) (lv : Nat) (j : Nat) (gO : w[55]? = some (ad 55, .inr (11, [.int (nI th), .ref (ad 56), .ref (ad 57), .ref (ad 58), .ref (ad 59), .ref (ad 60), .ref (ad 61), .ref (ad 62), .ref (ad 63), .ref (ad 64), .ref (ad 65), .int (nI n), .int (nI nc), .ref (ad 66), .ref (ad 71), .ref (ad 72), .ref (ad 73)]))) (gP : w[65]? = some (ad 65, .inl (cy 3, 20, .inl (bf (dpB nc lv))))) (hnc : nc ≤ 20) (hj : j < nc) (hl1 : lv.testBit j = false) : jM l yX12_drop (jws yX12_drop cX12_drop 4 (some .int)) (jR 2 0 0) D cy w [.ref (ad 55), .int (nI j)] 0 0 (fun vv uu => vv = some (.int (nI 0)) ∧ jU w uu [55] ∧ uu[55]? = some (ad 55, .inr (11, [.int (nI 2), .ref (ad 56), .ref (ad 57), .ref (ad 58), .ref (ad 59), .ref (ad 60), .ref (ad 61), .ref (ad 62), .ref (ad 63), .ref (ad 64), .ref (ad 65), .int (nI n), .int (nI nc), .ref (ad 66), .ref (ad 71), .ref (ad 72), .ref (ad 73)]))) := by
  refine j_of (by decide) rfl (Nat.le_of_ble_eq_true rfl) ?_
  intro p e s m args below meth c A ls Q hQ S hr hK hA H locs hW hl
  have hl : lv_has ls 4 [(0, .ref (ad 55)), (1, .int (nI j))] := hl
  refine lv_aload_n S.1 S.2.1 dX12_drop_0 rfl (lv_at hl 0 rfl) ?_
  refine lv_iconst (v := nI 0) S.1 S.2.1 dX12_drop_1 (by decide) ?_
  refine j_put (ci := 11) (C := RX12) (T := TX12) (N := 17) (ty := .int) S (fun w h => List.mem_cons_of_mem _ (inG12 w h)) tyX12 tyX12_ok nmX12 hK hW gO rfl 0 (by decide) (List.mem_cons_of_mem _ wfl_X12_1) (fun _ h9 => h9) rfl (by decide +kernel) (rfl) (rfl) (Nat.le_of_ble_eq_true rfl) dX12_drop_2 (fun H locs w_ hU1 hN1 hW => ?_)
  have hU : jU w w_ [55] := jU.mono hU1 (by decide)
  have gO_ : w_[55]? = some (ad 55, .inr (11, [.int (nI 0), .ref (ad 56), .ref (ad 57), .ref (ad 58), .ref (ad 59), .ref (ad 60), .ref (ad 61), .ref (ad 62), .ref (ad 63), .ref (ad 64), .ref (ad 65), .int (nI n), .int (nI nc), .ref (ad 66), .ref (ad 71), .ref (ad 72), .ref (ad 73)])) := hN1
  clear hU1 hN1
  refine lv_aload_n S.1 S.2.1 dX12_drop_5 rfl (lv_at hl 0 rfl) ?_
  refine lv_iload_n S.1 S.2.1 dX12_drop_6 rfl (lv_at hl 1 rfl) ?_
  refine j_callV (k := 55) (ci := 11) (q := (RX12, TX12, 17)) (As := [.int (nI j)]) (rest := []) S hK hA hW (c_X12_isConstraint l D cy ad 0 n nc (nI j) gO_   (by omega)) (jgo wm_X12_89) yk_X12_isConstraint gO_ rfl rfl ⟨⟨rfl, rfl⟩, by decide, by decide⟩ rfl hl.1 rfl (Nat.le_of_ble_eq_true rfl) dX12_drop_7 ⟨Nat.le_of_ble_eq_true rfl, Nat.le_of_ble_eq_true rfl⟩ (fun v u H locs hp hW => ?_)
  obtain ⟨rfl, rfl⟩ := hp
  refine W.eq (g2 := F0 m 10 ls [.int (bI (vB (nI j) nc))]) rfl ?_
  refine jb_if_ne (tgt := 19) S dX12_drop_10 (by decide) (fun c_10 => ?_) (fun c_10 => ?_)
  · refine lv_aload_n S.1 S.2.1 dX12_drop_19 rfl (lv_at hl 0 rfl) ?_
    refine j_get (ci := 11) (C := RX12) (T := TX12) (N := 17) (v := .ref (ad 65)) S (fun w h => List.mem_cons_of_mem _ (inG12 w h)) hK hW gO_ rfl 10 (by decide) (List.mem_cons_of_mem _ wfl_X12_46) (fun _ h9 => h9) rfl dX12_drop_20 ?_
    refine lv_iload_n S.1 S.2.1 dX12_drop_23 rfl (lv_at hl 1 rfl) ?_
    refine j_zald (x := bI (dpB nc lv j)) S hK hW (hU.get gP (by decide)) (vp_in_nI (by omega) (by omega)) (nI_clamp (by omega)) (rfl) dX12_drop_24 ?_
    refine jb_if_eq (tgt := 34) S dX12_drop_25 (by decide) (fun c_25 => ?_) (fun c_25 => ?_)
    · exact absurd c_25 (by rw [dpB_at hj, hl1]; decide)
    · refine lv_aload_n S.1 S.2.1 dX12_drop_28 rfl (lv_at hl 0 rfl) ?_
      refine lv_iconst (v := nI 2) S.1 S.2.1 dX12_drop_29 (by decide) ?_
      refine j_callV (k := 55) (ci := 11) (q := (RX12, TX12, 17)) (As := [.int (nI 2)]) (rest := []) S hK hA hW (c_X12_fails l D cy ad 0 n nc 2 gO_   ) (jgo wm_X12_71) yk_X12_fails gO_ rfl rfl ⟨⟨rfl, rfl⟩, by decide, by decide⟩ rfl hl.1 rfl (Nat.le_of_ble_eq_true rfl) dX12_drop_30 ⟨Nat.le_of_ble_eq_true rfl, Nat.le_of_ble_eq_true rfl⟩ (fun v w_ H locs hp hW => ?_)
      obtain ⟨rfl, hU1, hN1⟩ := hp
      have hU := hU.then hU1 (by decide)
      have gO_ : w_[55]? = some (ad 55, .inr (11, [.int (nI 2), .ref (ad 56), .ref (ad 57), .ref (ad 58), .ref (ad 59), .ref (ad 60), .ref (ad 61), .ref (ad 62), .ref (ad 63), .ref (ad 64), .ref (ad 65), .int (nI n), .int (nI nc), .ref (ad 66), .ref (ad 71), .ref (ad 72), .ref (ad 73)])) := hN1
      clear hU1 hN1
      refine W.eq (g2 := F0 m 33 ls [.int (nI 0)]) rfl ?_
      subst hQ
      exact j_iret (u := w_) S hr (rfl) hK hW dX12_drop_33 ⟨by decide, by decide⟩ (⟨rfl, hU, gO_⟩)
  · exact absurd (vB_nI hj (by omega)) (by rw [c_10]; decide)
/-- kind -/
theorem c_X12_kind_ok (l : Launch) (D : va_G) (cy : Nat → ClassId) {w : va_W} (ad : Nat → Nat) (th n nc : Nat) (cs : Nat → CN) (j : Nat) (gO : w[55]? = some (ad 55, .inr (11, [.int (nI th), .ref (ad 56), .ref (ad 57), .ref (ad 58), .ref (ad 59), .ref (ad 60), .ref (ad 61), .ref (ad 62), .ref (ad 63), .ref (ad 64), .ref (ad 65), .int (nI n), .int (nI nc), .ref (ad 66), .ref (ad 71), .ref (ad 72), .ref (ad 73)]))) (gC0 : w[60]? = some (ad 60, .inl (cy 2, 20, .inl (nf (ckd cs))))) (gC1 : w[61]? = some (ad 61, .inl (cy 0, 20, .inl (nf (cst cs))))) (gC2 : w[62]? = some (ad 62, .inl (cy 0, 20, .inl (nf (cot cs))))) (gC3 : w[63]? = some (ad 63, .inl (cy 0, 20, .inl (nf (cle cs))))) (gC4 : w[64]? = some (ad 64, .inl (cy 0, 20, .inl (nf (cgr cs))))) (hnc : nc ≤ 20) (hj : j < nc) (hk : (cs j).1 < 65536) : jM l yX12_kind (jws yX12_kind cX12_kind 2 (some .char)) (jR 2 0 0) D cy w [.ref (ad 55), .int (nI j)] 0 0 (fun vv uu => vv = some (.int (nI ((cs j).1))) ∧ jU w uu [55] ∧ uu[55]? = some (ad 55, .inr (11, [.int (nI 0), .ref (ad 56), .ref (ad 57), .ref (ad 58), .ref (ad 59), .ref (ad 60), .ref (ad 61), .ref (ad 62), .ref (ad 63), .ref (ad 64), .ref (ad 65), .int (nI n), .int (nI nc), .ref (ad 66), .ref (ad 71), .ref (ad 72), .ref (ad 73)]))) := by
  refine j_of (by decide) rfl (Nat.le_of_ble_eq_true rfl) ?_
  intro p e s m args below meth c A ls Q hQ S hr hK hA H locs hW hl
  have hl : lv_has ls 2 [(0, .ref (ad 55)), (1, .int (nI j))] := hl
  refine lv_aload_n S.1 S.2.1 dX12_kind_0 rfl (lv_at hl 0 rfl) ?_
  refine lv_iconst (v := nI 0) S.1 S.2.1 dX12_kind_1 (by decide) ?_
  refine j_put (ci := 11) (C := RX12) (T := TX12) (N := 17) (ty := .int) S (fun w h => List.mem_cons_of_mem _ (inG12 w h)) tyX12 tyX12_ok nmX12 hK hW gO rfl 0 (by decide) (List.mem_cons_of_mem _ wfl_X12_1) (fun _ h9 => h9) rfl (by decide +kernel) (rfl) (rfl) (Nat.le_of_ble_eq_true rfl) dX12_kind_2 (fun H locs w_ hU1 hN1 hW => ?_)
  have hU : jU w w_ [55] := jU.mono hU1 (by decide)
  have gO_ : w_[55]? = some (ad 55, .inr (11, [.int (nI 0), .ref (ad 56), .ref (ad 57), .ref (ad 58), .ref (ad 59), .ref (ad 60), .ref (ad 61), .ref (ad 62), .ref (ad 63), .ref (ad 64), .ref (ad 65), .int (nI n), .int (nI nc), .ref (ad 66), .ref (ad 71), .ref (ad 72), .ref (ad 73)])) := hN1
  clear hU1 hN1
  refine lv_aload_n S.1 S.2.1 dX12_kind_5 rfl (lv_at hl 0 rfl) ?_
  refine lv_iload_n S.1 S.2.1 dX12_kind_6 rfl (lv_at hl 1 rfl) ?_
  refine j_callV (k := 55) (ci := 11) (q := (RX12, TX12, 17)) (As := [.int (nI j)]) (rest := []) S hK hA hW (c_X12_isConstraint l D cy ad 0 n nc (nI j) gO_   (by omega)) (jgo wm_X12_89) yk_X12_isConstraint gO_ rfl rfl ⟨⟨rfl, rfl⟩, by decide, by decide⟩ rfl hl.1 rfl (Nat.le_of_ble_eq_true rfl) dX12_kind_7 ⟨Nat.le_of_ble_eq_true rfl, Nat.le_of_ble_eq_true rfl⟩ (fun v u H locs hp hW => ?_)
  obtain ⟨rfl, rfl⟩ := hp
  refine W.eq (g2 := F0 m 10 ls [.int (bI (vB (nI j) nc))]) rfl ?_
  refine jb_if_eq (tgt := 22) S dX12_kind_10 (by decide) (fun c_10 => ?_) (fun c_10 => ?_)
  · exact absurd (vB_nI hj (by omega)) (by rw [c_10]; decide)
  · refine lv_aload_n S.1 S.2.1 dX12_kind_13 rfl (lv_at hl 0 rfl) ?_
    refine j_get (ci := 11) (C := RX12) (T := TX12) (N := 17) (v := .ref (ad 60)) S (fun w h => List.mem_cons_of_mem _ (inG12 w h)) hK hW gO_ rfl 5 (by decide) (List.mem_cons_of_mem _ wfl_X12_30) (fun _ h9 => h9) rfl dX12_kind_14 ?_
    refine lv_iload_n S.1 S.2.1 dX12_kind_17 rfl (lv_at hl 1 rfl) ?_
    refine j_cald (x := nI ((cs j).1)) S hK hW (hU.get gC0 (by decide)) (vp_in_nI (by omega) (by omega)) (nI_clamp (by omega)) (rfl) dX12_kind_18 ?_
    refine lv_goto (tgt := 28) S.1 S.2.1 dX12_kind_19 (by decide) ?_
    subst hQ
    exact j_iret (u := w_) S hr ((pk_charN hk).1) hK hW dX12_kind_28 ⟨by decide, by decide⟩ (⟨rfl, hU, gO_⟩)
/-- kind, no such constraint -/
theorem c_X12_kind_b (l : Launch) (D : va_G) (cy : Nat → ClassId) {w : va_W} (ad : Nat → Nat) (th n nc : Nat) (v : Int32) (gO : w[55]? = some (ad 55, .inr (11, [.int (nI th), .ref (ad 56), .ref (ad 57), .ref (ad 58), .ref (ad 59), .ref (ad 60), .ref (ad 61), .ref (ad 62), .ref (ad 63), .ref (ad 64), .ref (ad 65), .int (nI n), .int (nI nc), .ref (ad 66), .ref (ad 71), .ref (ad 72), .ref (ad 73)]))) (hnc : nc ≤ 20) (hv : vB v nc = false) : jM l yX12_kind (jws yX12_kind cX12_kind 2 (some .char)) (jR 2 0 0) D cy w [.ref (ad 55), .int v] 0 0 (fun vv uu => vv = some (.int (nI 0)) ∧ jU w uu [55] ∧ uu[55]? = some (ad 55, .inr (11, [.int (nI 1), .ref (ad 56), .ref (ad 57), .ref (ad 58), .ref (ad 59), .ref (ad 60), .ref (ad 61), .ref (ad 62), .ref (ad 63), .ref (ad 64), .ref (ad 65), .int (nI n), .int (nI nc), .ref (ad 66), .ref (ad 71), .ref (ad 72), .ref (ad 73)]))) := by
  refine j_of (by decide) rfl (Nat.le_of_ble_eq_true rfl) ?_
  intro p e s m args below meth c A ls Q hQ S hr hK hA H locs hW hl
  have hl : lv_has ls 2 [(0, .ref (ad 55)), (1, .int v)] := hl
  refine lv_aload_n S.1 S.2.1 dX12_kind_0 rfl (lv_at hl 0 rfl) ?_
  refine lv_iconst (v := nI 0) S.1 S.2.1 dX12_kind_1 (by decide) ?_
  refine j_put (ci := 11) (C := RX12) (T := TX12) (N := 17) (ty := .int) S (fun w h => List.mem_cons_of_mem _ (inG12 w h)) tyX12 tyX12_ok nmX12 hK hW gO rfl 0 (by decide) (List.mem_cons_of_mem _ wfl_X12_1) (fun _ h9 => h9) rfl (by decide +kernel) (rfl) (rfl) (Nat.le_of_ble_eq_true rfl) dX12_kind_2 (fun H locs w_ hU1 hN1 hW => ?_)
  have hU : jU w w_ [55] := jU.mono hU1 (by decide)
  have gO_ : w_[55]? = some (ad 55, .inr (11, [.int (nI 0), .ref (ad 56), .ref (ad 57), .ref (ad 58), .ref (ad 59), .ref (ad 60), .ref (ad 61), .ref (ad 62), .ref (ad 63), .ref (ad 64), .ref (ad 65), .int (nI n), .int (nI nc), .ref (ad 66), .ref (ad 71), .ref (ad 72), .ref (ad 73)])) := hN1
  clear hU1 hN1
  refine lv_aload_n S.1 S.2.1 dX12_kind_5 rfl (lv_at hl 0 rfl) ?_
  refine lv_iload_n S.1 S.2.1 dX12_kind_6 rfl (lv_at hl 1 rfl) ?_
  refine j_callV (k := 55) (ci := 11) (q := (RX12, TX12, 17)) (As := [.int v]) (rest := []) S hK hA hW (c_X12_isConstraint l D cy ad 0 n nc v gO_   (by omega)) (jgo wm_X12_89) yk_X12_isConstraint gO_ rfl rfl ⟨⟨rfl, rfl⟩, by decide, by decide⟩ rfl hl.1 rfl (Nat.le_of_ble_eq_true rfl) dX12_kind_7 ⟨Nat.le_of_ble_eq_true rfl, Nat.le_of_ble_eq_true rfl⟩ (fun v u H locs hp hW => ?_)
  obtain ⟨rfl, rfl⟩ := hp
  refine W.eq (g2 := F0 m 10 ls [.int (bI (vB v nc))]) rfl ?_
  refine jb_if_eq (tgt := 22) S dX12_kind_10 (by decide) (fun c_10 => ?_) (fun c_10 => ?_)
  · refine lv_aload_n S.1 S.2.1 dX12_kind_22 rfl (lv_at hl 0 rfl) ?_
    refine lv_iconst (v := nI 1) S.1 S.2.1 dX12_kind_23 (by decide) ?_
    refine j_callV (k := 55) (ci := 11) (q := (RX12, TX12, 17)) (As := [.int (nI 1)]) (rest := []) S hK hA hW (c_X12_fails l D cy ad 0 n nc 1 gO_   ) (jgo wm_X12_71) yk_X12_fails gO_ rfl rfl ⟨⟨rfl, rfl⟩, by decide, by decide⟩ rfl hl.1 rfl (Nat.le_of_ble_eq_true rfl) dX12_kind_24 ⟨Nat.le_of_ble_eq_true rfl, Nat.le_of_ble_eq_true rfl⟩ (fun v w_ H locs hp hW => ?_)
    obtain ⟨rfl, hU1, hN1⟩ := hp
    have hU := hU.then hU1 (by decide)
    have gO_ : w_[55]? = some (ad 55, .inr (11, [.int (nI 1), .ref (ad 56), .ref (ad 57), .ref (ad 58), .ref (ad 59), .ref (ad 60), .ref (ad 61), .ref (ad 62), .ref (ad 63), .ref (ad 64), .ref (ad 65), .int (nI n), .int (nI nc), .ref (ad 66), .ref (ad 71), .ref (ad 72), .ref (ad 73)])) := hN1
    clear hU1 hN1
    refine W.eq (g2 := F0 m 27 ls [.int (nI 0)]) rfl ?_
    refine lv_i2c (v := nI 0) S.1 S.2.1 dX12_kind_27 (by decide) ?_
    subst hQ
    exact j_iret (u := w_) S hr ((pk_charN (by decide)).1) hK hW dX12_kind_28 ⟨by decide, by decide⟩ (⟨rfl, hU, gO_⟩)
  · exact absurd c_10 (by rw [hv]; decide)
/-- setEvidence -/
theorem c_X12_setEvidence_ok (l : Launch) (D : va_G) (cy : Nat → ClassId) {w : va_W} (ad : Nat → Nat) (th n nc : Nat) (sd se : Nat) (x : Nat) (ev : Int32) (gO : w[55]? = some (ad 55, .inr (11, [.int (nI th), .ref (ad 56), .ref (ad 57), .ref (ad 58), .ref (ad 59), .ref (ad 60), .ref (ad 61), .ref (ad 62), .ref (ad 63), .ref (ad 64), .ref (ad 65), .int (nI n), .int (nI nc), .ref (ad 66), .ref (ad 71), .ref (ad 72), .ref (ad 73)]))) (gE : w[58]? = some (ad 58, .inl (cy 0, 10, .inl (evA n sd se)))) (hn : n ≤ 10) (hx : x < n) (he : ev3 ev) : jM l yX12_setEvidence (jws yX12_setEvidence cX12_setEvidence 4 (some .int)) (jR 2 0 0) D cy w [.ref (ad 55), .int (nI x), .int ev] 0 0 (fun vv uu => vv = some (.int (evI sd se x)) ∧ jU w uu [55, 58] ∧ uu[55]? = some (ad 55, .inr (11, [.int (nI 0), .ref (ad 56), .ref (ad 57), .ref (ad 58), .ref (ad 59), .ref (ad 60), .ref (ad 61), .ref (ad 62), .ref (ad 63), .ref (ad 64), .ref (ad 65), .int (nI n), .int (nI nc), .ref (ad 66), .ref (ad 71), .ref (ad 72), .ref (ad 73)])) ∧ uu[58]? = some (ad 58, .inl (cy 0, 10, .inl (evA n (evSd sd x ev) (evSe se x ev))))) := by
  refine j_of (by decide) rfl (Nat.le_of_ble_eq_true rfl) ?_
  intro p e s m args below meth c A ls Q hQ S hr hK hA H locs hW hl
  have hl : lv_has ls 4 [(0, .ref (ad 55)), (1, .int (nI x)), (2, .int ev)] := hl
  refine lv_aload_n S.1 S.2.1 dX12_setEvidence_0 rfl (lv_at hl 0 rfl) ?_
  refine lv_iconst (v := nI 0) S.1 S.2.1 dX12_setEvidence_1 (by decide) ?_
  refine j_put (ci := 11) (C := RX12) (T := TX12) (N := 17) (ty := .int) S (fun w h => List.mem_cons_of_mem _ (inG12 w h)) tyX12 tyX12_ok nmX12 hK hW gO rfl 0 (by decide) (List.mem_cons_of_mem _ wfl_X12_1) (fun _ h9 => h9) rfl (by decide +kernel) (rfl) (rfl) (Nat.le_of_ble_eq_true rfl) dX12_setEvidence_2 (fun H locs w_ hU1 hN1 hW => ?_)
  have hU : jU w w_ [55, 58] := jU.mono hU1 (by decide)
  have gE_ := hU1.get gE (by decide)
  have gO_ : w_[55]? = some (ad 55, .inr (11, [.int (nI 0), .ref (ad 56), .ref (ad 57), .ref (ad 58), .ref (ad 59), .ref (ad 60), .ref (ad 61), .ref (ad 62), .ref (ad 63), .ref (ad 64), .ref (ad 65), .int (nI n), .int (nI nc), .ref (ad 66), .ref (ad 71), .ref (ad 72), .ref (ad 73)])) := hN1
  clear hU1 hN1
  refine lv_aload_n S.1 S.2.1 dX12_setEvidence_5 rfl (lv_at hl 0 rfl) ?_
  refine lv_iload_n S.1 S.2.1 dX12_setEvidence_6 rfl (lv_at hl 1 rfl) ?_
  refine j_callV (k := 55) (ci := 11) (q := (RX12, TX12, 17)) (As := [.int (nI x)]) (rest := []) S hK hA hW (c_X12_isVariable l D cy ad 0 n nc (nI x) gO_   (by omega)) (jgo wm_X12_75) yk_X12_isVariable gO_ rfl rfl ⟨⟨rfl, rfl⟩, by decide, by decide⟩ rfl hl.1 rfl (Nat.le_of_ble_eq_true rfl) dX12_setEvidence_7 ⟨Nat.le_of_ble_eq_true rfl, Nat.le_of_ble_eq_true rfl⟩ (fun v u H locs hp hW => ?_)
  obtain ⟨rfl, rfl⟩ := hp
  refine W.eq (g2 := F0 m 10 ls [.int (bI (vB (nI x) n))]) rfl ?_
  refine jb_if_ne (tgt := 19) S dX12_setEvidence_10 (by decide) (fun c_10 => ?_) (fun c_10 => ?_)
  · refine lv_iload_n S.1 S.2.1 dX12_setEvidence_19 rfl (lv_at hl 2 rfl) ?_
    refine lv_iconst (v := (-1)) S.1 S.2.1 dX12_setEvidence_20 (by decide) ?_
    refine lv_iconst (v := nI 1) S.1 S.2.1 dX12_setEvidence_21 (by decide) ?_
    refine j_callS (As := [.int ev, .int (-1), .int (nI 1)]) (rest := []) S hK hA hW (c_X12_isBetween l D cy ev (-1) (nI 1)    ) (jgo wm_X12_67) yk_X12_isBetween ⟨⟨rfl, rfl⟩, by decide, by decide⟩ rfl hl.1 rfl (Nat.le_of_ble_eq_true rfl) dX12_setEvidence_22 ⟨Nat.le_of_ble_eq_true rfl, Nat.le_of_ble_eq_true rfl⟩ (fun v u H locs hp hW => ?_)
    obtain ⟨rfl, rfl⟩ := hp
    refine W.eq (g2 := F0 m 25 ls [.int (bI (decide ((-1) ≤ ev) && decide (ev ≤ (nI 1))))]) rfl ?_
    refine jb_if_ne (tgt := 34) S dX12_setEvidence_25 (by decide) (fun c_25 => ?_) (fun c_25 => ?_)
    · refine lv_aload_n S.1 S.2.1 dX12_setEvidence_34 rfl (lv_at hl 0 rfl) ?_
      refine j_get (ci := 11) (C := RX12) (T := TX12) (N := 17) (v := .ref (ad 58)) S (fun w h => List.mem_cons_of_mem _ (inG12 w h)) hK hW gO_ rfl 3 (by decide) (List.mem_cons_of_mem _ wfl_X12_24) (fun _ h9 => h9) rfl dX12_setEvidence_35 ?_
      refine lv_iload_n S.1 S.2.1 dX12_setEvidence_38 rfl (lv_at hl 1 rfl) ?_
      refine j_iald (x := evI sd se x) S hK hW gE_ (vp_in_nI (by omega) (by omega)) (nI_clamp (by omega)) (evA_at hx) dX12_setEvidence_39 ?_
      refine lv_istore_n (lv' := [(3, .int (evI sd se x)), (0, .ref (ad 55)), (1, .int (nI x)), (2, .int ev)]) S.1 S.2.1 dX12_setEvidence_40 rfl hl (by decide) rfl (fun ls hl => ?_)
      refine lv_aload_n S.1 S.2.1 dX12_setEvidence_41 rfl (lv_at hl 1 rfl) ?_
      refine j_get (ci := 11) (C := RX12) (T := TX12) (N := 17) (v := .ref (ad 58)) S (fun w h => List.mem_cons_of_mem _ (inG12 w h)) hK hW gO_ rfl 3 (by decide) (List.mem_cons_of_mem _ wfl_X12_24) (fun _ h9 => h9) rfl dX12_setEvidence_42 ?_
      refine lv_iload_n S.1 S.2.1 dX12_setEvidence_45 rfl (lv_at hl 2 rfl) ?_
      refine lv_iload_n S.1 S.2.1 dX12_setEvidence_46 rfl (lv_at hl 3 rfl) ?_
      refine j_iast S hK hW gE_ (vp_in_nI (by omega) (by omega)) (nI_clamp (by omega)) dX12_setEvidence_47 (fun H locs w_ hU1 hN1 hW => ?_)
      have hU := hU.then hU1 (by decide)
      have gO_ := hU1.get gO_ (by decide)
      have gE_ : w_[58]? = some (ad 58, .inl (cy 0, 10, .inl (upd (evA n sd se) x ev))) := hN1
      clear hU1 hN1
      refine lv_iload_n S.1 S.2.1 dX12_setEvidence_48 rfl (lv_at hl 0 rfl) ?_
      subst hQ
      exact j_iret (u := w_) S hr (rfl) hK hW dX12_setEvidence_49 ⟨by decide, by decide⟩ (⟨rfl, hU, gO_, by rw [← evA_set he hx]; exact gE_⟩)
    · exact absurd c_25 (by rcases he with rfl | rfl | rfl <;> decide)
  · exact absurd (vB_nI hx (by omega)) (by rw [c_10]; decide)
/-- setEvidence, no such variable -/
theorem c_X12_setEvidence_b1 (l : Launch) (D : va_G) (cy : Nat → ClassId) {w : va_W} (ad : Nat → Nat) (th n nc : Nat) (v ev : Int32) (gO : w[55]? = some (ad 55, .inr (11, [.int (nI th), .ref (ad 56), .ref (ad 57), .ref (ad 58), .ref (ad 59), .ref (ad 60), .ref (ad 61), .ref (ad 62), .ref (ad 63), .ref (ad 64), .ref (ad 65), .int (nI n), .int (nI nc), .ref (ad 66), .ref (ad 71), .ref (ad 72), .ref (ad 73)]))) (hn : n ≤ 10) (hv : vB v n = false) : jM l yX12_setEvidence (jws yX12_setEvidence cX12_setEvidence 4 (some .int)) (jR 2 0 0) D cy w [.ref (ad 55), .int v, .int ev] 0 0 (fun vv uu => vv = some (.int (nI 0)) ∧ jU w uu [55] ∧ uu[55]? = some (ad 55, .inr (11, [.int (nI 1), .ref (ad 56), .ref (ad 57), .ref (ad 58), .ref (ad 59), .ref (ad 60), .ref (ad 61), .ref (ad 62), .ref (ad 63), .ref (ad 64), .ref (ad 65), .int (nI n), .int (nI nc), .ref (ad 66), .ref (ad 71), .ref (ad 72), .ref (ad 73)]))) := by
  refine j_of (by decide) rfl (Nat.le_of_ble_eq_true rfl) ?_
  intro p e s m args below meth c A ls Q hQ S hr hK hA H locs hW hl
  have hl : lv_has ls 4 [(0, .ref (ad 55)), (1, .int v), (2, .int ev)] := hl
  refine lv_aload_n S.1 S.2.1 dX12_setEvidence_0 rfl (lv_at hl 0 rfl) ?_
  refine lv_iconst (v := nI 0) S.1 S.2.1 dX12_setEvidence_1 (by decide) ?_
  refine j_put (ci := 11) (C := RX12) (T := TX12) (N := 17) (ty := .int) S (fun w h => List.mem_cons_of_mem _ (inG12 w h)) tyX12 tyX12_ok nmX12 hK hW gO rfl 0 (by decide) (List.mem_cons_of_mem _ wfl_X12_1) (fun _ h9 => h9) rfl (by decide +kernel) (rfl) (rfl) (Nat.le_of_ble_eq_true rfl) dX12_setEvidence_2 (fun H locs w_ hU1 hN1 hW => ?_)
  have hU : jU w w_ [55] := jU.mono hU1 (by decide)
  have gO_ : w_[55]? = some (ad 55, .inr (11, [.int (nI 0), .ref (ad 56), .ref (ad 57), .ref (ad 58), .ref (ad 59), .ref (ad 60), .ref (ad 61), .ref (ad 62), .ref (ad 63), .ref (ad 64), .ref (ad 65), .int (nI n), .int (nI nc), .ref (ad 66), .ref (ad 71), .ref (ad 72), .ref (ad 73)])) := hN1
  clear hU1 hN1
  refine lv_aload_n S.1 S.2.1 dX12_setEvidence_5 rfl (lv_at hl 0 rfl) ?_
  refine lv_iload_n S.1 S.2.1 dX12_setEvidence_6 rfl (lv_at hl 1 rfl) ?_
  refine j_callV (k := 55) (ci := 11) (q := (RX12, TX12, 17)) (As := [.int v]) (rest := []) S hK hA hW (c_X12_isVariable l D cy ad 0 n nc v gO_   (by omega)) (jgo wm_X12_75) yk_X12_isVariable gO_ rfl rfl ⟨⟨rfl, rfl⟩, by decide, by decide⟩ rfl hl.1 rfl (Nat.le_of_ble_eq_true rfl) dX12_setEvidence_7 ⟨Nat.le_of_ble_eq_true rfl, Nat.le_of_ble_eq_true rfl⟩ (fun v u H locs hp hW => ?_)
  obtain ⟨rfl, rfl⟩ := hp
  refine W.eq (g2 := F0 m 10 ls [.int (bI (vB v n))]) rfl ?_
  refine jb_if_ne (tgt := 19) S dX12_setEvidence_10 (by decide) (fun c_10 => ?_) (fun c_10 => ?_)
  · exact absurd c_10 (by rw [hv]; decide)
  · refine lv_aload_n S.1 S.2.1 dX12_setEvidence_13 rfl (lv_at hl 0 rfl) ?_
    refine lv_iconst (v := nI 1) S.1 S.2.1 dX12_setEvidence_14 (by decide) ?_
    refine j_callV (k := 55) (ci := 11) (q := (RX12, TX12, 17)) (As := [.int (nI 1)]) (rest := []) S hK hA hW (c_X12_fails l D cy ad 0 n nc 1 gO_   ) (jgo wm_X12_71) yk_X12_fails gO_ rfl rfl ⟨⟨rfl, rfl⟩, by decide, by decide⟩ rfl hl.1 rfl (Nat.le_of_ble_eq_true rfl) dX12_setEvidence_15 ⟨Nat.le_of_ble_eq_true rfl, Nat.le_of_ble_eq_true rfl⟩ (fun v w_ H locs hp hW => ?_)
    obtain ⟨rfl, hU1, hN1⟩ := hp
    have hU := hU.then hU1 (by decide)
    have gO_ : w_[55]? = some (ad 55, .inr (11, [.int (nI 1), .ref (ad 56), .ref (ad 57), .ref (ad 58), .ref (ad 59), .ref (ad 60), .ref (ad 61), .ref (ad 62), .ref (ad 63), .ref (ad 64), .ref (ad 65), .int (nI n), .int (nI nc), .ref (ad 66), .ref (ad 71), .ref (ad 72), .ref (ad 73)])) := hN1
    clear hU1 hN1
    refine W.eq (g2 := F0 m 18 ls [.int (nI 0)]) rfl ?_
    subst hQ
    exact j_iret (u := w_) S hr (rfl) hK hW dX12_setEvidence_18 ⟨by decide, by decide⟩ (⟨rfl, hU, gO_⟩)
/-- setEvidence, wrong value -/
theorem c_X12_setEvidence_b2 (l : Launch) (D : va_G) (cy : Nat → ClassId) {w : va_W} (ad : Nat → Nat) (th n nc : Nat) (x : Nat) (ev : Int32) (gO : w[55]? = some (ad 55, .inr (11, [.int (nI th), .ref (ad 56), .ref (ad 57), .ref (ad 58), .ref (ad 59), .ref (ad 60), .ref (ad 61), .ref (ad 62), .ref (ad 63), .ref (ad 64), .ref (ad 65), .int (nI n), .int (nI nc), .ref (ad 66), .ref (ad 71), .ref (ad 72), .ref (ad 73)]))) (hn : n ≤ 10) (hx : x < n) (he : ¬ ev3 ev) : jM l yX12_setEvidence (jws yX12_setEvidence cX12_setEvidence 4 (some .int)) (jR 2 0 0) D cy w [.ref (ad 55), .int (nI x), .int ev] 0 0 (fun vv uu => vv = some (.int (nI 0)) ∧ jU w uu [55] ∧ uu[55]? = some (ad 55, .inr (11, [.int (nI 2), .ref (ad 56), .ref (ad 57), .ref (ad 58), .ref (ad 59), .ref (ad 60), .ref (ad 61), .ref (ad 62), .ref (ad 63), .ref (ad 64), .ref (ad 65), .int (nI n), .int (nI nc), .ref (ad 66), .ref (ad 71), .ref (ad 72), .ref (ad 73)]))) := by
  refine j_of (by decide) rfl (Nat.le_of_ble_eq_true rfl) ?_
  intro p e s m args below meth c A ls Q hQ S hr hK hA H locs hW hl
  have hl : lv_has ls 4 [(0, .ref (ad 55)), (1, .int (nI x)), (2, .int ev)] := hl
  refine lv_aload_n S.1 S.2.1 dX12_setEvidence_0 rfl (lv_at hl 0 rfl) ?_
  refine lv_iconst (v := nI 0) S.1 S.2.1 dX12_setEvidence_1 (by decide) ?_
  refine j_put (ci := 11) (C := RX12) (T := TX12) (N := 17) (ty := .int) S (fun w h => List.mem_cons_of_mem _ (inG12 w h)) tyX12 tyX12_ok nmX12 hK hW gO rfl 0 (by decide) (List.mem_cons_of_mem _ wfl_X12_1) (fun _ h9 => h9) rfl (by decide +kernel) (rfl) (rfl) (Nat.le_of_ble_eq_true rfl) dX12_setEvidence_2 (fun H locs w_ hU1 hN1 hW => ?_)
  have hU : jU w w_ [55] := jU.mono hU1 (by decide)
  have gO_ : w_[55]? = some (ad 55, .inr (11, [.int (nI 0), .ref (ad 56), .ref (ad 57), .ref (ad 58), .ref (ad 59), .ref (ad 60), .ref (ad 61), .ref (ad 62), .ref (ad 63), .ref (ad 64), .ref (ad 65), .int (nI n), .int (nI nc), .ref (ad 66), .ref (ad 71), .ref (ad 72), .ref (ad 73)])) := hN1
  clear hU1 hN1
  refine lv_aload_n S.1 S.2.1 dX12_setEvidence_5 rfl (lv_at hl 0 rfl) ?_
  refine lv_iload_n S.1 S.2.1 dX12_setEvidence_6 rfl (lv_at hl 1 rfl) ?_
  refine j_callV (k := 55) (ci := 11) (q := (RX12, TX12, 17)) (As := [.int (nI x)]) (rest := []) S hK hA hW (c_X12_isVariable l D cy ad 0 n nc (nI x) gO_   (by omega)) (jgo wm_X12_75) yk_X12_isVariable gO_ rfl rfl ⟨⟨rfl, rfl⟩, by decide, by decide⟩ rfl hl.1 rfl (Nat.le_of_ble_eq_true rfl) dX12_setEvidence_7 ⟨Nat.le_of_ble_eq_true rfl, Nat.le_of_ble_eq_true rfl⟩ (fun v u H locs hp hW => ?_)
  obtain ⟨rfl, rfl⟩ := hp
  refine W.eq (g2 := F0 m 10 ls [.int (bI (vB (nI x) n))]) rfl ?_
  refine jb_if_ne (tgt := 19) S dX12_setEvidence_10 (by decide) (fun c_10 => ?_) (fun c_10 => ?_)
  · refine lv_iload_n S.1 S.2.1 dX12_setEvidence_19 rfl (lv_at hl 2 rfl) ?_
    refine lv_iconst (v := (-1)) S.1 S.2.1 dX12_setEvidence_20 (by decide) ?_
    refine lv_iconst (v := nI 1) S.1 S.2.1 dX12_setEvidence_21 (by decide) ?_
    refine j_callS (As := [.int ev, .int (-1), .int (nI 1)]) (rest := []) S hK hA hW (c_X12_isBetween l D cy ev (-1) (nI 1)    ) (jgo wm_X12_67) yk_X12_isBetween ⟨⟨rfl, rfl⟩, by decide, by decide⟩ rfl hl.1 rfl (Nat.le_of_ble_eq_true rfl) dX12_setEvidence_22 ⟨Nat.le_of_ble_eq_true rfl, Nat.le_of_ble_eq_true rfl⟩ (fun v u H locs hp hW => ?_)
    obtain ⟨rfl, rfl⟩ := hp
    refine W.eq (g2 := F0 m 25 ls [.int (bI (decide ((-1) ≤ ev) && decide (ev ≤ (nI 1))))]) rfl ?_
    refine jb_if_ne (tgt := 34) S dX12_setEvidence_25 (by decide) (fun c_25 => ?_) (fun c_25 => ?_)
    · exact absurd (ev_ref c_25) he
    · refine lv_aload_n S.1 S.2.1 dX12_setEvidence_28 rfl (lv_at hl 0 rfl) ?_
      refine lv_iconst (v := nI 2) S.1 S.2.1 dX12_setEvidence_29 (by decide) ?_
      refine j_callV (k := 55) (ci := 11) (q := (RX12, TX12, 17)) (As := [.int (nI 2)]) (rest := []) S hK hA hW (c_X12_fails l D cy ad 0 n nc 2 gO_   ) (jgo wm_X12_71) yk_X12_fails gO_ rfl rfl ⟨⟨rfl, rfl⟩, by decide, by decide⟩ rfl hl.1 rfl (Nat.le_of_ble_eq_true rfl) dX12_setEvidence_30 ⟨Nat.le_of_ble_eq_true rfl, Nat.le_of_ble_eq_true rfl⟩ (fun v w_ H locs hp hW => ?_)
      obtain ⟨rfl, hU1, hN1⟩ := hp
      have hU := hU.then hU1 (by decide)
      have gO_ : w_[55]? = some (ad 55, .inr (11, [.int (nI 2), .ref (ad 56), .ref (ad 57), .ref (ad 58), .ref (ad 59), .ref (ad 60), .ref (ad 61), .ref (ad 62), .ref (ad 63), .ref (ad 64), .ref (ad 65), .int (nI n), .int (nI nc), .ref (ad 66), .ref (ad 71), .ref (ad 72), .ref (ad 73)])) := hN1
      clear hU1 hN1
      refine W.eq (g2 := F0 m 33 ls [.int (nI 0)]) rfl ?_
      subst hQ
      exact j_iret (u := w_) S hr (rfl) hK hW dX12_setEvidence_33 ⟨by decide, by decide⟩ (⟨rfl, hU, gO_⟩)
  · exact absurd (vB_nI hx (by omega)) (by rw [c_10]; decide)
