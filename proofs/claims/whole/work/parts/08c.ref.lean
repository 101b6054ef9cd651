/-! THE REFERENCE: models (laid by wip/whole/tools, from the specs there) -/
/-! THE REFERENCE: models and weights -/
theorem evI_neg {sd se v : Nat} : evI sd se v < 0 ↔ sd.testBit v = false := by
  unfold evI
  cases sd.testBit v
  · first | (simp; done) | (simp; decide)
  · cases se.testBit v <;> simp <;> decide
theorem evI_1 {sd se v : Nat} : evI sd se v = nI 1 ↔ (sd.testBit v = true ∧ se.testBit v = true) := by
  unfold evI
  cases sd.testBit v
  · first | (simp; done) | (simp; decide)
  · cases se.testBit v <;> first | (simp; done) | (simp; decide)
/-- isHeld -/
theorem c_X12_isHeld (l : Launch) (D : va_G) (cy : Nat → ClassId) {w : va_W} (ad : Nat → Nat) (th n nc : Nat) (cs : Nat → CN) (j a : Nat) (gO : w[55]? = some (ad 55, .inr (11, [.int (nI th), .ref (ad 56), .ref (ad 57), .ref (ad 58), .ref (ad 59), .ref (ad 60), .ref (ad 61), .ref (ad 62), .ref (ad 63), .ref (ad 64), .ref (ad 65), .int (nI n), .int (nI nc), .ref (ad 66), .ref (ad 71), .ref (ad 72), .ref (ad 73)]))) (gC0 : w[60]? = some (ad 60, .inl (cy 2, 20, .inl (nf (ckd cs))))) (gC1 : w[61]? = some (ad 61, .inl (cy 0, 20, .inl (nf (cst cs))))) (gC2 : w[62]? = some (ad 62, .inl (cy 0, 20, .inl (nf (cot cs))))) (gC3 : w[63]? = some (ad 63, .inl (cy 0, 20, .inl (nf (cle cs))))) (gC4 : w[64]? = some (ad 64, .inl (cy 0, 20, .inl (nf (cgr cs))))) (hnc : nc ≤ 20) (hcs : csI nc cs) (hj : j < nc) (ha : a < 1024) : jM l yX12_isHeld (jws yX12_isHeld cX12_isHeld 4 (some .boolean)) (jR 2 0 0) D cy w [.ref (ad 55), .int (nI j), .int (nI a)] 0 0 (fun vv uu => vv = some (.int (bI (heldC (cs j) a))) ∧ w = uu) := by
  obtain ⟨hok, ho0⟩ := hcs j hj
  obtain ⟨hk1, hs1, hs2, hs3, hs4⟩ := hok
  refine j_of (by decide) rfl (Nat.le_of_ble_eq_true rfl) ?_
  intro p e s m args below meth c A ls Q hQ S hr hK hA H locs hW hl
  have hl : lv_has ls 4 [(0, .ref (ad 55)), (1, .int (nI j)), (2, .int (nI a))] := hl
  refine lv_aload_n S.1 S.2.1 dX12_isHeld_0 rfl (lv_at hl 0 rfl) ?_
  refine j_get (ci := 11) (C := RX12) (T := TX12) (N := 17) (v := .ref (ad 60)) S (fun w h => List.mem_cons_of_mem _ (inG12 w h)) hK hW gO rfl 5 (by decide) (List.mem_cons_of_mem _ wfl_X12_30) (fun _ h9 => h9) rfl dX12_isHeld_1 ?_
  refine lv_iload_n S.1 S.2.1 dX12_isHeld_4 rfl (lv_at hl 1 rfl) ?_
  refine j_cald (x := nI ((cs j).1)) S hK hW gC0 (vp_in_nI (by omega) (by omega)) (nI_clamp (by omega)) (rfl) dX12_isHeld_5 ?_
  refine lv_bipush (v := nI 111) S.1 S.2.1 dX12_isHeld_6 (by decide) ?_
  refine jn_cmp_ne (tgt := 41) S (by omega) (by omega) dX12_isHeld_8 (by decide) (fun c_8 => ?_) (fun c_8 => ?_)
  · refine lv_aload_n S.1 S.2.1 dX12_isHeld_41 rfl (lv_at hl 0 rfl) ?_
    refine j_get (ci := 11) (C := RX12) (T := TX12) (N := 17) (v := .ref (ad 61)) S (fun w h => List.mem_cons_of_mem _ (inG12 w h)) hK hW gO rfl 6 (by decide) (List.mem_cons_of_mem _ wfl_X12_34) (fun _ h9 => h9) rfl dX12_isHeld_42 ?_
    refine lv_iload_n S.1 S.2.1 dX12_isHeld_45 rfl (lv_at hl 1 rfl) ?_
    refine j_iald (x := nI ((cs j).2.1)) S hK hW gC1 (vp_in_nI (by omega) (by omega)) (nI_clamp (by omega)) (rfl) dX12_isHeld_46 ?_
    refine lv_iload_n S.1 S.2.1 dX12_isHeld_47 rfl (lv_at hl 2 rfl) ?_
    have h48 : (cs j).2.1 &&& a < 1024 := and_lt10 ha
    have hcb := cnt_le ((cs j).2.1 &&& a).testBit 10
    refine jn_and S dX12_isHeld_48 ?_
    refine j_callS (As := [.int (nI (((cs j).2.1) &&& a))]) (rest := []) S hK hA hW (c_X12_size l D cy (((cs j).2.1) &&& a)    (h48)) (jgo wm_X12_92) yk_X12_size ⟨⟨rfl, rfl⟩, by decide, by decide⟩ rfl hl.1 rfl (Nat.le_of_ble_eq_true rfl) dX12_isHeld_49 ⟨Nat.le_of_ble_eq_true rfl, Nat.le_of_ble_eq_true rfl⟩ (fun v u H locs hp hW => ?_)
    obtain ⟨rfl, rfl⟩ := hp
    refine W.eq (g2 := F0 m 52 ls [.int (nI (cnt (((cs j).2.1) &&& a).testBit 10))]) rfl ?_
    refine lv_istore_n (lv' := [(3, .int (nI (cnt (((cs j).2.1) &&& a).testBit 10))), (0, .ref (ad 55)), (1, .int (nI j)), (2, .int (nI a))]) S.1 S.2.1 dX12_isHeld_52 rfl hl (by decide) rfl (fun ls hl => ?_)
    refine lv_aload_n S.1 S.2.1 dX12_isHeld_53 rfl (lv_at hl 1 rfl) ?_
    refine j_get (ci := 11) (C := RX12) (T := TX12) (N := 17) (v := .ref (ad 60)) S (fun w h => List.mem_cons_of_mem _ (inG12 w h)) hK hW gO rfl 5 (by decide) (List.mem_cons_of_mem _ wfl_X12_30) (fun _ h9 => h9) rfl dX12_isHeld_54 ?_
    refine lv_iload_n S.1 S.2.1 dX12_isHeld_57 rfl (lv_at hl 2 rfl) ?_
    refine j_cald (x := nI ((cs j).1)) S hK hW gC0 (vp_in_nI (by omega) (by omega)) (nI_clamp (by omega)) (rfl) dX12_isHeld_58 ?_
    refine lv_bipush (v := nI 120) S.1 S.2.1 dX12_isHeld_59 (by decide) ?_
    refine jn_cmp_ne (tgt := 84) S (by omega) (by omega) dX12_isHeld_61 (by decide) (fun c_61 => ?_) (fun c_61 => ?_)
    · refine lv_iload_n S.1 S.2.1 dX12_isHeld_84 rfl (lv_at hl 0 rfl) ?_
      refine lv_aload_n S.1 S.2.1 dX12_isHeld_85 rfl (lv_at hl 1 rfl) ?_
      refine j_get (ci := 11) (C := RX12) (T := TX12) (N := 17) (v := .ref (ad 63)) S (fun w h => List.mem_cons_of_mem _ (inG12 w h)) hK hW gO rfl 8 (by decide) (List.mem_cons_of_mem _ wfl_X12_40) (fun _ h9 => h9) rfl dX12_isHeld_86 ?_
      refine lv_iload_n S.1 S.2.1 dX12_isHeld_89 rfl (lv_at hl 2 rfl) ?_
      refine j_iald (x := nI ((cs j).2.2.2.1)) S hK hW gC3 (vp_in_nI (by omega) (by omega)) (nI_clamp (by omega)) (rfl) dX12_isHeld_90 ?_
      refine lv_aload_n S.1 S.2.1 dX12_isHeld_91 rfl (lv_at hl 1 rfl) ?_
      refine j_get (ci := 11) (C := RX12) (T := TX12) (N := 17) (v := .ref (ad 64)) S (fun w h => List.mem_cons_of_mem _ (inG12 w h)) hK hW gO rfl 9 (by decide) (List.mem_cons_of_mem _ wfl_X12_43) (fun _ h9 => h9) rfl dX12_isHeld_92 ?_
      refine lv_iload_n S.1 S.2.1 dX12_isHeld_95 rfl (lv_at hl 2 rfl) ?_
      refine j_iald (x := nI ((cs j).2.2.2.2)) S hK hW gC4 (vp_in_nI (by omega) (by omega)) (nI_clamp (by omega)) (rfl) dX12_isHeld_96 ?_
      refine j_callS (As := [.int (nI (cnt (((cs j).2.1) &&& a).testBit 10)), .int (nI ((cs j).2.2.2.1)), .int (nI ((cs j).2.2.2.2))]) (rest := []) S hK hA hW (c_X12_isBetween l D cy (nI (cnt (((cs j).2.1) &&& a).testBit 10)) (nI ((cs j).2.2.2.1)) (nI ((cs j).2.2.2.2))    ) (jgo wm_X12_67) yk_X12_isBetween ⟨⟨rfl, rfl⟩, by decide, by decide⟩ rfl hl.1 rfl (Nat.le_of_ble_eq_true rfl) dX12_isHeld_97 ⟨Nat.le_of_ble_eq_true rfl, Nat.le_of_ble_eq_true rfl⟩ (fun v u H locs hp hW => ?_)
      obtain ⟨rfl, rfl⟩ := hp
      refine W.eq (g2 := F0 m 100 ls [.int (bI (decide ((nI ((cs j).2.2.2.1)) ≤ (nI (cnt (((cs j).2.1) &&& a).testBit 10))) && decide ((nI (cnt (((cs j).2.1) &&& a).testBit 10)) ≤ (nI ((cs j).2.2.2.2)))))]) rfl ?_
      refine lv_topi_to (y := bI (heldC (cs j) a)) (congrArg bI (by rw [held_b (by omega) (ho0 c_8), decide_eq_decide.mpr (nI_leI (by omega) (by omega)), decide_eq_decide.mpr (nI_leI (by omega) (by omega))])) ?_
      subst hQ
      exact j_iret (u := w) S hr (bI_nar _) hK hW dX12_isHeld_100 ⟨by decide, by decide⟩ (⟨by first | exact bI_T (held_t1 c_8 c_19) | exact bI_T (held_t2 c_8 c_32) | exact bI_F (held_f c_8 c_19 c_32) | exact bI_T (by rw [held_p c_61 (ho0 c_8)]; exact decide_eq_true c_73) | exact bI_F (by rw [held_p c_61 (ho0 c_8)]; exact decide_eq_false c_73) | rfl, rfl⟩)
    · refine lv_iload_n S.1 S.2.1 dX12_isHeld_64 rfl (lv_at hl 0 rfl) ?_
      refine lv_iconst (v := nI 2) S.1 S.2.1 dX12_isHeld_65 (by decide) ?_
      refine jn_rem S (by omega) (by omega) (by omega) dX12_isHeld_66 ?_
      refine lv_aload_n S.1 S.2.1 dX12_isHeld_67 rfl (lv_at hl 1 rfl) ?_
      refine j_get (ci := 11) (C := RX12) (T := TX12) (N := 17) (v := .ref (ad 63)) S (fun w h => List.mem_cons_of_mem _ (inG12 w h)) hK hW gO rfl 8 (by decide) (List.mem_cons_of_mem _ wfl_X12_40) (fun _ h9 => h9) rfl dX12_isHeld_68 ?_
      refine lv_iload_n S.1 S.2.1 dX12_isHeld_71 rfl (lv_at hl 2 rfl) ?_
      refine j_iald (x := nI ((cs j).2.2.2.1)) S hK hW gC3 (vp_in_nI (by omega) (by omega)) (nI_clamp (by omega)) (rfl) dX12_isHeld_72 ?_
      refine jn_cmp_ne (tgt := 80) S (by omega) (by omega) dX12_isHeld_73 (by decide) (fun c_73 => ?_) (fun c_73 => ?_)
      · refine lv_iconst (v := nI 0) S.1 S.2.1 dX12_isHeld_80 (by decide) ?_
        refine lv_goto (tgt := 100) S.1 S.2.1 dX12_isHeld_81 (by decide) ?_
        subst hQ
        exact j_iret (u := w) S hr (rfl) hK hW dX12_isHeld_100 ⟨by decide, by decide⟩ (⟨by first | exact bI_T (held_t1 c_8 c_19) | exact bI_T (held_t2 c_8 c_32) | exact bI_F (held_f c_8 c_19 c_32) | exact bI_T (by rw [held_p c_61 (ho0 c_8)]; exact decide_eq_true c_73) | exact bI_F (by rw [held_p c_61 (ho0 c_8)]; exact decide_eq_false c_73) | rfl, rfl⟩)
      · refine lv_iconst (v := nI 1) S.1 S.2.1 dX12_isHeld_76 (by decide) ?_
        refine lv_goto (tgt := 100) S.1 S.2.1 dX12_isHeld_77 (by decide) ?_
        subst hQ
        exact j_iret (u := w) S hr (rfl) hK hW dX12_isHeld_100 ⟨by decide, by decide⟩ (⟨by first | exact bI_T (held_t1 c_8 c_19) | exact bI_T (held_t2 c_8 c_32) | exact bI_F (held_f c_8 c_19 c_32) | exact bI_T (by rw [held_p c_61 (ho0 c_8)]; exact decide_eq_true c_73) | exact bI_F (by rw [held_p c_61 (ho0 c_8)]; exact decide_eq_false c_73) | rfl, rfl⟩)
  · refine lv_aload_n S.1 S.2.1 dX12_isHeld_11 rfl (lv_at hl 0 rfl) ?_
    refine j_get (ci := 11) (C := RX12) (T := TX12) (N := 17) (v := .ref (ad 61)) S (fun w h => List.mem_cons_of_mem _ (inG12 w h)) hK hW gO rfl 6 (by decide) (List.mem_cons_of_mem _ wfl_X12_34) (fun _ h9 => h9) rfl dX12_isHeld_12 ?_
    refine lv_iload_n S.1 S.2.1 dX12_isHeld_15 rfl (lv_at hl 1 rfl) ?_
    refine j_iald (x := nI ((cs j).2.1)) S hK hW gC1 (vp_in_nI (by omega) (by omega)) (nI_clamp (by omega)) (rfl) dX12_isHeld_16 ?_
    refine lv_iload_n S.1 S.2.1 dX12_isHeld_17 rfl (lv_at hl 2 rfl) ?_
    have h18 : (cs j).2.1 &&& a < 1024 := and_lt10 ha
    refine jn_and S dX12_isHeld_18 ?_
    refine jn_if_ne (tgt := 35) S (by omega) dX12_isHeld_19 (by decide) (fun c_19 => ?_) (fun c_19 => ?_)
    · refine lv_iconst (v := nI 1) S.1 S.2.1 dX12_isHeld_35 (by decide) ?_
      refine lv_goto (tgt := 40) S.1 S.2.1 dX12_isHeld_36 (by decide) ?_
      subst hQ
      exact j_iret (u := w) S hr (rfl) hK hW dX12_isHeld_40 ⟨by decide, by decide⟩ (⟨by first | exact bI_T (held_t1 c_8 c_19) | exact bI_T (held_t2 c_8 c_32) | exact bI_F (held_f c_8 c_19 c_32) | exact bI_T (by rw [held_p c_61 (ho0 c_8)]; exact decide_eq_true c_73) | exact bI_F (by rw [held_p c_61 (ho0 c_8)]; exact decide_eq_false c_73) | rfl, rfl⟩)
    · refine lv_aload_n S.1 S.2.1 dX12_isHeld_22 rfl (lv_at hl 0 rfl) ?_
      refine j_get (ci := 11) (C := RX12) (T := TX12) (N := 17) (v := .ref (ad 62)) S (fun w h => List.mem_cons_of_mem _ (inG12 w h)) hK hW gO rfl 7 (by decide) (List.mem_cons_of_mem _ wfl_X12_37) (fun _ h9 => h9) rfl dX12_isHeld_23 ?_
      refine lv_iload_n S.1 S.2.1 dX12_isHeld_26 rfl (lv_at hl 1 rfl) ?_
      refine j_iald (x := nI ((cs j).2.2.1)) S hK hW gC2 (vp_in_nI (by omega) (by omega)) (nI_clamp (by omega)) (rfl) dX12_isHeld_27 ?_
      refine lv_iload_n S.1 S.2.1 dX12_isHeld_28 rfl (lv_at hl 2 rfl) ?_
      refine lv_iconst (v := (-1)) S.1 S.2.1 dX12_isHeld_29 (by decide) ?_
      refine lv_ixor S.1 S.2.1 dX12_isHeld_30 ?_
      have h31 : nAnd (cs j).2.2.1 a < 2 ^ 10 := nAnd_lt hs2
      refine jn_andn S dX12_isHeld_31 ?_
      refine jn_if_eq (tgt := 39) S (by omega) dX12_isHeld_32 (by decide) (fun c_32 => ?_) (fun c_32 => ?_)
      · refine lv_iconst (v := nI 0) S.1 S.2.1 dX12_isHeld_39 (by decide) ?_
        subst hQ
        exact j_iret (u := w) S hr (rfl) hK hW dX12_isHeld_40 ⟨by decide, by decide⟩ (⟨by first | exact bI_T (held_t1 c_8 c_19) | exact bI_T (held_t2 c_8 c_32) | exact bI_F (held_f c_8 c_19 c_32) | exact bI_T (by rw [held_p c_61 (ho0 c_8)]; exact decide_eq_true c_73) | exact bI_F (by rw [held_p c_61 (ho0 c_8)]; exact decide_eq_false c_73) | rfl, rfl⟩)
      · refine lv_iconst (v := nI 1) S.1 S.2.1 dX12_isHeld_35 (by decide) ?_
        refine lv_goto (tgt := 40) S.1 S.2.1 dX12_isHeld_36 (by decide) ?_
        subst hQ
        exact j_iret (u := w) S hr (rfl) hK hW dX12_isHeld_40 ⟨by decide, by decide⟩ (⟨by first | exact bI_T (held_t1 c_8 c_19) | exact bI_T (held_t2 c_8 c_32) | exact bI_F (held_f c_8 c_19 c_32) | exact bI_T (by rw [held_p c_61 (ho0 c_8)]; exact decide_eq_true c_73) | exact bI_F (by rw [held_p c_61 (ho0 c_8)]; exact decide_eq_false c_73) | rfl, rfl⟩)
/-- holds -/
theorem c_X12_holds_ok (l : Launch) (D : va_G) (cy : Nat → ClassId) {w : va_W} (ad : Nat → Nat) (th n nc : Nat) (cs : Nat → CN) (j a : Nat) (gO : w[55]? = some (ad 55, .inr (11, [.int (nI th), .ref (ad 56), .ref (ad 57), .ref (ad 58), .ref (ad 59), .ref (ad 60), .ref (ad 61), .ref (ad 62), .ref (ad 63), .ref (ad 64), .ref (ad 65), .int (nI n), .int (nI nc), .ref (ad 66), .ref (ad 71), .ref (ad 72), .ref (ad 73)]))) (gC0 : w[60]? = some (ad 60, .inl (cy 2, 20, .inl (nf (ckd cs))))) (gC1 : w[61]? = some (ad 61, .inl (cy 0, 20, .inl (nf (cst cs))))) (gC2 : w[62]? = some (ad 62, .inl (cy 0, 20, .inl (nf (cot cs))))) (gC3 : w[63]? = some (ad 63, .inl (cy 0, 20, .inl (nf (cle cs))))) (gC4 : w[64]? = some (ad 64, .inl (cy 0, 20, .inl (nf (cgr cs))))) (hn : n ≤ 10) (hnc : nc ≤ 20) (hcs : csI nc cs) (hj : j < nc) (ha : a < 2 ^ n) : jM l yX12_holds (jws yX12_holds cX12_holds 3 (some .boolean)) (jR 3 0 0) D cy w [.ref (ad 55), .int (nI j), .int (nI a)] 0 0 (fun vv uu => vv = some (.int (bI (heldC (cs j) a))) ∧ jU w uu [55] ∧ uu[55]? = some (ad 55, .inr (11, [.int (nI 0), .ref (ad 56), .ref (ad 57), .ref (ad 58), .ref (ad 59), .ref (ad 60), .ref (ad 61), .ref (ad 62), .ref (ad 63), .ref (ad 64), .ref (ad 65), .int (nI n), .int (nI nc), .ref (ad 66), .ref (ad 71), .ref (ad 72), .ref (ad 73)]))) := by
  refine j_of (by decide) rfl (Nat.le_of_ble_eq_true rfl) ?_
  intro p e s m args below meth c A ls Q hQ S hr hK hA H locs hW hl
  have hl : lv_has ls 3 [(0, .ref (ad 55)), (1, .int (nI j)), (2, .int (nI a))] := hl
  refine lv_aload_n S.1 S.2.1 dX12_holds_0 rfl (lv_at hl 0 rfl) ?_
  refine lv_aload_n S.1 S.2.1 dX12_holds_1 rfl (lv_at hl 0 rfl) ?_
  refine lv_iload_n S.1 S.2.1 dX12_holds_2 rfl (lv_at hl 1 rfl) ?_
  refine j_callV (k := 55) (ci := 11) (q := (RX12, TX12, 17)) (As := [.int (nI j)]) (rest := [.ref (ad 55)]) S hK hA hW (c_X12_isConstraint l D cy ad th n nc (nI j) gO   (by omega)) (jgo wm_X12_89) yk_X12_isConstraint gO rfl rfl ⟨⟨rfl, rfl⟩, by decide, by decide⟩ rfl hl.1 rfl (Nat.le_of_ble_eq_true rfl) dX12_holds_3 ⟨Nat.le_of_ble_eq_true rfl, Nat.le_of_ble_eq_true rfl⟩ (fun v u H locs hp hW => ?_)
  obtain ⟨rfl, rfl⟩ := hp
  refine W.eq (g2 := F0 m 6 ls [.int (bI (vB (nI j) nc)), .ref (ad 55)]) rfl ?_
  refine jb_if_ne (tgt := 13) S dX12_holds_6 (by decide) (fun c_6 => ?_) (fun c_6 => ?_)
  · refine lv_aload_n S.1 S.2.1 dX12_holds_13 rfl (lv_at hl 0 rfl) ?_
    refine lv_iload_n S.1 S.2.1 dX12_holds_14 rfl (lv_at hl 2 rfl) ?_
    refine j_callV (k := 55) (ci := 11) (q := (RX12, TX12, 17)) (As := [.int (nI a)]) (rest := [.ref (ad 55)]) S hK hA hW (c_X12_isSet l D cy ad th n nc (nI a) gO   (by omega)) (jgo wm_X12_82) yk_X12_isSet gO rfl rfl ⟨⟨rfl, rfl⟩, by decide, by decide⟩ rfl hl.1 rfl (Nat.le_of_ble_eq_true rfl) dX12_holds_15 ⟨Nat.le_of_ble_eq_true rfl, Nat.le_of_ble_eq_true rfl⟩ (fun v u H locs hp hW => ?_)
    obtain ⟨rfl, rfl⟩ := hp
    refine W.eq (g2 := F0 m 18 ls [.int (bI (vB (nI a) (2 ^ n))), .ref (ad 55)]) rfl ?_
    refine jb_if_eq (tgt := 25) S dX12_holds_18 (by decide) (fun c_18 => ?_) (fun c_18 => ?_)
    · exact absurd (vB_nI ha (by have := two_pow10 hn; omega)) (by rw [c_18]; decide)
    · refine lv_iconst (v := nI 0) S.1 S.2.1 dX12_holds_21 (by decide) ?_
      refine lv_goto (tgt := 26) S.1 S.2.1 dX12_holds_22 (by decide) ?_
      refine j_put (ci := 11) (C := RX12) (T := TX12) (N := 17) (ty := .int) S (fun w h => List.mem_cons_of_mem _ (inG12 w h)) tyX12 tyX12_ok nmX12 hK hW gO rfl 0 (by decide) (List.mem_cons_of_mem _ wfl_X12_1) (fun _ h9 => h9) rfl (by decide +kernel) (rfl) (rfl) (Nat.le_of_ble_eq_true rfl) dX12_holds_26 (fun H locs w_ hU1 hN1 hW => ?_)
      have hU : jU w w_ [55] := jU.mono hU1 (by decide)
      have gO_ : w_[55]? = some (ad 55, .inr (11, [.int (nI 0), .ref (ad 56), .ref (ad 57), .ref (ad 58), .ref (ad 59), .ref (ad 60), .ref (ad 61), .ref (ad 62), .ref (ad 63), .ref (ad 64), .ref (ad 65), .int (nI n), .int (nI nc), .ref (ad 66), .ref (ad 71), .ref (ad 72), .ref (ad 73)])) := hN1
      clear hU1 hN1
      refine lv_aload_n S.1 S.2.1 dX12_holds_29 rfl (lv_at hl 0 rfl) ?_
      refine j_get (ci := 11) (C := RX12) (T := TX12) (N := 17) (v := .int (nI 0)) S (fun w h => List.mem_cons_of_mem _ (inG12 w h)) hK hW gO_ rfl 0 (by decide) (List.mem_cons_of_mem _ wfl_X12_1) (fun _ h9 => h9) rfl dX12_holds_30 ?_
      refine jn_if_ne (tgt := 49) S (by omega) dX12_holds_33 (by decide) (fun c_33 => ?_) (fun c_33 => ?_)
      · exact absurd (show 0 ≠ 0 from c_33) (by decide)
      · refine lv_aload_n S.1 S.2.1 dX12_holds_36 rfl (lv_at hl 0 rfl) ?_
        refine lv_iload_n S.1 S.2.1 dX12_holds_37 rfl (lv_at hl 1 rfl) ?_
        refine lv_iload_n S.1 S.2.1 dX12_holds_38 rfl (lv_at hl 2 rfl) ?_
        refine j_callV (k := 55) (ci := 11) (q := (RX12, TX12, 17)) (As := [.int (nI j), .int (nI a)]) (rest := []) S hK hA hW (c_X12_isHeld l D cy ad 0 n nc cs j a gO_ (hU.get gC0 (by decide)) (hU.get gC1 (by decide)) (hU.get gC2 (by decide)) (hU.get gC3 (by decide)) (hU.get gC4 (by decide))   (by omega) (hcs) (by omega) (by have := two_pow10 hn; omega)) (jgo wm_X12_95) yk_X12_isHeld gO_ rfl rfl ⟨⟨rfl, rfl⟩, by decide, by decide⟩ rfl hl.1 rfl (Nat.le_of_ble_eq_true rfl) dX12_holds_39 ⟨Nat.le_of_ble_eq_true rfl, Nat.le_of_ble_eq_true rfl⟩ (fun v u H locs hp hW => ?_)
        obtain ⟨rfl, rfl⟩ := hp
        refine W.eq (g2 := F0 m 42 ls [.int (bI (heldC (cs j) a))]) rfl ?_
        refine jb_if_eq (tgt := 49) S dX12_holds_42 (by decide) (fun c_42 => ?_) (fun c_42 => ?_)
        · refine lv_iconst (v := nI 0) S.1 S.2.1 dX12_holds_49 (by decide) ?_
          subst hQ
          exact j_iret (u := w_) S hr (rfl) hK hW dX12_holds_50 ⟨by decide, by decide⟩ (⟨by first | exact bI_T c_42 | exact bI_F c_42, hU, gO_⟩)
        · refine lv_iconst (v := nI 1) S.1 S.2.1 dX12_holds_45 (by decide) ?_
          refine lv_goto (tgt := 50) S.1 S.2.1 dX12_holds_46 (by decide) ?_
          subst hQ
          exact j_iret (u := w_) S hr (rfl) hK hW dX12_holds_50 ⟨by decide, by decide⟩ (⟨by first | exact bI_T c_42 | exact bI_F c_42, hU, gO_⟩)
  · exact absurd (vB_nI hj (by omega)) (by rw [c_6]; decide)
/-- holds, no such constraint -/
theorem c_X12_holds_b1 (l : Launch) (D : va_G) (cy : Nat → ClassId) {w : va_W} (ad : Nat → Nat) (th n nc : Nat) (v u1 : Int32) (gO : w[55]? = some (ad 55, .inr (11, [.int (nI th), .ref (ad 56), .ref (ad 57), .ref (ad 58), .ref (ad 59), .ref (ad 60), .ref (ad 61), .ref (ad 62), .ref (ad 63), .ref (ad 64), .ref (ad 65), .int (nI n), .int (nI nc), .ref (ad 66), .ref (ad 71), .ref (ad 72), .ref (ad 73)]))) (hnc : nc ≤ 20) (hv : vB v nc = false) : jM l yX12_holds (jws yX12_holds cX12_holds 3 (some .boolean)) (jR 3 0 0) D cy w [.ref (ad 55), .int v, .int u1] 0 0 (fun vv uu => vv = some (.int (nI 0)) ∧ jU w uu [55] ∧ uu[55]? = some (ad 55, .inr (11, [.int (nI 1), .ref (ad 56), .ref (ad 57), .ref (ad 58), .ref (ad 59), .ref (ad 60), .ref (ad 61), .ref (ad 62), .ref (ad 63), .ref (ad 64), .ref (ad 65), .int (nI n), .int (nI nc), .ref (ad 66), .ref (ad 71), .ref (ad 72), .ref (ad 73)]))) := by
  refine j_of (by decide) rfl (Nat.le_of_ble_eq_true rfl) ?_
  intro p e s m args below meth c A ls Q hQ S hr hK hA H locs hW hl
  have hl : lv_has ls 3 [(0, .ref (ad 55)), (1, .int v), (2, .int u1)] := hl
  refine lv_aload_n S.1 S.2.1 dX12_holds_0 rfl (lv_at hl 0 rfl) ?_
  refine lv_aload_n S.1 S.2.1 dX12_holds_1 rfl (lv_at hl 0 rfl) ?_
  refine lv_iload_n S.1 S.2.1 dX12_holds_2 rfl (lv_at hl 1 rfl) ?_
  refine j_callV (k := 55) (ci := 11) (q := (RX12, TX12, 17)) (As := [.int v]) (rest := [.ref (ad 55)]) S hK hA hW (c_X12_isConstraint l D cy ad th n nc v gO   (by omega)) (jgo wm_X12_89) yk_X12_isConstraint gO rfl rfl ⟨⟨rfl, rfl⟩, by decide, by decide⟩ rfl hl.1 rfl (Nat.le_of_ble_eq_true rfl) dX12_holds_3 ⟨Nat.le_of_ble_eq_true rfl, Nat.le_of_ble_eq_true rfl⟩ (fun v u H locs hp hW => ?_)
  obtain ⟨rfl, rfl⟩ := hp
  refine W.eq (g2 := F0 m 6 ls [.int (bI (vB v nc)), .ref (ad 55)]) rfl ?_
  refine jb_if_ne (tgt := 13) S dX12_holds_6 (by decide) (fun c_6 => ?_) (fun c_6 => ?_)
  · exact absurd c_6 (by rw [hv]; decide)
  · refine lv_iconst (v := nI 1) S.1 S.2.1 dX12_holds_9 (by decide) ?_
    refine lv_goto (tgt := 26) S.1 S.2.1 dX12_holds_10 (by decide) ?_
    refine j_put (ci := 11) (C := RX12) (T := TX12) (N := 17) (ty := .int) S (fun w h => List.mem_cons_of_mem _ (inG12 w h)) tyX12 tyX12_ok nmX12 hK hW gO rfl 0 (by decide) (List.mem_cons_of_mem _ wfl_X12_1) (fun _ h9 => h9) rfl (by decide +kernel) (rfl) (rfl) (Nat.le_of_ble_eq_true rfl) dX12_holds_26 (fun H locs w_ hU1 hN1 hW => ?_)
    have hU : jU w w_ [55] := jU.mono hU1 (by decide)
    have gO_ : w_[55]? = some (ad 55, .inr (11, [.int (nI 1), .ref (ad 56), .ref (ad 57), .ref (ad 58), .ref (ad 59), .ref (ad 60), .ref (ad 61), .ref (ad 62), .ref (ad 63), .ref (ad 64), .ref (ad 65), .int (nI n), .int (nI nc), .ref (ad 66), .ref (ad 71), .ref (ad 72), .ref (ad 73)])) := hN1
    clear hU1 hN1
    refine lv_aload_n S.1 S.2.1 dX12_holds_29 rfl (lv_at hl 0 rfl) ?_
    refine j_get (ci := 11) (C := RX12) (T := TX12) (N := 17) (v := .int (nI 1)) S (fun w h => List.mem_cons_of_mem _ (inG12 w h)) hK hW gO_ rfl 0 (by decide) (List.mem_cons_of_mem _ wfl_X12_1) (fun _ h9 => h9) rfl dX12_holds_30 ?_
    refine jn_if_ne (tgt := 49) S (by omega) dX12_holds_33 (by decide) (fun c_33 => ?_) (fun c_33 => ?_)
    · refine lv_iconst (v := nI 0) S.1 S.2.1 dX12_holds_49 (by decide) ?_
      subst hQ
      exact j_iret (u := w_) S hr (rfl) hK hW dX12_holds_50 ⟨by decide, by decide⟩ (⟨rfl, hU, gO_⟩)
    · exact absurd (show 1 = 0 from c_33) (by decide)
/-- holds, wrong assignment -/
theorem c_X12_holds_b2 (l : Launch) (D : va_G) (cy : Nat → ClassId) {w : va_W} (ad : Nat → Nat) (th n nc : Nat) (j : Nat) (v : Int32) (gO : w[55]? = some (ad 55, .inr (11, [.int (nI th), .ref (ad 56), .ref (ad 57), .ref (ad 58), .ref (ad 59), .ref (ad 60), .ref (ad 61), .ref (ad 62), .ref (ad 63), .ref (ad 64), .ref (ad 65), .int (nI n), .int (nI nc), .ref (ad 66), .ref (ad 71), .ref (ad 72), .ref (ad 73)]))) (hn : n ≤ 10) (hnc : nc ≤ 20) (hj : j < nc) (hv : vB v (2 ^ n) = false) : jM l yX12_holds (jws yX12_holds cX12_holds 3 (some .boolean)) (jR 3 0 0) D cy w [.ref (ad 55), .int (nI j), .int v] 0 0 (fun vv uu => vv = some (.int (nI 0)) ∧ jU w uu [55] ∧ uu[55]? = some (ad 55, .inr (11, [.int (nI 2), .ref (ad 56), .ref (ad 57), .ref (ad 58), .ref (ad 59), .ref (ad 60), .ref (ad 61), .ref (ad 62), .ref (ad 63), .ref (ad 64), .ref (ad 65), .int (nI n), .int (nI nc), .ref (ad 66), .ref (ad 71), .ref (ad 72), .ref (ad 73)]))) := by
  refine j_of (by decide) rfl (Nat.le_of_ble_eq_true rfl) ?_
  intro p e s m args below meth c A ls Q hQ S hr hK hA H locs hW hl
  have hl : lv_has ls 3 [(0, .ref (ad 55)), (1, .int (nI j)), (2, .int v)] := hl
  refine lv_aload_n S.1 S.2.1 dX12_holds_0 rfl (lv_at hl 0 rfl) ?_
  refine lv_aload_n S.1 S.2.1 dX12_holds_1 rfl (lv_at hl 0 rfl) ?_
  refine lv_iload_n S.1 S.2.1 dX12_holds_2 rfl (lv_at hl 1 rfl) ?_
  refine j_callV (k := 55) (ci := 11) (q := (RX12, TX12, 17)) (As := [.int (nI j)]) (rest := [.ref (ad 55)]) S hK hA hW (c_X12_isConstraint l D cy ad th n nc (nI j) gO   (by omega)) (jgo wm_X12_89) yk_X12_isConstraint gO rfl rfl ⟨⟨rfl, rfl⟩, by decide, by decide⟩ rfl hl.1 rfl (Nat.le_of_ble_eq_true rfl) dX12_holds_3 ⟨Nat.le_of_ble_eq_true rfl, Nat.le_of_ble_eq_true rfl⟩ (fun v u H locs hp hW => ?_)
  obtain ⟨rfl, rfl⟩ := hp
  refine W.eq (g2 := F0 m 6 ls [.int (bI (vB (nI j) nc)), .ref (ad 55)]) rfl ?_
  refine jb_if_ne (tgt := 13) S dX12_holds_6 (by decide) (fun c_6 => ?_) (fun c_6 => ?_)
  · refine lv_aload_n S.1 S.2.1 dX12_holds_13 rfl (lv_at hl 0 rfl) ?_
    refine lv_iload_n S.1 S.2.1 dX12_holds_14 rfl (lv_at hl 2 rfl) ?_
    refine j_callV (k := 55) (ci := 11) (q := (RX12, TX12, 17)) (As := [.int v]) (rest := [.ref (ad 55)]) S hK hA hW (c_X12_isSet l D cy ad th n nc v gO   (by omega)) (jgo wm_X12_82) yk_X12_isSet gO rfl rfl ⟨⟨rfl, rfl⟩, by decide, by decide⟩ rfl hl.1 rfl (Nat.le_of_ble_eq_true rfl) dX12_holds_15 ⟨Nat.le_of_ble_eq_true rfl, Nat.le_of_ble_eq_true rfl⟩ (fun v u H locs hp hW => ?_)
    obtain ⟨rfl, rfl⟩ := hp
    refine W.eq (g2 := F0 m 18 ls [.int (bI (vB v (2 ^ n))), .ref (ad 55)]) rfl ?_
    refine jb_if_eq (tgt := 25) S dX12_holds_18 (by decide) (fun c_18 => ?_) (fun c_18 => ?_)
    · refine lv_iconst (v := nI 2) S.1 S.2.1 dX12_holds_25 (by decide) ?_
      refine j_put (ci := 11) (C := RX12) (T := TX12) (N := 17) (ty := .int) S (fun w h => List.mem_cons_of_mem _ (inG12 w h)) tyX12 tyX12_ok nmX12 hK hW gO rfl 0 (by decide) (List.mem_cons_of_mem _ wfl_X12_1) (fun _ h9 => h9) rfl (by decide +kernel) (rfl) (rfl) (Nat.le_of_ble_eq_true rfl) dX12_holds_26 (fun H locs w_ hU1 hN1 hW => ?_)
      have hU : jU w w_ [55] := jU.mono hU1 (by decide)
      have gO_ : w_[55]? = some (ad 55, .inr (11, [.int (nI 2), .ref (ad 56), .ref (ad 57), .ref (ad 58), .ref (ad 59), .ref (ad 60), .ref (ad 61), .ref (ad 62), .ref (ad 63), .ref (ad 64), .ref (ad 65), .int (nI n), .int (nI nc), .ref (ad 66), .ref (ad 71), .ref (ad 72), .ref (ad 73)])) := hN1
      clear hU1 hN1
      refine lv_aload_n S.1 S.2.1 dX12_holds_29 rfl (lv_at hl 0 rfl) ?_
      refine j_get (ci := 11) (C := RX12) (T := TX12) (N := 17) (v := .int (nI 2)) S (fun w h => List.mem_cons_of_mem _ (inG12 w h)) hK hW gO_ rfl 0 (by decide) (List.mem_cons_of_mem _ wfl_X12_1) (fun _ h9 => h9) rfl dX12_holds_30 ?_
      refine jn_if_ne (tgt := 49) S (by omega) dX12_holds_33 (by decide) (fun c_33 => ?_) (fun c_33 => ?_)
      · refine lv_iconst (v := nI 0) S.1 S.2.1 dX12_holds_49 (by decide) ?_
        subst hQ
        exact j_iret (u := w_) S hr (rfl) hK hW dX12_holds_50 ⟨by decide, by decide⟩ (⟨rfl, hU, gO_⟩)
      · exact absurd (show 2 = 0 from c_33) (by decide)
    · exact absurd c_18 (by rw [hv]; decide)
  · exact absurd (vB_nI hj (by omega)) (by rw [c_6]; decide)
/-- isModel -/
theorem c_X12_isModel (l : Launch) (D : va_G) (cy : Nat → ClassId) {w : va_W} (ad : Nat → Nat) (th n nc : Nat) (sd se lv : Nat) (cs : Nat → CN) (a : Nat) (gO : w[55]? = some (ad 55, .inr (11, [.int (nI th), .ref (ad 56), .ref (ad 57), .ref (ad 58), .ref (ad 59), .ref (ad 60), .ref (ad 61), .ref (ad 62), .ref (ad 63), .ref (ad 64), .ref (ad 65), .int (nI n), .int (nI nc), .ref (ad 66), .ref (ad 71), .ref (ad 72), .ref (ad 73)]))) (gE : w[58]? = some (ad 58, .inl (cy 0, 10, .inl (evA n sd se)))) (gP : w[65]? = some (ad 65, .inl (cy 3, 20, .inl (bf (dpB nc lv))))) (gC0 : w[60]? = some (ad 60, .inl (cy 2, 20, .inl (nf (ckd cs))))) (gC1 : w[61]? = some (ad 61, .inl (cy 0, 20, .inl (nf (cst cs))))) (gC2 : w[62]? = some (ad 62, .inl (cy 0, 20, .inl (nf (cot cs))))) (gC3 : w[63]? = some (ad 63, .inl (cy 0, 20, .inl (nf (cle cs))))) (gC4 : w[64]? = some (ad 64, .inl (cy 0, 20, .inl (nf (cgr cs))))) (hn : n ≤ 10) (hsd : sd < 2 ^ n) (hse : se &&& sd = se) (hnc : nc ≤ 20) (hcs : csI nc cs) (ha : a < 2 ^ n) : jM l yX12_isModel (jws yX12_isModel cX12_isModel 3 (some .boolean)) (jR 3 0 0) D cy w [.ref (ad 55), .int (nI a)] 0 0 (fun vv uu => vv = some (.int (bI (mdc sd se nc cs lv a))) ∧ w = uu) := by
  have hp2 := two_pow10 hn
  refine j_of (by decide) rfl (Nat.le_of_ble_eq_true rfl) ?_
  intro p e s m args below meth c A ls Q hQ S hr hK hA H locs hW hl
  have hl : lv_has ls 3 [(0, .ref (ad 55)), (1, .int (nI a))] := hl
  refine lv_iconst (v := nI 0) S.1 S.2.1 dX12_isModel_0 (by decide) ?_
  refine lv_istore_n (lv' := [(2, .int (nI 0)), (0, .ref (ad 55)), (1, .int (nI a))]) S.1 S.2.1 dX12_isModel_1 rfl hl (by decide) rfl (fun ls hl => ?_)
  have L2 : ∀ (k : Nat) (v : Nat), n - v = k → (v ≤ n) → (∀ u, u < v → sd.testBit u = true → a.testBit u = se.testBit u) → ∀ (H : Heap) (locs : List Loc) (ls : Array Slot), jW D A s.heap w H locs → lv_has ls 3 [(0, .ref (ad 55)), (1, .int (nI a)), (2, .int (nI v))] → W p l e (jR 3 0 0) s m args below meth c H locs 0 0 Q (F0 m 2 ls []) := by
    intro k
    induction k using Nat.strongRecOn with
    | ind k ih2 =>
    intro v hk hv hev H locs ls hW hl
    subst hk
    refine lv_iload_n S.1 S.2.1 dX12_isModel_2 rfl (lv_at hl 2 rfl) ?_
    refine lv_aload_n S.1 S.2.1 dX12_isModel_3 rfl (lv_at hl 0 rfl) ?_
    refine j_get (ci := 11) (C := RX12) (T := TX12) (N := 17) (v := .int (nI n)) S (fun w h => List.mem_cons_of_mem _ (inG12 w h)) hK hW gO rfl 11 (by decide) (List.mem_cons_of_mem _ wfl_X12_64) (fun _ h9 => h9) rfl dX12_isModel_4 ?_
    refine jn_cmp_ge (tgt := 50) S (by omega) (by omega) dX12_isModel_7 (by decide) (fun c_7 => ?_) (fun c_7 => ?_)
    · refine lv_iconst (v := nI 0) S.1 S.2.1 dX12_isModel_50 (by decide) ?_
      refine lv_istore_n (lv' := [(2, .int (nI 0)), (0, .ref (ad 55)), (1, .int (nI a))]) S.1 S.2.1 dX12_isModel_51 rfl hl (by decide) rfl (fun ls hl => ?_)
      have L52 : ∀ (k : Nat) (i : Nat), nc - i = k → (i ≤ nc) → (∀ u, u < i → (!lv.testBit u || heldC (cs u) a) = true) → ∀ (H : Heap) (locs : List Loc) (ls : Array Slot), jW D A s.heap w H locs → lv_has ls 3 [(0, .ref (ad 55)), (1, .int (nI a)), (2, .int (nI i))] → W p l e (jR 3 0 0) s m args below meth c H locs 0 0 Q (F0 m 52 ls []) := by
        intro k
        induction k using Nat.strongRecOn with
        | ind k ih52 =>
        intro i hk hi hall H locs ls hW hl
        subst hk
        refine lv_iload_n S.1 S.2.1 dX12_isModel_52 rfl (lv_at hl 2 rfl) ?_
        refine lv_aload_n S.1 S.2.1 dX12_isModel_53 rfl (lv_at hl 0 rfl) ?_
        refine j_get (ci := 11) (C := RX12) (T := TX12) (N := 17) (v := .int (nI nc)) S (fun w h => List.mem_cons_of_mem _ (inG12 w h)) hK hW gO rfl 12 (by decide) (List.mem_cons_of_mem _ wfl_X12_79) (fun _ h9 => h9) rfl dX12_isModel_54 ?_
        refine jn_cmp_ge (tgt := 86) S (by omega) (by omega) dX12_isModel_57 (by decide) (fun c_57 => ?_) (fun c_57 => ?_)
        · refine lv_iconst (v := nI 1) S.1 S.2.1 dX12_isModel_86 (by decide) ?_
          subst hQ
          exact j_iret (u := w) S hr (rfl) hK hW dX12_isModel_87 ⟨by decide, by decide⟩ (⟨bI_T (mdc_t hsd hse (fun u h => hev u (by omega)) (fun u h => hall u (by omega))), rfl⟩)
        · refine lv_aload_n S.1 S.2.1 dX12_isModel_60 rfl (lv_at hl 0 rfl) ?_
          refine j_get (ci := 11) (C := RX12) (T := TX12) (N := 17) (v := .ref (ad 65)) S (fun w h => List.mem_cons_of_mem _ (inG12 w h)) hK hW gO rfl 10 (by decide) (List.mem_cons_of_mem _ wfl_X12_46) (fun _ h9 => h9) rfl dX12_isModel_61 ?_
          refine lv_iload_n S.1 S.2.1 dX12_isModel_64 rfl (lv_at hl 2 rfl) ?_
          refine j_zald (x := bI (dpB nc lv i)) S hK hW gP (vp_in_nI (by omega) (by omega)) (nI_clamp (by omega)) (rfl) dX12_isModel_65 ?_
          refine jb_if_ne (tgt := 80) S dX12_isModel_66 (by decide) (fun c_66 => ?_) (fun c_66 => ?_)
          · refine lv_iinc (v := nI (i + 1)) (lv' := [(2, .int (nI (i + 1))), (0, .ref (ad 55)), (1, .int (nI a))]) S.1 S.2.1 dX12_isModel_80 hl (k := 2) rfl (nI_add _ 1) (by decide) rfl (fun ls hl => ?_)
            refine lv_goto (tgt := 52) S.1 S.2.1 dX12_isModel_83 (by decide) ?_
            exact ih52 _ (by omega) (i + 1) rfl (by omega) (fun u h1 => by
          rcases Nat.lt_or_ge u i with q | q
          · exact hall u q
          · rw [show u = i by omega]; rw [dpB_at (by omega)] at c_66; first | (rw [c_66]; rfl) | (rw [c_75, Bool.or_true])) H locs ls hW (lv_sub hl [1, 2, 0] rfl)
          · refine lv_aload_n S.1 S.2.1 dX12_isModel_69 rfl (lv_at hl 0 rfl) ?_
            refine lv_iload_n S.1 S.2.1 dX12_isModel_70 rfl (lv_at hl 2 rfl) ?_
            refine lv_iload_n S.1 S.2.1 dX12_isModel_71 rfl (lv_at hl 1 rfl) ?_
            refine j_callV (k := 55) (ci := 11) (q := (RX12, TX12, 17)) (As := [.int (nI i), .int (nI a)]) (rest := []) S hK hA hW (c_X12_isHeld l D cy ad th n nc cs i a gO gC0 gC1 gC2 gC3 gC4   (by omega) (hcs) (by omega) (by omega)) (jgo wm_X12_95) yk_X12_isHeld gO rfl rfl ⟨⟨rfl, rfl⟩, by decide, by decide⟩ rfl hl.1 rfl (Nat.le_of_ble_eq_true rfl) dX12_isModel_72 ⟨Nat.le_of_ble_eq_true rfl, Nat.le_of_ble_eq_true rfl⟩ (fun v u H locs hp hW => ?_)
            obtain ⟨rfl, rfl⟩ := hp
            refine W.eq (g2 := F0 m 75 ls [.int (bI (heldC (cs i) a))]) rfl ?_
            refine jb_if_ne (tgt := 80) S dX12_isModel_75 (by decide) (fun c_75 => ?_) (fun c_75 => ?_)
            · refine lv_iinc (v := nI (i + 1)) (lv' := [(2, .int (nI (i + 1))), (0, .ref (ad 55)), (1, .int (nI a))]) S.1 S.2.1 dX12_isModel_80 hl (k := 2) rfl (nI_add _ 1) (by decide) rfl (fun ls hl => ?_)
              refine lv_goto (tgt := 52) S.1 S.2.1 dX12_isModel_83 (by decide) ?_
              exact ih52 _ (by omega) (i + 1) rfl (by omega) (fun u h1 => by
          rcases Nat.lt_or_ge u i with q | q
          · exact hall u q
          · rw [show u = i by omega]; rw [dpB_at (by omega)] at c_66; first | (rw [c_66]; rfl) | (rw [c_75, Bool.or_true])) H locs ls hW (lv_sub hl [1, 2, 0] rfl)
            · refine lv_iconst (v := nI 0) S.1 S.2.1 dX12_isModel_78 (by decide) ?_
              subst hQ
              exact j_iret (u := w) S hr (rfl) hK hW dX12_isModel_79 ⟨by decide, by decide⟩ (⟨bI_F (mdc_f2 (show i < nc by omega) (by rw [dpB_at (by omega)] at c_66; rw [c_66, c_75]; rfl)), rfl⟩)
      exact L52 _ 0 rfl (Nat.zero_le _) (fun u h => absurd h (by omega)) H locs ls hW (lv_sub hl [1, 2, 0] rfl)
    · rcases Bool.eq_false_or_eq_true (sd.testBit v) with hsv | hsv
      · refine lv_aload_n S.1 S.2.1 dX12_isModel_10 rfl (lv_at hl 0 rfl) ?_
        refine j_get (ci := 11) (C := RX12) (T := TX12) (N := 17) (v := .ref (ad 58)) S (fun w h => List.mem_cons_of_mem _ (inG12 w h)) hK hW gO rfl 3 (by decide) (List.mem_cons_of_mem _ wfl_X12_24) (fun _ h9 => h9) rfl dX12_isModel_11 ?_
        refine lv_iload_n S.1 S.2.1 dX12_isModel_14 rfl (lv_at hl 2 rfl) ?_
        refine j_iald (x := nI (b01 (se.testBit v))) S hK hW gE (vp_in_nI (by omega) (by omega)) (nI_clamp (by omega)) (by rw [evA_at (by omega), evI, if_pos hsv, bI_b01]) dX12_isModel_15 ?_
        have hb0 := b01_lt (se.testBit v)
        refine jn_if_lt (tgt := 44) S (by omega) dX12_isModel_16 (by decide) ?_
        refine lv_iload_n S.1 S.2.1 dX12_isModel_19 rfl (lv_at hl 1 rfl) ?_
        refine lv_iload_n S.1 S.2.1 dX12_isModel_20 rfl (lv_at hl 2 rfl) ?_
        refine j_callS (As := [.int (nI a), .int (nI v)]) (rest := []) S hK hA hW (c_X12_has l D cy a v    (by omega) (by omega)) (jgo wm_X12_7) yk_X12_has ⟨⟨rfl, rfl⟩, by decide, by decide⟩ rfl hl.1 rfl (Nat.le_of_ble_eq_true rfl) dX12_isModel_21 ⟨Nat.le_of_ble_eq_true rfl, Nat.le_of_ble_eq_true rfl⟩ (fun v u H locs hp hW => ?_)
        obtain ⟨rfl, rfl⟩ := hp
        refine W.eq (g2 := F0 m 24 ls [.int (bI (a.testBit v))]) rfl ?_
        refine lv_aload_n S.1 S.2.1 dX12_isModel_24 rfl (lv_at hl 0 rfl) ?_
        refine j_get (ci := 11) (C := RX12) (T := TX12) (N := 17) (v := .ref (ad 58)) S (fun w h => List.mem_cons_of_mem _ (inG12 w h)) hK hW gO rfl 3 (by decide) (List.mem_cons_of_mem _ wfl_X12_24) (fun _ h9 => h9) rfl dX12_isModel_25 ?_
        refine lv_iload_n S.1 S.2.1 dX12_isModel_28 rfl (lv_at hl 2 rfl) ?_
        refine j_iald (x := nI (b01 (se.testBit v))) S hK hW gE (vp_in_nI (by omega) (by omega)) (nI_clamp (by omega)) (by rw [evA_at (by omega), evI, if_pos hsv, bI_b01]) dX12_isModel_29 ?_
        refine lv_iconst (v := nI 1) S.1 S.2.1 dX12_isModel_30 (by decide) ?_
        have hb1 := b01_lt (se.testBit v)
        refine jn_cmp_ne (tgt := 38) S (by omega) (by omega) dX12_isModel_31 (by decide) (fun c_31 => ?_) (fun c_31 => ?_)
        · refine lv_iconst (v := nI 0) S.1 S.2.1 dX12_isModel_38 (by decide) ?_
          refine lv_icmp_eq (tgt := 44) S.1 S.2.1 dX12_isModel_39 (by decide) (fun c_39 => ?_) (fun c_39 => ?_)
          · refine lv_iinc (v := nI (v + 1)) (lv' := [(2, .int (nI (v + 1))), (0, .ref (ad 55)), (1, .int (nI a))]) S.1 S.2.1 dX12_isModel_44 hl (k := 2) rfl (nI_add _ 1) (by decide) rfl (fun ls hl => ?_)
            refine lv_goto (tgt := 2) S.1 S.2.1 dX12_isModel_47 (by decide) ?_
            exact ih2 _ (by omega) (v + 1) rfl (by omega) (fun u h1 h2 => by
          rcases Nat.lt_or_ge u v with q | q
          · exact hev u q h2
          · rw [show u = v by omega] at h2 ⊢; first | exact (bI_n1.mp c_39).trans (b01_1.mp c_31).symm | exact (bI_n0.mp c_39).trans (Bool.eq_false_iff.mpr (fun z => c_31 (b01_1.mpr z))).symm | exact absurd h2 (by rw [hsv]; decide)) H locs ls hW (lv_sub hl [1, 2, 0] rfl)
          · refine lv_iconst (v := nI 0) S.1 S.2.1 dX12_isModel_42 (by decide) ?_
            subst hQ
            exact j_iret (u := w) S hr (rfl) hK hW dX12_isModel_43 ⟨by decide, by decide⟩ (⟨bI_F (mdc_f1 hsd hse (show v < n by omega) hsv (fun z => by first | exact c_39 (bI_n1.mpr (z.trans (b01_1.mp c_31))) | exact c_39 (bI_n0.mpr (z.trans (Bool.eq_false_iff.mpr (fun y => c_31 (b01_1.mpr y))))))), rfl⟩)
        · refine lv_iconst (v := nI 1) S.1 S.2.1 dX12_isModel_34 (by decide) ?_
          refine lv_goto (tgt := 39) S.1 S.2.1 dX12_isModel_35 (by decide) ?_
          refine lv_icmp_eq (tgt := 44) S.1 S.2.1 dX12_isModel_39 (by decide) (fun c_39 => ?_) (fun c_39 => ?_)
          · refine lv_iinc (v := nI (v + 1)) (lv' := [(2, .int (nI (v + 1))), (0, .ref (ad 55)), (1, .int (nI a))]) S.1 S.2.1 dX12_isModel_44 hl (k := 2) rfl (nI_add _ 1) (by decide) rfl (fun ls hl => ?_)
            refine lv_goto (tgt := 2) S.1 S.2.1 dX12_isModel_47 (by decide) ?_
            exact ih2 _ (by omega) (v + 1) rfl (by omega) (fun u h1 h2 => by
          rcases Nat.lt_or_ge u v with q | q
          · exact hev u q h2
          · rw [show u = v by omega] at h2 ⊢; first | exact (bI_n1.mp c_39).trans (b01_1.mp c_31).symm | exact (bI_n0.mp c_39).trans (Bool.eq_false_iff.mpr (fun z => c_31 (b01_1.mpr z))).symm | exact absurd h2 (by rw [hsv]; decide)) H locs ls hW (lv_sub hl [1, 2, 0] rfl)
          · refine lv_iconst (v := nI 0) S.1 S.2.1 dX12_isModel_42 (by decide) ?_
            subst hQ
            exact j_iret (u := w) S hr (rfl) hK hW dX12_isModel_43 ⟨by decide, by decide⟩ (⟨bI_F (mdc_f1 hsd hse (show v < n by omega) hsv (fun z => by first | exact c_39 (bI_n1.mpr (z.trans (b01_1.mp c_31))) | exact c_39 (bI_n0.mpr (z.trans (Bool.eq_false_iff.mpr (fun y => c_31 (b01_1.mpr y))))))), rfl⟩)
      · refine lv_aload_n S.1 S.2.1 dX12_isModel_10 rfl (lv_at hl 0 rfl) ?_
        refine j_get (ci := 11) (C := RX12) (T := TX12) (N := 17) (v := .ref (ad 58)) S (fun w h => List.mem_cons_of_mem _ (inG12 w h)) hK hW gO rfl 3 (by decide) (List.mem_cons_of_mem _ wfl_X12_24) (fun _ h9 => h9) rfl dX12_isModel_11 ?_
        refine lv_iload_n S.1 S.2.1 dX12_isModel_14 rfl (lv_at hl 2 rfl) ?_
        refine j_iald (x := (-1)) S hK hW gE (vp_in_nI (by omega) (by omega)) (nI_clamp (by omega)) (by rw [evA_at (by omega), evI, if_neg (by rw [hsv]; decide)]) dX12_isModel_15 ?_
        have hb0 := b01_lt (se.testBit v)
        refine lv_if_lt (tgt := 44) S.1 S.2.1 dX12_isModel_16 (by decide) (fun c_16 => ?_) (fun c_16 => ?_)
        · refine lv_iinc (v := nI (v + 1)) (lv' := [(2, .int (nI (v + 1))), (0, .ref (ad 55)), (1, .int (nI a))]) S.1 S.2.1 dX12_isModel_44 hl (k := 2) rfl (nI_add _ 1) (by decide) rfl (fun ls hl => ?_)
          refine lv_goto (tgt := 2) S.1 S.2.1 dX12_isModel_47 (by decide) ?_
          exact ih2 _ (by omega) (v + 1) rfl (by omega) (fun u h1 h2 => by
          rcases Nat.lt_or_ge u v with q | q
          · exact hev u q h2
          · rw [show u = v by omega] at h2 ⊢; first | exact (bI_n1.mp c_39).trans (b01_1.mp c_31).symm | exact (bI_n0.mp c_39).trans (Bool.eq_false_iff.mpr (fun z => c_31 (b01_1.mpr z))).symm | exact absurd h2 (by rw [hsv]; decide)) H locs ls hW (lv_sub hl [1, 2, 0] rfl)
        · exact absurd (by decide) c_16
  exact L2 _ 0 rfl (Nat.zero_le _) (fun u h => absurd h (by omega)) H locs ls hW (lv_sub hl [1, 2, 0] rfl)
/-- models -/
theorem c_X12_models (l : Launch) (D : va_G) (cy : Nat → ClassId) {w : va_W} (ad : Nat → Nat) (th n nc : Nat) (sd se lv : Nat) (cs : Nat → CN) (gO : w[55]? = some (ad 55, .inr (11, [.int (nI th), .ref (ad 56), .ref (ad 57), .ref (ad 58), .ref (ad 59), .ref (ad 60), .ref (ad 61), .ref (ad 62), .ref (ad 63), .ref (ad 64), .ref (ad 65), .int (nI n), .int (nI nc), .ref (ad 66), .ref (ad 71), .ref (ad 72), .ref (ad 73)]))) (gE : w[58]? = some (ad 58, .inl (cy 0, 10, .inl (evA n sd se)))) (gP : w[65]? = some (ad 65, .inl (cy 3, 20, .inl (bf (dpB nc lv))))) (gC0 : w[60]? = some (ad 60, .inl (cy 2, 20, .inl (nf (ckd cs))))) (gC1 : w[61]? = some (ad 61, .inl (cy 0, 20, .inl (nf (cst cs))))) (gC2 : w[62]? = some (ad 62, .inl (cy 0, 20, .inl (nf (cot cs))))) (gC3 : w[63]? = some (ad 63, .inl (cy 0, 20, .inl (nf (cle cs))))) (gC4 : w[64]? = some (ad 64, .inl (cy 0, 20, .inl (nf (cgr cs))))) (hn : n ≤ 10) (hsd : sd < 2 ^ n) (hse : se &&& sd = se) (hnc : nc ≤ 20) (hcs : csI nc cs) : jM l yX12_models (jws yX12_models cX12_models 4 (some .long)) (jR 4 0 0) D cy w [.ref (ad 55)] 0 0 (fun vv uu => vv = some (.long (lN (cnt (mdc sd se nc cs lv) (2 ^ n)))) ∧ jU w uu [55] ∧ uu[55]? = some (ad 55, .inr (11, [.int (nI 0), .ref (ad 56), .ref (ad 57), .ref (ad 58), .ref (ad 59), .ref (ad 60), .ref (ad 61), .ref (ad 62), .ref (ad 63), .ref (ad 64), .ref (ad 65), .int (nI n), .int (nI nc), .ref (ad 66), .ref (ad 71), .ref (ad 72), .ref (ad 73)]))) := by
  have hp2 := two_pow10 hn
  refine j_of (by decide) rfl (Nat.le_of_ble_eq_true rfl) ?_
  intro p e s m args below meth c A ls Q hQ S hr hK hA H locs hW hl
  have hl : lv_has ls 4 [(0, .ref (ad 55))] := hl
  refine lv_aload_n S.1 S.2.1 dX12_models_0 rfl (lv_at hl 0 rfl) ?_
  refine lv_iconst (v := nI 0) S.1 S.2.1 dX12_models_1 (by decide) ?_
  refine j_put (ci := 11) (C := RX12) (T := TX12) (N := 17) (ty := .int) S (fun w h => List.mem_cons_of_mem _ (inG12 w h)) tyX12 tyX12_ok nmX12 hK hW gO rfl 0 (by decide) (List.mem_cons_of_mem _ wfl_X12_1) (fun _ h9 => h9) rfl (by decide +kernel) (rfl) (rfl) (Nat.le_of_ble_eq_true rfl) dX12_models_2 (fun H locs w_ hU1 hN1 hW => ?_)
  have hU : jU w w_ [55] := jU.mono hU1 (by decide)
  have gO_ : w_[55]? = some (ad 55, .inr (11, [.int (nI 0), .ref (ad 56), .ref (ad 57), .ref (ad 58), .ref (ad 59), .ref (ad 60), .ref (ad 61), .ref (ad 62), .ref (ad 63), .ref (ad 64), .ref (ad 65), .int (nI n), .int (nI nc), .ref (ad 66), .ref (ad 71), .ref (ad 72), .ref (ad 73)])) := hN1
  clear hU1 hN1
  refine lv_lconst (v := lN 0) S.1 S.2.1 dX12_models_5 (by decide) ?_
  refine lv_lstore_n (lv' := [(1, .long (lN 0)), (0, .ref (ad 55))]) S.1 S.2.1 dX12_models_6 rfl hl (by decide) rfl (fun ls hl => ?_)
  refine lv_iconst (v := nI 0) S.1 S.2.1 dX12_models_7 (by decide) ?_
  refine lv_istore_n (lv' := [(3, .int (nI 0)), (1, .long (lN 0)), (0, .ref (ad 55))]) S.1 S.2.1 dX12_models_8 rfl hl (by decide) rfl (fun ls hl => ?_)
  have L9 : ∀ (k : Nat) (i : Nat), 2 ^ n - i = k → (i ≤ 2 ^ n) → ∀ (w_ : va_W), jU w w_ [55] → (w_[55]? = some (ad 55, .inr (11, [.int (nI 0), .ref (ad 56), .ref (ad 57), .ref (ad 58), .ref (ad 59), .ref (ad 60), .ref (ad 61), .ref (ad 62), .ref (ad 63), .ref (ad 64), .ref (ad 65), .int (nI n), .int (nI nc), .ref (ad 66), .ref (ad 71), .ref (ad 72), .ref (ad 73)]))) → ∀ (H : Heap) (locs : List Loc) (ls : Array Slot), jW D A s.heap w_ H locs → lv_has ls 4 [(0, .ref (ad 55)), (1, .long (lN (cnt (mdc sd se nc cs lv) i))), (3, .int (nI i))] → W p l e (jR 4 0 0) s m args below meth c H locs 0 0 Q (F0 m 9 ls []) := by
    intro k
    induction k using Nat.strongRecOn with
    | ind k ih9 =>
    intro i hk hi w_ hU gO_ H locs ls hW hl
    subst hk
    refine lv_iload_n S.1 S.2.1 dX12_models_9 rfl (lv_at hl 2 rfl) ?_
    refine lv_aload_n S.1 S.2.1 dX12_models_10 rfl (lv_at hl 0 rfl) ?_
    refine j_callV (k := 55) (ci := 11) (q := (RX12, TX12, 17)) (As := []) (rest := [.int (nI i)]) S hK hA hW (c_X12_all l D cy ad 0 n nc gO_   (by omega)) (jgo wm_X12_98) yk_X12_all gO_ rfl rfl ⟨⟨rfl, rfl⟩, by decide, by decide⟩ rfl hl.1 rfl (Nat.le_of_ble_eq_true rfl) dX12_models_11 ⟨Nat.le_of_ble_eq_true rfl, Nat.le_of_ble_eq_true rfl⟩ (fun v u H locs hp hW => ?_)
    obtain ⟨rfl, rfl⟩ := hp
    refine W.eq (g2 := F0 m 14 ls [.int (nI (2 ^ n)), .int (nI i)]) rfl ?_
    refine jn_cmp_ge (tgt := 39) S (by omega) (by omega) dX12_models_14 (by decide) (fun c_14 => ?_) (fun c_14 => ?_)
    · refine lv_lload_n S.1 S.2.1 dX12_models_39 rfl (lv_at hl 1 rfl) ?_
      subst hQ
      refine j_lret (u := w_) S hr hK hW dX12_models_40 ⟨by decide, by decide⟩ ?_
      have ei : i = 2 ^ n := by omega
      subst ei
      exact ⟨rfl, hU, gO_⟩
    · refine lv_lload_n S.1 S.2.1 dX12_models_17 rfl (lv_at hl 1 rfl) ?_
      refine lv_aload_n S.1 S.2.1 dX12_models_18 rfl (lv_at hl 0 rfl) ?_
      refine lv_iload_n S.1 S.2.1 dX12_models_19 rfl (lv_at hl 2 rfl) ?_
      refine j_callV (k := 55) (ci := 11) (q := (RX12, TX12, 17)) (As := [.int (nI i)]) (rest := [.long (lN (cnt (mdc sd se nc cs lv) i))]) S hK hA hW (c_X12_isModel l D cy ad 0 n nc sd se lv cs i gO_ (hU.get gE (by decide)) (hU.get gP (by decide)) (hU.get gC0 (by decide)) (hU.get gC1 (by decide)) (hU.get gC2 (by decide)) (hU.get gC3 (by decide)) (hU.get gC4 (by decide))   (by omega) (hsd) (hse) (by omega) (hcs) (by omega)) (jgo wm_X12_102) yk_X12_isModel gO_ rfl rfl ⟨⟨rfl, rfl⟩, by decide, by decide⟩ rfl hl.1 rfl (Nat.le_of_ble_eq_true rfl) dX12_models_20 ⟨Nat.le_of_ble_eq_true rfl, Nat.le_of_ble_eq_true rfl⟩ (fun v u H locs hp hW => ?_)
      obtain ⟨rfl, rfl⟩ := hp
      refine W.eq (g2 := F0 m 23 ls [.int (bI (mdc sd se nc cs lv i)), .long (lN (cnt (mdc sd se nc cs lv) i))]) rfl ?_
      refine jb_if_eq (tgt := 30) S dX12_models_23 (by decide) (fun c_23 => ?_) (fun c_23 => ?_)
      · refine lv_lconst (v := lN 0) S.1 S.2.1 dX12_models_30 (by decide) ?_
        refine jnl_add S dX12_models_31 ?_
        refine lv_topl_to (y := lN (cnt (mdc sd se nc cs lv) (i + 1))) (congrArg lN (by first | exact (cnt_s1 c_23).symm | exact (cnt_s0 c_23).symm)) ?_
        refine lv_lstore_n (lv' := [(1, .long (lN (cnt (mdc sd se nc cs lv) (i + 1)))), (0, .ref (ad 55)), (3, .int (nI i))]) S.1 S.2.1 dX12_models_32 rfl hl (by decide) rfl (fun ls hl => ?_)
        refine lv_iinc (v := nI (i + 1)) (lv' := [(3, .int (nI (i + 1))), (1, .long (lN (cnt (mdc sd se nc cs lv) (i + 1)))), (0, .ref (ad 55))]) S.1 S.2.1 dX12_models_33 hl (k := 2) rfl (nI_add _ 1) (by decide) rfl (fun ls hl => ?_)
        refine lv_goto (tgt := 9) S.1 S.2.1 dX12_models_36 (by decide) ?_
        exact ih9 _ (by omega) (i + 1) rfl (by omega) w_ hU gO_ H locs ls hW (lv_sub hl [2, 1, 0] rfl)
      · refine lv_lconst (v := lN 1) S.1 S.2.1 dX12_models_26 (by decide) ?_
        refine lv_goto (tgt := 31) S.1 S.2.1 dX12_models_27 (by decide) ?_
        refine jnl_add S dX12_models_31 ?_
        refine lv_topl_to (y := lN (cnt (mdc sd se nc cs lv) (i + 1))) (congrArg lN (by first | exact (cnt_s1 c_23).symm | exact (cnt_s0 c_23).symm)) ?_
        refine lv_lstore_n (lv' := [(1, .long (lN (cnt (mdc sd se nc cs lv) (i + 1)))), (0, .ref (ad 55)), (3, .int (nI i))]) S.1 S.2.1 dX12_models_32 rfl hl (by decide) rfl (fun ls hl => ?_)
        refine lv_iinc (v := nI (i + 1)) (lv' := [(3, .int (nI (i + 1))), (1, .long (lN (cnt (mdc sd se nc cs lv) (i + 1)))), (0, .ref (ad 55))]) S.1 S.2.1 dX12_models_33 hl (k := 2) rfl (nI_add _ 1) (by decide) rfl (fun ls hl => ?_)
        refine lv_goto (tgt := 9) S.1 S.2.1 dX12_models_36 (by decide) ?_
        exact ih9 _ (by omega) (i + 1) rfl (by omega) w_ hU gO_ H locs ls hW (lv_sub hl [2, 1, 0] rfl)
  exact L9 _ 0 rfl (Nat.zero_le _) w_ hU gO_ H locs ls hW (lv_sub hl [2, 1, 0] rfl)
/-- modelsByAll -/
theorem c_X12_modelsByAll (l : Launch) (D : va_G) (cy : Nat → ClassId) {w : va_W} (ad : Nat → Nat) (th n nc : Nat) (sd se lv : Nat) (cs : Nat → CN) (gO : w[55]? = some (ad 55, .inr (11, [.int (nI th), .ref (ad 56), .ref (ad 57), .ref (ad 58), .ref (ad 59), .ref (ad 60), .ref (ad 61), .ref (ad 62), .ref (ad 63), .ref (ad 64), .ref (ad 65), .int (nI n), .int (nI nc), .ref (ad 66), .ref (ad 71), .ref (ad 72), .ref (ad 73)]))) (gE : w[58]? = some (ad 58, .inl (cy 0, 10, .inl (evA n sd se)))) (gP : w[65]? = some (ad 65, .inl (cy 3, 20, .inl (bf (dpB nc lv))))) (gC0 : w[60]? = some (ad 60, .inl (cy 2, 20, .inl (nf (ckd cs))))) (gC1 : w[61]? = some (ad 61, .inl (cy 0, 20, .inl (nf (cst cs))))) (gC2 : w[62]? = some (ad 62, .inl (cy 0, 20, .inl (nf (cot cs))))) (gC3 : w[63]? = some (ad 63, .inl (cy 0, 20, .inl (nf (cle cs))))) (gC4 : w[64]? = some (ad 64, .inl (cy 0, 20, .inl (nf (cgr cs))))) (hn : n ≤ 10) (hsd : sd < 2 ^ n) (hse : se &&& sd = se) (hnc : nc ≤ 20) (hcs : csI nc cs) : jM l yX12_modelsByAll (jws yX12_modelsByAll cX12_modelsByAll 1 (some .long)) (jR 5 0 0) D cy w [.ref (ad 55)] 0 0 (fun vv uu => vv = some (.long (lN (cnt (mdc sd se nc cs lv) (2 ^ n)))) ∧ jU w uu [55] ∧ uu[55]? = some (ad 55, .inr (11, [.int (nI 0), .ref (ad 56), .ref (ad 57), .ref (ad 58), .ref (ad 59), .ref (ad 60), .ref (ad 61), .ref (ad 62), .ref (ad 63), .ref (ad 64), .ref (ad 65), .int (nI n), .int (nI nc), .ref (ad 66), .ref (ad 71), .ref (ad 72), .ref (ad 73)]))) := by
  refine j_of (by decide) rfl (Nat.le_of_ble_eq_true rfl) ?_
  intro p e s m args below meth c A ls Q hQ S hr hK hA H locs hW hl
  have hl : lv_has ls 1 [(0, .ref (ad 55))] := hl
  refine lv_aload_n S.1 S.2.1 dX12_modelsByAll_0 rfl (lv_at hl 0 rfl) ?_
  refine j_callV (k := 55) (ci := 11) (q := (RX12, TX12, 17)) (As := []) (rest := []) S hK hA hW (c_X12_models l D cy ad th n nc sd se lv cs gO gE gP gC0 gC1 gC2 gC3 gC4   (by omega) (hsd) (hse) (by omega) (hcs)) (jgo wm_X12_105) yk_X12_models gO rfl rfl ⟨⟨rfl, rfl⟩, by decide, by decide⟩ rfl hl.1 rfl (Nat.le_of_ble_eq_true rfl) dX12_modelsByAll_1 ⟨Nat.le_of_ble_eq_true rfl, Nat.le_of_ble_eq_true rfl⟩ (fun v w_ H locs hp hW => ?_)
  obtain ⟨rfl, hU1, hN1⟩ := hp
  have hU : jU w w_ [55] := jU.mono hU1 (by decide)
  have gO_ : w_[55]? = some (ad 55, .inr (11, [.int (nI 0), .ref (ad 56), .ref (ad 57), .ref (ad 58), .ref (ad 59), .ref (ad 60), .ref (ad 61), .ref (ad 62), .ref (ad 63), .ref (ad 64), .ref (ad 65), .int (nI n), .int (nI nc), .ref (ad 66), .ref (ad 71), .ref (ad 72), .ref (ad 73)])) := hN1
  clear hU1 hN1
  refine W.eq (g2 := F0 m 4 ls [.long (lN (cnt (mdc sd se nc cs lv) (2 ^ n)))]) rfl ?_
  subst hQ
  exact j_lret (u := w_) S hr hK hW dX12_modelsByAll_4 ⟨by decide, by decide⟩ (⟨rfl, hU, gO_⟩)
/-- weigh -/
theorem c_X12_weigh (l : Launch) (D : va_G) (cy : Nat → ClassId) {w : va_W} (ad : Nat → Nat) (th n nc : Nat) (wf wt : Nat → Nat) (a : Nat) (gO : w[55]? = some (ad 55, .inr (11, [.int (nI th), .ref (ad 56), .ref (ad 57), .ref (ad 58), .ref (ad 59), .ref (ad 60), .ref (ad 61), .ref (ad 62), .ref (ad 63), .ref (ad 64), .ref (ad 65), .int (nI n), .int (nI nc), .ref (ad 66), .ref (ad 71), .ref (ad 72), .ref (ad 73)]))) (gF : w[56]? = some (ad 56, .inl (cy 0, 10, .inl (nf wf)))) (gT : w[57]? = some (ad 57, .inl (cy 0, 10, .inl (nf wt)))) (hn : n ≤ 10) (ha : a < 1024) (hwf : ∀ j, wf j ≤ 9) (hwt : ∀ j, wt j ≤ 9) : jM l yX12_weigh (jws yX12_weigh cX12_weigh 5 (some .long)) (jR 2 0 0) D cy w [.ref (ad 55), .int (nI a)] 0 0 (fun vv uu => vv = some (.long (lN (prodN wf wt a n))) ∧ w = uu) := by
  refine j_of (by decide) rfl (Nat.le_of_ble_eq_true rfl) ?_
  intro p e s m args below meth c A ls Q hQ S hr hK hA H locs hW hl
  have hl : lv_has ls 5 [(0, .ref (ad 55)), (1, .int (nI a))] := hl
  refine lv_lconst (v := lN 1) S.1 S.2.1 dX12_weigh_0 (by decide) ?_
  refine lv_lstore_n (lv' := [(2, .long (lN 1)), (0, .ref (ad 55)), (1, .int (nI a))]) S.1 S.2.1 dX12_weigh_1 rfl hl (by decide) rfl (fun ls hl => ?_)
  refine lv_iconst (v := nI 0) S.1 S.2.1 dX12_weigh_2 (by decide) ?_
  refine lv_istore (lv' := [(4, .int (nI 0)), (2, .long (lN 1)), (0, .ref (ad 55)), (1, .int (nI a))]) S.1 S.2.1 dX12_weigh_3 hl (by decide) rfl (fun ls hl => ?_)
  have L5 : ∀ (k : Nat) (v : Nat), n - v = k → (v ≤ n) → ∀ (H : Heap) (locs : List Loc) (ls : Array Slot), jW D A s.heap w H locs → lv_has ls 5 [(0, .ref (ad 55)), (1, .int (nI a)), (2, .long (lN (prodN wf wt a v))), (4, .int (nI v))] → W p l e (jR 2 0 0) s m args below meth c H locs 0 0 Q (F0 m 5 ls []) := by
    intro k
    induction k using Nat.strongRecOn with
    | ind k ih5 =>
    intro v hk hv H locs ls hW hl
    subst hk
    refine lv_iload S.1 S.2.1 dX12_weigh_5 (lv_at hl 3 rfl) ?_
    refine lv_aload_n S.1 S.2.1 dX12_weigh_7 rfl (lv_at hl 0 rfl) ?_
    refine j_get (ci := 11) (C := RX12) (T := TX12) (N := 17) (v := .int (nI n)) S (fun w h => List.mem_cons_of_mem _ (inG12 w h)) hK hW gO rfl 11 (by decide) (List.mem_cons_of_mem _ wfl_X12_64) (fun _ h9 => h9) rfl dX12_weigh_8 ?_
    refine jn_cmp_ge (tgt := 51) S (by omega) (by omega) dX12_weigh_11 (by decide) (fun c_11 => ?_) (fun c_11 => ?_)
    · refine lv_lload_n S.1 S.2.1 dX12_weigh_51 rfl (lv_at hl 2 rfl) ?_
      subst hQ
      refine j_lret (u := w) S hr hK hW dX12_weigh_52 ⟨by decide, by decide⟩ ?_
      have ev : v = n := by omega
      subst ev
      exact ⟨rfl, rfl⟩
    · have w1 := hwf v
      have w2 := hwt v
      refine lv_lload_n S.1 S.2.1 dX12_weigh_14 rfl (lv_at hl 2 rfl) ?_
      refine lv_iload_n S.1 S.2.1 dX12_weigh_15 rfl (lv_at hl 1 rfl) ?_
      refine lv_iload S.1 S.2.1 dX12_weigh_16 (lv_at hl 3 rfl) ?_
      refine j_callS (As := [.int (nI a), .int (nI v)]) (rest := [.long (lN (prodN wf wt a v))]) S hK hA hW (c_X12_has l D cy a v    (by omega) (by omega)) (jgo wm_X12_7) yk_X12_has ⟨⟨rfl, rfl⟩, by decide, by decide⟩ rfl hl.1 rfl (Nat.le_of_ble_eq_true rfl) dX12_weigh_18 ⟨Nat.le_of_ble_eq_true rfl, Nat.le_of_ble_eq_true rfl⟩ (fun v u H locs hp hW => ?_)
      obtain ⟨rfl, rfl⟩ := hp
      refine W.eq (g2 := F0 m 21 ls [.int (bI (a.testBit v)), .long (lN (prodN wf wt a v))]) rfl ?_
      refine jb_if_eq (tgt := 35) S dX12_weigh_21 (by decide) (fun c_21 => ?_) (fun c_21 => ?_)
      · refine lv_aload_n S.1 S.2.1 dX12_weigh_35 rfl (lv_at hl 0 rfl) ?_
        refine j_get (ci := 11) (C := RX12) (T := TX12) (N := 17) (v := .ref (ad 56)) S (fun w h => List.mem_cons_of_mem _ (inG12 w h)) hK hW gO rfl 1 (by decide) (List.mem_cons_of_mem _ wfl_X12_17) (fun _ h9 => h9) rfl dX12_weigh_36 ?_
        refine lv_iload S.1 S.2.1 dX12_weigh_39 (lv_at hl 3 rfl) ?_
        refine j_iald (x := nI (wf v)) S hK hW gF (vp_in_nI (by omega) (by omega)) (nI_clamp (by omega)) (rfl) dX12_weigh_41 ?_
        refine lv_i2l (v := lN (wf v)) S.1 S.2.1 dX12_weigh_42 (nI_l (by omega)) ?_
        refine jnl_mul S dX12_weigh_43 ?_
        refine lv_topl_to (y := lN (prodN wf wt a (v + 1))) (congrArg lN (by simp only [prodN]; rw [c_21]; rfl)) ?_
        refine lv_lstore_n (lv' := [(2, .long (lN (prodN wf wt a (v + 1)))), (0, .ref (ad 55)), (1, .int (nI a)), (4, .int (nI v))]) S.1 S.2.1 dX12_weigh_44 rfl hl (by decide) rfl (fun ls hl => ?_)
        refine lv_iinc (v := nI (v + 1)) (lv' := [(4, .int (nI (v + 1))), (2, .long (lN (prodN wf wt a (v + 1)))), (0, .ref (ad 55)), (1, .int (nI a))]) S.1 S.2.1 dX12_weigh_45 hl (k := 3) rfl (nI_add _ 1) (by decide) rfl (fun ls hl => ?_)
        refine lv_goto (tgt := 5) S.1 S.2.1 dX12_weigh_48 (by decide) ?_
        exact ih5 _ (by omega) (v + 1) rfl (by omega) H locs ls hW (lv_sub hl [2, 3, 1, 0] rfl)
      · refine lv_aload_n S.1 S.2.1 dX12_weigh_24 rfl (lv_at hl 0 rfl) ?_
        refine j_get (ci := 11) (C := RX12) (T := TX12) (N := 17) (v := .ref (ad 57)) S (fun w h => List.mem_cons_of_mem _ (inG12 w h)) hK hW gO rfl 2 (by decide) (List.mem_cons_of_mem _ wfl_X12_21) (fun _ h9 => h9) rfl dX12_weigh_25 ?_
        refine lv_iload S.1 S.2.1 dX12_weigh_28 (lv_at hl 3 rfl) ?_
        refine j_iald (x := nI (wt v)) S hK hW gT (vp_in_nI (by omega) (by omega)) (nI_clamp (by omega)) (rfl) dX12_weigh_30 ?_
        refine lv_i2l (v := lN (wt v)) S.1 S.2.1 dX12_weigh_31 (nI_l (by omega)) ?_
        refine lv_goto (tgt := 43) S.1 S.2.1 dX12_weigh_32 (by decide) ?_
        refine jnl_mul S dX12_weigh_43 ?_
        refine lv_topl_to (y := lN (prodN wf wt a (v + 1))) (congrArg lN (by simp only [prodN]; rw [c_21]; rfl)) ?_
        refine lv_lstore_n (lv' := [(2, .long (lN (prodN wf wt a (v + 1)))), (0, .ref (ad 55)), (1, .int (nI a)), (4, .int (nI v))]) S.1 S.2.1 dX12_weigh_44 rfl hl (by decide) rfl (fun ls hl => ?_)
        refine lv_iinc (v := nI (v + 1)) (lv' := [(4, .int (nI (v + 1))), (2, .long (lN (prodN wf wt a (v + 1)))), (0, .ref (ad 55)), (1, .int (nI a))]) S.1 S.2.1 dX12_weigh_45 hl (k := 3) rfl (nI_add _ 1) (by decide) rfl (fun ls hl => ?_)
        refine lv_goto (tgt := 5) S.1 S.2.1 dX12_weigh_48 (by decide) ?_
        exact ih5 _ (by omega) (v + 1) rfl (by omega) H locs ls hW (lv_sub hl [2, 3, 1, 0] rfl)
  exact L5 _ 0 rfl (Nat.zero_le _) H locs ls hW (lv_sub hl [2, 3, 1, 0] rfl)
