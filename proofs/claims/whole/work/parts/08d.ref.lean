/-! THE REFERENCE: weights and chances (laid by wip/whole/tools, from the specs there) -/
/-- weightOf, of models -/
theorem c_X12_weightOf (l : Launch) (D : va_G) (cy : Nat → ClassId) {w : va_W} (ad : Nat → Nat) (th n nc : Nat) (sd se lv : Nat) (cs : Nat → CN) (wf wt : Nat → Nat) (am cm : Nat) (gO : w[55]? = some (ad 55, .inr (11, [.int (nI th), .ref (ad 56), .ref (ad 57), .ref (ad 58), .ref (ad 59), .ref (ad 60), .ref (ad 61), .ref (ad 62), .ref (ad 63), .ref (ad 64), .ref (ad 65), .int (nI n), .int (nI nc), .ref (ad 66), .ref (ad 71), .ref (ad 72), .ref (ad 73)]))) (gE : w[58]? = some (ad 58, .inl (cy 0, 10, .inl (evA n sd se)))) (gP : w[65]? = some (ad 65, .inl (cy 3, 20, .inl (bf (dpB nc lv))))) (gC0 : w[60]? = some (ad 60, .inl (cy 2, 20, .inl (nf (ckd cs))))) (gC1 : w[61]? = some (ad 61, .inl (cy 0, 20, .inl (nf (cst cs))))) (gC2 : w[62]? = some (ad 62, .inl (cy 0, 20, .inl (nf (cot cs))))) (gC3 : w[63]? = some (ad 63, .inl (cy 0, 20, .inl (nf (cle cs))))) (gC4 : w[64]? = some (ad 64, .inl (cy 0, 20, .inl (nf (cgr cs))))) (gF : w[56]? = some (ad 56, .inl (cy 0, 10, .inl (nf wf)))) (gT : w[57]? = some (ad 57, .inl (cy 0, 10, .inl (nf wt)))) (hn : n ≤ 10) (hsd : sd < 2 ^ n) (hse : se &&& sd = se) (hnc : nc ≤ 20) (hcs : csI nc cs) (hwf : ∀ j, wf j ≤ 9) (hwt : ∀ j, wt j ≤ 9) (ham : am < 1024 ∧ cm < 1024) : jM l yX12_weightOf (jws yX12_weightOf cX12_weightOf 6 (some .long)) (jR 4 0 0) D cy w [.ref (ad 55), .int (nI am), .int (nI cm)] 0 0 (fun vv uu => vv = some (.long (lN (sumI (fun d => decide (d &&& am = cm) && mdc sd se nc cs lv d) (fun d => prodN wf wt d n) (2 ^ n)))) ∧ w = uu) := by
  have hp2 := two_pow10 hn
  refine j_of (by decide) rfl (Nat.le_of_ble_eq_true rfl) ?_
  intro p e s m args below meth c A ls Q hQ S hr hK hA H locs hW hl
  have hl : lv_has ls 6 [(0, .ref (ad 55)), (1, .int (nI am)), (2, .int (nI cm))] := hl
  refine lv_lconst (v := lN 0) S.1 S.2.1 dX12_weightOf_0 (by decide) ?_
  refine lv_lstore_n (lv' := [(3, .long (lN 0)), (0, .ref (ad 55)), (1, .int (nI am)), (2, .int (nI cm))]) S.1 S.2.1 dX12_weightOf_1 rfl hl (by decide) rfl (fun ls hl => ?_)
  refine lv_iconst (v := nI 0) S.1 S.2.1 dX12_weightOf_2 (by decide) ?_
  refine lv_istore (lv' := [(5, .int (nI 0)), (3, .long (lN 0)), (0, .ref (ad 55)), (1, .int (nI am)), (2, .int (nI cm))]) S.1 S.2.1 dX12_weightOf_3 hl (by decide) rfl (fun ls hl => ?_)
  have L5 : ∀ (k : Nat) (i : Nat), 2 ^ n - i = k → (i ≤ 2 ^ n) → ∀ (H : Heap) (locs : List Loc) (ls : Array Slot), jW D A s.heap w H locs → lv_has ls 6 [(0, .ref (ad 55)), (1, .int (nI am)), (2, .int (nI cm)), (3, .long (lN (sumI (fun d => decide (d &&& am = cm) && mdc sd se nc cs lv d) (fun d => prodN wf wt d n) i))), (5, .int (nI i))] → W p l e (jR 4 0 0) s m args below meth c H locs 0 0 Q (F0 m 5 ls []) := by
    intro k
    induction k using Nat.strongRecOn with
    | ind k ih5 =>
    intro i hk hi H locs ls hW hl
    subst hk
    refine lv_iload S.1 S.2.1 dX12_weightOf_5 (lv_at hl 4 rfl) ?_
    refine lv_aload_n S.1 S.2.1 dX12_weightOf_7 rfl (lv_at hl 0 rfl) ?_
    refine j_callV (k := 55) (ci := 11) (q := (RX12, TX12, 17)) (As := []) (rest := [.int (nI i)]) S hK hA hW (c_X12_all l D cy ad th n nc gO   (by omega)) (jgo wm_X12_98) yk_X12_all gO rfl rfl ⟨⟨rfl, rfl⟩, by decide, by decide⟩ rfl hl.1 rfl (Nat.le_of_ble_eq_true rfl) dX12_weightOf_8 ⟨Nat.le_of_ble_eq_true rfl, Nat.le_of_ble_eq_true rfl⟩ (fun v u H locs hp hW => ?_)
    obtain ⟨rfl, rfl⟩ := hp
    refine W.eq (g2 := F0 m 11 ls [.int (nI (2 ^ n)), .int (nI i)]) rfl ?_
    refine jn_cmp_ge (tgt := 50) S (by omega) (by omega) dX12_weightOf_11 (by decide) (fun c_11 => ?_) (fun c_11 => ?_)
    · refine lv_lload_n S.1 S.2.1 dX12_weightOf_50 rfl (lv_at hl 3 rfl) ?_
      subst hQ
      refine j_lret (u := w) S hr hK hW dX12_weightOf_51 ⟨by decide, by decide⟩ ?_
      have ei : i = 2 ^ n := by omega
      subst ei
      exact ⟨rfl, rfl⟩
    · refine lv_lload_n S.1 S.2.1 dX12_weightOf_14 rfl (lv_at hl 3 rfl) ?_
      refine lv_iload S.1 S.2.1 dX12_weightOf_15 (lv_at hl 4 rfl) ?_
      refine lv_iload_n S.1 S.2.1 dX12_weightOf_17 rfl (lv_at hl 1 rfl) ?_
      have hia : i &&& am < 1024 := and_lt10 ham.1
      refine jn_and S dX12_weightOf_18 ?_
      refine lv_iload_n S.1 S.2.1 dX12_weightOf_19 rfl (lv_at hl 2 rfl) ?_
      refine jn_cmp_ne (tgt := 41) S (by omega) (by omega) dX12_weightOf_20 (by decide) (fun c_20 => ?_) (fun c_20 => ?_)
      · refine lv_lconst (v := lN 0) S.1 S.2.1 dX12_weightOf_41 (by decide) ?_
        refine jnl_add S dX12_weightOf_42 ?_
        refine lv_topl_to (y := lN (sumI (fun d => decide (d &&& am = cm) && mdc sd se nc cs lv d) (fun d => prodN wf wt d n) (i + 1))) (congrArg lN (by first | exact (sumI_t (by rw [decide_eq_true c_20, c_29]; rfl)).symm | exact (sumI_f (by rw [decide_eq_false c_20]; rfl)).symm | exact (sumI_f (by rw [c_29, Bool.and_false])).symm)) ?_
        refine lv_lstore_n (lv' := [(3, .long (lN (sumI (fun d => decide (d &&& am = cm) && mdc sd se nc cs lv d) (fun d => prodN wf wt d n) (i + 1)))), (0, .ref (ad 55)), (1, .int (nI am)), (2, .int (nI cm)), (5, .int (nI i))]) S.1 S.2.1 dX12_weightOf_43 rfl hl (by decide) rfl (fun ls hl => ?_)
        refine lv_iinc (v := nI (i + 1)) (lv' := [(5, .int (nI (i + 1))), (3, .long (lN (sumI (fun d => decide (d &&& am = cm) && mdc sd se nc cs lv d) (fun d => prodN wf wt d n) (i + 1)))), (0, .ref (ad 55)), (1, .int (nI am)), (2, .int (nI cm))]) S.1 S.2.1 dX12_weightOf_44 hl (k := 4) rfl (nI_add _ 1) (by decide) rfl (fun ls hl => ?_)
        refine lv_goto (tgt := 5) S.1 S.2.1 dX12_weightOf_47 (by decide) ?_
        exact ih5 _ (by omega) (i + 1) rfl (by omega) H locs ls hW (lv_sub hl [2, 3, 4, 1, 0] rfl)
      · refine lv_aload_n S.1 S.2.1 dX12_weightOf_23 rfl (lv_at hl 0 rfl) ?_
        refine lv_iload S.1 S.2.1 dX12_weightOf_24 (lv_at hl 4 rfl) ?_
        refine j_callV (k := 55) (ci := 11) (q := (RX12, TX12, 17)) (As := [.int (nI i)]) (rest := [.long (lN (sumI (fun d => decide (d &&& am = cm) && mdc sd se nc cs lv d) (fun d => prodN wf wt d n) i))]) S hK hA hW (c_X12_isModel l D cy ad th n nc sd se lv cs i gO gE gP gC0 gC1 gC2 gC3 gC4   (by omega) (hsd) (hse) (by omega) (hcs) (by omega)) (jgo wm_X12_102) yk_X12_isModel gO rfl rfl ⟨⟨rfl, rfl⟩, by decide, by decide⟩ rfl hl.1 rfl (Nat.le_of_ble_eq_true rfl) dX12_weightOf_26 ⟨Nat.le_of_ble_eq_true rfl, Nat.le_of_ble_eq_true rfl⟩ (fun v u H locs hp hW => ?_)
        obtain ⟨rfl, rfl⟩ := hp
        refine W.eq (g2 := F0 m 29 ls [.int (bI (mdc sd se nc cs lv i)), .long (lN (sumI (fun d => decide (d &&& am = cm) && mdc sd se nc cs lv d) (fun d => prodN wf wt d n) i))]) rfl ?_
        refine jb_if_eq (tgt := 41) S dX12_weightOf_29 (by decide) (fun c_29 => ?_) (fun c_29 => ?_)
        · refine lv_lconst (v := lN 0) S.1 S.2.1 dX12_weightOf_41 (by decide) ?_
          refine jnl_add S dX12_weightOf_42 ?_
          refine lv_topl_to (y := lN (sumI (fun d => decide (d &&& am = cm) && mdc sd se nc cs lv d) (fun d => prodN wf wt d n) (i + 1))) (congrArg lN (by first | exact (sumI_t (by rw [decide_eq_true c_20, c_29]; rfl)).symm | exact (sumI_f (by rw [decide_eq_false c_20]; rfl)).symm | exact (sumI_f (by rw [c_29, Bool.and_false])).symm)) ?_
          refine lv_lstore_n (lv' := [(3, .long (lN (sumI (fun d => decide (d &&& am = cm) && mdc sd se nc cs lv d) (fun d => prodN wf wt d n) (i + 1)))), (0, .ref (ad 55)), (1, .int (nI am)), (2, .int (nI cm)), (5, .int (nI i))]) S.1 S.2.1 dX12_weightOf_43 rfl hl (by decide) rfl (fun ls hl => ?_)
          refine lv_iinc (v := nI (i + 1)) (lv' := [(5, .int (nI (i + 1))), (3, .long (lN (sumI (fun d => decide (d &&& am = cm) && mdc sd se nc cs lv d) (fun d => prodN wf wt d n) (i + 1)))), (0, .ref (ad 55)), (1, .int (nI am)), (2, .int (nI cm))]) S.1 S.2.1 dX12_weightOf_44 hl (k := 4) rfl (nI_add _ 1) (by decide) rfl (fun ls hl => ?_)
          refine lv_goto (tgt := 5) S.1 S.2.1 dX12_weightOf_47 (by decide) ?_
          exact ih5 _ (by omega) (i + 1) rfl (by omega) H locs ls hW (lv_sub hl [2, 3, 4, 1, 0] rfl)
        · refine lv_aload_n S.1 S.2.1 dX12_weightOf_32 rfl (lv_at hl 0 rfl) ?_
          refine lv_iload S.1 S.2.1 dX12_weightOf_33 (lv_at hl 4 rfl) ?_
          refine j_callV (k := 55) (ci := 11) (q := (RX12, TX12, 17)) (As := [.int (nI i)]) (rest := [.long (lN (sumI (fun d => decide (d &&& am = cm) && mdc sd se nc cs lv d) (fun d => prodN wf wt d n) i))]) S hK hA hW (c_X12_weigh l D cy ad th n nc wf wt i gO gF gT   (by omega) (by omega) (hwf) (hwt)) (jgo wm_X12_109) yk_X12_weigh gO rfl rfl ⟨⟨rfl, rfl⟩, by decide, by decide⟩ rfl hl.1 rfl (Nat.le_of_ble_eq_true rfl) dX12_weightOf_35 ⟨Nat.le_of_ble_eq_true rfl, Nat.le_of_ble_eq_true rfl⟩ (fun v u H locs hp hW => ?_)
          obtain ⟨rfl, rfl⟩ := hp
          refine W.eq (g2 := F0 m 38 ls [.long (lN (prodN wf wt i n)), .long (lN (sumI (fun d => decide (d &&& am = cm) && mdc sd se nc cs lv d) (fun d => prodN wf wt d n) i))]) rfl ?_
          refine lv_goto (tgt := 42) S.1 S.2.1 dX12_weightOf_38 (by decide) ?_
          refine jnl_add S dX12_weightOf_42 ?_
          refine lv_topl_to (y := lN (sumI (fun d => decide (d &&& am = cm) && mdc sd se nc cs lv d) (fun d => prodN wf wt d n) (i + 1))) (congrArg lN (by first | exact (sumI_t (by rw [decide_eq_true c_20, c_29]; rfl)).symm | exact (sumI_f (by rw [decide_eq_false c_20]; rfl)).symm | exact (sumI_f (by rw [c_29, Bool.and_false])).symm)) ?_
          refine lv_lstore_n (lv' := [(3, .long (lN (sumI (fun d => decide (d &&& am = cm) && mdc sd se nc cs lv d) (fun d => prodN wf wt d n) (i + 1)))), (0, .ref (ad 55)), (1, .int (nI am)), (2, .int (nI cm)), (5, .int (nI i))]) S.1 S.2.1 dX12_weightOf_43 rfl hl (by decide) rfl (fun ls hl => ?_)
          refine lv_iinc (v := nI (i + 1)) (lv' := [(5, .int (nI (i + 1))), (3, .long (lN (sumI (fun d => decide (d &&& am = cm) && mdc sd se nc cs lv d) (fun d => prodN wf wt d n) (i + 1)))), (0, .ref (ad 55)), (1, .int (nI am)), (2, .int (nI cm))]) S.1 S.2.1 dX12_weightOf_44 hl (k := 4) rfl (nI_add _ 1) (by decide) rfl (fun ls hl => ?_)
          refine lv_goto (tgt := 5) S.1 S.2.1 dX12_weightOf_47 (by decide) ?_
          exact ih5 _ (by omega) (i + 1) rfl (by omega) H locs ls hW (lv_sub hl [2, 3, 4, 1, 0] rfl)
  exact L5 _ 0 rfl (Nat.zero_le _) H locs ls hW (lv_sub hl [2, 3, 4, 1, 0] rfl)
/-- weight -/
theorem c_X12_weight (l : Launch) (D : va_G) (cy : Nat → ClassId) {w : va_W} (ad : Nat → Nat) (th n nc : Nat) (sd se lv : Nat) (cs : Nat → CN) (wf wt : Nat → Nat) (gO : w[55]? = some (ad 55, .inr (11, [.int (nI th), .ref (ad 56), .ref (ad 57), .ref (ad 58), .ref (ad 59), .ref (ad 60), .ref (ad 61), .ref (ad 62), .ref (ad 63), .ref (ad 64), .ref (ad 65), .int (nI n), .int (nI nc), .ref (ad 66), .ref (ad 71), .ref (ad 72), .ref (ad 73)]))) (gE : w[58]? = some (ad 58, .inl (cy 0, 10, .inl (evA n sd se)))) (gP : w[65]? = some (ad 65, .inl (cy 3, 20, .inl (bf (dpB nc lv))))) (gC0 : w[60]? = some (ad 60, .inl (cy 2, 20, .inl (nf (ckd cs))))) (gC1 : w[61]? = some (ad 61, .inl (cy 0, 20, .inl (nf (cst cs))))) (gC2 : w[62]? = some (ad 62, .inl (cy 0, 20, .inl (nf (cot cs))))) (gC3 : w[63]? = some (ad 63, .inl (cy 0, 20, .inl (nf (cle cs))))) (gC4 : w[64]? = some (ad 64, .inl (cy 0, 20, .inl (nf (cgr cs))))) (gF : w[56]? = some (ad 56, .inl (cy 0, 10, .inl (nf wf)))) (gT : w[57]? = some (ad 57, .inl (cy 0, 10, .inl (nf wt)))) (hn : n ≤ 10) (hsd : sd < 2 ^ n) (hse : se &&& sd = se) (hnc : nc ≤ 20) (hcs : csI nc cs) (hwf : ∀ j, wf j ≤ 9) (hwt : ∀ j, wt j ≤ 9) : jM l yX12_weight (jws yX12_weight cX12_weight 1 (some .long)) (jR 5 0 0) D cy w [.ref (ad 55)] 0 0 (fun vv uu => vv = some (.long (lN (sumI (mdc sd se nc cs lv) (fun d => prodN wf wt d n) (2 ^ n)))) ∧ jU w uu [55] ∧ uu[55]? = some (ad 55, .inr (11, [.int (nI 0), .ref (ad 56), .ref (ad 57), .ref (ad 58), .ref (ad 59), .ref (ad 60), .ref (ad 61), .ref (ad 62), .ref (ad 63), .ref (ad 64), .ref (ad 65), .int (nI n), .int (nI nc), .ref (ad 66), .ref (ad 71), .ref (ad 72), .ref (ad 73)]))) := by
  refine j_of (by decide) rfl (Nat.le_of_ble_eq_true rfl) ?_
  intro p e s m args below meth c A ls Q hQ S hr hK hA H locs hW hl
  have hl : lv_has ls 1 [(0, .ref (ad 55))] := hl
  refine lv_aload_n S.1 S.2.1 dX12_weight_0 rfl (lv_at hl 0 rfl) ?_
  refine lv_iconst (v := nI 0) S.1 S.2.1 dX12_weight_1 (by decide) ?_
  refine j_put (ci := 11) (C := RX12) (T := TX12) (N := 17) (ty := .int) S (fun w h => List.mem_cons_of_mem _ (inG12 w h)) tyX12 tyX12_ok nmX12 hK hW gO rfl 0 (by decide) (List.mem_cons_of_mem _ wfl_X12_1) (fun _ h9 => h9) rfl (by decide +kernel) (rfl) (rfl) (Nat.le_of_ble_eq_true rfl) dX12_weight_2 (fun H locs w_ hU1 hN1 hW => ?_)
  have hU : jU w w_ [55] := jU.mono hU1 (by decide)
  have gO_ : w_[55]? = some (ad 55, .inr (11, [.int (nI 0), .ref (ad 56), .ref (ad 57), .ref (ad 58), .ref (ad 59), .ref (ad 60), .ref (ad 61), .ref (ad 62), .ref (ad 63), .ref (ad 64), .ref (ad 65), .int (nI n), .int (nI nc), .ref (ad 66), .ref (ad 71), .ref (ad 72), .ref (ad 73)])) := hN1
  clear hU1 hN1
  refine lv_aload_n S.1 S.2.1 dX12_weight_5 rfl (lv_at hl 0 rfl) ?_
  refine lv_iconst (v := nI 0) S.1 S.2.1 dX12_weight_6 (by decide) ?_
  refine lv_iconst (v := nI 0) S.1 S.2.1 dX12_weight_7 (by decide) ?_
  refine j_callV (k := 55) (ci := 11) (q := (RX12, TX12, 17)) (As := [.int (nI 0), .int (nI 0)]) (rest := []) S hK hA hW (c_X12_weightOf l D cy ad 0 n nc sd se lv cs wf wt 0 0 gO_ (hU.get gE (by decide)) (hU.get gP (by decide)) (hU.get gC0 (by decide)) (hU.get gC1 (by decide)) (hU.get gC2 (by decide)) (hU.get gC3 (by decide)) (hU.get gC4 (by decide)) (hU.get gF (by decide)) (hU.get gT (by decide))   (by omega) (hsd) (hse) (by omega) (hcs) (hwf) (hwt) (by decide)) (jgo wm_X12_113) yk_X12_weightOf gO_ rfl rfl ⟨⟨rfl, rfl⟩, by decide, by decide⟩ rfl hl.1 rfl (Nat.le_of_ble_eq_true rfl) dX12_weight_8 ⟨Nat.le_of_ble_eq_true rfl, Nat.le_of_ble_eq_true rfl⟩ (fun v u H locs hp hW => ?_)
  obtain ⟨rfl, rfl⟩ := hp
  refine W.eq (g2 := F0 m 11 ls [.long (lN (sumI (fun d => decide (d &&& 0 = 0) && mdc sd se nc cs lv d) (fun d => prodN wf wt d n) (2 ^ n)))]) rfl ?_
  refine lv_topl_to (y := lN (sumI (mdc sd se nc cs lv) (fun d => prodN wf wt d n) (2 ^ n))) (congrArg lN (sumI_congr (fun j _ => ⟨by rw [Nat.and_zero]; rfl, fun _ => rfl⟩))) ?_
  subst hQ
  exact j_lret (u := w_) S hr hK hW dX12_weight_11 ⟨by decide, by decide⟩ (⟨rfl, hU, gO_⟩)
/-- weightWith -/
theorem c_X12_weightWith_ok (l : Launch) (D : va_G) (cy : Nat → ClassId) {w : va_W} (ad : Nat → Nat) (th n nc : Nat) (sd se lv : Nat) (cs : Nat → CN) (wf wt : Nat → Nat) (x z : Nat) (gO : w[55]? = some (ad 55, .inr (11, [.int (nI th), .ref (ad 56), .ref (ad 57), .ref (ad 58), .ref (ad 59), .ref (ad 60), .ref (ad 61), .ref (ad 62), .ref (ad 63), .ref (ad 64), .ref (ad 65), .int (nI n), .int (nI nc), .ref (ad 66), .ref (ad 71), .ref (ad 72), .ref (ad 73)]))) (gE : w[58]? = some (ad 58, .inl (cy 0, 10, .inl (evA n sd se)))) (gP : w[65]? = some (ad 65, .inl (cy 3, 20, .inl (bf (dpB nc lv))))) (gC0 : w[60]? = some (ad 60, .inl (cy 2, 20, .inl (nf (ckd cs))))) (gC1 : w[61]? = some (ad 61, .inl (cy 0, 20, .inl (nf (cst cs))))) (gC2 : w[62]? = some (ad 62, .inl (cy 0, 20, .inl (nf (cot cs))))) (gC3 : w[63]? = some (ad 63, .inl (cy 0, 20, .inl (nf (cle cs))))) (gC4 : w[64]? = some (ad 64, .inl (cy 0, 20, .inl (nf (cgr cs))))) (gF : w[56]? = some (ad 56, .inl (cy 0, 10, .inl (nf wf)))) (gT : w[57]? = some (ad 57, .inl (cy 0, 10, .inl (nf wt)))) (hn : n ≤ 10) (hsd : sd < 2 ^ n) (hse : se &&& sd = se) (hnc : nc ≤ 20) (hcs : csI nc cs) (hwf : ∀ j, wf j ≤ 9) (hwt : ∀ j, wt j ≤ 9) (hx : x < n) (hz : z < 2) : jM l yX12_weightWith (jws yX12_weightWith cX12_weightWith 3 (some .long)) (jR 5 0 0) D cy w [.ref (ad 55), .int (nI x), .int (nI z)] 0 0 (fun vv uu => vv = some (.long (lN (sumI (fun d => decide (d &&& 2 ^ x = (z <<< x)) && mdc sd se nc cs lv d) (fun d => prodN wf wt d n) (2 ^ n)))) ∧ jU w uu [55] ∧ uu[55]? = some (ad 55, .inr (11, [.int (nI 0), .ref (ad 56), .ref (ad 57), .ref (ad 58), .ref (ad 59), .ref (ad 60), .ref (ad 61), .ref (ad 62), .ref (ad 63), .ref (ad 64), .ref (ad 65), .int (nI n), .int (nI nc), .ref (ad 66), .ref (ad 71), .ref (ad 72), .ref (ad 73)]))) := by
  refine j_of (by decide) rfl (Nat.le_of_ble_eq_true rfl) ?_
  intro p e s m args below meth c A ls Q hQ S hr hK hA H locs hW hl
  have hl : lv_has ls 3 [(0, .ref (ad 55)), (1, .int (nI x)), (2, .int (nI z))] := hl
  refine lv_aload_n S.1 S.2.1 dX12_weightWith_0 rfl (lv_at hl 0 rfl) ?_
  refine lv_iconst (v := nI 0) S.1 S.2.1 dX12_weightWith_1 (by decide) ?_
  refine j_put (ci := 11) (C := RX12) (T := TX12) (N := 17) (ty := .int) S (fun w h => List.mem_cons_of_mem _ (inG12 w h)) tyX12 tyX12_ok nmX12 hK hW gO rfl 0 (by decide) (List.mem_cons_of_mem _ wfl_X12_1) (fun _ h9 => h9) rfl (by decide +kernel) (rfl) (rfl) (Nat.le_of_ble_eq_true rfl) dX12_weightWith_2 (fun H locs w_ hU1 hN1 hW => ?_)
  have hU : jU w w_ [55] := jU.mono hU1 (by decide)
  have gO_ : w_[55]? = some (ad 55, .inr (11, [.int (nI 0), .ref (ad 56), .ref (ad 57), .ref (ad 58), .ref (ad 59), .ref (ad 60), .ref (ad 61), .ref (ad 62), .ref (ad 63), .ref (ad 64), .ref (ad 65), .int (nI n), .int (nI nc), .ref (ad 66), .ref (ad 71), .ref (ad 72), .ref (ad 73)])) := hN1
  clear hU1 hN1
  refine lv_aload_n S.1 S.2.1 dX12_weightWith_5 rfl (lv_at hl 0 rfl) ?_
  refine lv_iload_n S.1 S.2.1 dX12_weightWith_6 rfl (lv_at hl 1 rfl) ?_
  refine j_callV (k := 55) (ci := 11) (q := (RX12, TX12, 17)) (As := [.int (nI x)]) (rest := []) S hK hA hW (c_X12_isVariable l D cy ad 0 n nc (nI x) gO_   (by omega)) (jgo wm_X12_75) yk_X12_isVariable gO_ rfl rfl ⟨⟨rfl, rfl⟩, by decide, by decide⟩ rfl hl.1 rfl (Nat.le_of_ble_eq_true rfl) dX12_weightWith_7 ⟨Nat.le_of_ble_eq_true rfl, Nat.le_of_ble_eq_true rfl⟩ (fun v u H locs hp hW => ?_)
  obtain ⟨rfl, rfl⟩ := hp
  refine W.eq (g2 := F0 m 10 ls [.int (bI (vB (nI x) n))]) rfl ?_
  refine jb_if_ne (tgt := 20) S dX12_weightWith_10 (by decide) (fun c_10 => ?_) (fun c_10 => ?_)
  · refine lv_iload_n S.1 S.2.1 dX12_weightWith_20 rfl (lv_at hl 2 rfl) ?_
    refine lv_iconst (v := nI 0) S.1 S.2.1 dX12_weightWith_21 (by decide) ?_
    refine lv_iconst (v := nI 1) S.1 S.2.1 dX12_weightWith_22 (by decide) ?_
    refine j_callS (As := [.int (nI z), .int (nI 0), .int (nI 1)]) (rest := []) S hK hA hW (c_X12_isBetween l D cy (nI z) (nI 0) (nI 1)    ) (jgo wm_X12_67) yk_X12_isBetween ⟨⟨rfl, rfl⟩, by decide, by decide⟩ rfl hl.1 rfl (Nat.le_of_ble_eq_true rfl) dX12_weightWith_23 ⟨Nat.le_of_ble_eq_true rfl, Nat.le_of_ble_eq_true rfl⟩ (fun v u H locs hp hW => ?_)
    obtain ⟨rfl, rfl⟩ := hp
    refine W.eq (g2 := F0 m 26 ls [.int (bI (decide ((nI 0) ≤ (nI z)) && decide ((nI z) ≤ (nI 1))))]) rfl ?_
    refine lv_topi_to (y := bI (vB (nI z) 2)) (by rw [btw_k (k := 1) (by decide)]) ?_
    refine jb_if_ne (tgt := 36) S dX12_weightWith_26 (by decide) (fun c_26 => ?_) (fun c_26 => ?_)
    · refine lv_aload_n S.1 S.2.1 dX12_weightWith_36 rfl (lv_at hl 0 rfl) ?_
      refine lv_iconst (v := nI 1) S.1 S.2.1 dX12_weightWith_37 (by decide) ?_
      refine lv_iload_n S.1 S.2.1 dX12_weightWith_38 rfl (lv_at hl 1 rfl) ?_
      refine jn_shl1 S (by omega) dX12_weightWith_39 ?_
      refine lv_iload_n S.1 S.2.1 dX12_weightWith_40 rfl (lv_at hl 2 rfl) ?_
      refine lv_iload_n S.1 S.2.1 dX12_weightWith_41 rfl (lv_at hl 1 rfl) ?_
      refine jn_shl S (by omega) dX12_weightWith_42 ?_
      refine j_callV (k := 55) (ci := 11) (q := (RX12, TX12, 17)) (As := [.int (nI (2 ^ x)), .int (nI (z <<< x))]) (rest := []) S hK hA hW (c_X12_weightOf l D cy ad 0 n nc sd se lv cs wf wt (2 ^ x) (z <<< x) gO_ (hU.get gE (by decide)) (hU.get gP (by decide)) (hU.get gC0 (by decide)) (hU.get gC1 (by decide)) (hU.get gC2 (by decide)) (hU.get gC3 (by decide)) (hU.get gC4 (by decide)) (hU.get gF (by decide)) (hU.get gT (by decide))   (by omega) (hsd) (hse) (by omega) (hcs) (hwf) (hwt) (⟨Nat.lt_of_lt_of_le (pow_lt2 hx) (two_pow10 hn), Nat.lt_of_lt_of_le (shl01_lt (by omega) hx) (two_pow10 hn)⟩)) (jgo wm_X12_113) yk_X12_weightOf gO_ rfl rfl ⟨⟨rfl, rfl⟩, by decide, by decide⟩ rfl hl.1 rfl (Nat.le_of_ble_eq_true rfl) dX12_weightWith_43 ⟨Nat.le_of_ble_eq_true rfl, Nat.le_of_ble_eq_true rfl⟩ (fun v u H locs hp hW => ?_)
      obtain ⟨rfl, rfl⟩ := hp
      refine W.eq (g2 := F0 m 46 ls [.long (lN (sumI (fun d => decide (d &&& (2 ^ x) = (z <<< x)) && mdc sd se nc cs lv d) (fun d => prodN wf wt d n) (2 ^ n)))]) rfl ?_
      subst hQ
      exact j_lret (u := w_) S hr hK hW dX12_weightWith_46 ⟨by decide, by decide⟩ (⟨rfl, hU, gO_⟩)
    · exact absurd (vB_nI hz (by decide)) (by rw [c_26]; decide)
  · exact absurd (vB_nI hx (by omega)) (by rw [c_10]; decide)
/-- weightWith, no such variable -/
theorem c_X12_weightWith_b1 (l : Launch) (D : va_G) (cy : Nat → ClassId) {w : va_W} (ad : Nat → Nat) (th n nc : Nat) (v u1 : Int32) (gO : w[55]? = some (ad 55, .inr (11, [.int (nI th), .ref (ad 56), .ref (ad 57), .ref (ad 58), .ref (ad 59), .ref (ad 60), .ref (ad 61), .ref (ad 62), .ref (ad 63), .ref (ad 64), .ref (ad 65), .int (nI n), .int (nI nc), .ref (ad 66), .ref (ad 71), .ref (ad 72), .ref (ad 73)]))) (hn : n ≤ 10) (hv : vB v n = false) : jM l yX12_weightWith (jws yX12_weightWith cX12_weightWith 3 (some .long)) (jR 5 0 0) D cy w [.ref (ad 55), .int v, .int u1] 0 0 (fun vv uu => vv = some (.long (lN 0)) ∧ jU w uu [55] ∧ uu[55]? = some (ad 55, .inr (11, [.int (nI 1), .ref (ad 56), .ref (ad 57), .ref (ad 58), .ref (ad 59), .ref (ad 60), .ref (ad 61), .ref (ad 62), .ref (ad 63), .ref (ad 64), .ref (ad 65), .int (nI n), .int (nI nc), .ref (ad 66), .ref (ad 71), .ref (ad 72), .ref (ad 73)]))) := by
  refine j_of (by decide) rfl (Nat.le_of_ble_eq_true rfl) ?_
  intro p e s m args below meth c A ls Q hQ S hr hK hA H locs hW hl
  have hl : lv_has ls 3 [(0, .ref (ad 55)), (1, .int v), (2, .int u1)] := hl
  refine lv_aload_n S.1 S.2.1 dX12_weightWith_0 rfl (lv_at hl 0 rfl) ?_
  refine lv_iconst (v := nI 0) S.1 S.2.1 dX12_weightWith_1 (by decide) ?_
  refine j_put (ci := 11) (C := RX12) (T := TX12) (N := 17) (ty := .int) S (fun w h => List.mem_cons_of_mem _ (inG12 w h)) tyX12 tyX12_ok nmX12 hK hW gO rfl 0 (by decide) (List.mem_cons_of_mem _ wfl_X12_1) (fun _ h9 => h9) rfl (by decide +kernel) (rfl) (rfl) (Nat.le_of_ble_eq_true rfl) dX12_weightWith_2 (fun H locs w_ hU1 hN1 hW => ?_)
  have hU : jU w w_ [55] := jU.mono hU1 (by decide)
  have gO_ : w_[55]? = some (ad 55, .inr (11, [.int (nI 0), .ref (ad 56), .ref (ad 57), .ref (ad 58), .ref (ad 59), .ref (ad 60), .ref (ad 61), .ref (ad 62), .ref (ad 63), .ref (ad 64), .ref (ad 65), .int (nI n), .int (nI nc), .ref (ad 66), .ref (ad 71), .ref (ad 72), .ref (ad 73)])) := hN1
  clear hU1 hN1
  refine lv_aload_n S.1 S.2.1 dX12_weightWith_5 rfl (lv_at hl 0 rfl) ?_
  refine lv_iload_n S.1 S.2.1 dX12_weightWith_6 rfl (lv_at hl 1 rfl) ?_
  refine j_callV (k := 55) (ci := 11) (q := (RX12, TX12, 17)) (As := [.int v]) (rest := []) S hK hA hW (c_X12_isVariable l D cy ad 0 n nc v gO_   (by omega)) (jgo wm_X12_75) yk_X12_isVariable gO_ rfl rfl ⟨⟨rfl, rfl⟩, by decide, by decide⟩ rfl hl.1 rfl (Nat.le_of_ble_eq_true rfl) dX12_weightWith_7 ⟨Nat.le_of_ble_eq_true rfl, Nat.le_of_ble_eq_true rfl⟩ (fun v u H locs hp hW => ?_)
  obtain ⟨rfl, rfl⟩ := hp
  refine W.eq (g2 := F0 m 10 ls [.int (bI (vB v n))]) rfl ?_
  refine jb_if_ne (tgt := 20) S dX12_weightWith_10 (by decide) (fun c_10 => ?_) (fun c_10 => ?_)
  · exact absurd c_10 (by rw [hv]; decide)
  · refine lv_aload_n S.1 S.2.1 dX12_weightWith_13 rfl (lv_at hl 0 rfl) ?_
    refine lv_iconst (v := nI 1) S.1 S.2.1 dX12_weightWith_14 (by decide) ?_
    refine j_callV (k := 55) (ci := 11) (q := (RX12, TX12, 17)) (As := [.int (nI 1)]) (rest := []) S hK hA hW (c_X12_fails l D cy ad 0 n nc 1 gO_   ) (jgo wm_X12_71) yk_X12_fails gO_ rfl rfl ⟨⟨rfl, rfl⟩, by decide, by decide⟩ rfl hl.1 rfl (Nat.le_of_ble_eq_true rfl) dX12_weightWith_15 ⟨Nat.le_of_ble_eq_true rfl, Nat.le_of_ble_eq_true rfl⟩ (fun v w_ H locs hp hW => ?_)
    obtain ⟨rfl, hU1, hN1⟩ := hp
    have hU := hU.then hU1 (by decide)
    have gO_ : w_[55]? = some (ad 55, .inr (11, [.int (nI 1), .ref (ad 56), .ref (ad 57), .ref (ad 58), .ref (ad 59), .ref (ad 60), .ref (ad 61), .ref (ad 62), .ref (ad 63), .ref (ad 64), .ref (ad 65), .int (nI n), .int (nI nc), .ref (ad 66), .ref (ad 71), .ref (ad 72), .ref (ad 73)])) := hN1
    clear hU1 hN1
    refine W.eq (g2 := F0 m 18 ls [.int (nI 0)]) rfl ?_
    refine lv_i2l (v := lN 0) S.1 S.2.1 dX12_weightWith_18 (nI_l (by omega)) ?_
    subst hQ
    exact j_lret (u := w_) S hr hK hW dX12_weightWith_19 ⟨by decide, by decide⟩ (⟨rfl, hU, gO_⟩)
/-- weightWith, wrong value -/
theorem c_X12_weightWith_b2 (l : Launch) (D : va_G) (cy : Nat → ClassId) {w : va_W} (ad : Nat → Nat) (th n nc : Nat) (x : Nat) (u1 : Int32) (gO : w[55]? = some (ad 55, .inr (11, [.int (nI th), .ref (ad 56), .ref (ad 57), .ref (ad 58), .ref (ad 59), .ref (ad 60), .ref (ad 61), .ref (ad 62), .ref (ad 63), .ref (ad 64), .ref (ad 65), .int (nI n), .int (nI nc), .ref (ad 66), .ref (ad 71), .ref (ad 72), .ref (ad 73)]))) (hn : n ≤ 10) (hx : x < n) (hv : vB u1 2 = false) : jM l yX12_weightWith (jws yX12_weightWith cX12_weightWith 3 (some .long)) (jR 5 0 0) D cy w [.ref (ad 55), .int (nI x), .int u1] 0 0 (fun vv uu => vv = some (.long (lN 0)) ∧ jU w uu [55] ∧ uu[55]? = some (ad 55, .inr (11, [.int (nI 2), .ref (ad 56), .ref (ad 57), .ref (ad 58), .ref (ad 59), .ref (ad 60), .ref (ad 61), .ref (ad 62), .ref (ad 63), .ref (ad 64), .ref (ad 65), .int (nI n), .int (nI nc), .ref (ad 66), .ref (ad 71), .ref (ad 72), .ref (ad 73)]))) := by
  refine j_of (by decide) rfl (Nat.le_of_ble_eq_true rfl) ?_
  intro p e s m args below meth c A ls Q hQ S hr hK hA H locs hW hl
  have hl : lv_has ls 3 [(0, .ref (ad 55)), (1, .int (nI x)), (2, .int u1)] := hl
  refine lv_aload_n S.1 S.2.1 dX12_weightWith_0 rfl (lv_at hl 0 rfl) ?_
  refine lv_iconst (v := nI 0) S.1 S.2.1 dX12_weightWith_1 (by decide) ?_
  refine j_put (ci := 11) (C := RX12) (T := TX12) (N := 17) (ty := .int) S (fun w h => List.mem_cons_of_mem _ (inG12 w h)) tyX12 tyX12_ok nmX12 hK hW gO rfl 0 (by decide) (List.mem_cons_of_mem _ wfl_X12_1) (fun _ h9 => h9) rfl (by decide +kernel) (rfl) (rfl) (Nat.le_of_ble_eq_true rfl) dX12_weightWith_2 (fun H locs w_ hU1 hN1 hW => ?_)
  have hU : jU w w_ [55] := jU.mono hU1 (by decide)
  have gO_ : w_[55]? = some (ad 55, .inr (11, [.int (nI 0), .ref (ad 56), .ref (ad 57), .ref (ad 58), .ref (ad 59), .ref (ad 60), .ref (ad 61), .ref (ad 62), .ref (ad 63), .ref (ad 64), .ref (ad 65), .int (nI n), .int (nI nc), .ref (ad 66), .ref (ad 71), .ref (ad 72), .ref (ad 73)])) := hN1
  clear hU1 hN1
  refine lv_aload_n S.1 S.2.1 dX12_weightWith_5 rfl (lv_at hl 0 rfl) ?_
  refine lv_iload_n S.1 S.2.1 dX12_weightWith_6 rfl (lv_at hl 1 rfl) ?_
  refine j_callV (k := 55) (ci := 11) (q := (RX12, TX12, 17)) (As := [.int (nI x)]) (rest := []) S hK hA hW (c_X12_isVariable l D cy ad 0 n nc (nI x) gO_   (by omega)) (jgo wm_X12_75) yk_X12_isVariable gO_ rfl rfl ⟨⟨rfl, rfl⟩, by decide, by decide⟩ rfl hl.1 rfl (Nat.le_of_ble_eq_true rfl) dX12_weightWith_7 ⟨Nat.le_of_ble_eq_true rfl, Nat.le_of_ble_eq_true rfl⟩ (fun v u H locs hp hW => ?_)
  obtain ⟨rfl, rfl⟩ := hp
  refine W.eq (g2 := F0 m 10 ls [.int (bI (vB (nI x) n))]) rfl ?_
  refine jb_if_ne (tgt := 20) S dX12_weightWith_10 (by decide) (fun c_10 => ?_) (fun c_10 => ?_)
  · refine lv_iload_n S.1 S.2.1 dX12_weightWith_20 rfl (lv_at hl 2 rfl) ?_
    refine lv_iconst (v := nI 0) S.1 S.2.1 dX12_weightWith_21 (by decide) ?_
    refine lv_iconst (v := nI 1) S.1 S.2.1 dX12_weightWith_22 (by decide) ?_
    refine j_callS (As := [.int u1, .int (nI 0), .int (nI 1)]) (rest := []) S hK hA hW (c_X12_isBetween l D cy u1 (nI 0) (nI 1)    ) (jgo wm_X12_67) yk_X12_isBetween ⟨⟨rfl, rfl⟩, by decide, by decide⟩ rfl hl.1 rfl (Nat.le_of_ble_eq_true rfl) dX12_weightWith_23 ⟨Nat.le_of_ble_eq_true rfl, Nat.le_of_ble_eq_true rfl⟩ (fun v u H locs hp hW => ?_)
    obtain ⟨rfl, rfl⟩ := hp
    refine W.eq (g2 := F0 m 26 ls [.int (bI (decide ((nI 0) ≤ u1) && decide (u1 ≤ (nI 1))))]) rfl ?_
    refine lv_topi_to (y := bI (vB u1 2)) (by rw [btw_k (k := 1) (by decide)]) ?_
    refine jb_if_ne (tgt := 36) S dX12_weightWith_26 (by decide) (fun c_26 => ?_) (fun c_26 => ?_)
    · exact absurd c_26 (by rw [hv]; decide)
    · refine lv_aload_n S.1 S.2.1 dX12_weightWith_29 rfl (lv_at hl 0 rfl) ?_
      refine lv_iconst (v := nI 2) S.1 S.2.1 dX12_weightWith_30 (by decide) ?_
      refine j_callV (k := 55) (ci := 11) (q := (RX12, TX12, 17)) (As := [.int (nI 2)]) (rest := []) S hK hA hW (c_X12_fails l D cy ad 0 n nc 2 gO_   ) (jgo wm_X12_71) yk_X12_fails gO_ rfl rfl ⟨⟨rfl, rfl⟩, by decide, by decide⟩ rfl hl.1 rfl (Nat.le_of_ble_eq_true rfl) dX12_weightWith_31 ⟨Nat.le_of_ble_eq_true rfl, Nat.le_of_ble_eq_true rfl⟩ (fun v w_ H locs hp hW => ?_)
      obtain ⟨rfl, hU1, hN1⟩ := hp
      have hU := hU.then hU1 (by decide)
      have gO_ : w_[55]? = some (ad 55, .inr (11, [.int (nI 2), .ref (ad 56), .ref (ad 57), .ref (ad 58), .ref (ad 59), .ref (ad 60), .ref (ad 61), .ref (ad 62), .ref (ad 63), .ref (ad 64), .ref (ad 65), .int (nI n), .int (nI nc), .ref (ad 66), .ref (ad 71), .ref (ad 72), .ref (ad 73)])) := hN1
      clear hU1 hN1
      refine W.eq (g2 := F0 m 34 ls [.int (nI 0)]) rfl ?_
      refine lv_i2l (v := lN 0) S.1 S.2.1 dX12_weightWith_34 (nI_l (by omega)) ?_
      subst hQ
      exact j_lret (u := w_) S hr hK hW dX12_weightWith_35 ⟨by decide, by decide⟩ (⟨rfl, hU, gO_⟩)
  · exact absurd (vB_nI hx (by omega)) (by rw [c_10]; decide)
/-- gcd -/
theorem c_X12_gcd (l : Launch) (D : va_G) (cy : Nat → ClassId) {w : va_W} (ga gb : Nat) (ha : ga < 2 ^ 62) (hb : gb < 2 ^ 62) : jM l yX12_gcd (jws yX12_gcd cX12_gcd 10 (some .long)) (jR 0 0 0) D cy w [.long (lN ga), .long (lN gb)] 0 0 (fun vv uu => vv = some (.long (lN (Nat.gcd ga gb))) ∧ w = uu) := by
  refine j_of (by decide) rfl (Nat.le_of_ble_eq_true rfl) ?_
  intro p e s m args below meth c A ls Q hQ S hr hK hA H locs hW hl
  have hl : lv_has ls 10 [(0, .long (lN ga)), (2, .long (lN gb))] := hl
  refine lv_lload_n S.1 S.2.1 dX12_gcd_0 rfl (lv_at hl 0 rfl) ?_
  refine lv_lstore (lv' := [(4, .long (lN ga)), (0, .long (lN ga)), (2, .long (lN gb))]) S.1 S.2.1 dX12_gcd_1 hl (by decide) rfl (fun ls hl => ?_)
  refine lv_lload_n S.1 S.2.1 dX12_gcd_3 rfl (lv_at hl 2 rfl) ?_
  refine lv_lstore (lv' := [(6, .long (lN gb)), (4, .long (lN ga)), (0, .long (lN ga)), (2, .long (lN gb))]) S.1 S.2.1 dX12_gcd_4 hl (by decide) rfl (fun ls hl => ?_)
  have L6 : ∀ (k : Nat) (x : Nat) (y : Nat), y = k → (x < 2 ^ 62) → (y < 2 ^ 62) → (Nat.gcd x y = Nat.gcd ga gb) → ∀ (H : Heap) (locs : List Loc) (ls : Array Slot), jW D A s.heap w H locs → lv_has ls 10 [(0, .long (lN ga)), (2, .long (lN gb)), (4, .long (lN x)), (6, .long (lN y))] → W p l e (jR 0 0 0) s m args below meth c H locs 0 0 Q (F0 m 6 ls []) := by
    intro k
    induction k using Nat.strongRecOn with
    | ind k ih6 =>
    intro x y hk hx hy hg H locs ls hW hl
    subst hk
    refine lv_lload S.1 S.2.1 dX12_gcd_6 (lv_at hl 3 rfl) ?_
    refine lv_lconst (v := lN 0) S.1 S.2.1 dX12_gcd_8 (by decide) ?_
    refine jnl_le (tgt := 31) S (by omega) (by omega) dX12_gcd_9 dX12_gcd_10 (by decide) (fun c_10 => ?_) (fun c_10 => ?_)
    · refine lv_lload S.1 S.2.1 dX12_gcd_31 (lv_at hl 2 rfl) ?_
      subst hQ
      refine j_lret (u := w) S hr hK hW dX12_gcd_33 ⟨by decide, by decide⟩ ?_
      have ey : y = 0 := by omega
      exact ⟨by rw [← hg, ey, Nat.gcd_zero_right], rfl⟩
    · refine lv_lload S.1 S.2.1 dX12_gcd_13 (lv_at hl 2 rfl) ?_
      refine lv_lload S.1 S.2.1 dX12_gcd_15 (lv_at hl 3 rfl) ?_
      refine lv_lrem S.1 S.2.1 dX12_gcd_17 (lN_ne0 (by omega) (by omega)) ?_
      refine lv_topl_to (y := lN (x % y)) (pk_lRem (by omega) (by omega) (by omega)) ?_
      refine lv_lstore (lv' := [(8, .long (lN (x % y))), (0, .long (lN ga)), (2, .long (lN gb)), (4, .long (lN x)), (6, .long (lN y))]) S.1 S.2.1 dX12_gcd_18 hl (by decide) rfl (fun ls hl => ?_)
      refine lv_lload S.1 S.2.1 dX12_gcd_20 (lv_at hl 4 rfl) ?_
      refine lv_lstore (lv' := [(4, .long (lN y)), (8, .long (lN (x % y))), (0, .long (lN ga)), (2, .long (lN gb)), (6, .long (lN y))]) S.1 S.2.1 dX12_gcd_22 hl (by decide) rfl (fun ls hl => ?_)
      refine lv_lload S.1 S.2.1 dX12_gcd_24 (lv_at hl 1 rfl) ?_
      refine lv_lstore (lv' := [(6, .long (lN (x % y))), (4, .long (lN y)), (8, .long (lN (x % y))), (0, .long (lN ga)), (2, .long (lN gb))]) S.1 S.2.1 dX12_gcd_26 hl (by decide) rfl (fun ls hl => ?_)
      refine lv_goto (tgt := 6) S.1 S.2.1 dX12_gcd_28 (by decide) ?_
      exact ih6 _ (Nat.mod_lt _ (by omega)) y (x % y) rfl (hy) (Nat.lt_trans (Nat.mod_lt _ (by omega)) hy) (by rw [← hg, Nat.gcd_comm x y, Nat.gcd_rec y x, Nat.gcd_comm]) H locs ls hW (lv_sub hl [3, 4, 1, 0] rfl)
  exact L6 _ ga gb rfl (ha) (hb) (rfl) H locs ls hW (lv_sub hl [2, 3, 1, 0] rfl)
/-- chance -/
theorem c_X12_chance_ok (l : Launch) (D : va_G) (cy : Nat → ClassId) {w : va_W} (ad : Nat → Nat) (th n nc : Nat) (sd se lv : Nat) (cs : Nat → CN) (wf wt : Nat → Nat) (x ts : Nat) (gO : w[55]? = some (ad 55, .inr (11, [.int (nI th), .ref (ad 56), .ref (ad 57), .ref (ad 58), .ref (ad 59), .ref (ad 60), .ref (ad 61), .ref (ad 62), .ref (ad 63), .ref (ad 64), .ref (ad 65), .int (nI n), .int (nI nc), .ref (ad 66), .ref (ad 71), .ref (ad 72), .ref (ad 73)]))) (gE : w[58]? = some (ad 58, .inl (cy 0, 10, .inl (evA n sd se)))) (gP : w[65]? = some (ad 65, .inl (cy 3, 20, .inl (bf (dpB nc lv))))) (gC0 : w[60]? = some (ad 60, .inl (cy 2, 20, .inl (nf (ckd cs))))) (gC1 : w[61]? = some (ad 61, .inl (cy 0, 20, .inl (nf (cst cs))))) (gC2 : w[62]? = some (ad 62, .inl (cy 0, 20, .inl (nf (cot cs))))) (gC3 : w[63]? = some (ad 63, .inl (cy 0, 20, .inl (nf (cle cs))))) (gC4 : w[64]? = some (ad 64, .inl (cy 0, 20, .inl (nf (cgr cs))))) (gF : w[56]? = some (ad 56, .inl (cy 0, 10, .inl (nf wf)))) (gT : w[57]? = some (ad 57, .inl (cy 0, 10, .inl (nf wt)))) (hn : n ≤ 10) (hsd : sd < 2 ^ n) (hse : se &&& sd = se) (hnc : nc ≤ 20) (hcs : csI nc cs) (hwf : ∀ j, wf j ≤ 9) (hwt : ∀ j, wt j ≤ 9) (hx : x < n) (hts : ts < 2) (hw0 : sumI (mdc sd se nc cs lv) (fun d => prodN wf wt d n) (2 ^ n) ≠ 0) : jM l yX12_chance (jws yX12_chance cX12_chance 9 (some .long)) (jR 5 0 0) D cy w [.ref (ad 55), .int (nI x), .int (nI ts)] 0 0 (fun vv uu => vv = some (.long (lN ((if ts = 0 then sumI (mdc sd se nc cs lv) (fun d => prodN wf wt d n) (2 ^ n) else sumI (fun d => decide (d &&& 2 ^ x = 2 ^ x) && mdc sd se nc cs lv d) (fun d => prodN wf wt d n) (2 ^ n)) / Nat.gcd (sumI (mdc sd se nc cs lv) (fun d => prodN wf wt d n) (2 ^ n)) (sumI (fun d => decide (d &&& 2 ^ x = 2 ^ x) && mdc sd se nc cs lv d) (fun d => prodN wf wt d n) (2 ^ n))))) ∧ jU w uu [55] ∧ uu[55]? = some (ad 55, .inr (11, [.int (nI 0), .ref (ad 56), .ref (ad 57), .ref (ad 58), .ref (ad 59), .ref (ad 60), .ref (ad 61), .ref (ad 62), .ref (ad 63), .ref (ad 64), .ref (ad 65), .int (nI n), .int (nI nc), .ref (ad 66), .ref (ad 71), .ref (ad 72), .ref (ad 73)]))) := by
  have hp2 := two_pow10 hn
  have h910 : 9 ^ n ≤ 9 ^ 10 := Nat.pow_le_pow_right (by decide) hn
  have hpb : ∀ d, prodN wf wt d n ≤ 3486784401 := fun d => Nat.le_trans (prodN_le hwf hwt d n) h910
  have hsl : sumI (mdc sd se nc cs lv) (fun d => prodN wf wt d n) (2 ^ n) ≤ 2 ^ n * 3486784401 := sumI_le (fun j _ => hpb j)
  have hsb : 2 ^ n * 3486784401 ≤ 1024 * 3486784401 := Nat.mul_le_mul_right _ hp2
  have htl : sumI (fun d => decide (d &&& 2 ^ x = 2 ^ x) && mdc sd se nc cs lv d) (fun d => prodN wf wt d n) (2 ^ n) ≤ sumI (mdc sd se nc cs lv) (fun d => prodN wf wt d n) (2 ^ n) := sumI_mono (fun j _ q => (Bool.and_eq_true _ _ ▸ q).2)
  have hgp : 0 < Nat.gcd (sumI (mdc sd se nc cs lv) (fun d => prodN wf wt d n) (2 ^ n)) (sumI (fun d => decide (d &&& 2 ^ x = 2 ^ x) && mdc sd se nc cs lv d) (fun d => prodN wf wt d n) (2 ^ n)) := Nat.gcd_pos_of_pos_left _ (by omega)
  have hgl : Nat.gcd (sumI (mdc sd se nc cs lv) (fun d => prodN wf wt d n) (2 ^ n)) (sumI (fun d => decide (d &&& 2 ^ x = 2 ^ x) && mdc sd se nc cs lv d) (fun d => prodN wf wt d n) (2 ^ n)) ≤ sumI (mdc sd se nc cs lv) (fun d => prodN wf wt d n) (2 ^ n) := Nat.gcd_le_left _ (by omega)
  refine j_of (by decide) rfl (Nat.le_of_ble_eq_true rfl) ?_
  intro p e s m args below meth c A ls Q hQ S hr hK hA H locs hW hl
  have hl : lv_has ls 9 [(0, .ref (ad 55)), (1, .int (nI x)), (2, .int (nI ts))] := hl
  refine lv_aload_n S.1 S.2.1 dX12_chance_0 rfl (lv_at hl 0 rfl) ?_
  refine lv_iconst (v := nI 0) S.1 S.2.1 dX12_chance_1 (by decide) ?_
  refine j_put (ci := 11) (C := RX12) (T := TX12) (N := 17) (ty := .int) S (fun w h => List.mem_cons_of_mem _ (inG12 w h)) tyX12 tyX12_ok nmX12 hK hW gO rfl 0 (by decide) (List.mem_cons_of_mem _ wfl_X12_1) (fun _ h9 => h9) rfl (by decide +kernel) (rfl) (rfl) (Nat.le_of_ble_eq_true rfl) dX12_chance_2 (fun H locs w_ hU1 hN1 hW => ?_)
  have hU : jU w w_ [55] := jU.mono hU1 (by decide)
  have gO_ : w_[55]? = some (ad 55, .inr (11, [.int (nI 0), .ref (ad 56), .ref (ad 57), .ref (ad 58), .ref (ad 59), .ref (ad 60), .ref (ad 61), .ref (ad 62), .ref (ad 63), .ref (ad 64), .ref (ad 65), .int (nI n), .int (nI nc), .ref (ad 66), .ref (ad 71), .ref (ad 72), .ref (ad 73)])) := hN1
  clear hU1 hN1
  refine lv_aload_n S.1 S.2.1 dX12_chance_5 rfl (lv_at hl 0 rfl) ?_
  refine lv_iload_n S.1 S.2.1 dX12_chance_6 rfl (lv_at hl 1 rfl) ?_
  refine j_callV (k := 55) (ci := 11) (q := (RX12, TX12, 17)) (As := [.int (nI x)]) (rest := []) S hK hA hW (c_X12_isVariable l D cy ad 0 n nc (nI x) gO_   (by omega)) (jgo wm_X12_75) yk_X12_isVariable gO_ rfl rfl ⟨⟨rfl, rfl⟩, by decide, by decide⟩ rfl hl.1 rfl (Nat.le_of_ble_eq_true rfl) dX12_chance_7 ⟨Nat.le_of_ble_eq_true rfl, Nat.le_of_ble_eq_true rfl⟩ (fun v u H locs hp hW => ?_)
  obtain ⟨rfl, rfl⟩ := hp
  refine W.eq (g2 := F0 m 10 ls [.int (bI (vB (nI x) n))]) rfl ?_
  refine jb_if_ne (tgt := 20) S dX12_chance_10 (by decide) (fun c_10 => ?_) (fun c_10 => ?_)
  · refine lv_aload_n S.1 S.2.1 dX12_chance_20 rfl (lv_at hl 0 rfl) ?_
    refine lv_iconst (v := nI 0) S.1 S.2.1 dX12_chance_21 (by decide) ?_
    refine lv_iconst (v := nI 0) S.1 S.2.1 dX12_chance_22 (by decide) ?_
    refine j_callV (k := 55) (ci := 11) (q := (RX12, TX12, 17)) (As := [.int (nI 0), .int (nI 0)]) (rest := []) S hK hA hW (c_X12_weightOf l D cy ad 0 n nc sd se lv cs wf wt 0 0 gO_ (hU.get gE (by decide)) (hU.get gP (by decide)) (hU.get gC0 (by decide)) (hU.get gC1 (by decide)) (hU.get gC2 (by decide)) (hU.get gC3 (by decide)) (hU.get gC4 (by decide)) (hU.get gF (by decide)) (hU.get gT (by decide))   (by omega) (hsd) (hse) (by omega) (hcs) (hwf) (hwt) (by decide)) (jgo wm_X12_113) yk_X12_weightOf gO_ rfl rfl ⟨⟨rfl, rfl⟩, by decide, by decide⟩ rfl hl.1 rfl (Nat.le_of_ble_eq_true rfl) dX12_chance_23 ⟨Nat.le_of_ble_eq_true rfl, Nat.le_of_ble_eq_true rfl⟩ (fun v u H locs hp hW => ?_)
    obtain ⟨rfl, rfl⟩ := hp
    refine W.eq (g2 := F0 m 26 ls [.long (lN (sumI (fun d => decide (d &&& 0 = 0) && mdc sd se nc cs lv d) (fun d => prodN wf wt d n) (2 ^ n)))]) rfl ?_
    refine lv_topl_to (y := lN (sumI (mdc sd se nc cs lv) (fun d => prodN wf wt d n) (2 ^ n))) (congrArg lN (sumI_congr (fun j _ => ⟨by rw [Nat.and_zero]; rfl, fun _ => rfl⟩))) ?_
    refine lv_lstore_n (lv' := [(3, .long (lN (sumI (mdc sd se nc cs lv) (fun d => prodN wf wt d n) (2 ^ n)))), (0, .ref (ad 55)), (1, .int (nI x)), (2, .int (nI ts))]) S.1 S.2.1 dX12_chance_26 rfl hl (by decide) rfl (fun ls hl => ?_)
    refine lv_lload_n S.1 S.2.1 dX12_chance_27 rfl (lv_at hl 0 rfl) ?_
    refine lv_lconst (v := lN 0) S.1 S.2.1 dX12_chance_28 (by decide) ?_
    refine jnz_ne (tgt := 40) S (by omega) (by omega) dX12_chance_29 dX12_chance_30 (by decide) (fun c_30 => ?_) (fun c_30 => ?_)
    · refine lv_aload_n S.1 S.2.1 dX12_chance_40 rfl (lv_at hl 1 rfl) ?_
      refine lv_iconst (v := nI 1) S.1 S.2.1 dX12_chance_41 (by decide) ?_
      refine lv_iload_n S.1 S.2.1 dX12_chance_42 rfl (lv_at hl 2 rfl) ?_
      refine jn_shl1 S (by omega) dX12_chance_43 ?_
      refine lv_iconst (v := nI 1) S.1 S.2.1 dX12_chance_44 (by decide) ?_
      refine lv_iload_n S.1 S.2.1 dX12_chance_45 rfl (lv_at hl 2 rfl) ?_
      refine jn_shl1 S (by omega) dX12_chance_46 ?_
      refine j_callV (k := 55) (ci := 11) (q := (RX12, TX12, 17)) (As := [.int (nI (2 ^ x)), .int (nI (2 ^ x))]) (rest := []) S hK hA hW (c_X12_weightOf l D cy ad 0 n nc sd se lv cs wf wt (2 ^ x) (2 ^ x) gO_ (hU.get gE (by decide)) (hU.get gP (by decide)) (hU.get gC0 (by decide)) (hU.get gC1 (by decide)) (hU.get gC2 (by decide)) (hU.get gC3 (by decide)) (hU.get gC4 (by decide)) (hU.get gF (by decide)) (hU.get gT (by decide))   (by omega) (hsd) (hse) (by omega) (hcs) (hwf) (hwt) (⟨Nat.lt_of_lt_of_le (pow_lt2 hx) (two_pow10 hn), Nat.lt_of_lt_of_le (pow_lt2 hx) (two_pow10 hn)⟩)) (jgo wm_X12_113) yk_X12_weightOf gO_ rfl rfl ⟨⟨rfl, rfl⟩, by decide, by decide⟩ rfl hl.1 rfl (Nat.le_of_ble_eq_true rfl) dX12_chance_47 ⟨Nat.le_of_ble_eq_true rfl, Nat.le_of_ble_eq_true rfl⟩ (fun v u H locs hp hW => ?_)
      obtain ⟨rfl, rfl⟩ := hp
      refine W.eq (g2 := F0 m 50 ls [.long (lN (sumI (fun d => decide (d &&& (2 ^ x) = (2 ^ x)) && mdc sd se nc cs lv d) (fun d => prodN wf wt d n) (2 ^ n)))]) rfl ?_
      refine lv_lstore (lv' := [(5, .long (lN (sumI (fun d => decide (d &&& (2 ^ x) = (2 ^ x)) && mdc sd se nc cs lv d) (fun d => prodN wf wt d n) (2 ^ n)))), (3, .long (lN (sumI (mdc sd se nc cs lv) (fun d => prodN wf wt d n) (2 ^ n)))), (0, .ref (ad 55)), (1, .int (nI x)), (2, .int (nI ts))]) S.1 S.2.1 dX12_chance_50 hl (by decide) rfl (fun ls hl => ?_)
      refine lv_lload_n S.1 S.2.1 dX12_chance_52 rfl (lv_at hl 1 rfl) ?_
      refine lv_lload S.1 S.2.1 dX12_chance_53 (lv_at hl 0 rfl) ?_
      refine j_callS (As := [.long (lN (sumI (mdc sd se nc cs lv) (fun d => prodN wf wt d n) (2 ^ n))), .long (lN (sumI (fun d => decide (d &&& (2 ^ x) = (2 ^ x)) && mdc sd se nc cs lv d) (fun d => prodN wf wt d n) (2 ^ n)))]) (rest := []) S hK hA hW (c_X12_gcd l D cy (sumI (mdc sd se nc cs lv) (fun d => prodN wf wt d n) (2 ^ n)) (sumI (fun d => decide (d &&& (2 ^ x) = (2 ^ x)) && mdc sd se nc cs lv d) (fun d => prodN wf wt d n) (2 ^ n))    (by omega) (by omega)) (jgo wm_X12_117) yk_X12_gcd ⟨⟨rfl, rfl⟩, by decide, by decide⟩ rfl hl.1 rfl (Nat.le_of_ble_eq_true rfl) dX12_chance_55 ⟨Nat.le_of_ble_eq_true rfl, Nat.le_of_ble_eq_true rfl⟩ (fun v u H locs hp hW => ?_)
      obtain ⟨rfl, rfl⟩ := hp
      refine W.eq (g2 := F0 m 58 ls [.long (lN (Nat.gcd (sumI (mdc sd se nc cs lv) (fun d => prodN wf wt d n) (2 ^ n)) (sumI (fun d => decide (d &&& (2 ^ x) = (2 ^ x)) && mdc sd se nc cs lv d) (fun d => prodN wf wt d n) (2 ^ n))))]) rfl ?_
      refine lv_lstore (lv' := [(7, .long (lN (Nat.gcd (sumI (mdc sd se nc cs lv) (fun d => prodN wf wt d n) (2 ^ n)) (sumI (fun d => decide (d &&& (2 ^ x) = (2 ^ x)) && mdc sd se nc cs lv d) (fun d => prodN wf wt d n) (2 ^ n))))), (5, .long (lN (sumI (fun d => decide (d &&& (2 ^ x) = (2 ^ x)) && mdc sd se nc cs lv d) (fun d => prodN wf wt d n) (2 ^ n)))), (3, .long (lN (sumI (mdc sd se nc cs lv) (fun d => prodN wf wt d n) (2 ^ n)))), (0, .ref (ad 55)), (1, .int (nI x)), (2, .int (nI ts))]) S.1 S.2.1 dX12_chance_58 hl (by decide) rfl (fun ls hl => ?_)
      refine lv_iload_n S.1 S.2.1 dX12_chance_60 rfl (lv_at hl 5 rfl) ?_
      refine jn_if_eq (tgt := 69) S (by omega) dX12_chance_61 (by decide) (fun c_61 => ?_) (fun c_61 => ?_)
      · refine lv_lload_n S.1 S.2.1 dX12_chance_69 rfl (lv_at hl 2 rfl) ?_
        refine lv_lload S.1 S.2.1 dX12_chance_70 (lv_at hl 0 rfl) ?_
        refine lv_ldiv S.1 S.2.1 dX12_chance_72 (lN_ne0 (by omega) (by omega)) ?_
        refine lv_topl_to (y := lN ((if ts = 0 then sumI (mdc sd se nc cs lv) (fun d => prodN wf wt d n) (2 ^ n) else sumI (fun d => decide (d &&& 2 ^ x = 2 ^ x) && mdc sd se nc cs lv d) (fun d => prodN wf wt d n) (2 ^ n)) / Nat.gcd (sumI (mdc sd se nc cs lv) (fun d => prodN wf wt d n) (2 ^ n)) (sumI (fun d => decide (d &&& 2 ^ x = 2 ^ x) && mdc sd se nc cs lv d) (fun d => prodN wf wt d n) (2 ^ n)))) (by first | (rw [if_pos c_61, pk_lDiv (by omega) (by omega) (by omega)]) | (rw [if_neg c_61, pk_lDiv (by omega) (by omega) (by omega)])) ?_
        subst hQ
        exact j_lret (u := w_) S hr hK hW dX12_chance_73 ⟨by decide, by decide⟩ (⟨rfl, hU, gO_⟩)
      · refine lv_lload S.1 S.2.1 dX12_chance_64 (lv_at hl 1 rfl) ?_
        refine lv_goto (tgt := 70) S.1 S.2.1 dX12_chance_66 (by decide) ?_
        refine lv_lload S.1 S.2.1 dX12_chance_70 (lv_at hl 0 rfl) ?_
        refine lv_ldiv S.1 S.2.1 dX12_chance_72 (lN_ne0 (by omega) (by omega)) ?_
        refine lv_topl_to (y := lN ((if ts = 0 then sumI (mdc sd se nc cs lv) (fun d => prodN wf wt d n) (2 ^ n) else sumI (fun d => decide (d &&& 2 ^ x = 2 ^ x) && mdc sd se nc cs lv d) (fun d => prodN wf wt d n) (2 ^ n)) / Nat.gcd (sumI (mdc sd se nc cs lv) (fun d => prodN wf wt d n) (2 ^ n)) (sumI (fun d => decide (d &&& 2 ^ x = 2 ^ x) && mdc sd se nc cs lv d) (fun d => prodN wf wt d n) (2 ^ n)))) (by first | (rw [if_pos c_61, pk_lDiv (by omega) (by omega) (by omega)]) | (rw [if_neg c_61, pk_lDiv (by omega) (by omega) (by omega)])) ?_
        subst hQ
        exact j_lret (u := w_) S hr hK hW dX12_chance_73 ⟨by decide, by decide⟩ (⟨rfl, hU, gO_⟩)
    · exact absurd c_30 hw0
  · exact absurd (vB_nI hx (by omega)) (by rw [c_10]; decide)
/-- chance, no such variable -/
theorem c_X12_chance_b1 (l : Launch) (D : va_G) (cy : Nat → ClassId) {w : va_W} (ad : Nat → Nat) (th n nc : Nat) (v : Int32) (ts : Nat) (gO : w[55]? = some (ad 55, .inr (11, [.int (nI th), .ref (ad 56), .ref (ad 57), .ref (ad 58), .ref (ad 59), .ref (ad 60), .ref (ad 61), .ref (ad 62), .ref (ad 63), .ref (ad 64), .ref (ad 65), .int (nI n), .int (nI nc), .ref (ad 66), .ref (ad 71), .ref (ad 72), .ref (ad 73)]))) (hn : n ≤ 10) (hv : vB v n = false) : jM l yX12_chance (jws yX12_chance cX12_chance 9 (some .long)) (jR 5 0 0) D cy w [.ref (ad 55), .int v, .int (nI ts)] 0 0 (fun vv uu => vv = some (.long (lN 0)) ∧ jU w uu [55] ∧ uu[55]? = some (ad 55, .inr (11, [.int (nI 1), .ref (ad 56), .ref (ad 57), .ref (ad 58), .ref (ad 59), .ref (ad 60), .ref (ad 61), .ref (ad 62), .ref (ad 63), .ref (ad 64), .ref (ad 65), .int (nI n), .int (nI nc), .ref (ad 66), .ref (ad 71), .ref (ad 72), .ref (ad 73)]))) := by
  refine j_of (by decide) rfl (Nat.le_of_ble_eq_true rfl) ?_
  intro p e s m args below meth c A ls Q hQ S hr hK hA H locs hW hl
  have hl : lv_has ls 9 [(0, .ref (ad 55)), (1, .int v), (2, .int (nI ts))] := hl
  refine lv_aload_n S.1 S.2.1 dX12_chance_0 rfl (lv_at hl 0 rfl) ?_
  refine lv_iconst (v := nI 0) S.1 S.2.1 dX12_chance_1 (by decide) ?_
  refine j_put (ci := 11) (C := RX12) (T := TX12) (N := 17) (ty := .int) S (fun w h => List.mem_cons_of_mem _ (inG12 w h)) tyX12 tyX12_ok nmX12 hK hW gO rfl 0 (by decide) (List.mem_cons_of_mem _ wfl_X12_1) (fun _ h9 => h9) rfl (by decide +kernel) (rfl) (rfl) (Nat.le_of_ble_eq_true rfl) dX12_chance_2 (fun H locs w_ hU1 hN1 hW => ?_)
  have hU : jU w w_ [55] := jU.mono hU1 (by decide)
  have gO_ : w_[55]? = some (ad 55, .inr (11, [.int (nI 0), .ref (ad 56), .ref (ad 57), .ref (ad 58), .ref (ad 59), .ref (ad 60), .ref (ad 61), .ref (ad 62), .ref (ad 63), .ref (ad 64), .ref (ad 65), .int (nI n), .int (nI nc), .ref (ad 66), .ref (ad 71), .ref (ad 72), .ref (ad 73)])) := hN1
  clear hU1 hN1
  refine lv_aload_n S.1 S.2.1 dX12_chance_5 rfl (lv_at hl 0 rfl) ?_
  refine lv_iload_n S.1 S.2.1 dX12_chance_6 rfl (lv_at hl 1 rfl) ?_
  refine j_callV (k := 55) (ci := 11) (q := (RX12, TX12, 17)) (As := [.int v]) (rest := []) S hK hA hW (c_X12_isVariable l D cy ad 0 n nc v gO_   (by omega)) (jgo wm_X12_75) yk_X12_isVariable gO_ rfl rfl ⟨⟨rfl, rfl⟩, by decide, by decide⟩ rfl hl.1 rfl (Nat.le_of_ble_eq_true rfl) dX12_chance_7 ⟨Nat.le_of_ble_eq_true rfl, Nat.le_of_ble_eq_true rfl⟩ (fun v u H locs hp hW => ?_)
  obtain ⟨rfl, rfl⟩ := hp
  refine W.eq (g2 := F0 m 10 ls [.int (bI (vB v n))]) rfl ?_
  refine jb_if_ne (tgt := 20) S dX12_chance_10 (by decide) (fun c_10 => ?_) (fun c_10 => ?_)
  · exact absurd c_10 (by rw [hv]; decide)
  · refine lv_aload_n S.1 S.2.1 dX12_chance_13 rfl (lv_at hl 0 rfl) ?_
    refine lv_iconst (v := nI 1) S.1 S.2.1 dX12_chance_14 (by decide) ?_
    refine j_callV (k := 55) (ci := 11) (q := (RX12, TX12, 17)) (As := [.int (nI 1)]) (rest := []) S hK hA hW (c_X12_fails l D cy ad 0 n nc 1 gO_   ) (jgo wm_X12_71) yk_X12_fails gO_ rfl rfl ⟨⟨rfl, rfl⟩, by decide, by decide⟩ rfl hl.1 rfl (Nat.le_of_ble_eq_true rfl) dX12_chance_15 ⟨Nat.le_of_ble_eq_true rfl, Nat.le_of_ble_eq_true rfl⟩ (fun v w_ H locs hp hW => ?_)
    obtain ⟨rfl, hU1, hN1⟩ := hp
    have hU := hU.then hU1 (by decide)
    have gO_ : w_[55]? = some (ad 55, .inr (11, [.int (nI 1), .ref (ad 56), .ref (ad 57), .ref (ad 58), .ref (ad 59), .ref (ad 60), .ref (ad 61), .ref (ad 62), .ref (ad 63), .ref (ad 64), .ref (ad 65), .int (nI n), .int (nI nc), .ref (ad 66), .ref (ad 71), .ref (ad 72), .ref (ad 73)])) := hN1
    clear hU1 hN1
    refine W.eq (g2 := F0 m 18 ls [.int (nI 0)]) rfl ?_
    refine lv_i2l (v := lN 0) S.1 S.2.1 dX12_chance_18 (nI_l (by omega)) ?_
    subst hQ
    exact j_lret (u := w_) S hr hK hW dX12_chance_19 ⟨by decide, by decide⟩ (⟨rfl, hU, gO_⟩)
/-- chance, no weight -/
theorem c_X12_chance_b2 (l : Launch) (D : va_G) (cy : Nat → ClassId) {w : va_W} (ad : Nat → Nat) (th n nc : Nat) (sd se lv : Nat) (cs : Nat → CN) (wf wt : Nat → Nat) (x ts : Nat) (gO : w[55]? = some (ad 55, .inr (11, [.int (nI th), .ref (ad 56), .ref (ad 57), .ref (ad 58), .ref (ad 59), .ref (ad 60), .ref (ad 61), .ref (ad 62), .ref (ad 63), .ref (ad 64), .ref (ad 65), .int (nI n), .int (nI nc), .ref (ad 66), .ref (ad 71), .ref (ad 72), .ref (ad 73)]))) (gE : w[58]? = some (ad 58, .inl (cy 0, 10, .inl (evA n sd se)))) (gP : w[65]? = some (ad 65, .inl (cy 3, 20, .inl (bf (dpB nc lv))))) (gC0 : w[60]? = some (ad 60, .inl (cy 2, 20, .inl (nf (ckd cs))))) (gC1 : w[61]? = some (ad 61, .inl (cy 0, 20, .inl (nf (cst cs))))) (gC2 : w[62]? = some (ad 62, .inl (cy 0, 20, .inl (nf (cot cs))))) (gC3 : w[63]? = some (ad 63, .inl (cy 0, 20, .inl (nf (cle cs))))) (gC4 : w[64]? = some (ad 64, .inl (cy 0, 20, .inl (nf (cgr cs))))) (gF : w[56]? = some (ad 56, .inl (cy 0, 10, .inl (nf wf)))) (gT : w[57]? = some (ad 57, .inl (cy 0, 10, .inl (nf wt)))) (hn : n ≤ 10) (hsd : sd < 2 ^ n) (hse : se &&& sd = se) (hnc : nc ≤ 20) (hcs : csI nc cs) (hwf : ∀ j, wf j ≤ 9) (hwt : ∀ j, wt j ≤ 9) (hx : x < n) (hw0 : sumI (mdc sd se nc cs lv) (fun d => prodN wf wt d n) (2 ^ n) = 0) : jM l yX12_chance (jws yX12_chance cX12_chance 9 (some .long)) (jR 5 0 0) D cy w [.ref (ad 55), .int (nI x), .int (nI ts)] 0 0 (fun vv uu => vv = some (.long (lN 0)) ∧ jU w uu [55] ∧ uu[55]? = some (ad 55, .inr (11, [.int (nI 2), .ref (ad 56), .ref (ad 57), .ref (ad 58), .ref (ad 59), .ref (ad 60), .ref (ad 61), .ref (ad 62), .ref (ad 63), .ref (ad 64), .ref (ad 65), .int (nI n), .int (nI nc), .ref (ad 66), .ref (ad 71), .ref (ad 72), .ref (ad 73)]))) := by
  have hp2 := two_pow10 hn
  have h910 : 9 ^ n ≤ 9 ^ 10 := Nat.pow_le_pow_right (by decide) hn
  have hpb : ∀ d, prodN wf wt d n ≤ 3486784401 := fun d => Nat.le_trans (prodN_le hwf hwt d n) h910
  have hsl : sumI (mdc sd se nc cs lv) (fun d => prodN wf wt d n) (2 ^ n) ≤ 2 ^ n * 3486784401 := sumI_le (fun j _ => hpb j)
  have hsb : 2 ^ n * 3486784401 ≤ 1024 * 3486784401 := Nat.mul_le_mul_right _ hp2
  refine j_of (by decide) rfl (Nat.le_of_ble_eq_true rfl) ?_
  intro p e s m args below meth c A ls Q hQ S hr hK hA H locs hW hl
  have hl : lv_has ls 9 [(0, .ref (ad 55)), (1, .int (nI x)), (2, .int (nI ts))] := hl
  refine lv_aload_n S.1 S.2.1 dX12_chance_0 rfl (lv_at hl 0 rfl) ?_
  refine lv_iconst (v := nI 0) S.1 S.2.1 dX12_chance_1 (by decide) ?_
  refine j_put (ci := 11) (C := RX12) (T := TX12) (N := 17) (ty := .int) S (fun w h => List.mem_cons_of_mem _ (inG12 w h)) tyX12 tyX12_ok nmX12 hK hW gO rfl 0 (by decide) (List.mem_cons_of_mem _ wfl_X12_1) (fun _ h9 => h9) rfl (by decide +kernel) (rfl) (rfl) (Nat.le_of_ble_eq_true rfl) dX12_chance_2 (fun H locs w_ hU1 hN1 hW => ?_)
  have hU : jU w w_ [55] := jU.mono hU1 (by decide)
  have gO_ : w_[55]? = some (ad 55, .inr (11, [.int (nI 0), .ref (ad 56), .ref (ad 57), .ref (ad 58), .ref (ad 59), .ref (ad 60), .ref (ad 61), .ref (ad 62), .ref (ad 63), .ref (ad 64), .ref (ad 65), .int (nI n), .int (nI nc), .ref (ad 66), .ref (ad 71), .ref (ad 72), .ref (ad 73)])) := hN1
  clear hU1 hN1
  refine lv_aload_n S.1 S.2.1 dX12_chance_5 rfl (lv_at hl 0 rfl) ?_
  refine lv_iload_n S.1 S.2.1 dX12_chance_6 rfl (lv_at hl 1 rfl) ?_
  refine j_callV (k := 55) (ci := 11) (q := (RX12, TX12, 17)) (As := [.int (nI x)]) (rest := []) S hK hA hW (c_X12_isVariable l D cy ad 0 n nc (nI x) gO_   (by omega)) (jgo wm_X12_75) yk_X12_isVariable gO_ rfl rfl ⟨⟨rfl, rfl⟩, by decide, by decide⟩ rfl hl.1 rfl (Nat.le_of_ble_eq_true rfl) dX12_chance_7 ⟨Nat.le_of_ble_eq_true rfl, Nat.le_of_ble_eq_true rfl⟩ (fun v u H locs hp hW => ?_)
  obtain ⟨rfl, rfl⟩ := hp
  refine W.eq (g2 := F0 m 10 ls [.int (bI (vB (nI x) n))]) rfl ?_
  refine jb_if_ne (tgt := 20) S dX12_chance_10 (by decide) (fun c_10 => ?_) (fun c_10 => ?_)
  · refine lv_aload_n S.1 S.2.1 dX12_chance_20 rfl (lv_at hl 0 rfl) ?_
    refine lv_iconst (v := nI 0) S.1 S.2.1 dX12_chance_21 (by decide) ?_
    refine lv_iconst (v := nI 0) S.1 S.2.1 dX12_chance_22 (by decide) ?_
    refine j_callV (k := 55) (ci := 11) (q := (RX12, TX12, 17)) (As := [.int (nI 0), .int (nI 0)]) (rest := []) S hK hA hW (c_X12_weightOf l D cy ad 0 n nc sd se lv cs wf wt 0 0 gO_ (hU.get gE (by decide)) (hU.get gP (by decide)) (hU.get gC0 (by decide)) (hU.get gC1 (by decide)) (hU.get gC2 (by decide)) (hU.get gC3 (by decide)) (hU.get gC4 (by decide)) (hU.get gF (by decide)) (hU.get gT (by decide))   (by omega) (hsd) (hse) (by omega) (hcs) (hwf) (hwt) (by decide)) (jgo wm_X12_113) yk_X12_weightOf gO_ rfl rfl ⟨⟨rfl, rfl⟩, by decide, by decide⟩ rfl hl.1 rfl (Nat.le_of_ble_eq_true rfl) dX12_chance_23 ⟨Nat.le_of_ble_eq_true rfl, Nat.le_of_ble_eq_true rfl⟩ (fun v u H locs hp hW => ?_)
    obtain ⟨rfl, rfl⟩ := hp
    refine W.eq (g2 := F0 m 26 ls [.long (lN (sumI (fun d => decide (d &&& 0 = 0) && mdc sd se nc cs lv d) (fun d => prodN wf wt d n) (2 ^ n)))]) rfl ?_
    refine lv_topl_to (y := lN (sumI (mdc sd se nc cs lv) (fun d => prodN wf wt d n) (2 ^ n))) (congrArg lN (sumI_congr (fun j _ => ⟨by rw [Nat.and_zero]; rfl, fun _ => rfl⟩))) ?_
    refine lv_lstore_n (lv' := [(3, .long (lN (sumI (mdc sd se nc cs lv) (fun d => prodN wf wt d n) (2 ^ n)))), (0, .ref (ad 55)), (1, .int (nI x)), (2, .int (nI ts))]) S.1 S.2.1 dX12_chance_26 rfl hl (by decide) rfl (fun ls hl => ?_)
    refine lv_lload_n S.1 S.2.1 dX12_chance_27 rfl (lv_at hl 0 rfl) ?_
    refine lv_lconst (v := lN 0) S.1 S.2.1 dX12_chance_28 (by decide) ?_
    refine jnz_ne (tgt := 40) S (by omega) (by omega) dX12_chance_29 dX12_chance_30 (by decide) (fun c_30 => ?_) (fun c_30 => ?_)
    · exact absurd hw0 c_30
    · refine lv_aload_n S.1 S.2.1 dX12_chance_33 rfl (lv_at hl 1 rfl) ?_
      refine lv_iconst (v := nI 2) S.1 S.2.1 dX12_chance_34 (by decide) ?_
      refine j_callV (k := 55) (ci := 11) (q := (RX12, TX12, 17)) (As := [.int (nI 2)]) (rest := []) S hK hA hW (c_X12_fails l D cy ad 0 n nc 2 gO_   ) (jgo wm_X12_71) yk_X12_fails gO_ rfl rfl ⟨⟨rfl, rfl⟩, by decide, by decide⟩ rfl hl.1 rfl (Nat.le_of_ble_eq_true rfl) dX12_chance_35 ⟨Nat.le_of_ble_eq_true rfl, Nat.le_of_ble_eq_true rfl⟩ (fun v w_ H locs hp hW => ?_)
      obtain ⟨rfl, hU1, hN1⟩ := hp
      have hU := hU.then hU1 (by decide)
      have gO_ : w_[55]? = some (ad 55, .inr (11, [.int (nI 2), .ref (ad 56), .ref (ad 57), .ref (ad 58), .ref (ad 59), .ref (ad 60), .ref (ad 61), .ref (ad 62), .ref (ad 63), .ref (ad 64), .ref (ad 65), .int (nI n), .int (nI nc), .ref (ad 66), .ref (ad 71), .ref (ad 72), .ref (ad 73)])) := hN1
      clear hU1 hN1
      refine W.eq (g2 := F0 m 38 ls [.int (nI 0)]) rfl ?_
      refine lv_i2l (v := lN 0) S.1 S.2.1 dX12_chance_38 (nI_l (by omega)) ?_
      subst hQ
      exact j_lret (u := w_) S hr hK hW dX12_chance_39 ⟨by decide, by decide⟩ (⟨rfl, hU, gO_⟩)
  · exact absurd (vB_nI hx (by omega)) (by rw [c_10]; decide)
/-- X12_chanceTop -/
theorem c_X12_chanceTop_ok (l : Launch) (D : va_G) (cy : Nat → ClassId) {w : va_W} (ad : Nat → Nat) (th n nc : Nat) (sd se lv : Nat) (cs : Nat → CN) (wf wt : Nat → Nat) (x : Nat) (gO : w[55]? = some (ad 55, .inr (11, [.int (nI th), .ref (ad 56), .ref (ad 57), .ref (ad 58), .ref (ad 59), .ref (ad 60), .ref (ad 61), .ref (ad 62), .ref (ad 63), .ref (ad 64), .ref (ad 65), .int (nI n), .int (nI nc), .ref (ad 66), .ref (ad 71), .ref (ad 72), .ref (ad 73)]))) (gE : w[58]? = some (ad 58, .inl (cy 0, 10, .inl (evA n sd se)))) (gP : w[65]? = some (ad 65, .inl (cy 3, 20, .inl (bf (dpB nc lv))))) (gC0 : w[60]? = some (ad 60, .inl (cy 2, 20, .inl (nf (ckd cs))))) (gC1 : w[61]? = some (ad 61, .inl (cy 0, 20, .inl (nf (cst cs))))) (gC2 : w[62]? = some (ad 62, .inl (cy 0, 20, .inl (nf (cot cs))))) (gC3 : w[63]? = some (ad 63, .inl (cy 0, 20, .inl (nf (cle cs))))) (gC4 : w[64]? = some (ad 64, .inl (cy 0, 20, .inl (nf (cgr cs))))) (gF : w[56]? = some (ad 56, .inl (cy 0, 10, .inl (nf wf)))) (gT : w[57]? = some (ad 57, .inl (cy 0, 10, .inl (nf wt)))) (hn : n ≤ 10) (hsd : sd < 2 ^ n) (hse : se &&& sd = se) (hnc : nc ≤ 20) (hcs : csI nc cs) (hwf : ∀ j, wf j ≤ 9) (hwt : ∀ j, wt j ≤ 9) (hx : x < n) (hw0 : sumI (mdc sd se nc cs lv) (fun d => prodN wf wt d n) (2 ^ n) ≠ 0) : jM l yX12_chanceTop (jws yX12_chanceTop cX12_chanceTop 2 (some .long)) (jR 6 0 0) D cy w [.ref (ad 55), .int (nI x)] 0 0 (fun vv uu => vv = some (.long (lN ((sumI (fun d => decide (d &&& 2 ^ x = 2 ^ x) && mdc sd se nc cs lv d) (fun d => prodN wf wt d n) (2 ^ n)) / Nat.gcd (sumI (mdc sd se nc cs lv) (fun d => prodN wf wt d n) (2 ^ n)) (sumI (fun d => decide (d &&& 2 ^ x = 2 ^ x) && mdc sd se nc cs lv d) (fun d => prodN wf wt d n) (2 ^ n))))) ∧ jU w uu [55] ∧ uu[55]? = some (ad 55, .inr (11, [.int (nI 0), .ref (ad 56), .ref (ad 57), .ref (ad 58), .ref (ad 59), .ref (ad 60), .ref (ad 61), .ref (ad 62), .ref (ad 63), .ref (ad 64), .ref (ad 65), .int (nI n), .int (nI nc), .ref (ad 66), .ref (ad 71), .ref (ad 72), .ref (ad 73)]))) := by
  refine j_of (by decide) rfl (Nat.le_of_ble_eq_true rfl) ?_
  intro p e s m args below meth c A ls Q hQ S hr hK hA H locs hW hl
  have hl : lv_has ls 2 [(0, .ref (ad 55)), (1, .int (nI x))] := hl
  refine lv_aload_n S.1 S.2.1 dX12_chanceTop_0 rfl (lv_at hl 0 rfl) ?_
  refine lv_iload_n S.1 S.2.1 dX12_chanceTop_1 rfl (lv_at hl 1 rfl) ?_
  refine lv_iconst (v := nI 1) S.1 S.2.1 dX12_chanceTop_2 (by decide) ?_
  refine j_callV (k := 55) (ci := 11) (q := (RX12, TX12, 17)) (As := [.int (nI x), .int (nI 1)]) (rest := []) S hK hA hW (c_X12_chance_ok l D cy ad th n nc sd se lv cs wf wt x 1 gO gE gP gC0 gC1 gC2 gC3 gC4 gF gT   (by omega) (hsd) (hse) (by omega) (hcs) (hwf) (hwt) (by omega) (by omega) (hw0)) (jgo wm_X12_121) yk_X12_chance gO rfl rfl ⟨⟨rfl, rfl⟩, by decide, by decide⟩ rfl hl.1 rfl (Nat.le_of_ble_eq_true rfl) dX12_chanceTop_3 ⟨Nat.le_of_ble_eq_true rfl, Nat.le_of_ble_eq_true rfl⟩ (fun v w_ H locs hp hW => ?_)
  obtain ⟨rfl, hU1, hN1⟩ := hp
  have hU : jU w w_ [55] := jU.mono hU1 (by decide)
  have gO_ : w_[55]? = some (ad 55, .inr (11, [.int (nI 0), .ref (ad 56), .ref (ad 57), .ref (ad 58), .ref (ad 59), .ref (ad 60), .ref (ad 61), .ref (ad 62), .ref (ad 63), .ref (ad 64), .ref (ad 65), .int (nI n), .int (nI nc), .ref (ad 66), .ref (ad 71), .ref (ad 72), .ref (ad 73)])) := hN1
  clear hU1 hN1
  refine W.eq (g2 := F0 m 6 ls [.long (lN ((if 1 = 0 then sumI (mdc sd se nc cs lv) (fun d => prodN wf wt d n) (2 ^ n) else sumI (fun d => decide (d &&& 2 ^ x = 2 ^ x) && mdc sd se nc cs lv d) (fun d => prodN wf wt d n) (2 ^ n)) / Nat.gcd (sumI (mdc sd se nc cs lv) (fun d => prodN wf wt d n) (2 ^ n)) (sumI (fun d => decide (d &&& 2 ^ x = 2 ^ x) && mdc sd se nc cs lv d) (fun d => prodN wf wt d n) (2 ^ n))))]) rfl ?_
  refine lv_topl_to (y := lN ((sumI (fun d => decide (d &&& 2 ^ x = 2 ^ x) && mdc sd se nc cs lv d) (fun d => prodN wf wt d n) (2 ^ n)) / Nat.gcd (sumI (mdc sd se nc cs lv) (fun d => prodN wf wt d n) (2 ^ n)) (sumI (fun d => decide (d &&& 2 ^ x = 2 ^ x) && mdc sd se nc cs lv d) (fun d => prodN wf wt d n) (2 ^ n)))) (rfl) ?_
  subst hQ
  exact j_lret (u := w_) S hr hK hW dX12_chanceTop_6 ⟨by decide, by decide⟩ (⟨rfl, hU, gO_⟩)
/-- X12_chanceTop, no such variable -/
theorem c_X12_chanceTop_b1 (l : Launch) (D : va_G) (cy : Nat → ClassId) {w : va_W} (ad : Nat → Nat) (th n nc : Nat) (v : Int32) (gO : w[55]? = some (ad 55, .inr (11, [.int (nI th), .ref (ad 56), .ref (ad 57), .ref (ad 58), .ref (ad 59), .ref (ad 60), .ref (ad 61), .ref (ad 62), .ref (ad 63), .ref (ad 64), .ref (ad 65), .int (nI n), .int (nI nc), .ref (ad 66), .ref (ad 71), .ref (ad 72), .ref (ad 73)]))) (hn : n ≤ 10) (hv : vB v n = false) : jM l yX12_chanceTop (jws yX12_chanceTop cX12_chanceTop 2 (some .long)) (jR 6 0 0) D cy w [.ref (ad 55), .int v] 0 0 (fun vv uu => vv = some (.long (lN 0)) ∧ jU w uu [55] ∧ uu[55]? = some (ad 55, .inr (11, [.int (nI 1), .ref (ad 56), .ref (ad 57), .ref (ad 58), .ref (ad 59), .ref (ad 60), .ref (ad 61), .ref (ad 62), .ref (ad 63), .ref (ad 64), .ref (ad 65), .int (nI n), .int (nI nc), .ref (ad 66), .ref (ad 71), .ref (ad 72), .ref (ad 73)]))) := by
  refine j_of (by decide) rfl (Nat.le_of_ble_eq_true rfl) ?_
  intro p e s m args below meth c A ls Q hQ S hr hK hA H locs hW hl
  have hl : lv_has ls 2 [(0, .ref (ad 55)), (1, .int v)] := hl
  refine lv_aload_n S.1 S.2.1 dX12_chanceTop_0 rfl (lv_at hl 0 rfl) ?_
  refine lv_iload_n S.1 S.2.1 dX12_chanceTop_1 rfl (lv_at hl 1 rfl) ?_
  refine lv_iconst (v := nI 1) S.1 S.2.1 dX12_chanceTop_2 (by decide) ?_
  refine j_callV (k := 55) (ci := 11) (q := (RX12, TX12, 17)) (As := [.int v, .int (nI 1)]) (rest := []) S hK hA hW (c_X12_chance_b1 l D cy ad th n nc v 1 gO   (by omega) (hv)) (jgo wm_X12_121) yk_X12_chance gO rfl rfl ⟨⟨rfl, rfl⟩, by decide, by decide⟩ rfl hl.1 rfl (Nat.le_of_ble_eq_true rfl) dX12_chanceTop_3 ⟨Nat.le_of_ble_eq_true rfl, Nat.le_of_ble_eq_true rfl⟩ (fun v w_ H locs hp hW => ?_)
  obtain ⟨rfl, hU1, hN1⟩ := hp
  have hU : jU w w_ [55] := jU.mono hU1 (by decide)
  have gO_ : w_[55]? = some (ad 55, .inr (11, [.int (nI 1), .ref (ad 56), .ref (ad 57), .ref (ad 58), .ref (ad 59), .ref (ad 60), .ref (ad 61), .ref (ad 62), .ref (ad 63), .ref (ad 64), .ref (ad 65), .int (nI n), .int (nI nc), .ref (ad 66), .ref (ad 71), .ref (ad 72), .ref (ad 73)])) := hN1
  clear hU1 hN1
  refine W.eq (g2 := F0 m 6 ls [.long (lN 0)]) rfl ?_
  subst hQ
  exact j_lret (u := w_) S hr hK hW dX12_chanceTop_6 ⟨by decide, by decide⟩ (⟨rfl, hU, gO_⟩)
/-- X12_chanceTop, no weight -/
theorem c_X12_chanceTop_b2 (l : Launch) (D : va_G) (cy : Nat → ClassId) {w : va_W} (ad : Nat → Nat) (th n nc : Nat) (sd se lv : Nat) (cs : Nat → CN) (wf wt : Nat → Nat) (x : Nat) (gO : w[55]? = some (ad 55, .inr (11, [.int (nI th), .ref (ad 56), .ref (ad 57), .ref (ad 58), .ref (ad 59), .ref (ad 60), .ref (ad 61), .ref (ad 62), .ref (ad 63), .ref (ad 64), .ref (ad 65), .int (nI n), .int (nI nc), .ref (ad 66), .ref (ad 71), .ref (ad 72), .ref (ad 73)]))) (gE : w[58]? = some (ad 58, .inl (cy 0, 10, .inl (evA n sd se)))) (gP : w[65]? = some (ad 65, .inl (cy 3, 20, .inl (bf (dpB nc lv))))) (gC0 : w[60]? = some (ad 60, .inl (cy 2, 20, .inl (nf (ckd cs))))) (gC1 : w[61]? = some (ad 61, .inl (cy 0, 20, .inl (nf (cst cs))))) (gC2 : w[62]? = some (ad 62, .inl (cy 0, 20, .inl (nf (cot cs))))) (gC3 : w[63]? = some (ad 63, .inl (cy 0, 20, .inl (nf (cle cs))))) (gC4 : w[64]? = some (ad 64, .inl (cy 0, 20, .inl (nf (cgr cs))))) (gF : w[56]? = some (ad 56, .inl (cy 0, 10, .inl (nf wf)))) (gT : w[57]? = some (ad 57, .inl (cy 0, 10, .inl (nf wt)))) (hn : n ≤ 10) (hsd : sd < 2 ^ n) (hse : se &&& sd = se) (hnc : nc ≤ 20) (hcs : csI nc cs) (hwf : ∀ j, wf j ≤ 9) (hwt : ∀ j, wt j ≤ 9) (hx : x < n) (hw0 : sumI (mdc sd se nc cs lv) (fun d => prodN wf wt d n) (2 ^ n) = 0) : jM l yX12_chanceTop (jws yX12_chanceTop cX12_chanceTop 2 (some .long)) (jR 6 0 0) D cy w [.ref (ad 55), .int (nI x)] 0 0 (fun vv uu => vv = some (.long (lN 0)) ∧ jU w uu [55] ∧ uu[55]? = some (ad 55, .inr (11, [.int (nI 2), .ref (ad 56), .ref (ad 57), .ref (ad 58), .ref (ad 59), .ref (ad 60), .ref (ad 61), .ref (ad 62), .ref (ad 63), .ref (ad 64), .ref (ad 65), .int (nI n), .int (nI nc), .ref (ad 66), .ref (ad 71), .ref (ad 72), .ref (ad 73)]))) := by
  refine j_of (by decide) rfl (Nat.le_of_ble_eq_true rfl) ?_
  intro p e s m args below meth c A ls Q hQ S hr hK hA H locs hW hl
  have hl : lv_has ls 2 [(0, .ref (ad 55)), (1, .int (nI x))] := hl
  refine lv_aload_n S.1 S.2.1 dX12_chanceTop_0 rfl (lv_at hl 0 rfl) ?_
  refine lv_iload_n S.1 S.2.1 dX12_chanceTop_1 rfl (lv_at hl 1 rfl) ?_
  refine lv_iconst (v := nI 1) S.1 S.2.1 dX12_chanceTop_2 (by decide) ?_
  refine j_callV (k := 55) (ci := 11) (q := (RX12, TX12, 17)) (As := [.int (nI x), .int (nI 1)]) (rest := []) S hK hA hW (c_X12_chance_b2 l D cy ad th n nc sd se lv cs wf wt x 1 gO gE gP gC0 gC1 gC2 gC3 gC4 gF gT   (by omega) (hsd) (hse) (by omega) (hcs) (hwf) (hwt) (by omega) (hw0)) (jgo wm_X12_121) yk_X12_chance gO rfl rfl ⟨⟨rfl, rfl⟩, by decide, by decide⟩ rfl hl.1 rfl (Nat.le_of_ble_eq_true rfl) dX12_chanceTop_3 ⟨Nat.le_of_ble_eq_true rfl, Nat.le_of_ble_eq_true rfl⟩ (fun v w_ H locs hp hW => ?_)
  obtain ⟨rfl, hU1, hN1⟩ := hp
  have hU : jU w w_ [55] := jU.mono hU1 (by decide)
  have gO_ : w_[55]? = some (ad 55, .inr (11, [.int (nI 2), .ref (ad 56), .ref (ad 57), .ref (ad 58), .ref (ad 59), .ref (ad 60), .ref (ad 61), .ref (ad 62), .ref (ad 63), .ref (ad 64), .ref (ad 65), .int (nI n), .int (nI nc), .ref (ad 66), .ref (ad 71), .ref (ad 72), .ref (ad 73)])) := hN1
  clear hU1 hN1
  refine W.eq (g2 := F0 m 6 ls [.long (lN 0)]) rfl ?_
  subst hQ
  exact j_lret (u := w_) S hr hK hW dX12_chanceTop_6 ⟨by decide, by decide⟩ (⟨rfl, hU, gO_⟩)
/-- X12_chanceBottom -/
theorem c_X12_chanceBottom_ok (l : Launch) (D : va_G) (cy : Nat → ClassId) {w : va_W} (ad : Nat → Nat) (th n nc : Nat) (sd se lv : Nat) (cs : Nat → CN) (wf wt : Nat → Nat) (x : Nat) (gO : w[55]? = some (ad 55, .inr (11, [.int (nI th), .ref (ad 56), .ref (ad 57), .ref (ad 58), .ref (ad 59), .ref (ad 60), .ref (ad 61), .ref (ad 62), .ref (ad 63), .ref (ad 64), .ref (ad 65), .int (nI n), .int (nI nc), .ref (ad 66), .ref (ad 71), .ref (ad 72), .ref (ad 73)]))) (gE : w[58]? = some (ad 58, .inl (cy 0, 10, .inl (evA n sd se)))) (gP : w[65]? = some (ad 65, .inl (cy 3, 20, .inl (bf (dpB nc lv))))) (gC0 : w[60]? = some (ad 60, .inl (cy 2, 20, .inl (nf (ckd cs))))) (gC1 : w[61]? = some (ad 61, .inl (cy 0, 20, .inl (nf (cst cs))))) (gC2 : w[62]? = some (ad 62, .inl (cy 0, 20, .inl (nf (cot cs))))) (gC3 : w[63]? = some (ad 63, .inl (cy 0, 20, .inl (nf (cle cs))))) (gC4 : w[64]? = some (ad 64, .inl (cy 0, 20, .inl (nf (cgr cs))))) (gF : w[56]? = some (ad 56, .inl (cy 0, 10, .inl (nf wf)))) (gT : w[57]? = some (ad 57, .inl (cy 0, 10, .inl (nf wt)))) (hn : n ≤ 10) (hsd : sd < 2 ^ n) (hse : se &&& sd = se) (hnc : nc ≤ 20) (hcs : csI nc cs) (hwf : ∀ j, wf j ≤ 9) (hwt : ∀ j, wt j ≤ 9) (hx : x < n) (hw0 : sumI (mdc sd se nc cs lv) (fun d => prodN wf wt d n) (2 ^ n) ≠ 0) : jM l yX12_chanceBottom (jws yX12_chanceBottom cX12_chanceBottom 2 (some .long)) (jR 6 0 0) D cy w [.ref (ad 55), .int (nI x)] 0 0 (fun vv uu => vv = some (.long (lN ((sumI (mdc sd se nc cs lv) (fun d => prodN wf wt d n) (2 ^ n)) / Nat.gcd (sumI (mdc sd se nc cs lv) (fun d => prodN wf wt d n) (2 ^ n)) (sumI (fun d => decide (d &&& 2 ^ x = 2 ^ x) && mdc sd se nc cs lv d) (fun d => prodN wf wt d n) (2 ^ n))))) ∧ jU w uu [55] ∧ uu[55]? = some (ad 55, .inr (11, [.int (nI 0), .ref (ad 56), .ref (ad 57), .ref (ad 58), .ref (ad 59), .ref (ad 60), .ref (ad 61), .ref (ad 62), .ref (ad 63), .ref (ad 64), .ref (ad 65), .int (nI n), .int (nI nc), .ref (ad 66), .ref (ad 71), .ref (ad 72), .ref (ad 73)]))) := by
  refine j_of (by decide) rfl (Nat.le_of_ble_eq_true rfl) ?_
  intro p e s m args below meth c A ls Q hQ S hr hK hA H locs hW hl
  have hl : lv_has ls 2 [(0, .ref (ad 55)), (1, .int (nI x))] := hl
  refine lv_aload_n S.1 S.2.1 dX12_chanceBottom_0 rfl (lv_at hl 0 rfl) ?_
  refine lv_iload_n S.1 S.2.1 dX12_chanceBottom_1 rfl (lv_at hl 1 rfl) ?_
  refine lv_iconst (v := nI 0) S.1 S.2.1 dX12_chanceBottom_2 (by decide) ?_
  refine j_callV (k := 55) (ci := 11) (q := (RX12, TX12, 17)) (As := [.int (nI x), .int (nI 0)]) (rest := []) S hK hA hW (c_X12_chance_ok l D cy ad th n nc sd se lv cs wf wt x 0 gO gE gP gC0 gC1 gC2 gC3 gC4 gF gT   (by omega) (hsd) (hse) (by omega) (hcs) (hwf) (hwt) (by omega) (by omega) (hw0)) (jgo wm_X12_121) yk_X12_chance gO rfl rfl ⟨⟨rfl, rfl⟩, by decide, by decide⟩ rfl hl.1 rfl (Nat.le_of_ble_eq_true rfl) dX12_chanceBottom_3 ⟨Nat.le_of_ble_eq_true rfl, Nat.le_of_ble_eq_true rfl⟩ (fun v w_ H locs hp hW => ?_)
  obtain ⟨rfl, hU1, hN1⟩ := hp
  have hU : jU w w_ [55] := jU.mono hU1 (by decide)
  have gO_ : w_[55]? = some (ad 55, .inr (11, [.int (nI 0), .ref (ad 56), .ref (ad 57), .ref (ad 58), .ref (ad 59), .ref (ad 60), .ref (ad 61), .ref (ad 62), .ref (ad 63), .ref (ad 64), .ref (ad 65), .int (nI n), .int (nI nc), .ref (ad 66), .ref (ad 71), .ref (ad 72), .ref (ad 73)])) := hN1
  clear hU1 hN1
  refine W.eq (g2 := F0 m 6 ls [.long (lN ((if 0 = 0 then sumI (mdc sd se nc cs lv) (fun d => prodN wf wt d n) (2 ^ n) else sumI (fun d => decide (d &&& 2 ^ x = 2 ^ x) && mdc sd se nc cs lv d) (fun d => prodN wf wt d n) (2 ^ n)) / Nat.gcd (sumI (mdc sd se nc cs lv) (fun d => prodN wf wt d n) (2 ^ n)) (sumI (fun d => decide (d &&& 2 ^ x = 2 ^ x) && mdc sd se nc cs lv d) (fun d => prodN wf wt d n) (2 ^ n))))]) rfl ?_
  refine lv_topl_to (y := lN ((sumI (mdc sd se nc cs lv) (fun d => prodN wf wt d n) (2 ^ n)) / Nat.gcd (sumI (mdc sd se nc cs lv) (fun d => prodN wf wt d n) (2 ^ n)) (sumI (fun d => decide (d &&& 2 ^ x = 2 ^ x) && mdc sd se nc cs lv d) (fun d => prodN wf wt d n) (2 ^ n)))) (rfl) ?_
  subst hQ
  exact j_lret (u := w_) S hr hK hW dX12_chanceBottom_6 ⟨by decide, by decide⟩ (⟨rfl, hU, gO_⟩)
/-- X12_chanceBottom, no such variable -/
theorem c_X12_chanceBottom_b1 (l : Launch) (D : va_G) (cy : Nat → ClassId) {w : va_W} (ad : Nat → Nat) (th n nc : Nat) (v : Int32) (gO : w[55]? = some (ad 55, .inr (11, [.int (nI th), .ref (ad 56), .ref (ad 57), .ref (ad 58), .ref (ad 59), .ref (ad 60), .ref (ad 61), .ref (ad 62), .ref (ad 63), .ref (ad 64), .ref (ad 65), .int (nI n), .int (nI nc), .ref (ad 66), .ref (ad 71), .ref (ad 72), .ref (ad 73)]))) (hn : n ≤ 10) (hv : vB v n = false) : jM l yX12_chanceBottom (jws yX12_chanceBottom cX12_chanceBottom 2 (some .long)) (jR 6 0 0) D cy w [.ref (ad 55), .int v] 0 0 (fun vv uu => vv = some (.long (lN 0)) ∧ jU w uu [55] ∧ uu[55]? = some (ad 55, .inr (11, [.int (nI 1), .ref (ad 56), .ref (ad 57), .ref (ad 58), .ref (ad 59), .ref (ad 60), .ref (ad 61), .ref (ad 62), .ref (ad 63), .ref (ad 64), .ref (ad 65), .int (nI n), .int (nI nc), .ref (ad 66), .ref (ad 71), .ref (ad 72), .ref (ad 73)]))) := by
  refine j_of (by decide) rfl (Nat.le_of_ble_eq_true rfl) ?_
  intro p e s m args below meth c A ls Q hQ S hr hK hA H locs hW hl
  have hl : lv_has ls 2 [(0, .ref (ad 55)), (1, .int v)] := hl
  refine lv_aload_n S.1 S.2.1 dX12_chanceBottom_0 rfl (lv_at hl 0 rfl) ?_
  refine lv_iload_n S.1 S.2.1 dX12_chanceBottom_1 rfl (lv_at hl 1 rfl) ?_
  refine lv_iconst (v := nI 0) S.1 S.2.1 dX12_chanceBottom_2 (by decide) ?_
  refine j_callV (k := 55) (ci := 11) (q := (RX12, TX12, 17)) (As := [.int v, .int (nI 0)]) (rest := []) S hK hA hW (c_X12_chance_b1 l D cy ad th n nc v 0 gO   (by omega) (hv)) (jgo wm_X12_121) yk_X12_chance gO rfl rfl ⟨⟨rfl, rfl⟩, by decide, by decide⟩ rfl hl.1 rfl (Nat.le_of_ble_eq_true rfl) dX12_chanceBottom_3 ⟨Nat.le_of_ble_eq_true rfl, Nat.le_of_ble_eq_true rfl⟩ (fun v w_ H locs hp hW => ?_)
  obtain ⟨rfl, hU1, hN1⟩ := hp
  have hU : jU w w_ [55] := jU.mono hU1 (by decide)
  have gO_ : w_[55]? = some (ad 55, .inr (11, [.int (nI 1), .ref (ad 56), .ref (ad 57), .ref (ad 58), .ref (ad 59), .ref (ad 60), .ref (ad 61), .ref (ad 62), .ref (ad 63), .ref (ad 64), .ref (ad 65), .int (nI n), .int (nI nc), .ref (ad 66), .ref (ad 71), .ref (ad 72), .ref (ad 73)])) := hN1
  clear hU1 hN1
  refine W.eq (g2 := F0 m 6 ls [.long (lN 0)]) rfl ?_
  subst hQ
  exact j_lret (u := w_) S hr hK hW dX12_chanceBottom_6 ⟨by decide, by decide⟩ (⟨rfl, hU, gO_⟩)
/-- X12_chanceBottom, no weight -/
theorem c_X12_chanceBottom_b2 (l : Launch) (D : va_G) (cy : Nat → ClassId) {w : va_W} (ad : Nat → Nat) (th n nc : Nat) (sd se lv : Nat) (cs : Nat → CN) (wf wt : Nat → Nat) (x : Nat) (gO : w[55]? = some (ad 55, .inr (11, [.int (nI th), .ref (ad 56), .ref (ad 57), .ref (ad 58), .ref (ad 59), .ref (ad 60), .ref (ad 61), .ref (ad 62), .ref (ad 63), .ref (ad 64), .ref (ad 65), .int (nI n), .int (nI nc), .ref (ad 66), .ref (ad 71), .ref (ad 72), .ref (ad 73)]))) (gE : w[58]? = some (ad 58, .inl (cy 0, 10, .inl (evA n sd se)))) (gP : w[65]? = some (ad 65, .inl (cy 3, 20, .inl (bf (dpB nc lv))))) (gC0 : w[60]? = some (ad 60, .inl (cy 2, 20, .inl (nf (ckd cs))))) (gC1 : w[61]? = some (ad 61, .inl (cy 0, 20, .inl (nf (cst cs))))) (gC2 : w[62]? = some (ad 62, .inl (cy 0, 20, .inl (nf (cot cs))))) (gC3 : w[63]? = some (ad 63, .inl (cy 0, 20, .inl (nf (cle cs))))) (gC4 : w[64]? = some (ad 64, .inl (cy 0, 20, .inl (nf (cgr cs))))) (gF : w[56]? = some (ad 56, .inl (cy 0, 10, .inl (nf wf)))) (gT : w[57]? = some (ad 57, .inl (cy 0, 10, .inl (nf wt)))) (hn : n ≤ 10) (hsd : sd < 2 ^ n) (hse : se &&& sd = se) (hnc : nc ≤ 20) (hcs : csI nc cs) (hwf : ∀ j, wf j ≤ 9) (hwt : ∀ j, wt j ≤ 9) (hx : x < n) (hw0 : sumI (mdc sd se nc cs lv) (fun d => prodN wf wt d n) (2 ^ n) = 0) : jM l yX12_chanceBottom (jws yX12_chanceBottom cX12_chanceBottom 2 (some .long)) (jR 6 0 0) D cy w [.ref (ad 55), .int (nI x)] 0 0 (fun vv uu => vv = some (.long (lN 0)) ∧ jU w uu [55] ∧ uu[55]? = some (ad 55, .inr (11, [.int (nI 2), .ref (ad 56), .ref (ad 57), .ref (ad 58), .ref (ad 59), .ref (ad 60), .ref (ad 61), .ref (ad 62), .ref (ad 63), .ref (ad 64), .ref (ad 65), .int (nI n), .int (nI nc), .ref (ad 66), .ref (ad 71), .ref (ad 72), .ref (ad 73)]))) := by
  refine j_of (by decide) rfl (Nat.le_of_ble_eq_true rfl) ?_
  intro p e s m args below meth c A ls Q hQ S hr hK hA H locs hW hl
  have hl : lv_has ls 2 [(0, .ref (ad 55)), (1, .int (nI x))] := hl
  refine lv_aload_n S.1 S.2.1 dX12_chanceBottom_0 rfl (lv_at hl 0 rfl) ?_
  refine lv_iload_n S.1 S.2.1 dX12_chanceBottom_1 rfl (lv_at hl 1 rfl) ?_
  refine lv_iconst (v := nI 0) S.1 S.2.1 dX12_chanceBottom_2 (by decide) ?_
  refine j_callV (k := 55) (ci := 11) (q := (RX12, TX12, 17)) (As := [.int (nI x), .int (nI 0)]) (rest := []) S hK hA hW (c_X12_chance_b2 l D cy ad th n nc sd se lv cs wf wt x 0 gO gE gP gC0 gC1 gC2 gC3 gC4 gF gT   (by omega) (hsd) (hse) (by omega) (hcs) (hwf) (hwt) (by omega) (hw0)) (jgo wm_X12_121) yk_X12_chance gO rfl rfl ⟨⟨rfl, rfl⟩, by decide, by decide⟩ rfl hl.1 rfl (Nat.le_of_ble_eq_true rfl) dX12_chanceBottom_3 ⟨Nat.le_of_ble_eq_true rfl, Nat.le_of_ble_eq_true rfl⟩ (fun v w_ H locs hp hW => ?_)
  obtain ⟨rfl, hU1, hN1⟩ := hp
  have hU : jU w w_ [55] := jU.mono hU1 (by decide)
  have gO_ : w_[55]? = some (ad 55, .inr (11, [.int (nI 2), .ref (ad 56), .ref (ad 57), .ref (ad 58), .ref (ad 59), .ref (ad 60), .ref (ad 61), .ref (ad 62), .ref (ad 63), .ref (ad 64), .ref (ad 65), .int (nI n), .int (nI nc), .ref (ad 66), .ref (ad 71), .ref (ad 72), .ref (ad 73)])) := hN1
  clear hU1 hN1
  refine W.eq (g2 := F0 m 6 ls [.long (lN 0)]) rfl ?_
  subst hQ
  exact j_lret (u := w_) S hr hK hW dX12_chanceBottom_6 ⟨by decide, by decide⟩ (⟨rfl, hU, gO_⟩)
/-- weightOf -/
theorem c_X12_weightOf__ok (l : Launch) (D : va_G) (cy : Nat → ClassId) {w : va_W} (ad : Nat → Nat) (th n nc : Nat) (wf wt : Nat → Nat) (a : Nat) (gO : w[55]? = some (ad 55, .inr (11, [.int (nI th), .ref (ad 56), .ref (ad 57), .ref (ad 58), .ref (ad 59), .ref (ad 60), .ref (ad 61), .ref (ad 62), .ref (ad 63), .ref (ad 64), .ref (ad 65), .int (nI n), .int (nI nc), .ref (ad 66), .ref (ad 71), .ref (ad 72), .ref (ad 73)]))) (gF : w[56]? = some (ad 56, .inl (cy 0, 10, .inl (nf wf)))) (gT : w[57]? = some (ad 57, .inl (cy 0, 10, .inl (nf wt)))) (hn : n ≤ 10) (hwf : ∀ j, wf j ≤ 9) (hwt : ∀ j, wt j ≤ 9) (ha : a < 2 ^ n) : jM l yX12_weightOf_ (jws yX12_weightOf_ cX12_weightOf_ 2 (some .long)) (jR 4 0 0) D cy w [.ref (ad 55), .int (nI a)] 0 0 (fun vv uu => vv = some (.long (lN (prodN wf wt a n))) ∧ jU w uu [55] ∧ uu[55]? = some (ad 55, .inr (11, [.int (nI 0), .ref (ad 56), .ref (ad 57), .ref (ad 58), .ref (ad 59), .ref (ad 60), .ref (ad 61), .ref (ad 62), .ref (ad 63), .ref (ad 64), .ref (ad 65), .int (nI n), .int (nI nc), .ref (ad 66), .ref (ad 71), .ref (ad 72), .ref (ad 73)]))) := by
  refine j_of (by decide) rfl (Nat.le_of_ble_eq_true rfl) ?_
  intro p e s m args below meth c A ls Q hQ S hr hK hA H locs hW hl
  have hl : lv_has ls 2 [(0, .ref (ad 55)), (1, .int (nI a))] := hl
  refine lv_aload_n S.1 S.2.1 dX12_weightOf__0 rfl (lv_at hl 0 rfl) ?_
  refine lv_iconst (v := nI 0) S.1 S.2.1 dX12_weightOf__1 (by decide) ?_
  refine j_put (ci := 11) (C := RX12) (T := TX12) (N := 17) (ty := .int) S (fun w h => List.mem_cons_of_mem _ (inG12 w h)) tyX12 tyX12_ok nmX12 hK hW gO rfl 0 (by decide) (List.mem_cons_of_mem _ wfl_X12_1) (fun _ h9 => h9) rfl (by decide +kernel) (rfl) (rfl) (Nat.le_of_ble_eq_true rfl) dX12_weightOf__2 (fun H locs w_ hU1 hN1 hW => ?_)
  have hU : jU w w_ [55] := jU.mono hU1 (by decide)
  have gO_ : w_[55]? = some (ad 55, .inr (11, [.int (nI 0), .ref (ad 56), .ref (ad 57), .ref (ad 58), .ref (ad 59), .ref (ad 60), .ref (ad 61), .ref (ad 62), .ref (ad 63), .ref (ad 64), .ref (ad 65), .int (nI n), .int (nI nc), .ref (ad 66), .ref (ad 71), .ref (ad 72), .ref (ad 73)])) := hN1
  clear hU1 hN1
  refine lv_aload_n S.1 S.2.1 dX12_weightOf__5 rfl (lv_at hl 0 rfl) ?_
  refine lv_iload_n S.1 S.2.1 dX12_weightOf__6 rfl (lv_at hl 1 rfl) ?_
  refine j_callV (k := 55) (ci := 11) (q := (RX12, TX12, 17)) (As := [.int (nI a)]) (rest := []) S hK hA hW (c_X12_isSet l D cy ad 0 n nc (nI a) gO_   (by omega)) (jgo wm_X12_82) yk_X12_isSet gO_ rfl rfl ⟨⟨rfl, rfl⟩, by decide, by decide⟩ rfl hl.1 rfl (Nat.le_of_ble_eq_true rfl) dX12_weightOf__7 ⟨Nat.le_of_ble_eq_true rfl, Nat.le_of_ble_eq_true rfl⟩ (fun v u H locs hp hW => ?_)
  obtain ⟨rfl, rfl⟩ := hp
  refine W.eq (g2 := F0 m 10 ls [.int (bI (vB (nI a) (2 ^ n)))]) rfl ?_
  refine jb_if_eq (tgt := 21) S dX12_weightOf__10 (by decide) (fun c_10 => ?_) (fun c_10 => ?_)
  · exact absurd (vB_nI ha (by have := two_pow10 hn; omega)) (by rw [c_10]; decide)
  · refine lv_aload_n S.1 S.2.1 dX12_weightOf__13 rfl (lv_at hl 0 rfl) ?_
    refine lv_iload_n S.1 S.2.1 dX12_weightOf__14 rfl (lv_at hl 1 rfl) ?_
    refine j_callV (k := 55) (ci := 11) (q := (RX12, TX12, 17)) (As := [.int (nI a)]) (rest := []) S hK hA hW (c_X12_weigh l D cy ad 0 n nc wf wt a gO_ (hU.get gF (by decide)) (hU.get gT (by decide))   (by omega) (by have := two_pow10 hn; omega) (hwf) (hwt)) (jgo wm_X12_109) yk_X12_weigh gO_ rfl rfl ⟨⟨rfl, rfl⟩, by decide, by decide⟩ rfl hl.1 rfl (Nat.le_of_ble_eq_true rfl) dX12_weightOf__15 ⟨Nat.le_of_ble_eq_true rfl, Nat.le_of_ble_eq_true rfl⟩ (fun v u H locs hp hW => ?_)
    obtain ⟨rfl, rfl⟩ := hp
    refine W.eq (g2 := F0 m 18 ls [.long (lN (prodN wf wt a n))]) rfl ?_
    refine lv_goto (tgt := 27) S.1 S.2.1 dX12_weightOf__18 (by decide) ?_
    subst hQ
    exact j_lret (u := w_) S hr hK hW dX12_weightOf__27 ⟨by decide, by decide⟩ (⟨rfl, hU, gO_⟩)
/-- weightOf, wrong assignment -/
theorem c_X12_weightOf__b (l : Launch) (D : va_G) (cy : Nat → ClassId) {w : va_W} (ad : Nat → Nat) (th n nc : Nat) (v : Int32) (gO : w[55]? = some (ad 55, .inr (11, [.int (nI th), .ref (ad 56), .ref (ad 57), .ref (ad 58), .ref (ad 59), .ref (ad 60), .ref (ad 61), .ref (ad 62), .ref (ad 63), .ref (ad 64), .ref (ad 65), .int (nI n), .int (nI nc), .ref (ad 66), .ref (ad 71), .ref (ad 72), .ref (ad 73)]))) (hn : n ≤ 10) (hv : vB v (2 ^ n) = false) : jM l yX12_weightOf_ (jws yX12_weightOf_ cX12_weightOf_ 2 (some .long)) (jR 4 0 0) D cy w [.ref (ad 55), .int v] 0 0 (fun vv uu => vv = some (.long (lN 0)) ∧ jU w uu [55] ∧ uu[55]? = some (ad 55, .inr (11, [.int (nI 1), .ref (ad 56), .ref (ad 57), .ref (ad 58), .ref (ad 59), .ref (ad 60), .ref (ad 61), .ref (ad 62), .ref (ad 63), .ref (ad 64), .ref (ad 65), .int (nI n), .int (nI nc), .ref (ad 66), .ref (ad 71), .ref (ad 72), .ref (ad 73)]))) := by
  refine j_of (by decide) rfl (Nat.le_of_ble_eq_true rfl) ?_
  intro p e s m args below meth c A ls Q hQ S hr hK hA H locs hW hl
  have hl : lv_has ls 2 [(0, .ref (ad 55)), (1, .int v)] := hl
  refine lv_aload_n S.1 S.2.1 dX12_weightOf__0 rfl (lv_at hl 0 rfl) ?_
  refine lv_iconst (v := nI 0) S.1 S.2.1 dX12_weightOf__1 (by decide) ?_
  refine j_put (ci := 11) (C := RX12) (T := TX12) (N := 17) (ty := .int) S (fun w h => List.mem_cons_of_mem _ (inG12 w h)) tyX12 tyX12_ok nmX12 hK hW gO rfl 0 (by decide) (List.mem_cons_of_mem _ wfl_X12_1) (fun _ h9 => h9) rfl (by decide +kernel) (rfl) (rfl) (Nat.le_of_ble_eq_true rfl) dX12_weightOf__2 (fun H locs w_ hU1 hN1 hW => ?_)
  have hU : jU w w_ [55] := jU.mono hU1 (by decide)
  have gO_ : w_[55]? = some (ad 55, .inr (11, [.int (nI 0), .ref (ad 56), .ref (ad 57), .ref (ad 58), .ref (ad 59), .ref (ad 60), .ref (ad 61), .ref (ad 62), .ref (ad 63), .ref (ad 64), .ref (ad 65), .int (nI n), .int (nI nc), .ref (ad 66), .ref (ad 71), .ref (ad 72), .ref (ad 73)])) := hN1
  clear hU1 hN1
  refine lv_aload_n S.1 S.2.1 dX12_weightOf__5 rfl (lv_at hl 0 rfl) ?_
  refine lv_iload_n S.1 S.2.1 dX12_weightOf__6 rfl (lv_at hl 1 rfl) ?_
  refine j_callV (k := 55) (ci := 11) (q := (RX12, TX12, 17)) (As := [.int v]) (rest := []) S hK hA hW (c_X12_isSet l D cy ad 0 n nc v gO_   (by omega)) (jgo wm_X12_82) yk_X12_isSet gO_ rfl rfl ⟨⟨rfl, rfl⟩, by decide, by decide⟩ rfl hl.1 rfl (Nat.le_of_ble_eq_true rfl) dX12_weightOf__7 ⟨Nat.le_of_ble_eq_true rfl, Nat.le_of_ble_eq_true rfl⟩ (fun v u H locs hp hW => ?_)
  obtain ⟨rfl, rfl⟩ := hp
  refine W.eq (g2 := F0 m 10 ls [.int (bI (vB v (2 ^ n)))]) rfl ?_
  refine jb_if_eq (tgt := 21) S dX12_weightOf__10 (by decide) (fun c_10 => ?_) (fun c_10 => ?_)
  · refine lv_aload_n S.1 S.2.1 dX12_weightOf__21 rfl (lv_at hl 0 rfl) ?_
    refine lv_iconst (v := nI 1) S.1 S.2.1 dX12_weightOf__22 (by decide) ?_
    refine j_callV (k := 55) (ci := 11) (q := (RX12, TX12, 17)) (As := [.int (nI 1)]) (rest := []) S hK hA hW (c_X12_fails l D cy ad 0 n nc 1 gO_   ) (jgo wm_X12_71) yk_X12_fails gO_ rfl rfl ⟨⟨rfl, rfl⟩, by decide, by decide⟩ rfl hl.1 rfl (Nat.le_of_ble_eq_true rfl) dX12_weightOf__23 ⟨Nat.le_of_ble_eq_true rfl, Nat.le_of_ble_eq_true rfl⟩ (fun v w_ H locs hp hW => ?_)
    obtain ⟨rfl, hU1, hN1⟩ := hp
    have hU := hU.then hU1 (by decide)
    have gO_ : w_[55]? = some (ad 55, .inr (11, [.int (nI 1), .ref (ad 56), .ref (ad 57), .ref (ad 58), .ref (ad 59), .ref (ad 60), .ref (ad 61), .ref (ad 62), .ref (ad 63), .ref (ad 64), .ref (ad 65), .int (nI n), .int (nI nc), .ref (ad 66), .ref (ad 71), .ref (ad 72), .ref (ad 73)])) := hN1
    clear hU1 hN1
    refine W.eq (g2 := F0 m 26 ls [.int (nI 0)]) rfl ?_
    refine lv_i2l (v := lN 0) S.1 S.2.1 dX12_weightOf__26 (nI_l (by omega)) ?_
    subst hQ
    exact j_lret (u := w_) S hr hK hW dX12_weightOf__27 ⟨by decide, by decide⟩ (⟨rfl, hU, gO_⟩)
  · exact absurd c_10 (by rw [hv]; decide)
