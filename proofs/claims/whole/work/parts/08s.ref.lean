/-! THE REFERENCE: density, meanTrue (laid by wip/whole/tools, from the specs there) -/
/-- density -/
theorem c_X12_density (l : Launch) (D : va_G) (cy : Nat → ClassId) {w : va_W} (ad : Nat → Nat) (th n nc : Nat) (sd se lv : Nat) (cs : Nat → CN) (gO : w[55]? = some (ad 55, .inr (11, [.int (nI th), .ref (ad 56), .ref (ad 57), .ref (ad 58), .ref (ad 59), .ref (ad 60), .ref (ad 61), .ref (ad 62), .ref (ad 63), .ref (ad 64), .ref (ad 65), .int (nI n), .int (nI nc), .ref (ad 66), .ref (ad 71), .ref (ad 72), .ref (ad 73)]))) (gE : w[58]? = some (ad 58, .inl (cy 0, 10, .inl (evA n sd se)))) (gP : w[65]? = some (ad 65, .inl (cy 3, 20, .inl (bf (dpB nc lv))))) (gC0 : w[60]? = some (ad 60, .inl (cy 2, 20, .inl (nf (ckd cs))))) (gC1 : w[61]? = some (ad 61, .inl (cy 0, 20, .inl (nf (cst cs))))) (gC2 : w[62]? = some (ad 62, .inl (cy 0, 20, .inl (nf (cot cs))))) (gC3 : w[63]? = some (ad 63, .inl (cy 0, 20, .inl (nf (cle cs))))) (gC4 : w[64]? = some (ad 64, .inl (cy 0, 20, .inl (nf (cgr cs))))) (hn : n ≤ 10) (hsd : sd < 2 ^ n) (hse : se &&& sd = se) (hnc : nc ≤ 20) (hcs : csI nc cs) : jM l yX12_density (jws yX12_density cX12_density 1 (some .float)) (jR 6 0 0) D cy w [.ref (ad 55)] 0 0 (fun vv uu => vv = some (.float (FP.fdiv (FP.l2f (lN (cnt (mdc sd se nc cs lv) (2 ^ n)))) (FP.i2f (nI (2 ^ n))))) ∧ jU w uu [55] ∧ uu[55]? = some (ad 55, .inr (11, [.int (nI 0), .ref (ad 56), .ref (ad 57), .ref (ad 58), .ref (ad 59), .ref (ad 60), .ref (ad 61), .ref (ad 62), .ref (ad 63), .ref (ad 64), .ref (ad 65), .int (nI n), .int (nI nc), .ref (ad 66), .ref (ad 71), .ref (ad 72), .ref (ad 73)]))) := by
  have hp2 := two_pow10 hn
  have hpt := Nat.two_pow_pos n
  refine j_of (by decide) rfl (Nat.le_of_ble_eq_true rfl) ?_
  intro p e s m args below meth c A ls Q hQ S hr hK hA H locs hW hl
  have hl : lv_has ls 1 [(0, .ref (ad 55))] := hl
  refine lv_aload_n S.1 S.2.1 dX12_density_0 rfl (lv_at hl 0 rfl) ?_
  refine j_callV (k := 55) (ci := 11) (q := (RX12, TX12, 17)) (As := []) (rest := []) S hK hA hW (c_X12_models l D cy ad th n nc sd se lv cs gO gE gP gC0 gC1 gC2 gC3 gC4   (by omega) (hsd) (hse) (by omega) (hcs)) (jgo wm_X12_105) yk_X12_models gO rfl rfl ⟨⟨rfl, rfl⟩, by decide, by decide⟩ rfl hl.1 rfl (Nat.le_of_ble_eq_true rfl) dX12_density_1 ⟨Nat.le_of_ble_eq_true rfl, Nat.le_of_ble_eq_true rfl⟩ (fun v w_ H locs hp hW => ?_)
  obtain ⟨rfl, hU1, hN1⟩ := hp
  have hU : jU w w_ [55] := jU.mono hU1 (by decide)
  have gO_ : w_[55]? = some (ad 55, .inr (11, [.int (nI 0), .ref (ad 56), .ref (ad 57), .ref (ad 58), .ref (ad 59), .ref (ad 60), .ref (ad 61), .ref (ad 62), .ref (ad 63), .ref (ad 64), .ref (ad 65), .int (nI n), .int (nI nc), .ref (ad 66), .ref (ad 71), .ref (ad 72), .ref (ad 73)])) := hN1
  clear hU1 hN1
  refine W.eq (g2 := F0 m 4 ls [.long (lN (cnt (mdc sd se nc cs lv) (2 ^ n)))]) rfl ?_
  refine lv_l2f S.1 S.2.1 dX12_density_4 ?_
  refine lv_aload_n S.1 S.2.1 dX12_density_5 rfl (lv_at hl 0 rfl) ?_
  refine j_callV (k := 55) (ci := 11) (q := (RX12, TX12, 17)) (As := []) (rest := [.float (FP.l2f (lN (cnt (mdc sd se nc cs lv) (2 ^ n))))]) S hK hA hW (c_X12_all l D cy ad 0 n nc gO_   (by omega)) (jgo wm_X12_98) yk_X12_all gO_ rfl rfl ⟨⟨rfl, rfl⟩, by decide, by decide⟩ rfl hl.1 rfl (Nat.le_of_ble_eq_true rfl) dX12_density_6 ⟨Nat.le_of_ble_eq_true rfl, Nat.le_of_ble_eq_true rfl⟩ (fun v u H locs hp hW => ?_)
  obtain ⟨rfl, rfl⟩ := hp
  refine W.eq (g2 := F0 m 9 ls [.int (nI (2 ^ n)), .float (FP.l2f (lN (cnt (mdc sd se nc cs lv) (2 ^ n))))]) rfl ?_
  refine lv_i2f S.1 S.2.1 dX12_density_9 ?_
  refine lv_fdiv S.1 S.2.1 dX12_density_10 (jf_fdivL _ (nI_ne0 (by omega) (by omega))) ?_
  subst hQ
  exact j_fret (u := w_) S hr hK hW dX12_density_11 ⟨by decide, by decide⟩ (⟨rfl, hU, gO_⟩)
/-- meanTrue -/
theorem c_X12_meanTrue_ok (l : Launch) (D : va_G) (cy : Nat → ClassId) {w : va_W} (ad : Nat → Nat) (th n nc : Nat) (sd se lv : Nat) (cs : Nat → CN) (wf wt : Nat → Nat) (gO : w[55]? = some (ad 55, .inr (11, [.int (nI th), .ref (ad 56), .ref (ad 57), .ref (ad 58), .ref (ad 59), .ref (ad 60), .ref (ad 61), .ref (ad 62), .ref (ad 63), .ref (ad 64), .ref (ad 65), .int (nI n), .int (nI nc), .ref (ad 66), .ref (ad 71), .ref (ad 72), .ref (ad 73)]))) (gE : w[58]? = some (ad 58, .inl (cy 0, 10, .inl (evA n sd se)))) (gP : w[65]? = some (ad 65, .inl (cy 3, 20, .inl (bf (dpB nc lv))))) (gC0 : w[60]? = some (ad 60, .inl (cy 2, 20, .inl (nf (ckd cs))))) (gC1 : w[61]? = some (ad 61, .inl (cy 0, 20, .inl (nf (cst cs))))) (gC2 : w[62]? = some (ad 62, .inl (cy 0, 20, .inl (nf (cot cs))))) (gC3 : w[63]? = some (ad 63, .inl (cy 0, 20, .inl (nf (cle cs))))) (gC4 : w[64]? = some (ad 64, .inl (cy 0, 20, .inl (nf (cgr cs))))) (gF : w[56]? = some (ad 56, .inl (cy 0, 10, .inl (nf wf)))) (gT : w[57]? = some (ad 57, .inl (cy 0, 10, .inl (nf wt)))) (hn : n ≤ 10) (hsd : sd < 2 ^ n) (hse : se &&& sd = se) (hnc : nc ≤ 20) (hcs : csI nc cs) (hwf : ∀ j, wf j ≤ 9) (hwt : ∀ j, wt j ≤ 9) (h0 : sumI (mdc sd se nc cs lv) (fun d => prodN wf wt d n) (2 ^ n) ≠ 0) : jM l yX12_meanTrue (jws yX12_meanTrue cX12_meanTrue 6 (some .double)) (jR 4 0 0) D cy w [.ref (ad 55)] 0 0 (fun vv uu => vv = some (.double (FP.ddiv (FP.l2d (lN (sumI (mdc sd se nc cs lv) (fun d => prodN wf wt d n * cnt d.testBit 10) (2 ^ n)))) (FP.l2d (lN (sumI (mdc sd se nc cs lv) (fun d => prodN wf wt d n) (2 ^ n)))))) ∧ jU w uu [55] ∧ uu[55]? = some (ad 55, .inr (11, [.int (nI 0), .ref (ad 56), .ref (ad 57), .ref (ad 58), .ref (ad 59), .ref (ad 60), .ref (ad 61), .ref (ad 62), .ref (ad 63), .ref (ad 64), .ref (ad 65), .int (nI n), .int (nI nc), .ref (ad 66), .ref (ad 71), .ref (ad 72), .ref (ad 73)]))) := by
  have hp2 := two_pow10 hn
  have h910 : 9 ^ n ≤ 9 ^ 10 := Nat.pow_le_pow_right (by decide) hn
  have hpb : ∀ d, prodN wf wt d n ≤ 3486784401 := fun d => Nat.le_trans (prodN_le hwf hwt d n) h910
  have hsl : sumI (mdc sd se nc cs lv) (fun d => prodN wf wt d n) (2 ^ n) ≤ 2 ^ n * 3486784401 := sumI_le (fun j _ => hpb j)
  have hsb : 2 ^ n * 3486784401 ≤ 1024 * 3486784401 := Nat.mul_le_mul_right _ hp2
  refine j_of (by decide) rfl (Nat.le_of_ble_eq_true rfl) ?_
  intro p e s m args below meth c A ls Q hQ S hr hK hA H locs hW hl
  have hl : lv_has ls 6 [(0, .ref (ad 55))] := hl
  refine lv_aload_n S.1 S.2.1 dX12_meanTrue_0 rfl (lv_at hl 0 rfl) ?_
  refine lv_iconst (v := nI 0) S.1 S.2.1 dX12_meanTrue_1 (by decide) ?_
  refine j_put (ci := 11) (C := RX12) (T := TX12) (N := 17) (ty := .int) S (fun w h => List.mem_cons_of_mem _ (inG12 w h)) tyX12 tyX12_ok nmX12 hK hW gO rfl 0 (by decide) (List.mem_cons_of_mem _ wfl_X12_1) (fun _ h9 => h9) rfl (by decide +kernel) (rfl) (rfl) (Nat.le_of_ble_eq_true rfl) dX12_meanTrue_2 (fun H locs w_ hU1 hN1 hW => ?_)
  have hU : jU w w_ [55] := jU.mono hU1 (by decide)
  have gO_ : w_[55]? = some (ad 55, .inr (11, [.int (nI 0), .ref (ad 56), .ref (ad 57), .ref (ad 58), .ref (ad 59), .ref (ad 60), .ref (ad 61), .ref (ad 62), .ref (ad 63), .ref (ad 64), .ref (ad 65), .int (nI n), .int (nI nc), .ref (ad 66), .ref (ad 71), .ref (ad 72), .ref (ad 73)])) := hN1
  clear hU1 hN1
  refine lv_lconst (v := lN 0) S.1 S.2.1 dX12_meanTrue_5 (by decide) ?_
  refine lv_lstore_n (lv' := [(1, .long (lN 0)), (0, .ref (ad 55))]) S.1 S.2.1 dX12_meanTrue_6 rfl hl (by decide) rfl (fun ls hl => ?_)
  refine lv_lconst (v := lN 0) S.1 S.2.1 dX12_meanTrue_7 (by decide) ?_
  refine lv_lstore_n (lv' := [(3, .long (lN 0)), (1, .long (lN 0)), (0, .ref (ad 55))]) S.1 S.2.1 dX12_meanTrue_8 rfl hl (by decide) rfl (fun ls hl => ?_)
  refine lv_iconst (v := nI 0) S.1 S.2.1 dX12_meanTrue_9 (by decide) ?_
  refine lv_istore (lv' := [(5, .int (nI 0)), (3, .long (lN 0)), (1, .long (lN 0)), (0, .ref (ad 55))]) S.1 S.2.1 dX12_meanTrue_10 hl (by decide) rfl (fun ls hl => ?_)
  have L12 : ∀ (k : Nat) (i : Nat), 2 ^ n - i = k → (i ≤ 2 ^ n) → ∀ (w_ : va_W), jU w w_ [55] → (w_[55]? = some (ad 55, .inr (11, [.int (nI 0), .ref (ad 56), .ref (ad 57), .ref (ad 58), .ref (ad 59), .ref (ad 60), .ref (ad 61), .ref (ad 62), .ref (ad 63), .ref (ad 64), .ref (ad 65), .int (nI n), .int (nI nc), .ref (ad 66), .ref (ad 71), .ref (ad 72), .ref (ad 73)]))) → ∀ (H : Heap) (locs : List Loc) (ls : Array Slot), jW D A s.heap w_ H locs → lv_has ls 6 [(0, .ref (ad 55)), (1, .long (lN (sumI (mdc sd se nc cs lv) (fun d => prodN wf wt d n) i))), (3, .long (lN (sumI (mdc sd se nc cs lv) (fun d => prodN wf wt d n * cnt d.testBit 10) i))), (5, .int (nI i))] → W p l e (jR 4 0 0) s m args below meth c H locs 0 0 Q (F0 m 12 ls []) := by
    intro k
    induction k using Nat.strongRecOn with
    | ind k ih12 =>
    intro i hk hi w_ hU gO_ H locs ls hW hl
    subst hk
    refine lv_iload S.1 S.2.1 dX12_meanTrue_12 (lv_at hl 3 rfl) ?_
    refine lv_aload_n S.1 S.2.1 dX12_meanTrue_14 rfl (lv_at hl 0 rfl) ?_
    refine j_callV (k := 55) (ci := 11) (q := (RX12, TX12, 17)) (As := []) (rest := [.int (nI i)]) S hK hA hW (c_X12_all l D cy ad 0 n nc gO_   (by omega)) (jgo wm_X12_98) yk_X12_all gO_ rfl rfl ⟨⟨rfl, rfl⟩, by decide, by decide⟩ rfl hl.1 rfl (Nat.le_of_ble_eq_true rfl) dX12_meanTrue_15 ⟨Nat.le_of_ble_eq_true rfl, Nat.le_of_ble_eq_true rfl⟩ (fun v u H locs hp hW => ?_)
    obtain ⟨rfl, rfl⟩ := hp
    refine W.eq (g2 := F0 m 18 ls [.int (nI (2 ^ n)), .int (nI i)]) rfl ?_
    refine jn_cmp_ge (tgt := 64) S (by omega) (by omega) dX12_meanTrue_18 (by decide) (fun c_18 => ?_) (fun c_18 => ?_)
    · have ei : i = 2 ^ n := by omega
      subst ei
      refine lv_lload_n S.1 S.2.1 dX12_meanTrue_64 rfl (lv_at hl 1 rfl) ?_
      refine lv_lconst (v := lN 0) S.1 S.2.1 dX12_meanTrue_65 (by decide) ?_
      refine jnz_ne (tgt := 79) S (by omega) (by decide) dX12_meanTrue_66 dX12_meanTrue_67 (by decide) (fun c_67 => ?_) (fun c_67 => ?_)
      · refine lv_lload_n S.1 S.2.1 dX12_meanTrue_79 rfl (lv_at hl 2 rfl) ?_
        refine lv_l2d S.1 S.2.1 dX12_meanTrue_80 ?_
        refine lv_lload_n S.1 S.2.1 dX12_meanTrue_81 rfl (lv_at hl 1 rfl) ?_
        refine lv_l2d S.1 S.2.1 dX12_meanTrue_82 ?_
        refine lv_ddiv S.1 S.2.1 dX12_meanTrue_83 (jf_ddiv _ (lN_ne0 (by omega) (by omega))) ?_
        subst hQ
        exact j_dret (u := w_) S hr hK hW dX12_meanTrue_84 ⟨by decide, by decide⟩ (⟨rfl, hU, gO_⟩)
      · exact absurd c_67 h0
    · refine lv_aload_n S.1 S.2.1 dX12_meanTrue_21 rfl (lv_at hl 0 rfl) ?_
      refine lv_iload S.1 S.2.1 dX12_meanTrue_22 (lv_at hl 3 rfl) ?_
      refine j_callV (k := 55) (ci := 11) (q := (RX12, TX12, 17)) (As := [.int (nI i)]) (rest := []) S hK hA hW (c_X12_isModel l D cy ad 0 n nc sd se lv cs i gO_ (hU.get gE (by decide)) (hU.get gP (by decide)) (hU.get gC0 (by decide)) (hU.get gC1 (by decide)) (hU.get gC2 (by decide)) (hU.get gC3 (by decide)) (hU.get gC4 (by decide))   (by omega) (hsd) (hse) (by omega) (hcs) (by omega)) (jgo wm_X12_102) yk_X12_isModel gO_ rfl rfl ⟨⟨rfl, rfl⟩, by decide, by decide⟩ rfl hl.1 rfl (Nat.le_of_ble_eq_true rfl) dX12_meanTrue_24 ⟨Nat.le_of_ble_eq_true rfl, Nat.le_of_ble_eq_true rfl⟩ (fun v u H locs hp hW => ?_)
      obtain ⟨rfl, rfl⟩ := hp
      refine W.eq (g2 := F0 m 27 ls [.int (bI (mdc sd se nc cs lv i))]) rfl ?_
      refine jb_if_ne (tgt := 33) S dX12_meanTrue_27 (by decide) (fun c_27 => ?_) (fun c_27 => ?_)
      · refine lv_lload_n S.1 S.2.1 dX12_meanTrue_33 rfl (lv_at hl 1 rfl) ?_
        refine lv_aload_n S.1 S.2.1 dX12_meanTrue_34 rfl (lv_at hl 0 rfl) ?_
        refine lv_iload S.1 S.2.1 dX12_meanTrue_35 (lv_at hl 3 rfl) ?_
        refine j_callV (k := 55) (ci := 11) (q := (RX12, TX12, 17)) (As := [.int (nI i)]) (rest := [.long (lN (sumI (mdc sd se nc cs lv) (fun d => prodN wf wt d n) i))]) S hK hA hW (c_X12_weigh l D cy ad 0 n nc wf wt i gO_ (hU.get gF (by decide)) (hU.get gT (by decide))   (by omega) (by omega) (hwf) (hwt)) (jgo wm_X12_109) yk_X12_weigh gO_ rfl rfl ⟨⟨rfl, rfl⟩, by decide, by decide⟩ rfl hl.1 rfl (Nat.le_of_ble_eq_true rfl) dX12_meanTrue_37 ⟨Nat.le_of_ble_eq_true rfl, Nat.le_of_ble_eq_true rfl⟩ (fun v u H locs hp hW => ?_)
        obtain ⟨rfl, rfl⟩ := hp
        refine W.eq (g2 := F0 m 40 ls [.long (lN (prodN wf wt i n)), .long (lN (sumI (mdc sd se nc cs lv) (fun d => prodN wf wt d n) i))]) rfl ?_
        refine jnl_add S dX12_meanTrue_40 ?_
        refine lv_topl_to (y := lN (sumI (mdc sd se nc cs lv) (fun d => prodN wf wt d n) (i + 1))) (congrArg lN (sumI_t c_27).symm) ?_
        refine lv_lstore_n (lv' := [(1, .long (lN (sumI (mdc sd se nc cs lv) (fun d => prodN wf wt d n) (i + 1)))), (0, .ref (ad 55)), (3, .long (lN (sumI (mdc sd se nc cs lv) (fun d => prodN wf wt d n * cnt d.testBit 10) i))), (5, .int (nI i))]) S.1 S.2.1 dX12_meanTrue_41 rfl hl (by decide) rfl (fun ls hl => ?_)
        refine lv_lload_n S.1 S.2.1 dX12_meanTrue_42 rfl (lv_at hl 2 rfl) ?_
        refine lv_aload_n S.1 S.2.1 dX12_meanTrue_43 rfl (lv_at hl 1 rfl) ?_
        refine lv_iload S.1 S.2.1 dX12_meanTrue_44 (lv_at hl 3 rfl) ?_
        refine j_callV (k := 55) (ci := 11) (q := (RX12, TX12, 17)) (As := [.int (nI i)]) (rest := [.long (lN (sumI (mdc sd se nc cs lv) (fun d => prodN wf wt d n * cnt d.testBit 10) i))]) S hK hA hW (c_X12_weigh l D cy ad 0 n nc wf wt i gO_ (hU.get gF (by decide)) (hU.get gT (by decide))   (by omega) (by omega) (hwf) (hwt)) (jgo wm_X12_109) yk_X12_weigh gO_ rfl rfl ⟨⟨rfl, rfl⟩, by decide, by decide⟩ rfl hl.1 rfl (Nat.le_of_ble_eq_true rfl) dX12_meanTrue_46 ⟨Nat.le_of_ble_eq_true rfl, Nat.le_of_ble_eq_true rfl⟩ (fun v u H locs hp hW => ?_)
        obtain ⟨rfl, rfl⟩ := hp
        refine W.eq (g2 := F0 m 49 ls [.long (lN (prodN wf wt i n)), .long (lN (sumI (mdc sd se nc cs lv) (fun d => prodN wf wt d n * cnt d.testBit 10) i))]) rfl ?_
        refine lv_iload S.1 S.2.1 dX12_meanTrue_49 (lv_at hl 3 rfl) ?_
        refine j_callS (As := [.int (nI i)]) (rest := [.long (lN (prodN wf wt i n)), .long (lN (sumI (mdc sd se nc cs lv) (fun d => prodN wf wt d n * cnt d.testBit 10) i))]) S hK hA hW (c_X12_size l D cy i    (by omega)) (jgo wm_X12_92) yk_X12_size ⟨⟨rfl, rfl⟩, by decide, by decide⟩ rfl hl.1 rfl (Nat.le_of_ble_eq_true rfl) dX12_meanTrue_51 ⟨Nat.le_of_ble_eq_true rfl, Nat.le_of_ble_eq_true rfl⟩ (fun v u H locs hp hW => ?_)
        obtain ⟨rfl, rfl⟩ := hp
        refine W.eq (g2 := F0 m 54 ls [.int (nI (cnt i.testBit 10)), .long (lN (prodN wf wt i n)), .long (lN (sumI (mdc sd se nc cs lv) (fun d => prodN wf wt d n * cnt d.testBit 10) i))]) rfl ?_
        have hcb := cnt_le i.testBit 10
        refine lv_i2l (v := lN (cnt i.testBit 10)) S.1 S.2.1 dX12_meanTrue_54 (nI_l (by omega)) ?_
        refine jnl_mul S dX12_meanTrue_55 ?_
        refine jnl_add S dX12_meanTrue_56 ?_
        refine lv_topl_to (y := lN (sumI (mdc sd se nc cs lv) (fun d => prodN wf wt d n * cnt d.testBit 10) (i + 1))) (congrArg lN (sumI_t c_27).symm) ?_
        refine lv_lstore_n (lv' := [(3, .long (lN (sumI (mdc sd se nc cs lv) (fun d => prodN wf wt d n * cnt d.testBit 10) (i + 1)))), (1, .long (lN (sumI (mdc sd se nc cs lv) (fun d => prodN wf wt d n) (i + 1)))), (0, .ref (ad 55)), (5, .int (nI i))]) S.1 S.2.1 dX12_meanTrue_57 rfl hl (by decide) rfl (fun ls hl => ?_)
        refine lv_iinc (v := nI (i + 1)) (lv' := [(5, .int (nI (i + 1))), (3, .long (lN (sumI (mdc sd se nc cs lv) (fun d => prodN wf wt d n * cnt d.testBit 10) (i + 1)))), (1, .long (lN (sumI (mdc sd se nc cs lv) (fun d => prodN wf wt d n) (i + 1)))), (0, .ref (ad 55))]) S.1 S.2.1 dX12_meanTrue_58 hl (k := 3) rfl (nI_add _ 1) (by decide) rfl (fun ls hl => ?_)
        refine lv_goto (tgt := 12) S.1 S.2.1 dX12_meanTrue_61 (by decide) ?_
        exact ih12 _ (by omega) (i + 1) rfl (by omega) w_ hU gO_ H locs ls hW (lv_sub hl [3, 2, 1, 0] rfl)
      · have e0 : sumI (mdc sd se nc cs lv) (fun d => prodN wf wt d n * cnt d.testBit 10) (i + 1) = sumI (mdc sd se nc cs lv) (fun d => prodN wf wt d n * cnt d.testBit 10) i := sumI_f c_27
        have e1 : sumI (mdc sd se nc cs lv) (fun d => prodN wf wt d n) (i + 1) = sumI (mdc sd se nc cs lv) (fun d => prodN wf wt d n) i := sumI_f c_27
        rw [← e0, ← e1] at hl
        refine lv_goto (tgt := 58) S.1 S.2.1 dX12_meanTrue_30 (by decide) ?_
        refine lv_iinc (v := nI (i + 1)) (lv' := [(5, .int (nI (i + 1))), (0, .ref (ad 55)), (1, .long (lN (sumI (mdc sd se nc cs lv) (fun d => prodN wf wt d n) (i + 1)))), (3, .long (lN (sumI (mdc sd se nc cs lv) (fun d => prodN wf wt d n * cnt d.testBit 10) (i + 1))))]) S.1 S.2.1 dX12_meanTrue_58 hl (k := 3) rfl (nI_add _ 1) (by decide) rfl (fun ls hl => ?_)
        refine lv_goto (tgt := 12) S.1 S.2.1 dX12_meanTrue_61 (by decide) ?_
        exact ih12 _ (by omega) (i + 1) rfl (by omega) w_ hU gO_ H locs ls hW (lv_sub hl [1, 2, 3, 0] rfl)
  exact L12 _ 0 rfl (Nat.zero_le _) w_ hU gO_ H locs ls hW (lv_sub hl [3, 2, 1, 0] rfl)
/-- meanTrue, nothing weighs -/
theorem c_X12_meanTrue_b (l : Launch) (D : va_G) (cy : Nat → ClassId) {w : va_W} (ad : Nat → Nat) (th n nc : Nat) (sd se lv : Nat) (cs : Nat → CN) (wf wt : Nat → Nat) (gO : w[55]? = some (ad 55, .inr (11, [.int (nI th), .ref (ad 56), .ref (ad 57), .ref (ad 58), .ref (ad 59), .ref (ad 60), .ref (ad 61), .ref (ad 62), .ref (ad 63), .ref (ad 64), .ref (ad 65), .int (nI n), .int (nI nc), .ref (ad 66), .ref (ad 71), .ref (ad 72), .ref (ad 73)]))) (gE : w[58]? = some (ad 58, .inl (cy 0, 10, .inl (evA n sd se)))) (gP : w[65]? = some (ad 65, .inl (cy 3, 20, .inl (bf (dpB nc lv))))) (gC0 : w[60]? = some (ad 60, .inl (cy 2, 20, .inl (nf (ckd cs))))) (gC1 : w[61]? = some (ad 61, .inl (cy 0, 20, .inl (nf (cst cs))))) (gC2 : w[62]? = some (ad 62, .inl (cy 0, 20, .inl (nf (cot cs))))) (gC3 : w[63]? = some (ad 63, .inl (cy 0, 20, .inl (nf (cle cs))))) (gC4 : w[64]? = some (ad 64, .inl (cy 0, 20, .inl (nf (cgr cs))))) (gF : w[56]? = some (ad 56, .inl (cy 0, 10, .inl (nf wf)))) (gT : w[57]? = some (ad 57, .inl (cy 0, 10, .inl (nf wt)))) (hn : n ≤ 10) (hsd : sd < 2 ^ n) (hse : se &&& sd = se) (hnc : nc ≤ 20) (hcs : csI nc cs) (hwf : ∀ j, wf j ≤ 9) (hwt : ∀ j, wt j ≤ 9) (h0 : sumI (mdc sd se nc cs lv) (fun d => prodN wf wt d n) (2 ^ n) = 0) : jM l yX12_meanTrue (jws yX12_meanTrue cX12_meanTrue 6 (some .double)) (jR 4 0 0) D cy w [.ref (ad 55)] 0 0 (fun vv uu => vv = some (.double (FP.i2d (nI 0))) ∧ jU w uu [55] ∧ uu[55]? = some (ad 55, .inr (11, [.int (nI 1), .ref (ad 56), .ref (ad 57), .ref (ad 58), .ref (ad 59), .ref (ad 60), .ref (ad 61), .ref (ad 62), .ref (ad 63), .ref (ad 64), .ref (ad 65), .int (nI n), .int (nI nc), .ref (ad 66), .ref (ad 71), .ref (ad 72), .ref (ad 73)]))) := by
  have hp2 := two_pow10 hn
  have h910 : 9 ^ n ≤ 9 ^ 10 := Nat.pow_le_pow_right (by decide) hn
  have hpb : ∀ d, prodN wf wt d n ≤ 3486784401 := fun d => Nat.le_trans (prodN_le hwf hwt d n) h910
  have hsl : sumI (mdc sd se nc cs lv) (fun d => prodN wf wt d n) (2 ^ n) ≤ 2 ^ n * 3486784401 := sumI_le (fun j _ => hpb j)
  have hsb : 2 ^ n * 3486784401 ≤ 1024 * 3486784401 := Nat.mul_le_mul_right _ hp2
  refine j_of (by decide) rfl (Nat.le_of_ble_eq_true rfl) ?_
  intro p e s m args below meth c A ls Q hQ S hr hK hA H locs hW hl
  have hl : lv_has ls 6 [(0, .ref (ad 55))] := hl
  refine lv_aload_n S.1 S.2.1 dX12_meanTrue_0 rfl (lv_at hl 0 rfl) ?_
  refine lv_iconst (v := nI 0) S.1 S.2.1 dX12_meanTrue_1 (by decide) ?_
  refine j_put (ci := 11) (C := RX12) (T := TX12) (N := 17) (ty := .int) S (fun w h => List.mem_cons_of_mem _ (inG12 w h)) tyX12 tyX12_ok nmX12 hK hW gO rfl 0 (by decide) (List.mem_cons_of_mem _ wfl_X12_1) (fun _ h9 => h9) rfl (by decide +kernel) (rfl) (rfl) (Nat.le_of_ble_eq_true rfl) dX12_meanTrue_2 (fun H locs w_ hU1 hN1 hW => ?_)
  have hU : jU w w_ [55] := jU.mono hU1 (by decide)
  have gO_ : w_[55]? = some (ad 55, .inr (11, [.int (nI 0), .ref (ad 56), .ref (ad 57), .ref (ad 58), .ref (ad 59), .ref (ad 60), .ref (ad 61), .ref (ad 62), .ref (ad 63), .ref (ad 64), .ref (ad 65), .int (nI n), .int (nI nc), .ref (ad 66), .ref (ad 71), .ref (ad 72), .ref (ad 73)])) := hN1
  clear hU1 hN1
  refine lv_lconst (v := lN 0) S.1 S.2.1 dX12_meanTrue_5 (by decide) ?_
  refine lv_lstore_n (lv' := [(1, .long (lN 0)), (0, .ref (ad 55))]) S.1 S.2.1 dX12_meanTrue_6 rfl hl (by decide) rfl (fun ls hl => ?_)
  refine lv_lconst (v := lN 0) S.1 S.2.1 dX12_meanTrue_7 (by decide) ?_
  refine lv_lstore_n (lv' := [(3, .long (lN 0)), (1, .long (lN 0)), (0, .ref (ad 55))]) S.1 S.2.1 dX12_meanTrue_8 rfl hl (by decide) rfl (fun ls hl => ?_)
  refine lv_iconst (v := nI 0) S.1 S.2.1 dX12_meanTrue_9 (by decide) ?_
  refine lv_istore (lv' := [(5, .int (nI 0)), (3, .long (lN 0)), (1, .long (lN 0)), (0, .ref (ad 55))]) S.1 S.2.1 dX12_meanTrue_10 hl (by decide) rfl (fun ls hl => ?_)
  have L12 : ∀ (k : Nat) (i : Nat), 2 ^ n - i = k → (i ≤ 2 ^ n) → ∀ (w_ : va_W), jU w w_ [55] → (w_[55]? = some (ad 55, .inr (11, [.int (nI 0), .ref (ad 56), .ref (ad 57), .ref (ad 58), .ref (ad 59), .ref (ad 60), .ref (ad 61), .ref (ad 62), .ref (ad 63), .ref (ad 64), .ref (ad 65), .int (nI n), .int (nI nc), .ref (ad 66), .ref (ad 71), .ref (ad 72), .ref (ad 73)]))) → ∀ (H : Heap) (locs : List Loc) (ls : Array Slot), jW D A s.heap w_ H locs → lv_has ls 6 [(0, .ref (ad 55)), (1, .long (lN (sumI (mdc sd se nc cs lv) (fun d => prodN wf wt d n) i))), (3, .long (lN (sumI (mdc sd se nc cs lv) (fun d => prodN wf wt d n * cnt d.testBit 10) i))), (5, .int (nI i))] → W p l e (jR 4 0 0) s m args below meth c H locs 0 0 Q (F0 m 12 ls []) := by
    intro k
    induction k using Nat.strongRecOn with
    | ind k ih12 =>
    intro i hk hi w_ hU gO_ H locs ls hW hl
    subst hk
    refine lv_iload S.1 S.2.1 dX12_meanTrue_12 (lv_at hl 3 rfl) ?_
    refine lv_aload_n S.1 S.2.1 dX12_meanTrue_14 rfl (lv_at hl 0 rfl) ?_
    refine j_callV (k := 55) (ci := 11) (q := (RX12, TX12, 17)) (As := []) (rest := [.int (nI i)]) S hK hA hW (c_X12_all l D cy ad 0 n nc gO_   (by omega)) (jgo wm_X12_98) yk_X12_all gO_ rfl rfl ⟨⟨rfl, rfl⟩, by decide, by decide⟩ rfl hl.1 rfl (Nat.le_of_ble_eq_true rfl) dX12_meanTrue_15 ⟨Nat.le_of_ble_eq_true rfl, Nat.le_of_ble_eq_true rfl⟩ (fun v u H locs hp hW => ?_)
    obtain ⟨rfl, rfl⟩ := hp
    refine W.eq (g2 := F0 m 18 ls [.int (nI (2 ^ n)), .int (nI i)]) rfl ?_
    refine jn_cmp_ge (tgt := 64) S (by omega) (by omega) dX12_meanTrue_18 (by decide) (fun c_18 => ?_) (fun c_18 => ?_)
    · have ei : i = 2 ^ n := by omega
      subst ei
      refine lv_lload_n S.1 S.2.1 dX12_meanTrue_64 rfl (lv_at hl 1 rfl) ?_
      refine lv_lconst (v := lN 0) S.1 S.2.1 dX12_meanTrue_65 (by decide) ?_
      refine jnz_ne (tgt := 79) S (by omega) (by decide) dX12_meanTrue_66 dX12_meanTrue_67 (by decide) (fun c_67 => ?_) (fun c_67 => ?_)
      · exact absurd h0 c_67
      · refine lv_aload_n S.1 S.2.1 dX12_meanTrue_70 rfl (lv_at hl 0 rfl) ?_
        refine lv_iconst (v := nI 1) S.1 S.2.1 dX12_meanTrue_71 (by decide) ?_
        refine j_callV (k := 55) (ci := 11) (q := (RX12, TX12, 17)) (As := [.int (nI 1)]) (rest := []) S hK hA hW (c_X12_fails l D cy ad 0 n nc 1 gO_   ) (jgo wm_X12_71) yk_X12_fails gO_ rfl rfl ⟨⟨rfl, rfl⟩, by decide, by decide⟩ rfl hl.1 rfl (Nat.le_of_ble_eq_true rfl) dX12_meanTrue_72 ⟨Nat.le_of_ble_eq_true rfl, Nat.le_of_ble_eq_true rfl⟩ (fun v w_ H locs hp hW => ?_)
        obtain ⟨rfl, hU1, hN1⟩ := hp
        have hU := hU.then hU1 (by decide)
        have gO_ : w_[55]? = some (ad 55, .inr (11, [.int (nI 1), .ref (ad 56), .ref (ad 57), .ref (ad 58), .ref (ad 59), .ref (ad 60), .ref (ad 61), .ref (ad 62), .ref (ad 63), .ref (ad 64), .ref (ad 65), .int (nI n), .int (nI nc), .ref (ad 66), .ref (ad 71), .ref (ad 72), .ref (ad 73)])) := hN1
        clear hU1 hN1
        refine W.eq (g2 := F0 m 75 ls [.int (nI 0)]) rfl ?_
        refine lv_i2d S.1 S.2.1 dX12_meanTrue_75 ?_
        refine lv_goto (tgt := 84) S.1 S.2.1 dX12_meanTrue_76 (by decide) ?_
        subst hQ
        exact j_dret (u := w_) S hr hK hW dX12_meanTrue_84 ⟨by decide, by decide⟩ (⟨rfl, hU, gO_⟩)
    · refine lv_aload_n S.1 S.2.1 dX12_meanTrue_21 rfl (lv_at hl 0 rfl) ?_
      refine lv_iload S.1 S.2.1 dX12_meanTrue_22 (lv_at hl 3 rfl) ?_
      refine j_callV (k := 55) (ci := 11) (q := (RX12, TX12, 17)) (As := [.int (nI i)]) (rest := []) S hK hA hW (c_X12_isModel l D cy ad 0 n nc sd se lv cs i gO_ (hU.get gE (by decide)) (hU.get gP (by decide)) (hU.get gC0 (by decide)) (hU.get gC1 (by decide)) (hU.get gC2 (by decide)) (hU.get gC3 (by decide)) (hU.get gC4 (by decide))   (by omega) (hsd) (hse) (by omega) (hcs) (by omega)) (jgo wm_X12_102) yk_X12_isModel gO_ rfl rfl ⟨⟨rfl, rfl⟩, by decide, by decide⟩ rfl hl.1 rfl (Nat.le_of_ble_eq_true rfl) dX12_meanTrue_24 ⟨Nat.le_of_ble_eq_true rfl, Nat.le_of_ble_eq_true rfl⟩ (fun v u H locs hp hW => ?_)
      obtain ⟨rfl, rfl⟩ := hp
      refine W.eq (g2 := F0 m 27 ls [.int (bI (mdc sd se nc cs lv i))]) rfl ?_
      refine jb_if_ne (tgt := 33) S dX12_meanTrue_27 (by decide) (fun c_27 => ?_) (fun c_27 => ?_)
      · refine lv_lload_n S.1 S.2.1 dX12_meanTrue_33 rfl (lv_at hl 1 rfl) ?_
        refine lv_aload_n S.1 S.2.1 dX12_meanTrue_34 rfl (lv_at hl 0 rfl) ?_
        refine lv_iload S.1 S.2.1 dX12_meanTrue_35 (lv_at hl 3 rfl) ?_
        refine j_callV (k := 55) (ci := 11) (q := (RX12, TX12, 17)) (As := [.int (nI i)]) (rest := [.long (lN (sumI (mdc sd se nc cs lv) (fun d => prodN wf wt d n) i))]) S hK hA hW (c_X12_weigh l D cy ad 0 n nc wf wt i gO_ (hU.get gF (by decide)) (hU.get gT (by decide))   (by omega) (by omega) (hwf) (hwt)) (jgo wm_X12_109) yk_X12_weigh gO_ rfl rfl ⟨⟨rfl, rfl⟩, by decide, by decide⟩ rfl hl.1 rfl (Nat.le_of_ble_eq_true rfl) dX12_meanTrue_37 ⟨Nat.le_of_ble_eq_true rfl, Nat.le_of_ble_eq_true rfl⟩ (fun v u H locs hp hW => ?_)
        obtain ⟨rfl, rfl⟩ := hp
        refine W.eq (g2 := F0 m 40 ls [.long (lN (prodN wf wt i n)), .long (lN (sumI (mdc sd se nc cs lv) (fun d => prodN wf wt d n) i))]) rfl ?_
        refine jnl_add S dX12_meanTrue_40 ?_
        refine lv_topl_to (y := lN (sumI (mdc sd se nc cs lv) (fun d => prodN wf wt d n) (i + 1))) (congrArg lN (sumI_t c_27).symm) ?_
        refine lv_lstore_n (lv' := [(1, .long (lN (sumI (mdc sd se nc cs lv) (fun d => prodN wf wt d n) (i + 1)))), (0, .ref (ad 55)), (3, .long (lN (sumI (mdc sd se nc cs lv) (fun d => prodN wf wt d n * cnt d.testBit 10) i))), (5, .int (nI i))]) S.1 S.2.1 dX12_meanTrue_41 rfl hl (by decide) rfl (fun ls hl => ?_)
        refine lv_lload_n S.1 S.2.1 dX12_meanTrue_42 rfl (lv_at hl 2 rfl) ?_
        refine lv_aload_n S.1 S.2.1 dX12_meanTrue_43 rfl (lv_at hl 1 rfl) ?_
        refine lv_iload S.1 S.2.1 dX12_meanTrue_44 (lv_at hl 3 rfl) ?_
        refine j_callV (k := 55) (ci := 11) (q := (RX12, TX12, 17)) (As := [.int (nI i)]) (rest := [.long (lN (sumI (mdc sd se nc cs lv) (fun d => prodN wf wt d n * cnt d.testBit 10) i))]) S hK hA hW (c_X12_weigh l D cy ad 0 n nc wf wt i gO_ (hU.get gF (by decide)) (hU.get gT (by decide))   (by omega) (by omega) (hwf) (hwt)) (jgo wm_X12_109) yk_X12_weigh gO_ rfl rfl ⟨⟨rfl, rfl⟩, by decide, by decide⟩ rfl hl.1 rfl (Nat.le_of_ble_eq_true rfl) dX12_meanTrue_46 ⟨Nat.le_of_ble_eq_true rfl, Nat.le_of_ble_eq_true rfl⟩ (fun v u H locs hp hW => ?_)
        obtain ⟨rfl, rfl⟩ := hp
        refine W.eq (g2 := F0 m 49 ls [.long (lN (prodN wf wt i n)), .long (lN (sumI (mdc sd se nc cs lv) (fun d => prodN wf wt d n * cnt d.testBit 10) i))]) rfl ?_
        refine lv_iload S.1 S.2.1 dX12_meanTrue_49 (lv_at hl 3 rfl) ?_
        refine j_callS (As := [.int (nI i)]) (rest := [.long (lN (prodN wf wt i n)), .long (lN (sumI (mdc sd se nc cs lv) (fun d => prodN wf wt d n * cnt d.testBit 10) i))]) S hK hA hW (c_X12_size l D cy i    (by omega)) (jgo wm_X12_92) yk_X12_size ⟨⟨rfl, rfl⟩, by decide, by decide⟩ rfl hl.1 rfl (Nat.le_of_ble_eq_true rfl) dX12_meanTrue_51 ⟨Nat.le_of_ble_eq_true rfl, Nat.le_of_ble_eq_true rfl⟩ (fun v u H locs hp hW => ?_)
        obtain ⟨rfl, rfl⟩ := hp
        refine W.eq (g2 := F0 m 54 ls [.int (nI (cnt i.testBit 10)), .long (lN (prodN wf wt i n)), .long (lN (sumI (mdc sd se nc cs lv) (fun d => prodN wf wt d n * cnt d.testBit 10) i))]) rfl ?_
        have hcb := cnt_le i.testBit 10
        refine lv_i2l (v := lN (cnt i.testBit 10)) S.1 S.2.1 dX12_meanTrue_54 (nI_l (by omega)) ?_
        refine jnl_mul S dX12_meanTrue_55 ?_
        refine jnl_add S dX12_meanTrue_56 ?_
        refine lv_topl_to (y := lN (sumI (mdc sd se nc cs lv) (fun d => prodN wf wt d n * cnt d.testBit 10) (i + 1))) (congrArg lN (sumI_t c_27).symm) ?_
        refine lv_lstore_n (lv' := [(3, .long (lN (sumI (mdc sd se nc cs lv) (fun d => prodN wf wt d n * cnt d.testBit 10) (i + 1)))), (1, .long (lN (sumI (mdc sd se nc cs lv) (fun d => prodN wf wt d n) (i + 1)))), (0, .ref (ad 55)), (5, .int (nI i))]) S.1 S.2.1 dX12_meanTrue_57 rfl hl (by decide) rfl (fun ls hl => ?_)
        refine lv_iinc (v := nI (i + 1)) (lv' := [(5, .int (nI (i + 1))), (3, .long (lN (sumI (mdc sd se nc cs lv) (fun d => prodN wf wt d n * cnt d.testBit 10) (i + 1)))), (1, .long (lN (sumI (mdc sd se nc cs lv) (fun d => prodN wf wt d n) (i + 1)))), (0, .ref (ad 55))]) S.1 S.2.1 dX12_meanTrue_58 hl (k := 3) rfl (nI_add _ 1) (by decide) rfl (fun ls hl => ?_)
        refine lv_goto (tgt := 12) S.1 S.2.1 dX12_meanTrue_61 (by decide) ?_
        exact ih12 _ (by omega) (i + 1) rfl (by omega) w_ hU gO_ H locs ls hW (lv_sub hl [3, 2, 1, 0] rfl)
      · have e0 : sumI (mdc sd se nc cs lv) (fun d => prodN wf wt d n * cnt d.testBit 10) (i + 1) = sumI (mdc sd se nc cs lv) (fun d => prodN wf wt d n * cnt d.testBit 10) i := sumI_f c_27
        have e1 : sumI (mdc sd se nc cs lv) (fun d => prodN wf wt d n) (i + 1) = sumI (mdc sd se nc cs lv) (fun d => prodN wf wt d n) i := sumI_f c_27
        rw [← e0, ← e1] at hl
        refine lv_goto (tgt := 58) S.1 S.2.1 dX12_meanTrue_30 (by decide) ?_
        refine lv_iinc (v := nI (i + 1)) (lv' := [(5, .int (nI (i + 1))), (0, .ref (ad 55)), (1, .long (lN (sumI (mdc sd se nc cs lv) (fun d => prodN wf wt d n) (i + 1)))), (3, .long (lN (sumI (mdc sd se nc cs lv) (fun d => prodN wf wt d n * cnt d.testBit 10) (i + 1))))]) S.1 S.2.1 dX12_meanTrue_58 hl (k := 3) rfl (nI_add _ 1) (by decide) rfl (fun ls hl => ?_)
        refine lv_goto (tgt := 12) S.1 S.2.1 dX12_meanTrue_61 (by decide) ?_
        exact ih12 _ (by omega) (i + 1) rfl (by omega) w_ hU gO_ H locs ls hW (lv_sub hl [1, 2, 3, 0] rfl)
  exact L12 _ 0 rfl (Nat.zero_le _) w_ hU gO_ H locs ls hW (lv_sub hl [3, 2, 1, 0] rfl)
