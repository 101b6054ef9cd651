/-! THE REFERENCE: rows compared (laid by wip/whole/tools, from the specs there) -/
/-- areSame -/
theorem c_X12_areSame_ok (l : Launch) (D : va_G) (cy : Nat → ClassId) {w : va_W} (ad : Nat → Nat) (th n nc : Nat) (kv : Nat → Int32) (gx : Nat → Nat → Bool) (j y : Nat) (gO : w[55]? = some (ad 55, .inr (11, [.int (nI th), .ref (ad 56), .ref (ad 57), .ref (ad 58), .ref (ad 59), .ref (ad 60), .ref (ad 61), .ref (ad 62), .ref (ad 63), .ref (ad 64), .ref (ad 65), .int (nI n), .int (nI nc), .ref (ad 66), .ref (ad 71), .ref (ad 72), .ref (ad 73)]))) (gK : w[66]? = some (ad 66, .inl (cy 6, 4, .inr (.inr (.inr (.inr (kpF ad))))))) (gV : w[71]? = some (ad 71, .inl (cy 0, 4, .inl kv))) (gX : w[67 + j]? = some (ad (67 + j), .inl (cy 3, 1024, .inl (bf (gx j))))) (gY : w[67 + y]? = some (ad (67 + y), .inl (cy 3, 1024, .inl (bf (gx y))))) (hj : j < 4) (hy : y < 4) (hkv : ¬ kv j < 0) (hkw : kv y = kv j) : jM l yX12_areSame (jws yX12_areSame cX12_areSame 5 (some .boolean)) (jR 3 0 0) D cy w [.ref (ad 55), .int (nI j), .int (nI y)] 0 0 (fun vv uu => vv = some (.int (bI (allB (fun z => gx j z == gx y z) 1024))) ∧ jU w uu [55] ∧ uu[55]? = some (ad 55, .inr (11, [.int (nI 0), .ref (ad 56), .ref (ad 57), .ref (ad 58), .ref (ad 59), .ref (ad 60), .ref (ad 61), .ref (ad 62), .ref (ad 63), .ref (ad 64), .ref (ad 65), .int (nI n), .int (nI nc), .ref (ad 66), .ref (ad 71), .ref (ad 72), .ref (ad 73)]))) := by
  refine j_of (by decide) rfl (Nat.le_of_ble_eq_true rfl) ?_
  intro p e s m args below meth c A ls Q hQ S hr hK hA H locs hW hl
  have hl : lv_has ls 5 [(0, .ref (ad 55)), (1, .int (nI j)), (2, .int (nI y))] := hl
  refine lv_aload_n S.1 S.2.1 dX12_areSame_0 rfl (lv_at hl 0 rfl) ?_
  refine lv_iload_n S.1 S.2.1 dX12_areSame_1 rfl (lv_at hl 1 rfl) ?_
  refine lv_iload_n S.1 S.2.1 dX12_areSame_2 rfl (lv_at hl 2 rfl) ?_
  refine j_callV (k := 55) (ci := 11) (q := (RX12, TX12, 17)) (As := [.int (nI j), .int (nI y)]) (rest := []) S hK hA hW (c_X12_cannotCompare_ok l D cy ad th n nc kv j y gO gV   (by omega) (by omega) (hkv) (hkw)) (jgo wm_X12_172) yk_X12_cannotCompare gO rfl rfl ⟨⟨rfl, rfl⟩, by decide, by decide⟩ rfl hl.1 rfl (Nat.le_of_ble_eq_true rfl) dX12_areSame_3 ⟨Nat.le_of_ble_eq_true rfl, Nat.le_of_ble_eq_true rfl⟩ (fun v w_ H locs hp hW => ?_)
  obtain ⟨rfl, hU1, hN1⟩ := hp
  have hU : jU w w_ [55] := jU.mono hU1 (by decide)
  have gO_ : w_[55]? = some (ad 55, .inr (11, [.int (nI 0), .ref (ad 56), .ref (ad 57), .ref (ad 58), .ref (ad 59), .ref (ad 60), .ref (ad 61), .ref (ad 62), .ref (ad 63), .ref (ad 64), .ref (ad 65), .int (nI n), .int (nI nc), .ref (ad 66), .ref (ad 71), .ref (ad 72), .ref (ad 73)])) := hN1
  clear hU1 hN1
  refine W.eq (g2 := F0 m 6 ls [.int (bI false)]) rfl ?_
  refine jb_if_eq (tgt := 11) S dX12_areSame_6 (by decide) (fun c_6 => ?_) (fun c_6 => ?_)
  · refine lv_iconst (v := nI 1) S.1 S.2.1 dX12_areSame_11 (by decide) ?_
    refine lv_istore_n (lv' := [(3, .int (nI 1)), (0, .ref (ad 55)), (1, .int (nI j)), (2, .int (nI y))]) S.1 S.2.1 dX12_areSame_12 rfl hl (by decide) rfl (fun ls hl => ?_)
    refine lv_iconst (v := nI 0) S.1 S.2.1 dX12_areSame_13 (by decide) ?_
    refine lv_istore (lv' := [(4, .int (nI 0)), (3, .int (nI 1)), (0, .ref (ad 55)), (1, .int (nI j)), (2, .int (nI y))]) S.1 S.2.1 dX12_areSame_14 hl (by decide) rfl (fun ls hl => ?_)
    have L16 : ∀ (k : Nat) (a1 : Nat), 1024 - a1 = k → (a1 ≤ 1024) → ∀ (w_ : va_W), jU w w_ [55] → (w_[55]? = some (ad 55, .inr (11, [.int (nI 0), .ref (ad 56), .ref (ad 57), .ref (ad 58), .ref (ad 59), .ref (ad 60), .ref (ad 61), .ref (ad 62), .ref (ad 63), .ref (ad 64), .ref (ad 65), .int (nI n), .int (nI nc), .ref (ad 66), .ref (ad 71), .ref (ad 72), .ref (ad 73)]))) → ∀ (H : Heap) (locs : List Loc) (ls : Array Slot), jW D A s.heap w_ H locs → lv_has ls 5 [(0, .ref (ad 55)), (1, .int (nI j)), (2, .int (nI y)), (3, .int (bI (allB (fun z => gx j z == gx y z) a1))), (4, .int (nI a1))] → W p l e (jR 3 0 0) s m args below meth c H locs 0 0 Q (F0 m 16 ls []) := by
      intro k
      induction k using Nat.strongRecOn with
      | ind k ih16 =>
      intro a1 hk ha1 w_ hU gO_ H locs ls hW hl
      subst hk
      refine lv_iload S.1 S.2.1 dX12_areSame_16 (lv_at hl 4 rfl) ?_
      refine lv_sipush (v := nI 1024) S.1 S.2.1 dX12_areSame_18 (by decide) ?_
      refine jn_cmp_ge (tgt := 59) S (by omega) (by omega) dX12_areSame_21 (by decide) (fun c_21 => ?_) (fun c_21 => ?_)
      · refine lv_iload_n S.1 S.2.1 dX12_areSame_59 rfl (lv_at hl 3 rfl) ?_
        subst hQ
        refine j_iret (u := w_) S hr (bI_nar _) hK hW dX12_areSame_60 ⟨by decide, by decide⟩ ?_
        have ea : a1 = 1024 := by omega
        subst ea
        exact ⟨rfl, hU, gO_⟩
      · refine lv_iload_n S.1 S.2.1 dX12_areSame_24 rfl (lv_at hl 3 rfl) ?_
        refine lv_aload_n S.1 S.2.1 dX12_areSame_25 rfl (lv_at hl 0 rfl) ?_
        refine j_get (ci := 11) (C := RX12) (T := TX12) (N := 17) (v := .ref (ad 66)) S (fun w h => List.mem_cons_of_mem _ (inG12 w h)) hK hW gO_ rfl 13 (by decide) (List.mem_cons_of_mem _ wfl_X12_52) (fun _ h9 => h9) rfl dX12_areSame_26 ?_
        refine lv_iload_n S.1 S.2.1 dX12_areSame_29 rfl (lv_at hl 1 rfl) ?_
        refine j_aaldB (x := .ref (ad (67 + j))) S hK hW (hU.get gK (by decide)) (vp_in_nI (by omega) (by omega)) (nI_clamp (by omega)) (kp_at hj) dX12_areSame_30 ?_
        refine lv_iload S.1 S.2.1 dX12_areSame_31 (lv_at hl 4 rfl) ?_
        refine j_zald (x := bI (gx j a1)) S hK hW (hU.get gX (by simp; omega)) (vp_in_nI (by omega) (by omega)) (nI_clamp (by omega)) (rfl) dX12_areSame_33 ?_
        refine lv_aload_n S.1 S.2.1 dX12_areSame_34 rfl (lv_at hl 0 rfl) ?_
        refine j_get (ci := 11) (C := RX12) (T := TX12) (N := 17) (v := .ref (ad 66)) S (fun w h => List.mem_cons_of_mem _ (inG12 w h)) hK hW gO_ rfl 13 (by decide) (List.mem_cons_of_mem _ wfl_X12_52) (fun _ h9 => h9) rfl dX12_areSame_35 ?_
        refine lv_iload_n S.1 S.2.1 dX12_areSame_38 rfl (lv_at hl 2 rfl) ?_
        refine j_aaldB (x := .ref (ad (67 + y))) S hK hW (hU.get gK (by decide)) (vp_in_nI (by omega) (by omega)) (nI_clamp (by omega)) (kp_at hy) dX12_areSame_39 ?_
        refine lv_iload S.1 S.2.1 dX12_areSame_40 (lv_at hl 4 rfl) ?_
        refine j_zald (x := bI (gx y a1)) S hK hW (hU.get gY (by simp; omega)) (vp_in_nI (by omega) (by omega)) (nI_clamp (by omega)) (rfl) dX12_areSame_42 ?_
        refine lv_icmp_ne (tgt := 50) S.1 S.2.1 dX12_areSame_43 (by decide) (fun c_43 => ?_) (fun c_43 => ?_)
        · refine lv_iconst (v := nI 0) S.1 S.2.1 dX12_areSame_50 (by decide) ?_
          refine lv_iand S.1 S.2.1 dX12_areSame_51 ?_
          refine lv_topi_to (y := bI (allB (fun z => gx j z == gx y z) (a1 + 1))) (by first | exact allB_a1 (by show (gx j a1 == gx y a1) = true; rw [bI_inj.mp c_43]; exact beq_self_eq_true _) | exact allB_a0 (beq_false_of_ne (fun z => c_43 (congrArg bI z)))) ?_
          refine lv_istore_n (lv' := [(3, .int (bI (allB (fun z => gx j z == gx y z) (a1 + 1)))), (0, .ref (ad 55)), (1, .int (nI j)), (2, .int (nI y)), (4, .int (nI a1))]) S.1 S.2.1 dX12_areSame_52 rfl hl (by decide) rfl (fun ls hl => ?_)
          refine lv_iinc (v := nI (a1 + 1)) (lv' := [(4, .int (nI (a1 + 1))), (3, .int (bI (allB (fun z => gx j z == gx y z) (a1 + 1)))), (0, .ref (ad 55)), (1, .int (nI j)), (2, .int (nI y))]) S.1 S.2.1 dX12_areSame_53 hl (k := 4) rfl (nI_add _ 1) (by decide) rfl (fun ls hl => ?_)
          refine lv_goto (tgt := 16) S.1 S.2.1 dX12_areSame_56 (by decide) ?_
          exact ih16 _ (by omega) (a1 + 1) rfl (by omega) w_ hU gO_ H locs ls hW (lv_sub hl [2, 3, 4, 1, 0] rfl)
        · refine lv_iconst (v := nI 1) S.1 S.2.1 dX12_areSame_46 (by decide) ?_
          refine lv_goto (tgt := 51) S.1 S.2.1 dX12_areSame_47 (by decide) ?_
          refine lv_iand S.1 S.2.1 dX12_areSame_51 ?_
          refine lv_topi_to (y := bI (allB (fun z => gx j z == gx y z) (a1 + 1))) (by first | exact allB_a1 (by show (gx j a1 == gx y a1) = true; rw [bI_inj.mp c_43]; exact beq_self_eq_true _) | exact allB_a0 (beq_false_of_ne (fun z => c_43 (congrArg bI z)))) ?_
          refine lv_istore_n (lv' := [(3, .int (bI (allB (fun z => gx j z == gx y z) (a1 + 1)))), (0, .ref (ad 55)), (1, .int (nI j)), (2, .int (nI y)), (4, .int (nI a1))]) S.1 S.2.1 dX12_areSame_52 rfl hl (by decide) rfl (fun ls hl => ?_)
          refine lv_iinc (v := nI (a1 + 1)) (lv' := [(4, .int (nI (a1 + 1))), (3, .int (bI (allB (fun z => gx j z == gx y z) (a1 + 1)))), (0, .ref (ad 55)), (1, .int (nI j)), (2, .int (nI y))]) S.1 S.2.1 dX12_areSame_53 hl (k := 4) rfl (nI_add _ 1) (by decide) rfl (fun ls hl => ?_)
          refine lv_goto (tgt := 16) S.1 S.2.1 dX12_areSame_56 (by decide) ?_
          exact ih16 _ (by omega) (a1 + 1) rfl (by omega) w_ hU gO_ H locs ls hW (lv_sub hl [2, 3, 4, 1, 0] rfl)
    exact L16 _ 0 rfl (Nat.zero_le _) w_ hU gO_ H locs ls hW (lv_sub hl [2, 3, 4, 1, 0] rfl)
  · exact absurd c_6 (by decide)
/-- areSame, b1 -/
theorem c_X12_areSame_b1 (l : Launch) (D : va_G) (cy : Nat → ClassId) {w : va_W} (ad : Nat → Nat) (th n nc : Nat) (v u1 : Int32) (gO : w[55]? = some (ad 55, .inr (11, [.int (nI th), .ref (ad 56), .ref (ad 57), .ref (ad 58), .ref (ad 59), .ref (ad 60), .ref (ad 61), .ref (ad 62), .ref (ad 63), .ref (ad 64), .ref (ad 65), .int (nI n), .int (nI nc), .ref (ad 66), .ref (ad 71), .ref (ad 72), .ref (ad 73)]))) (hv : vB v 4 = false ∨ vB u1 4 = false) : jM l yX12_areSame (jws yX12_areSame cX12_areSame 5 (some .boolean)) (jR 3 0 0) D cy w [.ref (ad 55), .int v, .int u1] 0 0 (fun vv uu => vv = some (.int (bI false)) ∧ jU w uu [55] ∧ uu[55]? = some (ad 55, .inr (11, [.int (nI 1), .ref (ad 56), .ref (ad 57), .ref (ad 58), .ref (ad 59), .ref (ad 60), .ref (ad 61), .ref (ad 62), .ref (ad 63), .ref (ad 64), .ref (ad 65), .int (nI n), .int (nI nc), .ref (ad 66), .ref (ad 71), .ref (ad 72), .ref (ad 73)]))) := by
  refine j_of (by decide) rfl (Nat.le_of_ble_eq_true rfl) ?_
  intro p e s m args below meth c A ls Q hQ S hr hK hA H locs hW hl
  have hl : lv_has ls 5 [(0, .ref (ad 55)), (1, .int v), (2, .int u1)] := hl
  refine lv_aload_n S.1 S.2.1 dX12_areSame_0 rfl (lv_at hl 0 rfl) ?_
  refine lv_iload_n S.1 S.2.1 dX12_areSame_1 rfl (lv_at hl 1 rfl) ?_
  refine lv_iload_n S.1 S.2.1 dX12_areSame_2 rfl (lv_at hl 2 rfl) ?_
  refine j_callV (k := 55) (ci := 11) (q := (RX12, TX12, 17)) (As := [.int v, .int u1]) (rest := []) S hK hA hW (c_X12_cannotCompare_b1 l D cy ad th n nc v u1 gO   (hv)) (jgo wm_X12_172) yk_X12_cannotCompare gO rfl rfl ⟨⟨rfl, rfl⟩, by decide, by decide⟩ rfl hl.1 rfl (Nat.le_of_ble_eq_true rfl) dX12_areSame_3 ⟨Nat.le_of_ble_eq_true rfl, Nat.le_of_ble_eq_true rfl⟩ (fun v w_ H locs hp hW => ?_)
  obtain ⟨rfl, hU1, hN1⟩ := hp
  have hU : jU w w_ [55] := jU.mono hU1 (by decide)
  have gO_ : w_[55]? = some (ad 55, .inr (11, [.int (nI 1), .ref (ad 56), .ref (ad 57), .ref (ad 58), .ref (ad 59), .ref (ad 60), .ref (ad 61), .ref (ad 62), .ref (ad 63), .ref (ad 64), .ref (ad 65), .int (nI n), .int (nI nc), .ref (ad 66), .ref (ad 71), .ref (ad 72), .ref (ad 73)])) := hN1
  clear hU1 hN1
  refine W.eq (g2 := F0 m 6 ls [.int (bI true)]) rfl ?_
  refine jb_if_eq (tgt := 11) S dX12_areSame_6 (by decide) (fun c_6 => ?_) (fun c_6 => ?_)
  · exact absurd c_6 (by decide)
  · refine lv_iconst (v := nI 0) S.1 S.2.1 dX12_areSame_9 (by decide) ?_
    subst hQ
    exact j_iret (u := w_) S hr (rfl) hK hW dX12_areSame_10 ⟨by decide, by decide⟩ (⟨rfl, hU, gO_⟩)
/-- areSame, b2 -/
theorem c_X12_areSame_b2 (l : Launch) (D : va_G) (cy : Nat → ClassId) {w : va_W} (ad : Nat → Nat) (th n nc : Nat) (kv : Nat → Int32) (j y : Nat) (gO : w[55]? = some (ad 55, .inr (11, [.int (nI th), .ref (ad 56), .ref (ad 57), .ref (ad 58), .ref (ad 59), .ref (ad 60), .ref (ad 61), .ref (ad 62), .ref (ad 63), .ref (ad 64), .ref (ad 65), .int (nI n), .int (nI nc), .ref (ad 66), .ref (ad 71), .ref (ad 72), .ref (ad 73)]))) (gV : w[71]? = some (ad 71, .inl (cy 0, 4, .inl kv))) (hj : j < 4) (hy : y < 4) (hkv : kv j < 0 ∨ kv y < 0) : jM l yX12_areSame (jws yX12_areSame cX12_areSame 5 (some .boolean)) (jR 3 0 0) D cy w [.ref (ad 55), .int (nI j), .int (nI y)] 0 0 (fun vv uu => vv = some (.int (bI false)) ∧ jU w uu [55] ∧ uu[55]? = some (ad 55, .inr (11, [.int (nI 2), .ref (ad 56), .ref (ad 57), .ref (ad 58), .ref (ad 59), .ref (ad 60), .ref (ad 61), .ref (ad 62), .ref (ad 63), .ref (ad 64), .ref (ad 65), .int (nI n), .int (nI nc), .ref (ad 66), .ref (ad 71), .ref (ad 72), .ref (ad 73)]))) := by
  refine j_of (by decide) rfl (Nat.le_of_ble_eq_true rfl) ?_
  intro p e s m args below meth c A ls Q hQ S hr hK hA H locs hW hl
  have hl : lv_has ls 5 [(0, .ref (ad 55)), (1, .int (nI j)), (2, .int (nI y))] := hl
  refine lv_aload_n S.1 S.2.1 dX12_areSame_0 rfl (lv_at hl 0 rfl) ?_
  refine lv_iload_n S.1 S.2.1 dX12_areSame_1 rfl (lv_at hl 1 rfl) ?_
  refine lv_iload_n S.1 S.2.1 dX12_areSame_2 rfl (lv_at hl 2 rfl) ?_
  refine j_callV (k := 55) (ci := 11) (q := (RX12, TX12, 17)) (As := [.int (nI j), .int (nI y)]) (rest := []) S hK hA hW (c_X12_cannotCompare_b2 l D cy ad th n nc kv j y gO gV   (by omega) (by omega) (hkv)) (jgo wm_X12_172) yk_X12_cannotCompare gO rfl rfl ⟨⟨rfl, rfl⟩, by decide, by decide⟩ rfl hl.1 rfl (Nat.le_of_ble_eq_true rfl) dX12_areSame_3 ⟨Nat.le_of_ble_eq_true rfl, Nat.le_of_ble_eq_true rfl⟩ (fun v w_ H locs hp hW => ?_)
  obtain ⟨rfl, hU1, hN1⟩ := hp
  have hU : jU w w_ [55] := jU.mono hU1 (by decide)
  have gO_ : w_[55]? = some (ad 55, .inr (11, [.int (nI 2), .ref (ad 56), .ref (ad 57), .ref (ad 58), .ref (ad 59), .ref (ad 60), .ref (ad 61), .ref (ad 62), .ref (ad 63), .ref (ad 64), .ref (ad 65), .int (nI n), .int (nI nc), .ref (ad 66), .ref (ad 71), .ref (ad 72), .ref (ad 73)])) := hN1
  clear hU1 hN1
  refine W.eq (g2 := F0 m 6 ls [.int (bI true)]) rfl ?_
  refine jb_if_eq (tgt := 11) S dX12_areSame_6 (by decide) (fun c_6 => ?_) (fun c_6 => ?_)
  · exact absurd c_6 (by decide)
  · refine lv_iconst (v := nI 0) S.1 S.2.1 dX12_areSame_9 (by decide) ?_
    subst hQ
    exact j_iret (u := w_) S hr (rfl) hK hW dX12_areSame_10 ⟨by decide, by decide⟩ (⟨rfl, hU, gO_⟩)
/-- areSame, b3 -/
theorem c_X12_areSame_b3 (l : Launch) (D : va_G) (cy : Nat → ClassId) {w : va_W} (ad : Nat → Nat) (th n nc : Nat) (kv : Nat → Int32) (j y : Nat) (gO : w[55]? = some (ad 55, .inr (11, [.int (nI th), .ref (ad 56), .ref (ad 57), .ref (ad 58), .ref (ad 59), .ref (ad 60), .ref (ad 61), .ref (ad 62), .ref (ad 63), .ref (ad 64), .ref (ad 65), .int (nI n), .int (nI nc), .ref (ad 66), .ref (ad 71), .ref (ad 72), .ref (ad 73)]))) (gV : w[71]? = some (ad 71, .inl (cy 0, 4, .inl kv))) (hj : j < 4) (hy : y < 4) (hkv : ¬ kv j < 0) (hkw : ¬ kv y < 0) (hne : kv j ≠ kv y) : jM l yX12_areSame (jws yX12_areSame cX12_areSame 5 (some .boolean)) (jR 3 0 0) D cy w [.ref (ad 55), .int (nI j), .int (nI y)] 0 0 (fun vv uu => vv = some (.int (bI false)) ∧ jU w uu [55] ∧ uu[55]? = some (ad 55, .inr (11, [.int (nI 3), .ref (ad 56), .ref (ad 57), .ref (ad 58), .ref (ad 59), .ref (ad 60), .ref (ad 61), .ref (ad 62), .ref (ad 63), .ref (ad 64), .ref (ad 65), .int (nI n), .int (nI nc), .ref (ad 66), .ref (ad 71), .ref (ad 72), .ref (ad 73)]))) := by
  refine j_of (by decide) rfl (Nat.le_of_ble_eq_true rfl) ?_
  intro p e s m args below meth c A ls Q hQ S hr hK hA H locs hW hl
  have hl : lv_has ls 5 [(0, .ref (ad 55)), (1, .int (nI j)), (2, .int (nI y))] := hl
  refine lv_aload_n S.1 S.2.1 dX12_areSame_0 rfl (lv_at hl 0 rfl) ?_
  refine lv_iload_n S.1 S.2.1 dX12_areSame_1 rfl (lv_at hl 1 rfl) ?_
  refine lv_iload_n S.1 S.2.1 dX12_areSame_2 rfl (lv_at hl 2 rfl) ?_
  refine j_callV (k := 55) (ci := 11) (q := (RX12, TX12, 17)) (As := [.int (nI j), .int (nI y)]) (rest := []) S hK hA hW (c_X12_cannotCompare_b3 l D cy ad th n nc kv j y gO gV   (by omega) (by omega) (hkv) (hkw) (hne)) (jgo wm_X12_172) yk_X12_cannotCompare gO rfl rfl ⟨⟨rfl, rfl⟩, by decide, by decide⟩ rfl hl.1 rfl (Nat.le_of_ble_eq_true rfl) dX12_areSame_3 ⟨Nat.le_of_ble_eq_true rfl, Nat.le_of_ble_eq_true rfl⟩ (fun v w_ H locs hp hW => ?_)
  obtain ⟨rfl, hU1, hN1⟩ := hp
  have hU : jU w w_ [55] := jU.mono hU1 (by decide)
  have gO_ : w_[55]? = some (ad 55, .inr (11, [.int (nI 3), .ref (ad 56), .ref (ad 57), .ref (ad 58), .ref (ad 59), .ref (ad 60), .ref (ad 61), .ref (ad 62), .ref (ad 63), .ref (ad 64), .ref (ad 65), .int (nI n), .int (nI nc), .ref (ad 66), .ref (ad 71), .ref (ad 72), .ref (ad 73)])) := hN1
  clear hU1 hN1
  refine W.eq (g2 := F0 m 6 ls [.int (bI true)]) rfl ?_
  refine jb_if_eq (tgt := 11) S dX12_areSame_6 (by decide) (fun c_6 => ?_) (fun c_6 => ?_)
  · exact absurd c_6 (by decide)
  · refine lv_iconst (v := nI 0) S.1 S.2.1 dX12_areSame_9 (by decide) ?_
    subst hQ
    exact j_iret (u := w_) S hr (rfl) hK hW dX12_areSame_10 ⟨by decide, by decide⟩ (⟨rfl, hU, gO_⟩)
/-- isWithin -/
theorem c_X12_isWithin_ok (l : Launch) (D : va_G) (cy : Nat → ClassId) {w : va_W} (ad : Nat → Nat) (th n nc : Nat) (kv : Nat → Int32) (gx : Nat → Nat → Bool) (j y : Nat) (gO : w[55]? = some (ad 55, .inr (11, [.int (nI th), .ref (ad 56), .ref (ad 57), .ref (ad 58), .ref (ad 59), .ref (ad 60), .ref (ad 61), .ref (ad 62), .ref (ad 63), .ref (ad 64), .ref (ad 65), .int (nI n), .int (nI nc), .ref (ad 66), .ref (ad 71), .ref (ad 72), .ref (ad 73)]))) (gK : w[66]? = some (ad 66, .inl (cy 6, 4, .inr (.inr (.inr (.inr (kpF ad))))))) (gV : w[71]? = some (ad 71, .inl (cy 0, 4, .inl kv))) (gX : w[67 + j]? = some (ad (67 + j), .inl (cy 3, 1024, .inl (bf (gx j))))) (gY : w[67 + y]? = some (ad (67 + y), .inl (cy 3, 1024, .inl (bf (gx y))))) (hj : j < 4) (hy : y < 4) (hkv : ¬ kv j < 0) (hkw : kv y = kv j) : jM l yX12_isWithin (jws yX12_isWithin cX12_isWithin 5 (some .boolean)) (jR 3 0 0) D cy w [.ref (ad 55), .int (nI j), .int (nI y)] 0 0 (fun vv uu => vv = some (.int (bI (allB (fun z => !gx j z || gx y z) 1024))) ∧ jU w uu [55] ∧ uu[55]? = some (ad 55, .inr (11, [.int (nI 0), .ref (ad 56), .ref (ad 57), .ref (ad 58), .ref (ad 59), .ref (ad 60), .ref (ad 61), .ref (ad 62), .ref (ad 63), .ref (ad 64), .ref (ad 65), .int (nI n), .int (nI nc), .ref (ad 66), .ref (ad 71), .ref (ad 72), .ref (ad 73)]))) := by
  refine j_of (by decide) rfl (Nat.le_of_ble_eq_true rfl) ?_
  intro p e s m args below meth c A ls Q hQ S hr hK hA H locs hW hl
  have hl : lv_has ls 5 [(0, .ref (ad 55)), (1, .int (nI j)), (2, .int (nI y))] := hl
  refine lv_aload_n S.1 S.2.1 dX12_isWithin_0 rfl (lv_at hl 0 rfl) ?_
  refine lv_iload_n S.1 S.2.1 dX12_isWithin_1 rfl (lv_at hl 1 rfl) ?_
  refine lv_iload_n S.1 S.2.1 dX12_isWithin_2 rfl (lv_at hl 2 rfl) ?_
  refine j_callV (k := 55) (ci := 11) (q := (RX12, TX12, 17)) (As := [.int (nI j), .int (nI y)]) (rest := []) S hK hA hW (c_X12_cannotCompare_ok l D cy ad th n nc kv j y gO gV   (by omega) (by omega) (hkv) (hkw)) (jgo wm_X12_172) yk_X12_cannotCompare gO rfl rfl ⟨⟨rfl, rfl⟩, by decide, by decide⟩ rfl hl.1 rfl (Nat.le_of_ble_eq_true rfl) dX12_isWithin_3 ⟨Nat.le_of_ble_eq_true rfl, Nat.le_of_ble_eq_true rfl⟩ (fun v w_ H locs hp hW => ?_)
  obtain ⟨rfl, hU1, hN1⟩ := hp
  have hU : jU w w_ [55] := jU.mono hU1 (by decide)
  have gO_ : w_[55]? = some (ad 55, .inr (11, [.int (nI 0), .ref (ad 56), .ref (ad 57), .ref (ad 58), .ref (ad 59), .ref (ad 60), .ref (ad 61), .ref (ad 62), .ref (ad 63), .ref (ad 64), .ref (ad 65), .int (nI n), .int (nI nc), .ref (ad 66), .ref (ad 71), .ref (ad 72), .ref (ad 73)])) := hN1
  clear hU1 hN1
  refine W.eq (g2 := F0 m 6 ls [.int (bI false)]) rfl ?_
  refine jb_if_eq (tgt := 11) S dX12_isWithin_6 (by decide) (fun c_6 => ?_) (fun c_6 => ?_)
  · refine lv_iconst (v := nI 1) S.1 S.2.1 dX12_isWithin_11 (by decide) ?_
    refine lv_istore_n (lv' := [(3, .int (nI 1)), (0, .ref (ad 55)), (1, .int (nI j)), (2, .int (nI y))]) S.1 S.2.1 dX12_isWithin_12 rfl hl (by decide) rfl (fun ls hl => ?_)
    refine lv_iconst (v := nI 0) S.1 S.2.1 dX12_isWithin_13 (by decide) ?_
    refine lv_istore (lv' := [(4, .int (nI 0)), (3, .int (nI 1)), (0, .ref (ad 55)), (1, .int (nI j)), (2, .int (nI y))]) S.1 S.2.1 dX12_isWithin_14 hl (by decide) rfl (fun ls hl => ?_)
    have L16 : ∀ (k : Nat) (a1 : Nat), 1024 - a1 = k → (a1 ≤ 1024) → ∀ (w_ : va_W), jU w w_ [55] → (w_[55]? = some (ad 55, .inr (11, [.int (nI 0), .ref (ad 56), .ref (ad 57), .ref (ad 58), .ref (ad 59), .ref (ad 60), .ref (ad 61), .ref (ad 62), .ref (ad 63), .ref (ad 64), .ref (ad 65), .int (nI n), .int (nI nc), .ref (ad 66), .ref (ad 71), .ref (ad 72), .ref (ad 73)]))) → ∀ (H : Heap) (locs : List Loc) (ls : Array Slot), jW D A s.heap w_ H locs → lv_has ls 5 [(0, .ref (ad 55)), (1, .int (nI j)), (2, .int (nI y)), (3, .int (bI (allB (fun z => !gx j z || gx y z) a1))), (4, .int (nI a1))] → W p l e (jR 3 0 0) s m args below meth c H locs 0 0 Q (F0 m 16 ls []) := by
      intro k
      induction k using Nat.strongRecOn with
      | ind k ih16 =>
      intro a1 hk ha1 w_ hU gO_ H locs ls hW hl
      subst hk
      refine lv_iload S.1 S.2.1 dX12_isWithin_16 (lv_at hl 4 rfl) ?_
      refine lv_sipush (v := nI 1024) S.1 S.2.1 dX12_isWithin_18 (by decide) ?_
      refine jn_cmp_ge (tgt := 62) S (by omega) (by omega) dX12_isWithin_21 (by decide) (fun c_21 => ?_) (fun c_21 => ?_)
      · refine lv_iload_n S.1 S.2.1 dX12_isWithin_62 rfl (lv_at hl 3 rfl) ?_
        subst hQ
        refine j_iret (u := w_) S hr (bI_nar _) hK hW dX12_isWithin_63 ⟨by decide, by decide⟩ ?_
        have ea : a1 = 1024 := by omega
        subst ea
        exact ⟨rfl, hU, gO_⟩
      · refine lv_iload_n S.1 S.2.1 dX12_isWithin_24 rfl (lv_at hl 3 rfl) ?_
        refine lv_aload_n S.1 S.2.1 dX12_isWithin_25 rfl (lv_at hl 0 rfl) ?_
        refine j_get (ci := 11) (C := RX12) (T := TX12) (N := 17) (v := .ref (ad 66)) S (fun w h => List.mem_cons_of_mem _ (inG12 w h)) hK hW gO_ rfl 13 (by decide) (List.mem_cons_of_mem _ wfl_X12_52) (fun _ h9 => h9) rfl dX12_isWithin_26 ?_
        refine lv_iload_n S.1 S.2.1 dX12_isWithin_29 rfl (lv_at hl 1 rfl) ?_
        refine j_aaldB (x := .ref (ad (67 + j))) S hK hW (hU.get gK (by decide)) (vp_in_nI (by omega) (by omega)) (nI_clamp (by omega)) (kp_at hj) dX12_isWithin_30 ?_
        refine lv_iload S.1 S.2.1 dX12_isWithin_31 (lv_at hl 4 rfl) ?_
        refine j_zald (x := bI (gx j a1)) S hK hW (hU.get gX (by simp; omega)) (vp_in_nI (by omega) (by omega)) (nI_clamp (by omega)) (rfl) dX12_isWithin_33 ?_
        refine jb_if_eq (tgt := 49) S dX12_isWithin_34 (by decide) (fun c_34 => ?_) (fun c_34 => ?_)
        · refine lv_iconst (v := nI 1) S.1 S.2.1 dX12_isWithin_49 (by decide) ?_
          refine lv_goto (tgt := 54) S.1 S.2.1 dX12_isWithin_50 (by decide) ?_
          refine lv_iand S.1 S.2.1 dX12_isWithin_54 ?_
          refine lv_topi_to (y := bI (allB (fun z => !gx j z || gx y z) (a1 + 1))) (by first | exact allB_a1 (by show (!gx j a1 || gx y a1) = true; rw [c_34, c_46]; rfl) | exact allB_a1 (by show (!gx j a1 || gx y a1) = true; rw [c_34]; rfl) | exact allB_a0 (by show (!gx j a1 || gx y a1) = false; rw [c_34, c_46]; rfl)) ?_
          refine lv_istore_n (lv' := [(3, .int (bI (allB (fun z => !gx j z || gx y z) (a1 + 1)))), (0, .ref (ad 55)), (1, .int (nI j)), (2, .int (nI y)), (4, .int (nI a1))]) S.1 S.2.1 dX12_isWithin_55 rfl hl (by decide) rfl (fun ls hl => ?_)
          refine lv_iinc (v := nI (a1 + 1)) (lv' := [(4, .int (nI (a1 + 1))), (3, .int (bI (allB (fun z => !gx j z || gx y z) (a1 + 1)))), (0, .ref (ad 55)), (1, .int (nI j)), (2, .int (nI y))]) S.1 S.2.1 dX12_isWithin_56 hl (k := 4) rfl (nI_add _ 1) (by decide) rfl (fun ls hl => ?_)
          refine lv_goto (tgt := 16) S.1 S.2.1 dX12_isWithin_59 (by decide) ?_
          exact ih16 _ (by omega) (a1 + 1) rfl (by omega) w_ hU gO_ H locs ls hW (lv_sub hl [2, 3, 4, 1, 0] rfl)
        · refine lv_aload_n S.1 S.2.1 dX12_isWithin_37 rfl (lv_at hl 0 rfl) ?_
          refine j_get (ci := 11) (C := RX12) (T := TX12) (N := 17) (v := .ref (ad 66)) S (fun w h => List.mem_cons_of_mem _ (inG12 w h)) hK hW gO_ rfl 13 (by decide) (List.mem_cons_of_mem _ wfl_X12_52) (fun _ h9 => h9) rfl dX12_isWithin_38 ?_
          refine lv_iload_n S.1 S.2.1 dX12_isWithin_41 rfl (lv_at hl 2 rfl) ?_
          refine j_aaldB (x := .ref (ad (67 + y))) S hK hW (hU.get gK (by decide)) (vp_in_nI (by omega) (by omega)) (nI_clamp (by omega)) (kp_at hy) dX12_isWithin_42 ?_
          refine lv_iload S.1 S.2.1 dX12_isWithin_43 (lv_at hl 4 rfl) ?_
          refine j_zald (x := bI (gx y a1)) S hK hW (hU.get gY (by simp; omega)) (vp_in_nI (by omega) (by omega)) (nI_clamp (by omega)) (rfl) dX12_isWithin_45 ?_
          refine jb_if_eq (tgt := 53) S dX12_isWithin_46 (by decide) (fun c_46 => ?_) (fun c_46 => ?_)
          · refine lv_iconst (v := nI 0) S.1 S.2.1 dX12_isWithin_53 (by decide) ?_
            refine lv_iand S.1 S.2.1 dX12_isWithin_54 ?_
            refine lv_topi_to (y := bI (allB (fun z => !gx j z || gx y z) (a1 + 1))) (by first | exact allB_a1 (by show (!gx j a1 || gx y a1) = true; rw [c_34, c_46]; rfl) | exact allB_a1 (by show (!gx j a1 || gx y a1) = true; rw [c_34]; rfl) | exact allB_a0 (by show (!gx j a1 || gx y a1) = false; rw [c_34, c_46]; rfl)) ?_
            refine lv_istore_n (lv' := [(3, .int (bI (allB (fun z => !gx j z || gx y z) (a1 + 1)))), (0, .ref (ad 55)), (1, .int (nI j)), (2, .int (nI y)), (4, .int (nI a1))]) S.1 S.2.1 dX12_isWithin_55 rfl hl (by decide) rfl (fun ls hl => ?_)
            refine lv_iinc (v := nI (a1 + 1)) (lv' := [(4, .int (nI (a1 + 1))), (3, .int (bI (allB (fun z => !gx j z || gx y z) (a1 + 1)))), (0, .ref (ad 55)), (1, .int (nI j)), (2, .int (nI y))]) S.1 S.2.1 dX12_isWithin_56 hl (k := 4) rfl (nI_add _ 1) (by decide) rfl (fun ls hl => ?_)
            refine lv_goto (tgt := 16) S.1 S.2.1 dX12_isWithin_59 (by decide) ?_
            exact ih16 _ (by omega) (a1 + 1) rfl (by omega) w_ hU gO_ H locs ls hW (lv_sub hl [2, 3, 4, 1, 0] rfl)
          · refine lv_iconst (v := nI 1) S.1 S.2.1 dX12_isWithin_49 (by decide) ?_
            refine lv_goto (tgt := 54) S.1 S.2.1 dX12_isWithin_50 (by decide) ?_
            refine lv_iand S.1 S.2.1 dX12_isWithin_54 ?_
            refine lv_topi_to (y := bI (allB (fun z => !gx j z || gx y z) (a1 + 1))) (by first | exact allB_a1 (by show (!gx j a1 || gx y a1) = true; rw [c_34, c_46]; rfl) | exact allB_a1 (by show (!gx j a1 || gx y a1) = true; rw [c_34]; rfl) | exact allB_a0 (by show (!gx j a1 || gx y a1) = false; rw [c_34, c_46]; rfl)) ?_
            refine lv_istore_n (lv' := [(3, .int (bI (allB (fun z => !gx j z || gx y z) (a1 + 1)))), (0, .ref (ad 55)), (1, .int (nI j)), (2, .int (nI y)), (4, .int (nI a1))]) S.1 S.2.1 dX12_isWithin_55 rfl hl (by decide) rfl (fun ls hl => ?_)
            refine lv_iinc (v := nI (a1 + 1)) (lv' := [(4, .int (nI (a1 + 1))), (3, .int (bI (allB (fun z => !gx j z || gx y z) (a1 + 1)))), (0, .ref (ad 55)), (1, .int (nI j)), (2, .int (nI y))]) S.1 S.2.1 dX12_isWithin_56 hl (k := 4) rfl (nI_add _ 1) (by decide) rfl (fun ls hl => ?_)
            refine lv_goto (tgt := 16) S.1 S.2.1 dX12_isWithin_59 (by decide) ?_
            exact ih16 _ (by omega) (a1 + 1) rfl (by omega) w_ hU gO_ H locs ls hW (lv_sub hl [2, 3, 4, 1, 0] rfl)
    exact L16 _ 0 rfl (Nat.zero_le _) w_ hU gO_ H locs ls hW (lv_sub hl [2, 3, 4, 1, 0] rfl)
  · exact absurd c_6 (by decide)
/-- isWithin, b1 -/
theorem c_X12_isWithin_b1 (l : Launch) (D : va_G) (cy : Nat → ClassId) {w : va_W} (ad : Nat → Nat) (th n nc : Nat) (v u1 : Int32) (gO : w[55]? = some (ad 55, .inr (11, [.int (nI th), .ref (ad 56), .ref (ad 57), .ref (ad 58), .ref (ad 59), .ref (ad 60), .ref (ad 61), .ref (ad 62), .ref (ad 63), .ref (ad 64), .ref (ad 65), .int (nI n), .int (nI nc), .ref (ad 66), .ref (ad 71), .ref (ad 72), .ref (ad 73)]))) (hv : vB v 4 = false ∨ vB u1 4 = false) : jM l yX12_isWithin (jws yX12_isWithin cX12_isWithin 5 (some .boolean)) (jR 3 0 0) D cy w [.ref (ad 55), .int v, .int u1] 0 0 (fun vv uu => vv = some (.int (bI false)) ∧ jU w uu [55] ∧ uu[55]? = some (ad 55, .inr (11, [.int (nI 1), .ref (ad 56), .ref (ad 57), .ref (ad 58), .ref (ad 59), .ref (ad 60), .ref (ad 61), .ref (ad 62), .ref (ad 63), .ref (ad 64), .ref (ad 65), .int (nI n), .int (nI nc), .ref (ad 66), .ref (ad 71), .ref (ad 72), .ref (ad 73)]))) := by
  refine j_of (by decide) rfl (Nat.le_of_ble_eq_true rfl) ?_
  intro p e s m args below meth c A ls Q hQ S hr hK hA H locs hW hl
  have hl : lv_has ls 5 [(0, .ref (ad 55)), (1, .int v), (2, .int u1)] := hl
  refine lv_aload_n S.1 S.2.1 dX12_isWithin_0 rfl (lv_at hl 0 rfl) ?_
  refine lv_iload_n S.1 S.2.1 dX12_isWithin_1 rfl (lv_at hl 1 rfl) ?_
  refine lv_iload_n S.1 S.2.1 dX12_isWithin_2 rfl (lv_at hl 2 rfl) ?_
  refine j_callV (k := 55) (ci := 11) (q := (RX12, TX12, 17)) (As := [.int v, .int u1]) (rest := []) S hK hA hW (c_X12_cannotCompare_b1 l D cy ad th n nc v u1 gO   (hv)) (jgo wm_X12_172) yk_X12_cannotCompare gO rfl rfl ⟨⟨rfl, rfl⟩, by decide, by decide⟩ rfl hl.1 rfl (Nat.le_of_ble_eq_true rfl) dX12_isWithin_3 ⟨Nat.le_of_ble_eq_true rfl, Nat.le_of_ble_eq_true rfl⟩ (fun v w_ H locs hp hW => ?_)
  obtain ⟨rfl, hU1, hN1⟩ := hp
  have hU : jU w w_ [55] := jU.mono hU1 (by decide)
  have gO_ : w_[55]? = some (ad 55, .inr (11, [.int (nI 1), .ref (ad 56), .ref (ad 57), .ref (ad 58), .ref (ad 59), .ref (ad 60), .ref (ad 61), .ref (ad 62), .ref (ad 63), .ref (ad 64), .ref (ad 65), .int (nI n), .int (nI nc), .ref (ad 66), .ref (ad 71), .ref (ad 72), .ref (ad 73)])) := hN1
  clear hU1 hN1
  refine W.eq (g2 := F0 m 6 ls [.int (bI true)]) rfl ?_
  refine jb_if_eq (tgt := 11) S dX12_isWithin_6 (by decide) (fun c_6 => ?_) (fun c_6 => ?_)
  · exact absurd c_6 (by decide)
  · refine lv_iconst (v := nI 0) S.1 S.2.1 dX12_isWithin_9 (by decide) ?_
    subst hQ
    exact j_iret (u := w_) S hr (rfl) hK hW dX12_isWithin_10 ⟨by decide, by decide⟩ (⟨rfl, hU, gO_⟩)
/-- isWithin, b2 -/
theorem c_X12_isWithin_b2 (l : Launch) (D : va_G) (cy : Nat → ClassId) {w : va_W} (ad : Nat → Nat) (th n nc : Nat) (kv : Nat → Int32) (j y : Nat) (gO : w[55]? = some (ad 55, .inr (11, [.int (nI th), .ref (ad 56), .ref (ad 57), .ref (ad 58), .ref (ad 59), .ref (ad 60), .ref (ad 61), .ref (ad 62), .ref (ad 63), .ref (ad 64), .ref (ad 65), .int (nI n), .int (nI nc), .ref (ad 66), .ref (ad 71), .ref (ad 72), .ref (ad 73)]))) (gV : w[71]? = some (ad 71, .inl (cy 0, 4, .inl kv))) (hj : j < 4) (hy : y < 4) (hkv : kv j < 0 ∨ kv y < 0) : jM l yX12_isWithin (jws yX12_isWithin cX12_isWithin 5 (some .boolean)) (jR 3 0 0) D cy w [.ref (ad 55), .int (nI j), .int (nI y)] 0 0 (fun vv uu => vv = some (.int (bI false)) ∧ jU w uu [55] ∧ uu[55]? = some (ad 55, .inr (11, [.int (nI 2), .ref (ad 56), .ref (ad 57), .ref (ad 58), .ref (ad 59), .ref (ad 60), .ref (ad 61), .ref (ad 62), .ref (ad 63), .ref (ad 64), .ref (ad 65), .int (nI n), .int (nI nc), .ref (ad 66), .ref (ad 71), .ref (ad 72), .ref (ad 73)]))) := by
  refine j_of (by decide) rfl (Nat.le_of_ble_eq_true rfl) ?_
  intro p e s m args below meth c A ls Q hQ S hr hK hA H locs hW hl
  have hl : lv_has ls 5 [(0, .ref (ad 55)), (1, .int (nI j)), (2, .int (nI y))] := hl
  refine lv_aload_n S.1 S.2.1 dX12_isWithin_0 rfl (lv_at hl 0 rfl) ?_
  refine lv_iload_n S.1 S.2.1 dX12_isWithin_1 rfl (lv_at hl 1 rfl) ?_
  refine lv_iload_n S.1 S.2.1 dX12_isWithin_2 rfl (lv_at hl 2 rfl) ?_
  refine j_callV (k := 55) (ci := 11) (q := (RX12, TX12, 17)) (As := [.int (nI j), .int (nI y)]) (rest := []) S hK hA hW (c_X12_cannotCompare_b2 l D cy ad th n nc kv j y gO gV   (by omega) (by omega) (hkv)) (jgo wm_X12_172) yk_X12_cannotCompare gO rfl rfl ⟨⟨rfl, rfl⟩, by decide, by decide⟩ rfl hl.1 rfl (Nat.le_of_ble_eq_true rfl) dX12_isWithin_3 ⟨Nat.le_of_ble_eq_true rfl, Nat.le_of_ble_eq_true rfl⟩ (fun v w_ H locs hp hW => ?_)
  obtain ⟨rfl, hU1, hN1⟩ := hp
  have hU : jU w w_ [55] := jU.mono hU1 (by decide)
  have gO_ : w_[55]? = some (ad 55, .inr (11, [.int (nI 2), .ref (ad 56), .ref (ad 57), .ref (ad 58), .ref (ad 59), .ref (ad 60), .ref (ad 61), .ref (ad 62), .ref (ad 63), .ref (ad 64), .ref (ad 65), .int (nI n), .int (nI nc), .ref (ad 66), .ref (ad 71), .ref (ad 72), .ref (ad 73)])) := hN1
  clear hU1 hN1
  refine W.eq (g2 := F0 m 6 ls [.int (bI true)]) rfl ?_
  refine jb_if_eq (tgt := 11) S dX12_isWithin_6 (by decide) (fun c_6 => ?_) (fun c_6 => ?_)
  · exact absurd c_6 (by decide)
  · refine lv_iconst (v := nI 0) S.1 S.2.1 dX12_isWithin_9 (by decide) ?_
    subst hQ
    exact j_iret (u := w_) S hr (rfl) hK hW dX12_isWithin_10 ⟨by decide, by decide⟩ (⟨rfl, hU, gO_⟩)
/-- isWithin, b3 -/
theorem c_X12_isWithin_b3 (l : Launch) (D : va_G) (cy : Nat → ClassId) {w : va_W} (ad : Nat → Nat) (th n nc : Nat) (kv : Nat → Int32) (j y : Nat) (gO : w[55]? = some (ad 55, .inr (11, [.int (nI th), .ref (ad 56), .ref (ad 57), .ref (ad 58), .ref (ad 59), .ref (ad 60), .ref (ad 61), .ref (ad 62), .ref (ad 63), .ref (ad 64), .ref (ad 65), .int (nI n), .int (nI nc), .ref (ad 66), .ref (ad 71), .ref (ad 72), .ref (ad 73)]))) (gV : w[71]? = some (ad 71, .inl (cy 0, 4, .inl kv))) (hj : j < 4) (hy : y < 4) (hkv : ¬ kv j < 0) (hkw : ¬ kv y < 0) (hne : kv j ≠ kv y) : jM l yX12_isWithin (jws yX12_isWithin cX12_isWithin 5 (some .boolean)) (jR 3 0 0) D cy w [.ref (ad 55), .int (nI j), .int (nI y)] 0 0 (fun vv uu => vv = some (.int (bI false)) ∧ jU w uu [55] ∧ uu[55]? = some (ad 55, .inr (11, [.int (nI 3), .ref (ad 56), .ref (ad 57), .ref (ad 58), .ref (ad 59), .ref (ad 60), .ref (ad 61), .ref (ad 62), .ref (ad 63), .ref (ad 64), .ref (ad 65), .int (nI n), .int (nI nc), .ref (ad 66), .ref (ad 71), .ref (ad 72), .ref (ad 73)]))) := by
  refine j_of (by decide) rfl (Nat.le_of_ble_eq_true rfl) ?_
  intro p e s m args below meth c A ls Q hQ S hr hK hA H locs hW hl
  have hl : lv_has ls 5 [(0, .ref (ad 55)), (1, .int (nI j)), (2, .int (nI y))] := hl
  refine lv_aload_n S.1 S.2.1 dX12_isWithin_0 rfl (lv_at hl 0 rfl) ?_
  refine lv_iload_n S.1 S.2.1 dX12_isWithin_1 rfl (lv_at hl 1 rfl) ?_
  refine lv_iload_n S.1 S.2.1 dX12_isWithin_2 rfl (lv_at hl 2 rfl) ?_
  refine j_callV (k := 55) (ci := 11) (q := (RX12, TX12, 17)) (As := [.int (nI j), .int (nI y)]) (rest := []) S hK hA hW (c_X12_cannotCompare_b3 l D cy ad th n nc kv j y gO gV   (by omega) (by omega) (hkv) (hkw) (hne)) (jgo wm_X12_172) yk_X12_cannotCompare gO rfl rfl ⟨⟨rfl, rfl⟩, by decide, by decide⟩ rfl hl.1 rfl (Nat.le_of_ble_eq_true rfl) dX12_isWithin_3 ⟨Nat.le_of_ble_eq_true rfl, Nat.le_of_ble_eq_true rfl⟩ (fun v w_ H locs hp hW => ?_)
  obtain ⟨rfl, hU1, hN1⟩ := hp
  have hU : jU w w_ [55] := jU.mono hU1 (by decide)
  have gO_ : w_[55]? = some (ad 55, .inr (11, [.int (nI 3), .ref (ad 56), .ref (ad 57), .ref (ad 58), .ref (ad 59), .ref (ad 60), .ref (ad 61), .ref (ad 62), .ref (ad 63), .ref (ad 64), .ref (ad 65), .int (nI n), .int (nI nc), .ref (ad 66), .ref (ad 71), .ref (ad 72), .ref (ad 73)])) := hN1
  clear hU1 hN1
  refine W.eq (g2 := F0 m 6 ls [.int (bI true)]) rfl ?_
  refine jb_if_eq (tgt := 11) S dX12_isWithin_6 (by decide) (fun c_6 => ?_) (fun c_6 => ?_)
  · exact absurd c_6 (by decide)
  · refine lv_iconst (v := nI 0) S.1 S.2.1 dX12_isWithin_9 (by decide) ?_
    subst hQ
    exact j_iret (u := w_) S hr (rfl) hK hW dX12_isWithin_10 ⟨by decide, by decide⟩ (⟨rfl, hU, gO_⟩)
