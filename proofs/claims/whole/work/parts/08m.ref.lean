/-! THE REFERENCE: nodes of rows kept (laid by wip/whole/tools, from the specs there) -/
/-- nodesOf -/
theorem c_X12_nodesOf_ok (l : Launch) (D : va_G) (cy : Nat → ClassId) {w : va_W} (ad : Nat → Nat) (th n nc : Nat) (od : Nat → Nat) (rb tu : Nat → Bool) (kv : Nat → Int32) (gx : Nat → Nat → Bool) (j : Nat) (gO : w[55]? = some (ad 55, .inr (11, [.int (nI th), .ref (ad 56), .ref (ad 57), .ref (ad 58), .ref (ad 59), .ref (ad 60), .ref (ad 61), .ref (ad 62), .ref (ad 63), .ref (ad 64), .ref (ad 65), .int (nI n), .int (nI nc), .ref (ad 66), .ref (ad 71), .ref (ad 72), .ref (ad 73)]))) (gD : w[59]? = some (ad 59, .inl (cy 0, 10, .inl (nf od)))) (gR : w[72]? = some (ad 72, .inl (cy 3, 1024, .inl (bf rb)))) (gU : w[73]? = some (ad 73, .inl (cy 3, 1024, .inl (bf tu)))) (gK : w[66]? = some (ad 66, .inl (cy 6, 4, .inr (.inr (.inr (.inr (kpF ad))))))) (gV : w[71]? = some (ad 71, .inl (cy 0, 4, .inl kv))) (gX : w[67 + j]? = some (ad (67 + j), .inl (cy 3, 1024, .inl (bf (gx j))))) (hn : n ≤ 10) (hod : ∀ j, od j < 10) (hj : j < 4) (hkv : kv j = nI n) : jM l yX12_nodesOf (jws yX12_nodesOf cX12_nodesOf 2 (some .int)) (jR 5 0 0) D cy w [.ref (ad 55), .int (nI j)] 0 0 (fun vv uu => ∃ (rb1 : Nat → Bool), ∃ (tu1 : Nat → Bool), vv = some (.int (nI (sumN (nodesB (fun d => (gx j) (layP n od d n)) n) n))) ∧ jU w uu [55, 72, 73] ∧ uu[55]? = some (ad 55, .inr (11, [.int (nI 0), .ref (ad 56), .ref (ad 57), .ref (ad 58), .ref (ad 59), .ref (ad 60), .ref (ad 61), .ref (ad 62), .ref (ad 63), .ref (ad 64), .ref (ad 65), .int (nI n), .int (nI nc), .ref (ad 66), .ref (ad 71), .ref (ad 72), .ref (ad 73)])) ∧ uu[72]? = some (ad 72, .inl (cy 3, 1024, .inl (bf rb1))) ∧ uu[73]? = some (ad 73, .inl (cy 3, 1024, .inl (bf tu1)))) := by
  refine j_of (by decide) rfl (Nat.le_of_ble_eq_true rfl) ?_
  intro p e s m args below meth c A ls Q hQ S hr hK hA H locs hW hl
  have hl : lv_has ls 2 [(0, .ref (ad 55)), (1, .int (nI j))] := hl
  refine lv_aload_n S.1 S.2.1 dX12_nodesOf_0 rfl (lv_at hl 0 rfl) ?_
  refine lv_iconst (v := nI 0) S.1 S.2.1 dX12_nodesOf_1 (by decide) ?_
  refine j_put (ci := 11) (C := RX12) (T := TX12) (N := 17) (ty := .int) S (fun w h => List.mem_cons_of_mem _ (inG12 w h)) tyX12 tyX12_ok nmX12 hK hW gO rfl 0 (by decide) (List.mem_cons_of_mem _ wfl_X12_1) (fun _ h9 => h9) rfl (by decide +kernel) (rfl) (rfl) (Nat.le_of_ble_eq_true rfl) dX12_nodesOf_2 (fun H locs w_ hU1 hN1 hW => ?_)
  have hU : jU w w_ [55, 72, 73] := jU.mono hU1 (by decide)
  have gR_ := hU1.get gR (by decide)
  have gU_ := hU1.get gU (by decide)
  have gO_ : w_[55]? = some (ad 55, .inr (11, [.int (nI 0), .ref (ad 56), .ref (ad 57), .ref (ad 58), .ref (ad 59), .ref (ad 60), .ref (ad 61), .ref (ad 62), .ref (ad 63), .ref (ad 64), .ref (ad 65), .int (nI n), .int (nI nc), .ref (ad 66), .ref (ad 71), .ref (ad 72), .ref (ad 73)])) := hN1
  clear hU1 hN1
  refine lv_iload_n S.1 S.2.1 dX12_nodesOf_5 rfl (lv_at hl 1 rfl) ?_
  refine j_callS (As := [.int (nI j)]) (rest := []) S hK hA hW (c_X12_isSlot l D cy (nI j)    ) (jgo wm_X12_162) yk_X12_isSlot ⟨⟨rfl, rfl⟩, by decide, by decide⟩ rfl hl.1 rfl (Nat.le_of_ble_eq_true rfl) dX12_nodesOf_6 ⟨Nat.le_of_ble_eq_true rfl, Nat.le_of_ble_eq_true rfl⟩ (fun v u H locs hp hW => ?_)
  obtain ⟨rfl, rfl⟩ := hp
  refine W.eq (g2 := F0 m 9 ls [.int (bI (vB (nI j) 4))]) rfl ?_
  refine jb_if_ne (tgt := 18) S dX12_nodesOf_9 (by decide) (fun c_9 => ?_) (fun c_9 => ?_)
  · refine lv_aload_n S.1 S.2.1 dX12_nodesOf_18 rfl (lv_at hl 0 rfl) ?_
    refine j_get (ci := 11) (C := RX12) (T := TX12) (N := 17) (v := .ref (ad 71)) S (fun w h => List.mem_cons_of_mem _ (inG12 w h)) hK hW gO_ rfl 14 (by decide) (List.mem_cons_of_mem _ wfl_X12_55) (fun _ h9 => h9) rfl dX12_nodesOf_19 ?_
    refine lv_iload_n S.1 S.2.1 dX12_nodesOf_22 rfl (lv_at hl 1 rfl) ?_
    refine j_iald (x := nI n) S hK hW (hU.get gV (by decide)) (vp_in_nI (by omega) (by omega)) (nI_clamp (by omega)) (hkv) dX12_nodesOf_23 ?_
    refine jn_if_ge (tgt := 33) S (by omega) dX12_nodesOf_24 (by decide) ?_
    refine lv_aload_n S.1 S.2.1 dX12_nodesOf_33 rfl (lv_at hl 0 rfl) ?_
    refine j_get (ci := 11) (C := RX12) (T := TX12) (N := 17) (v := .ref (ad 71)) S (fun w h => List.mem_cons_of_mem _ (inG12 w h)) hK hW gO_ rfl 14 (by decide) (List.mem_cons_of_mem _ wfl_X12_55) (fun _ h9 => h9) rfl dX12_nodesOf_34 ?_
    refine lv_iload_n S.1 S.2.1 dX12_nodesOf_37 rfl (lv_at hl 1 rfl) ?_
    refine j_iald (x := nI n) S hK hW (hU.get gV (by decide)) (vp_in_nI (by omega) (by omega)) (nI_clamp (by omega)) (hkv) dX12_nodesOf_38 ?_
    refine lv_aload_n S.1 S.2.1 dX12_nodesOf_39 rfl (lv_at hl 0 rfl) ?_
    refine j_get (ci := 11) (C := RX12) (T := TX12) (N := 17) (v := .int (nI n)) S (fun w h => List.mem_cons_of_mem _ (inG12 w h)) hK hW gO_ rfl 11 (by decide) (List.mem_cons_of_mem _ wfl_X12_64) (fun _ h9 => h9) rfl dX12_nodesOf_40 ?_
    refine jn_cmp_eq (tgt := 52) S (by omega) (by omega) dX12_nodesOf_43 (by decide) (fun c_43 => ?_) (fun c_43 => ?_)
    · refine lv_aload_n S.1 S.2.1 dX12_nodesOf_52 rfl (lv_at hl 0 rfl) ?_
      refine lv_iload_n S.1 S.2.1 dX12_nodesOf_53 rfl (lv_at hl 1 rfl) ?_
      refine j_callV (k := 55) (ci := 11) (q := (RX12, TX12, 17)) (As := [.int (nI j)]) (rest := []) S hK hA hW (c_X12_readsSlot l D cy ad 0 n nc gx rb j gO_ (hU.get gK (by decide)) (hU.get gX (by simp; omega)) gR_   (by omega)) (jgo wm_X12_168) yk_X12_readsSlot gO_ rfl rfl ⟨⟨rfl, rfl⟩, by decide, by decide⟩ rfl hl.1 rfl (Nat.le_of_ble_eq_true rfl) dX12_nodesOf_54 ⟨Nat.le_of_ble_eq_true rfl, Nat.le_of_ble_eq_true rfl⟩ (fun v w_ H locs hp hW => ?_)
      obtain ⟨rfl, hU1, hN1⟩ := hp
      have hU := hU.then hU1 (by decide)
      have gU_ := hU1.get gU_ (by decide)
      have gO_ := hU1.get gO_ (by decide)
      have gR_ : w_[72]? = some (ad 72, .inl (cy 3, 1024, .inl (bf (rowM (gx j) rb)))) := hN1
      clear hU1 hN1
      refine W.eq (g2 := F0 m 57 ls []) rfl ?_
      refine lv_aload_n S.1 S.2.1 dX12_nodesOf_57 rfl (lv_at hl 0 rfl) ?_
      refine j_callV (k := 55) (ci := 11) (q := (RX12, TX12, 17)) (As := []) (rest := []) S hK hA hW (c_X12_nodesOfRow l D cy ad 0 n nc od (rowM (gx j) rb) tu gO_ (hU.get gD (by decide)) gR_ gU_   (by omega) (hod)) (jgo wm_X12_153) yk_X12_nodesOfRow gO_ rfl rfl ⟨⟨rfl, rfl⟩, by decide, by decide⟩ rfl hl.1 rfl (Nat.le_of_ble_eq_true rfl) dX12_nodesOf_58 ⟨Nat.le_of_ble_eq_true rfl, Nat.le_of_ble_eq_true rfl⟩ (fun v w_ H locs hp hW => ?_)
      obtain ⟨rfl, hU1, hN1⟩ := hp
      have hU := hU.then hU1 (by decide)
      have gR_ := hU1.get gR_ (by decide)
      have gO_ := hU1.get gO_ (by decide)
      have gU_ : w_[73]? = some (ad 73, .inl (cy 3, 1024, .inl (bf (mixF (fun d => (rowM (gx j) rb) (layP n od d n)) tu (2 ^ n))))) := hN1
      clear hU1 hN1
      refine W.eq (g2 := F0 m 61 ls [.int (nI (sumN (nodesB (fun d => (rowM (gx j) rb) (layP n od d n)) n) n))]) rfl ?_
      refine lv_topi_to (y := nI (sumN (nodesB (fun d => (gx j) (layP n od d n)) n) n)) (congrArg nI (sumN_congr (fun j hj => nodesB_congr hj (fun i _ => row_at (layP_lt hod))))) ?_
      subst hQ
      exact j_iret (u := w_) S hr (rfl) hK hW dX12_nodesOf_61 ⟨by decide, by decide⟩ (⟨_, _, rfl, hU, gO_, gR_, gU_⟩)
    · exact absurd rfl c_43
  · exact absurd (vB_nI hj (by decide)) (by rw [c_9]; decide)
/-- nodesOf, no such slot -/
theorem c_X12_nodesOf_b1 (l : Launch) (D : va_G) (cy : Nat → ClassId) {w : va_W} (ad : Nat → Nat) (th n nc : Nat) (v : Int32) (gO : w[55]? = some (ad 55, .inr (11, [.int (nI th), .ref (ad 56), .ref (ad 57), .ref (ad 58), .ref (ad 59), .ref (ad 60), .ref (ad 61), .ref (ad 62), .ref (ad 63), .ref (ad 64), .ref (ad 65), .int (nI n), .int (nI nc), .ref (ad 66), .ref (ad 71), .ref (ad 72), .ref (ad 73)]))) (hv : vB v 4 = false) : jM l yX12_nodesOf (jws yX12_nodesOf cX12_nodesOf 2 (some .int)) (jR 5 0 0) D cy w [.ref (ad 55), .int v] 0 0 (fun vv uu => vv = some (.int (nI 0)) ∧ jU w uu [55] ∧ uu[55]? = some (ad 55, .inr (11, [.int (nI 1), .ref (ad 56), .ref (ad 57), .ref (ad 58), .ref (ad 59), .ref (ad 60), .ref (ad 61), .ref (ad 62), .ref (ad 63), .ref (ad 64), .ref (ad 65), .int (nI n), .int (nI nc), .ref (ad 66), .ref (ad 71), .ref (ad 72), .ref (ad 73)]))) := by
  refine j_of (by decide) rfl (Nat.le_of_ble_eq_true rfl) ?_
  intro p e s m args below meth c A ls Q hQ S hr hK hA H locs hW hl
  have hl : lv_has ls 2 [(0, .ref (ad 55)), (1, .int v)] := hl
  refine lv_aload_n S.1 S.2.1 dX12_nodesOf_0 rfl (lv_at hl 0 rfl) ?_
  refine lv_iconst (v := nI 0) S.1 S.2.1 dX12_nodesOf_1 (by decide) ?_
  refine j_put (ci := 11) (C := RX12) (T := TX12) (N := 17) (ty := .int) S (fun w h => List.mem_cons_of_mem _ (inG12 w h)) tyX12 tyX12_ok nmX12 hK hW gO rfl 0 (by decide) (List.mem_cons_of_mem _ wfl_X12_1) (fun _ h9 => h9) rfl (by decide +kernel) (rfl) (rfl) (Nat.le_of_ble_eq_true rfl) dX12_nodesOf_2 (fun H locs w_ hU1 hN1 hW => ?_)
  have hU : jU w w_ [55] := jU.mono hU1 (by decide)
  have gO_ : w_[55]? = some (ad 55, .inr (11, [.int (nI 0), .ref (ad 56), .ref (ad 57), .ref (ad 58), .ref (ad 59), .ref (ad 60), .ref (ad 61), .ref (ad 62), .ref (ad 63), .ref (ad 64), .ref (ad 65), .int (nI n), .int (nI nc), .ref (ad 66), .ref (ad 71), .ref (ad 72), .ref (ad 73)])) := hN1
  clear hU1 hN1
  refine lv_iload_n S.1 S.2.1 dX12_nodesOf_5 rfl (lv_at hl 1 rfl) ?_
  refine j_callS (As := [.int v]) (rest := []) S hK hA hW (c_X12_isSlot l D cy v    ) (jgo wm_X12_162) yk_X12_isSlot ⟨⟨rfl, rfl⟩, by decide, by decide⟩ rfl hl.1 rfl (Nat.le_of_ble_eq_true rfl) dX12_nodesOf_6 ⟨Nat.le_of_ble_eq_true rfl, Nat.le_of_ble_eq_true rfl⟩ (fun v u H locs hp hW => ?_)
  obtain ⟨rfl, rfl⟩ := hp
  refine W.eq (g2 := F0 m 9 ls [.int (bI (vB v 4))]) rfl ?_
  refine jb_if_ne (tgt := 18) S dX12_nodesOf_9 (by decide) (fun c_9 => ?_) (fun c_9 => ?_)
  · exact absurd c_9 (by rw [hv]; decide)
  · refine lv_aload_n S.1 S.2.1 dX12_nodesOf_12 rfl (lv_at hl 0 rfl) ?_
    refine lv_iconst (v := nI 1) S.1 S.2.1 dX12_nodesOf_13 (by decide) ?_
    refine j_callV (k := 55) (ci := 11) (q := (RX12, TX12, 17)) (As := [.int (nI 1)]) (rest := []) S hK hA hW (c_X12_fails l D cy ad 0 n nc 1 gO_   ) (jgo wm_X12_71) yk_X12_fails gO_ rfl rfl ⟨⟨rfl, rfl⟩, by decide, by decide⟩ rfl hl.1 rfl (Nat.le_of_ble_eq_true rfl) dX12_nodesOf_14 ⟨Nat.le_of_ble_eq_true rfl, Nat.le_of_ble_eq_true rfl⟩ (fun v w_ H locs hp hW => ?_)
    obtain ⟨rfl, hU1, hN1⟩ := hp
    have hU := hU.then hU1 (by decide)
    have gO_ : w_[55]? = some (ad 55, .inr (11, [.int (nI 1), .ref (ad 56), .ref (ad 57), .ref (ad 58), .ref (ad 59), .ref (ad 60), .ref (ad 61), .ref (ad 62), .ref (ad 63), .ref (ad 64), .ref (ad 65), .int (nI n), .int (nI nc), .ref (ad 66), .ref (ad 71), .ref (ad 72), .ref (ad 73)])) := hN1
    clear hU1 hN1
    refine W.eq (g2 := F0 m 17 ls [.int (nI 0)]) rfl ?_
    subst hQ
    exact j_iret (u := w_) S hr (rfl) hK hW dX12_nodesOf_17 ⟨by decide, by decide⟩ (⟨rfl, hU, gO_⟩)
/-- nodesOf, nothing kept -/
theorem c_X12_nodesOf_b2 (l : Launch) (D : va_G) (cy : Nat → ClassId) {w : va_W} (ad : Nat → Nat) (th n nc : Nat) (kv : Nat → Int32) (j : Nat) (gO : w[55]? = some (ad 55, .inr (11, [.int (nI th), .ref (ad 56), .ref (ad 57), .ref (ad 58), .ref (ad 59), .ref (ad 60), .ref (ad 61), .ref (ad 62), .ref (ad 63), .ref (ad 64), .ref (ad 65), .int (nI n), .int (nI nc), .ref (ad 66), .ref (ad 71), .ref (ad 72), .ref (ad 73)]))) (gV : w[71]? = some (ad 71, .inl (cy 0, 4, .inl kv))) (hj : j < 4) (hkv : kv j < 0) : jM l yX12_nodesOf (jws yX12_nodesOf cX12_nodesOf 2 (some .int)) (jR 5 0 0) D cy w [.ref (ad 55), .int (nI j)] 0 0 (fun vv uu => vv = some (.int (nI 0)) ∧ jU w uu [55] ∧ uu[55]? = some (ad 55, .inr (11, [.int (nI 2), .ref (ad 56), .ref (ad 57), .ref (ad 58), .ref (ad 59), .ref (ad 60), .ref (ad 61), .ref (ad 62), .ref (ad 63), .ref (ad 64), .ref (ad 65), .int (nI n), .int (nI nc), .ref (ad 66), .ref (ad 71), .ref (ad 72), .ref (ad 73)]))) := by
  refine j_of (by decide) rfl (Nat.le_of_ble_eq_true rfl) ?_
  intro p e s m args below meth c A ls Q hQ S hr hK hA H locs hW hl
  have hl : lv_has ls 2 [(0, .ref (ad 55)), (1, .int (nI j))] := hl
  refine lv_aload_n S.1 S.2.1 dX12_nodesOf_0 rfl (lv_at hl 0 rfl) ?_
  refine lv_iconst (v := nI 0) S.1 S.2.1 dX12_nodesOf_1 (by decide) ?_
  refine j_put (ci := 11) (C := RX12) (T := TX12) (N := 17) (ty := .int) S (fun w h => List.mem_cons_of_mem _ (inG12 w h)) tyX12 tyX12_ok nmX12 hK hW gO rfl 0 (by decide) (List.mem_cons_of_mem _ wfl_X12_1) (fun _ h9 => h9) rfl (by decide +kernel) (rfl) (rfl) (Nat.le_of_ble_eq_true rfl) dX12_nodesOf_2 (fun H locs w_ hU1 hN1 hW => ?_)
  have hU : jU w w_ [55] := jU.mono hU1 (by decide)
  have gO_ : w_[55]? = some (ad 55, .inr (11, [.int (nI 0), .ref (ad 56), .ref (ad 57), .ref (ad 58), .ref (ad 59), .ref (ad 60), .ref (ad 61), .ref (ad 62), .ref (ad 63), .ref (ad 64), .ref (ad 65), .int (nI n), .int (nI nc), .ref (ad 66), .ref (ad 71), .ref (ad 72), .ref (ad 73)])) := hN1
  clear hU1 hN1
  refine lv_iload_n S.1 S.2.1 dX12_nodesOf_5 rfl (lv_at hl 1 rfl) ?_
  refine j_callS (As := [.int (nI j)]) (rest := []) S hK hA hW (c_X12_isSlot l D cy (nI j)    ) (jgo wm_X12_162) yk_X12_isSlot ⟨⟨rfl, rfl⟩, by decide, by decide⟩ rfl hl.1 rfl (Nat.le_of_ble_eq_true rfl) dX12_nodesOf_6 ⟨Nat.le_of_ble_eq_true rfl, Nat.le_of_ble_eq_true rfl⟩ (fun v u H locs hp hW => ?_)
  obtain ⟨rfl, rfl⟩ := hp
  refine W.eq (g2 := F0 m 9 ls [.int (bI (vB (nI j) 4))]) rfl ?_
  refine jb_if_ne (tgt := 18) S dX12_nodesOf_9 (by decide) (fun c_9 => ?_) (fun c_9 => ?_)
  · refine lv_aload_n S.1 S.2.1 dX12_nodesOf_18 rfl (lv_at hl 0 rfl) ?_
    refine j_get (ci := 11) (C := RX12) (T := TX12) (N := 17) (v := .ref (ad 71)) S (fun w h => List.mem_cons_of_mem _ (inG12 w h)) hK hW gO_ rfl 14 (by decide) (List.mem_cons_of_mem _ wfl_X12_55) (fun _ h9 => h9) rfl dX12_nodesOf_19 ?_
    refine lv_iload_n S.1 S.2.1 dX12_nodesOf_22 rfl (lv_at hl 1 rfl) ?_
    refine j_iald (x := kv j) S hK hW (hU.get gV (by decide)) (vp_in_nI (by omega) (by omega)) (nI_clamp (by omega)) (rfl) dX12_nodesOf_23 ?_
    refine lv_if_ge (tgt := 33) S.1 S.2.1 dX12_nodesOf_24 (by decide) (fun c_24 => ?_) (fun c_24 => ?_)
    · first | exact absurd hkv c_24 | exact c_24 hkv | exact absurd hkv (Int32.not_lt.mpr c_24)
    · refine lv_aload_n S.1 S.2.1 dX12_nodesOf_27 rfl (lv_at hl 0 rfl) ?_
      refine lv_iconst (v := nI 2) S.1 S.2.1 dX12_nodesOf_28 (by decide) ?_
      refine j_callV (k := 55) (ci := 11) (q := (RX12, TX12, 17)) (As := [.int (nI 2)]) (rest := []) S hK hA hW (c_X12_fails l D cy ad 0 n nc 2 gO_   ) (jgo wm_X12_71) yk_X12_fails gO_ rfl rfl ⟨⟨rfl, rfl⟩, by decide, by decide⟩ rfl hl.1 rfl (Nat.le_of_ble_eq_true rfl) dX12_nodesOf_29 ⟨Nat.le_of_ble_eq_true rfl, Nat.le_of_ble_eq_true rfl⟩ (fun v w_ H locs hp hW => ?_)
      obtain ⟨rfl, hU1, hN1⟩ := hp
      have hU := hU.then hU1 (by decide)
      have gO_ : w_[55]? = some (ad 55, .inr (11, [.int (nI 2), .ref (ad 56), .ref (ad 57), .ref (ad 58), .ref (ad 59), .ref (ad 60), .ref (ad 61), .ref (ad 62), .ref (ad 63), .ref (ad 64), .ref (ad 65), .int (nI n), .int (nI nc), .ref (ad 66), .ref (ad 71), .ref (ad 72), .ref (ad 73)])) := hN1
      clear hU1 hN1
      refine W.eq (g2 := F0 m 32 ls [.int (nI 0)]) rfl ?_
      subst hQ
      exact j_iret (u := w_) S hr (rfl) hK hW dX12_nodesOf_32 ⟨by decide, by decide⟩ (⟨rfl, hU, gO_⟩)
  · exact absurd (vB_nI hj (by decide)) (by rw [c_9]; decide)
/-- nodesOf, other variables -/
theorem c_X12_nodesOf_b3 (l : Launch) (D : va_G) (cy : Nat → ClassId) {w : va_W} (ad : Nat → Nat) (th n nc : Nat) (kv : Nat → Int32) (j : Nat) (gO : w[55]? = some (ad 55, .inr (11, [.int (nI th), .ref (ad 56), .ref (ad 57), .ref (ad 58), .ref (ad 59), .ref (ad 60), .ref (ad 61), .ref (ad 62), .ref (ad 63), .ref (ad 64), .ref (ad 65), .int (nI n), .int (nI nc), .ref (ad 66), .ref (ad 71), .ref (ad 72), .ref (ad 73)]))) (gV : w[71]? = some (ad 71, .inl (cy 0, 4, .inl kv))) (hj : j < 4) (hkv : ¬ kv j < 0) (hne : kv j ≠ nI n) : jM l yX12_nodesOf (jws yX12_nodesOf cX12_nodesOf 2 (some .int)) (jR 5 0 0) D cy w [.ref (ad 55), .int (nI j)] 0 0 (fun vv uu => vv = some (.int (nI 0)) ∧ jU w uu [55] ∧ uu[55]? = some (ad 55, .inr (11, [.int (nI 3), .ref (ad 56), .ref (ad 57), .ref (ad 58), .ref (ad 59), .ref (ad 60), .ref (ad 61), .ref (ad 62), .ref (ad 63), .ref (ad 64), .ref (ad 65), .int (nI n), .int (nI nc), .ref (ad 66), .ref (ad 71), .ref (ad 72), .ref (ad 73)]))) := by
  refine j_of (by decide) rfl (Nat.le_of_ble_eq_true rfl) ?_
  intro p e s m args below meth c A ls Q hQ S hr hK hA H locs hW hl
  have hl : lv_has ls 2 [(0, .ref (ad 55)), (1, .int (nI j))] := hl
  refine lv_aload_n S.1 S.2.1 dX12_nodesOf_0 rfl (lv_at hl 0 rfl) ?_
  refine lv_iconst (v := nI 0) S.1 S.2.1 dX12_nodesOf_1 (by decide) ?_
  refine j_put (ci := 11) (C := RX12) (T := TX12) (N := 17) (ty := .int) S (fun w h => List.mem_cons_of_mem _ (inG12 w h)) tyX12 tyX12_ok nmX12 hK hW gO rfl 0 (by decide) (List.mem_cons_of_mem _ wfl_X12_1) (fun _ h9 => h9) rfl (by decide +kernel) (rfl) (rfl) (Nat.le_of_ble_eq_true rfl) dX12_nodesOf_2 (fun H locs w_ hU1 hN1 hW => ?_)
  have hU : jU w w_ [55] := jU.mono hU1 (by decide)
  have gO_ : w_[55]? = some (ad 55, .inr (11, [.int (nI 0), .ref (ad 56), .ref (ad 57), .ref (ad 58), .ref (ad 59), .ref (ad 60), .ref (ad 61), .ref (ad 62), .ref (ad 63), .ref (ad 64), .ref (ad 65), .int (nI n), .int (nI nc), .ref (ad 66), .ref (ad 71), .ref (ad 72), .ref (ad 73)])) := hN1
  clear hU1 hN1
  refine lv_iload_n S.1 S.2.1 dX12_nodesOf_5 rfl (lv_at hl 1 rfl) ?_
  refine j_callS (As := [.int (nI j)]) (rest := []) S hK hA hW (c_X12_isSlot l D cy (nI j)    ) (jgo wm_X12_162) yk_X12_isSlot ⟨⟨rfl, rfl⟩, by decide, by decide⟩ rfl hl.1 rfl (Nat.le_of_ble_eq_true rfl) dX12_nodesOf_6 ⟨Nat.le_of_ble_eq_true rfl, Nat.le_of_ble_eq_true rfl⟩ (fun v u H locs hp hW => ?_)
  obtain ⟨rfl, rfl⟩ := hp
  refine W.eq (g2 := F0 m 9 ls [.int (bI (vB (nI j) 4))]) rfl ?_
  refine jb_if_ne (tgt := 18) S dX12_nodesOf_9 (by decide) (fun c_9 => ?_) (fun c_9 => ?_)
  · refine lv_aload_n S.1 S.2.1 dX12_nodesOf_18 rfl (lv_at hl 0 rfl) ?_
    refine j_get (ci := 11) (C := RX12) (T := TX12) (N := 17) (v := .ref (ad 71)) S (fun w h => List.mem_cons_of_mem _ (inG12 w h)) hK hW gO_ rfl 14 (by decide) (List.mem_cons_of_mem _ wfl_X12_55) (fun _ h9 => h9) rfl dX12_nodesOf_19 ?_
    refine lv_iload_n S.1 S.2.1 dX12_nodesOf_22 rfl (lv_at hl 1 rfl) ?_
    refine j_iald (x := kv j) S hK hW (hU.get gV (by decide)) (vp_in_nI (by omega) (by omega)) (nI_clamp (by omega)) (rfl) dX12_nodesOf_23 ?_
    refine lv_if_ge (tgt := 33) S.1 S.2.1 dX12_nodesOf_24 (by decide) (fun c_24 => ?_) (fun c_24 => ?_)
    · refine lv_aload_n S.1 S.2.1 dX12_nodesOf_33 rfl (lv_at hl 0 rfl) ?_
      refine j_get (ci := 11) (C := RX12) (T := TX12) (N := 17) (v := .ref (ad 71)) S (fun w h => List.mem_cons_of_mem _ (inG12 w h)) hK hW gO_ rfl 14 (by decide) (List.mem_cons_of_mem _ wfl_X12_55) (fun _ h9 => h9) rfl dX12_nodesOf_34 ?_
      refine lv_iload_n S.1 S.2.1 dX12_nodesOf_37 rfl (lv_at hl 1 rfl) ?_
      refine j_iald (x := kv j) S hK hW (hU.get gV (by decide)) (vp_in_nI (by omega) (by omega)) (nI_clamp (by omega)) (rfl) dX12_nodesOf_38 ?_
      refine lv_aload_n S.1 S.2.1 dX12_nodesOf_39 rfl (lv_at hl 0 rfl) ?_
      refine j_get (ci := 11) (C := RX12) (T := TX12) (N := 17) (v := .int (nI n)) S (fun w h => List.mem_cons_of_mem _ (inG12 w h)) hK hW gO_ rfl 11 (by decide) (List.mem_cons_of_mem _ wfl_X12_64) (fun _ h9 => h9) rfl dX12_nodesOf_40 ?_
      refine lv_icmp_eq (tgt := 52) S.1 S.2.1 dX12_nodesOf_43 (by decide) (fun c_43 => ?_) (fun c_43 => ?_)
      · exact absurd c_43 hne
      · refine lv_aload_n S.1 S.2.1 dX12_nodesOf_46 rfl (lv_at hl 0 rfl) ?_
        refine lv_iconst (v := nI 3) S.1 S.2.1 dX12_nodesOf_47 (by decide) ?_
        refine j_callV (k := 55) (ci := 11) (q := (RX12, TX12, 17)) (As := [.int (nI 3)]) (rest := []) S hK hA hW (c_X12_fails l D cy ad 0 n nc 3 gO_   ) (jgo wm_X12_71) yk_X12_fails gO_ rfl rfl ⟨⟨rfl, rfl⟩, by decide, by decide⟩ rfl hl.1 rfl (Nat.le_of_ble_eq_true rfl) dX12_nodesOf_48 ⟨Nat.le_of_ble_eq_true rfl, Nat.le_of_ble_eq_true rfl⟩ (fun v w_ H locs hp hW => ?_)
        obtain ⟨rfl, hU1, hN1⟩ := hp
        have hU := hU.then hU1 (by decide)
        have gO_ : w_[55]? = some (ad 55, .inr (11, [.int (nI 3), .ref (ad 56), .ref (ad 57), .ref (ad 58), .ref (ad 59), .ref (ad 60), .ref (ad 61), .ref (ad 62), .ref (ad 63), .ref (ad 64), .ref (ad 65), .int (nI n), .int (nI nc), .ref (ad 66), .ref (ad 71), .ref (ad 72), .ref (ad 73)])) := hN1
        clear hU1 hN1
        refine W.eq (g2 := F0 m 51 ls [.int (nI 0)]) rfl ?_
        subst hQ
        exact j_iret (u := w_) S hr (rfl) hK hW dX12_nodesOf_51 ⟨by decide, by decide⟩ (⟨rfl, hU, gO_⟩)
    · first | exact absurd c_24 hkv | exact absurd (Int32.not_le.mp c_24) hkv | exact hkv (i32_lt.mpr c_24)
  · exact absurd (vB_nI hj (by decide)) (by rw [c_9]; decide)
/-- cannotCompare -/
theorem c_X12_cannotCompare_ok (l : Launch) (D : va_G) (cy : Nat → ClassId) {w : va_W} (ad : Nat → Nat) (th n nc : Nat) (kv : Nat → Int32) (j y : Nat) (gO : w[55]? = some (ad 55, .inr (11, [.int (nI th), .ref (ad 56), .ref (ad 57), .ref (ad 58), .ref (ad 59), .ref (ad 60), .ref (ad 61), .ref (ad 62), .ref (ad 63), .ref (ad 64), .ref (ad 65), .int (nI n), .int (nI nc), .ref (ad 66), .ref (ad 71), .ref (ad 72), .ref (ad 73)]))) (gV : w[71]? = some (ad 71, .inl (cy 0, 4, .inl kv))) (hj : j < 4) (hy : y < 4) (hkv : ¬ kv j < 0) (hkw : kv y = kv j) : jM l yX12_cannotCompare (jws yX12_cannotCompare cX12_cannotCompare 3 (some .boolean)) (jR 2 0 0) D cy w [.ref (ad 55), .int (nI j), .int (nI y)] 0 0 (fun vv uu => vv = some (.int (bI false)) ∧ jU w uu [55] ∧ uu[55]? = some (ad 55, .inr (11, [.int (nI 0), .ref (ad 56), .ref (ad 57), .ref (ad 58), .ref (ad 59), .ref (ad 60), .ref (ad 61), .ref (ad 62), .ref (ad 63), .ref (ad 64), .ref (ad 65), .int (nI n), .int (nI nc), .ref (ad 66), .ref (ad 71), .ref (ad 72), .ref (ad 73)]))) := by
  refine j_of (by decide) rfl (Nat.le_of_ble_eq_true rfl) ?_
  intro p e s m args below meth c A ls Q hQ S hr hK hA H locs hW hl
  have hl : lv_has ls 3 [(0, .ref (ad 55)), (1, .int (nI j)), (2, .int (nI y))] := hl
  refine lv_aload_n S.1 S.2.1 dX12_cannotCompare_0 rfl (lv_at hl 0 rfl) ?_
  refine lv_iconst (v := nI 0) S.1 S.2.1 dX12_cannotCompare_1 (by decide) ?_
  refine j_put (ci := 11) (C := RX12) (T := TX12) (N := 17) (ty := .int) S (fun w h => List.mem_cons_of_mem _ (inG12 w h)) tyX12 tyX12_ok nmX12 hK hW gO rfl 0 (by decide) (List.mem_cons_of_mem _ wfl_X12_1) (fun _ h9 => h9) rfl (by decide +kernel) (rfl) (rfl) (Nat.le_of_ble_eq_true rfl) dX12_cannotCompare_2 (fun H locs w_ hU1 hN1 hW => ?_)
  have hU : jU w w_ [55] := jU.mono hU1 (by decide)
  have gO_ : w_[55]? = some (ad 55, .inr (11, [.int (nI 0), .ref (ad 56), .ref (ad 57), .ref (ad 58), .ref (ad 59), .ref (ad 60), .ref (ad 61), .ref (ad 62), .ref (ad 63), .ref (ad 64), .ref (ad 65), .int (nI n), .int (nI nc), .ref (ad 66), .ref (ad 71), .ref (ad 72), .ref (ad 73)])) := hN1
  clear hU1 hN1
  refine lv_iload_n S.1 S.2.1 dX12_cannotCompare_5 rfl (lv_at hl 1 rfl) ?_
  refine j_callS (As := [.int (nI j)]) (rest := []) S hK hA hW (c_X12_isSlot l D cy (nI j)    ) (jgo wm_X12_162) yk_X12_isSlot ⟨⟨rfl, rfl⟩, by decide, by decide⟩ rfl hl.1 rfl (Nat.le_of_ble_eq_true rfl) dX12_cannotCompare_6 ⟨Nat.le_of_ble_eq_true rfl, Nat.le_of_ble_eq_true rfl⟩ (fun v u H locs hp hW => ?_)
  obtain ⟨rfl, rfl⟩ := hp
  refine W.eq (g2 := F0 m 9 ls [.int (bI (vB (nI j) 4))]) rfl ?_
  refine jb_if_eq (tgt := 19) S dX12_cannotCompare_9 (by decide) (fun c_9 => ?_) (fun c_9 => ?_)
  · exact absurd (vB_nI hj (by decide)) (by rw [c_9]; decide)
  · refine lv_iload_n S.1 S.2.1 dX12_cannotCompare_12 rfl (lv_at hl 2 rfl) ?_
    refine j_callS (As := [.int (nI y)]) (rest := []) S hK hA hW (c_X12_isSlot l D cy (nI y)    ) (jgo wm_X12_162) yk_X12_isSlot ⟨⟨rfl, rfl⟩, by decide, by decide⟩ rfl hl.1 rfl (Nat.le_of_ble_eq_true rfl) dX12_cannotCompare_13 ⟨Nat.le_of_ble_eq_true rfl, Nat.le_of_ble_eq_true rfl⟩ (fun v u H locs hp hW => ?_)
    obtain ⟨rfl, rfl⟩ := hp
    refine W.eq (g2 := F0 m 16 ls [.int (bI (vB (nI y) 4))]) rfl ?_
    refine jb_if_ne (tgt := 27) S dX12_cannotCompare_16 (by decide) (fun c_16 => ?_) (fun c_16 => ?_)
    · refine lv_aload_n S.1 S.2.1 dX12_cannotCompare_27 rfl (lv_at hl 0 rfl) ?_
      refine j_get (ci := 11) (C := RX12) (T := TX12) (N := 17) (v := .ref (ad 71)) S (fun w h => List.mem_cons_of_mem _ (inG12 w h)) hK hW gO_ rfl 14 (by decide) (List.mem_cons_of_mem _ wfl_X12_55) (fun _ h9 => h9) rfl dX12_cannotCompare_28 ?_
      refine lv_iload_n S.1 S.2.1 dX12_cannotCompare_31 rfl (lv_at hl 1 rfl) ?_
      refine j_iald (x := kv j) S hK hW (hU.get gV (by decide)) (vp_in_nI (by omega) (by omega)) (nI_clamp (by omega)) (rfl) dX12_cannotCompare_32 ?_
      refine lv_if_lt (tgt := 45) S.1 S.2.1 dX12_cannotCompare_33 (by decide) (fun c_33 => ?_) (fun c_33 => ?_)
      · first | exact absurd c_33 hkv | exact hkv c_33 | exact hkv (i32_lt.mpr c_33)
      · refine lv_aload_n S.1 S.2.1 dX12_cannotCompare_36 rfl (lv_at hl 0 rfl) ?_
        refine j_get (ci := 11) (C := RX12) (T := TX12) (N := 17) (v := .ref (ad 71)) S (fun w h => List.mem_cons_of_mem _ (inG12 w h)) hK hW gO_ rfl 14 (by decide) (List.mem_cons_of_mem _ wfl_X12_55) (fun _ h9 => h9) rfl dX12_cannotCompare_37 ?_
        refine lv_iload_n S.1 S.2.1 dX12_cannotCompare_40 rfl (lv_at hl 2 rfl) ?_
        refine j_iald (x := kv j) S hK hW (hU.get gV (by decide)) (vp_in_nI (by omega) (by omega)) (nI_clamp (by omega)) (hkw) dX12_cannotCompare_41 ?_
        refine lv_if_ge (tgt := 53) S.1 S.2.1 dX12_cannotCompare_42 (by decide) (fun c_42 => ?_) (fun c_42 => ?_)
        · refine lv_aload_n S.1 S.2.1 dX12_cannotCompare_53 rfl (lv_at hl 0 rfl) ?_
          refine j_get (ci := 11) (C := RX12) (T := TX12) (N := 17) (v := .ref (ad 71)) S (fun w h => List.mem_cons_of_mem _ (inG12 w h)) hK hW gO_ rfl 14 (by decide) (List.mem_cons_of_mem _ wfl_X12_55) (fun _ h9 => h9) rfl dX12_cannotCompare_54 ?_
          refine lv_iload_n S.1 S.2.1 dX12_cannotCompare_57 rfl (lv_at hl 1 rfl) ?_
          refine j_iald (x := kv j) S hK hW (hU.get gV (by decide)) (vp_in_nI (by omega) (by omega)) (nI_clamp (by omega)) (rfl) dX12_cannotCompare_58 ?_
          refine lv_aload_n S.1 S.2.1 dX12_cannotCompare_59 rfl (lv_at hl 0 rfl) ?_
          refine j_get (ci := 11) (C := RX12) (T := TX12) (N := 17) (v := .ref (ad 71)) S (fun w h => List.mem_cons_of_mem _ (inG12 w h)) hK hW gO_ rfl 14 (by decide) (List.mem_cons_of_mem _ wfl_X12_55) (fun _ h9 => h9) rfl dX12_cannotCompare_60 ?_
          refine lv_iload_n S.1 S.2.1 dX12_cannotCompare_63 rfl (lv_at hl 2 rfl) ?_
          refine j_iald (x := kv j) S hK hW (hU.get gV (by decide)) (vp_in_nI (by omega) (by omega)) (nI_clamp (by omega)) (hkw) dX12_cannotCompare_64 ?_
          refine lv_icmp_eq (tgt := 73) S.1 S.2.1 dX12_cannotCompare_65 (by decide) (fun c_65 => ?_) (fun c_65 => ?_)
          · refine lv_aload_n S.1 S.2.1 dX12_cannotCompare_73 rfl (lv_at hl 0 rfl) ?_
            refine j_get (ci := 11) (C := RX12) (T := TX12) (N := 17) (v := .int (nI 0)) S (fun w h => List.mem_cons_of_mem _ (inG12 w h)) hK hW gO_ rfl 0 (by decide) (List.mem_cons_of_mem _ wfl_X12_1) (fun _ h9 => h9) rfl dX12_cannotCompare_74 ?_
            refine jn_if_le (tgt := 84) S (by omega) dX12_cannotCompare_77 (by decide) (fun c_77 => ?_) (fun c_77 => ?_)
            · refine lv_iconst (v := nI 0) S.1 S.2.1 dX12_cannotCompare_84 (by decide) ?_
              subst hQ
              exact j_iret (u := w_) S hr (rfl) hK hW dX12_cannotCompare_85 ⟨by decide, by decide⟩ (⟨rfl, hU, gO_⟩)
            · first | exact absurd (show 0 < 0 from c_77) (by decide) | exact absurd c_77 (by decide)
          · exact absurd rfl c_65
        · first | exact absurd c_42 hkv | exact absurd (Int32.not_le.mp c_42) hkv | exact hkv (i32_lt.mpr c_42)
    · exact absurd (vB_nI hy (by decide)) (by rw [c_16]; decide)
/-- cannotCompare, no such slot -/
theorem c_X12_cannotCompare_b1 (l : Launch) (D : va_G) (cy : Nat → ClassId) {w : va_W} (ad : Nat → Nat) (th n nc : Nat) (v u1 : Int32) (gO : w[55]? = some (ad 55, .inr (11, [.int (nI th), .ref (ad 56), .ref (ad 57), .ref (ad 58), .ref (ad 59), .ref (ad 60), .ref (ad 61), .ref (ad 62), .ref (ad 63), .ref (ad 64), .ref (ad 65), .int (nI n), .int (nI nc), .ref (ad 66), .ref (ad 71), .ref (ad 72), .ref (ad 73)]))) (hv : vB v 4 = false ∨ vB u1 4 = false) : jM l yX12_cannotCompare (jws yX12_cannotCompare cX12_cannotCompare 3 (some .boolean)) (jR 2 0 0) D cy w [.ref (ad 55), .int v, .int u1] 0 0 (fun vv uu => vv = some (.int (bI true)) ∧ jU w uu [55] ∧ uu[55]? = some (ad 55, .inr (11, [.int (nI 1), .ref (ad 56), .ref (ad 57), .ref (ad 58), .ref (ad 59), .ref (ad 60), .ref (ad 61), .ref (ad 62), .ref (ad 63), .ref (ad 64), .ref (ad 65), .int (nI n), .int (nI nc), .ref (ad 66), .ref (ad 71), .ref (ad 72), .ref (ad 73)]))) := by
  refine j_of (by decide) rfl (Nat.le_of_ble_eq_true rfl) ?_
  intro p e s m args below meth c A ls Q hQ S hr hK hA H locs hW hl
  have hl : lv_has ls 3 [(0, .ref (ad 55)), (1, .int v), (2, .int u1)] := hl
  refine lv_aload_n S.1 S.2.1 dX12_cannotCompare_0 rfl (lv_at hl 0 rfl) ?_
  refine lv_iconst (v := nI 0) S.1 S.2.1 dX12_cannotCompare_1 (by decide) ?_
  refine j_put (ci := 11) (C := RX12) (T := TX12) (N := 17) (ty := .int) S (fun w h => List.mem_cons_of_mem _ (inG12 w h)) tyX12 tyX12_ok nmX12 hK hW gO rfl 0 (by decide) (List.mem_cons_of_mem _ wfl_X12_1) (fun _ h9 => h9) rfl (by decide +kernel) (rfl) (rfl) (Nat.le_of_ble_eq_true rfl) dX12_cannotCompare_2 (fun H locs w_ hU1 hN1 hW => ?_)
  have hU : jU w w_ [55] := jU.mono hU1 (by decide)
  have gO_ : w_[55]? = some (ad 55, .inr (11, [.int (nI 0), .ref (ad 56), .ref (ad 57), .ref (ad 58), .ref (ad 59), .ref (ad 60), .ref (ad 61), .ref (ad 62), .ref (ad 63), .ref (ad 64), .ref (ad 65), .int (nI n), .int (nI nc), .ref (ad 66), .ref (ad 71), .ref (ad 72), .ref (ad 73)])) := hN1
  clear hU1 hN1
  refine lv_iload_n S.1 S.2.1 dX12_cannotCompare_5 rfl (lv_at hl 1 rfl) ?_
  refine j_callS (As := [.int v]) (rest := []) S hK hA hW (c_X12_isSlot l D cy v    ) (jgo wm_X12_162) yk_X12_isSlot ⟨⟨rfl, rfl⟩, by decide, by decide⟩ rfl hl.1 rfl (Nat.le_of_ble_eq_true rfl) dX12_cannotCompare_6 ⟨Nat.le_of_ble_eq_true rfl, Nat.le_of_ble_eq_true rfl⟩ (fun v u H locs hp hW => ?_)
  obtain ⟨rfl, rfl⟩ := hp
  refine W.eq (g2 := F0 m 9 ls [.int (bI (vB v 4))]) rfl ?_
  refine jb_if_eq (tgt := 19) S dX12_cannotCompare_9 (by decide) (fun c_9 => ?_) (fun c_9 => ?_)
  · refine lv_aload_n S.1 S.2.1 dX12_cannotCompare_19 rfl (lv_at hl 0 rfl) ?_
    refine lv_iconst (v := nI 1) S.1 S.2.1 dX12_cannotCompare_20 (by decide) ?_
    refine j_put (ci := 11) (C := RX12) (T := TX12) (N := 17) (ty := .int) S (fun w h => List.mem_cons_of_mem _ (inG12 w h)) tyX12 tyX12_ok nmX12 hK hW gO_ rfl 0 (by decide) (List.mem_cons_of_mem _ wfl_X12_1) (fun _ h9 => h9) rfl (by decide +kernel) (rfl) (rfl) (Nat.le_of_ble_eq_true rfl) dX12_cannotCompare_21 (fun H locs w_ hU1 hN1 hW => ?_)
    have hU := hU.then hU1 (by decide)
    have gO_ : w_[55]? = some (ad 55, .inr (11, [.int (nI 1), .ref (ad 56), .ref (ad 57), .ref (ad 58), .ref (ad 59), .ref (ad 60), .ref (ad 61), .ref (ad 62), .ref (ad 63), .ref (ad 64), .ref (ad 65), .int (nI n), .int (nI nc), .ref (ad 66), .ref (ad 71), .ref (ad 72), .ref (ad 73)])) := hN1
    clear hU1 hN1
    refine lv_goto (tgt := 73) S.1 S.2.1 dX12_cannotCompare_24 (by decide) ?_
    refine lv_aload_n S.1 S.2.1 dX12_cannotCompare_73 rfl (lv_at hl 0 rfl) ?_
    refine j_get (ci := 11) (C := RX12) (T := TX12) (N := 17) (v := .int (nI 1)) S (fun w h => List.mem_cons_of_mem _ (inG12 w h)) hK hW gO_ rfl 0 (by decide) (List.mem_cons_of_mem _ wfl_X12_1) (fun _ h9 => h9) rfl dX12_cannotCompare_74 ?_
    refine jn_if_le (tgt := 84) S (by omega) dX12_cannotCompare_77 (by decide) (fun c_77 => ?_) (fun c_77 => ?_)
    · first | exact absurd (show 1 ≤ 0 from c_77) (by decide) | exact absurd c_77 (by decide)
    · refine lv_iconst (v := nI 1) S.1 S.2.1 dX12_cannotCompare_80 (by decide) ?_
      refine lv_goto (tgt := 85) S.1 S.2.1 dX12_cannotCompare_81 (by decide) ?_
      subst hQ
      exact j_iret (u := w_) S hr (rfl) hK hW dX12_cannotCompare_85 ⟨by decide, by decide⟩ (⟨rfl, hU, gO_⟩)
  · refine lv_iload_n S.1 S.2.1 dX12_cannotCompare_12 rfl (lv_at hl 2 rfl) ?_
    refine j_callS (As := [.int u1]) (rest := []) S hK hA hW (c_X12_isSlot l D cy u1    ) (jgo wm_X12_162) yk_X12_isSlot ⟨⟨rfl, rfl⟩, by decide, by decide⟩ rfl hl.1 rfl (Nat.le_of_ble_eq_true rfl) dX12_cannotCompare_13 ⟨Nat.le_of_ble_eq_true rfl, Nat.le_of_ble_eq_true rfl⟩ (fun v u H locs hp hW => ?_)
    obtain ⟨rfl, rfl⟩ := hp
    refine W.eq (g2 := F0 m 16 ls [.int (bI (vB u1 4))]) rfl ?_
    refine jb_if_ne (tgt := 27) S dX12_cannotCompare_16 (by decide) (fun c_16 => ?_) (fun c_16 => ?_)
    · exact (by rcases hv with q | q; rw [c_9] at q; cases q; rw [c_16] at q; cases q)
    · refine lv_aload_n S.1 S.2.1 dX12_cannotCompare_19 rfl (lv_at hl 0 rfl) ?_
      refine lv_iconst (v := nI 1) S.1 S.2.1 dX12_cannotCompare_20 (by decide) ?_
      refine j_put (ci := 11) (C := RX12) (T := TX12) (N := 17) (ty := .int) S (fun w h => List.mem_cons_of_mem _ (inG12 w h)) tyX12 tyX12_ok nmX12 hK hW gO_ rfl 0 (by decide) (List.mem_cons_of_mem _ wfl_X12_1) (fun _ h9 => h9) rfl (by decide +kernel) (rfl) (rfl) (Nat.le_of_ble_eq_true rfl) dX12_cannotCompare_21 (fun H locs w_ hU1 hN1 hW => ?_)
      have hU := hU.then hU1 (by decide)
      have gO_ : w_[55]? = some (ad 55, .inr (11, [.int (nI 1), .ref (ad 56), .ref (ad 57), .ref (ad 58), .ref (ad 59), .ref (ad 60), .ref (ad 61), .ref (ad 62), .ref (ad 63), .ref (ad 64), .ref (ad 65), .int (nI n), .int (nI nc), .ref (ad 66), .ref (ad 71), .ref (ad 72), .ref (ad 73)])) := hN1
      clear hU1 hN1
      refine lv_goto (tgt := 73) S.1 S.2.1 dX12_cannotCompare_24 (by decide) ?_
      refine lv_aload_n S.1 S.2.1 dX12_cannotCompare_73 rfl (lv_at hl 0 rfl) ?_
      refine j_get (ci := 11) (C := RX12) (T := TX12) (N := 17) (v := .int (nI 1)) S (fun w h => List.mem_cons_of_mem _ (inG12 w h)) hK hW gO_ rfl 0 (by decide) (List.mem_cons_of_mem _ wfl_X12_1) (fun _ h9 => h9) rfl dX12_cannotCompare_74 ?_
      refine jn_if_le (tgt := 84) S (by omega) dX12_cannotCompare_77 (by decide) (fun c_77 => ?_) (fun c_77 => ?_)
      · first | exact absurd (show 1 ≤ 0 from c_77) (by decide) | exact absurd c_77 (by decide)
      · refine lv_iconst (v := nI 1) S.1 S.2.1 dX12_cannotCompare_80 (by decide) ?_
        refine lv_goto (tgt := 85) S.1 S.2.1 dX12_cannotCompare_81 (by decide) ?_
        subst hQ
        exact j_iret (u := w_) S hr (rfl) hK hW dX12_cannotCompare_85 ⟨by decide, by decide⟩ (⟨rfl, hU, gO_⟩)
/-- cannotCompare, nothing kept -/
theorem c_X12_cannotCompare_b2 (l : Launch) (D : va_G) (cy : Nat → ClassId) {w : va_W} (ad : Nat → Nat) (th n nc : Nat) (kv : Nat → Int32) (j y : Nat) (gO : w[55]? = some (ad 55, .inr (11, [.int (nI th), .ref (ad 56), .ref (ad 57), .ref (ad 58), .ref (ad 59), .ref (ad 60), .ref (ad 61), .ref (ad 62), .ref (ad 63), .ref (ad 64), .ref (ad 65), .int (nI n), .int (nI nc), .ref (ad 66), .ref (ad 71), .ref (ad 72), .ref (ad 73)]))) (gV : w[71]? = some (ad 71, .inl (cy 0, 4, .inl kv))) (hj : j < 4) (hy : y < 4) (hkv : kv j < 0 ∨ kv y < 0) : jM l yX12_cannotCompare (jws yX12_cannotCompare cX12_cannotCompare 3 (some .boolean)) (jR 2 0 0) D cy w [.ref (ad 55), .int (nI j), .int (nI y)] 0 0 (fun vv uu => vv = some (.int (bI true)) ∧ jU w uu [55] ∧ uu[55]? = some (ad 55, .inr (11, [.int (nI 2), .ref (ad 56), .ref (ad 57), .ref (ad 58), .ref (ad 59), .ref (ad 60), .ref (ad 61), .ref (ad 62), .ref (ad 63), .ref (ad 64), .ref (ad 65), .int (nI n), .int (nI nc), .ref (ad 66), .ref (ad 71), .ref (ad 72), .ref (ad 73)]))) := by
  refine j_of (by decide) rfl (Nat.le_of_ble_eq_true rfl) ?_
  intro p e s m args below meth c A ls Q hQ S hr hK hA H locs hW hl
  have hl : lv_has ls 3 [(0, .ref (ad 55)), (1, .int (nI j)), (2, .int (nI y))] := hl
  refine lv_aload_n S.1 S.2.1 dX12_cannotCompare_0 rfl (lv_at hl 0 rfl) ?_
  refine lv_iconst (v := nI 0) S.1 S.2.1 dX12_cannotCompare_1 (by decide) ?_
  refine j_put (ci := 11) (C := RX12) (T := TX12) (N := 17) (ty := .int) S (fun w h => List.mem_cons_of_mem _ (inG12 w h)) tyX12 tyX12_ok nmX12 hK hW gO rfl 0 (by decide) (List.mem_cons_of_mem _ wfl_X12_1) (fun _ h9 => h9) rfl (by decide +kernel) (rfl) (rfl) (Nat.le_of_ble_eq_true rfl) dX12_cannotCompare_2 (fun H locs w_ hU1 hN1 hW => ?_)
  have hU : jU w w_ [55] := jU.mono hU1 (by decide)
  have gO_ : w_[55]? = some (ad 55, .inr (11, [.int (nI 0), .ref (ad 56), .ref (ad 57), .ref (ad 58), .ref (ad 59), .ref (ad 60), .ref (ad 61), .ref (ad 62), .ref (ad 63), .ref (ad 64), .ref (ad 65), .int (nI n), .int (nI nc), .ref (ad 66), .ref (ad 71), .ref (ad 72), .ref (ad 73)])) := hN1
  clear hU1 hN1
  refine lv_iload_n S.1 S.2.1 dX12_cannotCompare_5 rfl (lv_at hl 1 rfl) ?_
  refine j_callS (As := [.int (nI j)]) (rest := []) S hK hA hW (c_X12_isSlot l D cy (nI j)    ) (jgo wm_X12_162) yk_X12_isSlot ⟨⟨rfl, rfl⟩, by decide, by decide⟩ rfl hl.1 rfl (Nat.le_of_ble_eq_true rfl) dX12_cannotCompare_6 ⟨Nat.le_of_ble_eq_true rfl, Nat.le_of_ble_eq_true rfl⟩ (fun v u H locs hp hW => ?_)
  obtain ⟨rfl, rfl⟩ := hp
  refine W.eq (g2 := F0 m 9 ls [.int (bI (vB (nI j) 4))]) rfl ?_
  refine jb_if_eq (tgt := 19) S dX12_cannotCompare_9 (by decide) (fun c_9 => ?_) (fun c_9 => ?_)
  · exact absurd (vB_nI hj (by decide)) (by rw [c_9]; decide)
  · refine lv_iload_n S.1 S.2.1 dX12_cannotCompare_12 rfl (lv_at hl 2 rfl) ?_
    refine j_callS (As := [.int (nI y)]) (rest := []) S hK hA hW (c_X12_isSlot l D cy (nI y)    ) (jgo wm_X12_162) yk_X12_isSlot ⟨⟨rfl, rfl⟩, by decide, by decide⟩ rfl hl.1 rfl (Nat.le_of_ble_eq_true rfl) dX12_cannotCompare_13 ⟨Nat.le_of_ble_eq_true rfl, Nat.le_of_ble_eq_true rfl⟩ (fun v u H locs hp hW => ?_)
    obtain ⟨rfl, rfl⟩ := hp
    refine W.eq (g2 := F0 m 16 ls [.int (bI (vB (nI y) 4))]) rfl ?_
    refine jb_if_ne (tgt := 27) S dX12_cannotCompare_16 (by decide) (fun c_16 => ?_) (fun c_16 => ?_)
    · refine lv_aload_n S.1 S.2.1 dX12_cannotCompare_27 rfl (lv_at hl 0 rfl) ?_
      refine j_get (ci := 11) (C := RX12) (T := TX12) (N := 17) (v := .ref (ad 71)) S (fun w h => List.mem_cons_of_mem _ (inG12 w h)) hK hW gO_ rfl 14 (by decide) (List.mem_cons_of_mem _ wfl_X12_55) (fun _ h9 => h9) rfl dX12_cannotCompare_28 ?_
      refine lv_iload_n S.1 S.2.1 dX12_cannotCompare_31 rfl (lv_at hl 1 rfl) ?_
      refine j_iald (x := kv j) S hK hW (hU.get gV (by decide)) (vp_in_nI (by omega) (by omega)) (nI_clamp (by omega)) (rfl) dX12_cannotCompare_32 ?_
      refine lv_if_lt (tgt := 45) S.1 S.2.1 dX12_cannotCompare_33 (by decide) (fun c_33 => ?_) (fun c_33 => ?_)
      · refine lv_aload_n S.1 S.2.1 dX12_cannotCompare_45 rfl (lv_at hl 0 rfl) ?_
        refine lv_iconst (v := nI 2) S.1 S.2.1 dX12_cannotCompare_46 (by decide) ?_
        refine j_put (ci := 11) (C := RX12) (T := TX12) (N := 17) (ty := .int) S (fun w h => List.mem_cons_of_mem _ (inG12 w h)) tyX12 tyX12_ok nmX12 hK hW gO_ rfl 0 (by decide) (List.mem_cons_of_mem _ wfl_X12_1) (fun _ h9 => h9) rfl (by decide +kernel) (rfl) (rfl) (Nat.le_of_ble_eq_true rfl) dX12_cannotCompare_47 (fun H locs w_ hU1 hN1 hW => ?_)
        have hU := hU.then hU1 (by decide)
        have gO_ : w_[55]? = some (ad 55, .inr (11, [.int (nI 2), .ref (ad 56), .ref (ad 57), .ref (ad 58), .ref (ad 59), .ref (ad 60), .ref (ad 61), .ref (ad 62), .ref (ad 63), .ref (ad 64), .ref (ad 65), .int (nI n), .int (nI nc), .ref (ad 66), .ref (ad 71), .ref (ad 72), .ref (ad 73)])) := hN1
        clear hU1 hN1
        refine lv_goto (tgt := 73) S.1 S.2.1 dX12_cannotCompare_50 (by decide) ?_
        refine lv_aload_n S.1 S.2.1 dX12_cannotCompare_73 rfl (lv_at hl 0 rfl) ?_
        refine j_get (ci := 11) (C := RX12) (T := TX12) (N := 17) (v := .int (nI 2)) S (fun w h => List.mem_cons_of_mem _ (inG12 w h)) hK hW gO_ rfl 0 (by decide) (List.mem_cons_of_mem _ wfl_X12_1) (fun _ h9 => h9) rfl dX12_cannotCompare_74 ?_
        refine jn_if_le (tgt := 84) S (by omega) dX12_cannotCompare_77 (by decide) (fun c_77 => ?_) (fun c_77 => ?_)
        · first | exact absurd (show 2 ≤ 0 from c_77) (by decide) | exact absurd c_77 (by decide)
        · refine lv_iconst (v := nI 1) S.1 S.2.1 dX12_cannotCompare_80 (by decide) ?_
          refine lv_goto (tgt := 85) S.1 S.2.1 dX12_cannotCompare_81 (by decide) ?_
          subst hQ
          exact j_iret (u := w_) S hr (rfl) hK hW dX12_cannotCompare_85 ⟨by decide, by decide⟩ (⟨rfl, hU, gO_⟩)
      · refine lv_aload_n S.1 S.2.1 dX12_cannotCompare_36 rfl (lv_at hl 0 rfl) ?_
        refine j_get (ci := 11) (C := RX12) (T := TX12) (N := 17) (v := .ref (ad 71)) S (fun w h => List.mem_cons_of_mem _ (inG12 w h)) hK hW gO_ rfl 14 (by decide) (List.mem_cons_of_mem _ wfl_X12_55) (fun _ h9 => h9) rfl dX12_cannotCompare_37 ?_
        refine lv_iload_n S.1 S.2.1 dX12_cannotCompare_40 rfl (lv_at hl 2 rfl) ?_
        refine j_iald (x := kv y) S hK hW (hU.get gV (by decide)) (vp_in_nI (by omega) (by omega)) (nI_clamp (by omega)) (rfl) dX12_cannotCompare_41 ?_
        refine lv_if_ge (tgt := 53) S.1 S.2.1 dX12_cannotCompare_42 (by decide) (fun c_42 => ?_) (fun c_42 => ?_)
        · exact (hkv.elim (fun q => by first | exact absurd q c_33 | exact absurd q (Int32.not_lt.mpr c_33)) (fun q => by first | exact absurd q c_42 | exact absurd q (Int32.not_lt.mpr c_42)))
        · refine lv_aload_n S.1 S.2.1 dX12_cannotCompare_45 rfl (lv_at hl 0 rfl) ?_
          refine lv_iconst (v := nI 2) S.1 S.2.1 dX12_cannotCompare_46 (by decide) ?_
          refine j_put (ci := 11) (C := RX12) (T := TX12) (N := 17) (ty := .int) S (fun w h => List.mem_cons_of_mem _ (inG12 w h)) tyX12 tyX12_ok nmX12 hK hW gO_ rfl 0 (by decide) (List.mem_cons_of_mem _ wfl_X12_1) (fun _ h9 => h9) rfl (by decide +kernel) (rfl) (rfl) (Nat.le_of_ble_eq_true rfl) dX12_cannotCompare_47 (fun H locs w_ hU1 hN1 hW => ?_)
          have hU := hU.then hU1 (by decide)
          have gO_ : w_[55]? = some (ad 55, .inr (11, [.int (nI 2), .ref (ad 56), .ref (ad 57), .ref (ad 58), .ref (ad 59), .ref (ad 60), .ref (ad 61), .ref (ad 62), .ref (ad 63), .ref (ad 64), .ref (ad 65), .int (nI n), .int (nI nc), .ref (ad 66), .ref (ad 71), .ref (ad 72), .ref (ad 73)])) := hN1
          clear hU1 hN1
          refine lv_goto (tgt := 73) S.1 S.2.1 dX12_cannotCompare_50 (by decide) ?_
          refine lv_aload_n S.1 S.2.1 dX12_cannotCompare_73 rfl (lv_at hl 0 rfl) ?_
          refine j_get (ci := 11) (C := RX12) (T := TX12) (N := 17) (v := .int (nI 2)) S (fun w h => List.mem_cons_of_mem _ (inG12 w h)) hK hW gO_ rfl 0 (by decide) (List.mem_cons_of_mem _ wfl_X12_1) (fun _ h9 => h9) rfl dX12_cannotCompare_74 ?_
          refine jn_if_le (tgt := 84) S (by omega) dX12_cannotCompare_77 (by decide) (fun c_77 => ?_) (fun c_77 => ?_)
          · first | exact absurd (show 2 ≤ 0 from c_77) (by decide) | exact absurd c_77 (by decide)
          · refine lv_iconst (v := nI 1) S.1 S.2.1 dX12_cannotCompare_80 (by decide) ?_
            refine lv_goto (tgt := 85) S.1 S.2.1 dX12_cannotCompare_81 (by decide) ?_
            subst hQ
            exact j_iret (u := w_) S hr (rfl) hK hW dX12_cannotCompare_85 ⟨by decide, by decide⟩ (⟨rfl, hU, gO_⟩)
    · exact absurd (vB_nI hy (by decide)) (by rw [c_16]; decide)
/-- cannotCompare, other variables -/
theorem c_X12_cannotCompare_b3 (l : Launch) (D : va_G) (cy : Nat → ClassId) {w : va_W} (ad : Nat → Nat) (th n nc : Nat) (kv : Nat → Int32) (j y : Nat) (gO : w[55]? = some (ad 55, .inr (11, [.int (nI th), .ref (ad 56), .ref (ad 57), .ref (ad 58), .ref (ad 59), .ref (ad 60), .ref (ad 61), .ref (ad 62), .ref (ad 63), .ref (ad 64), .ref (ad 65), .int (nI n), .int (nI nc), .ref (ad 66), .ref (ad 71), .ref (ad 72), .ref (ad 73)]))) (gV : w[71]? = some (ad 71, .inl (cy 0, 4, .inl kv))) (hj : j < 4) (hy : y < 4) (hkv : ¬ kv j < 0) (hkw : ¬ kv y < 0) (hne : kv j ≠ kv y) : jM l yX12_cannotCompare (jws yX12_cannotCompare cX12_cannotCompare 3 (some .boolean)) (jR 2 0 0) D cy w [.ref (ad 55), .int (nI j), .int (nI y)] 0 0 (fun vv uu => vv = some (.int (bI true)) ∧ jU w uu [55] ∧ uu[55]? = some (ad 55, .inr (11, [.int (nI 3), .ref (ad 56), .ref (ad 57), .ref (ad 58), .ref (ad 59), .ref (ad 60), .ref (ad 61), .ref (ad 62), .ref (ad 63), .ref (ad 64), .ref (ad 65), .int (nI n), .int (nI nc), .ref (ad 66), .ref (ad 71), .ref (ad 72), .ref (ad 73)]))) := by
  refine j_of (by decide) rfl (Nat.le_of_ble_eq_true rfl) ?_
  intro p e s m args below meth c A ls Q hQ S hr hK hA H locs hW hl
  have hl : lv_has ls 3 [(0, .ref (ad 55)), (1, .int (nI j)), (2, .int (nI y))] := hl
  refine lv_aload_n S.1 S.2.1 dX12_cannotCompare_0 rfl (lv_at hl 0 rfl) ?_
  refine lv_iconst (v := nI 0) S.1 S.2.1 dX12_cannotCompare_1 (by decide) ?_
  refine j_put (ci := 11) (C := RX12) (T := TX12) (N := 17) (ty := .int) S (fun w h => List.mem_cons_of_mem _ (inG12 w h)) tyX12 tyX12_ok nmX12 hK hW gO rfl 0 (by decide) (List.mem_cons_of_mem _ wfl_X12_1) (fun _ h9 => h9) rfl (by decide +kernel) (rfl) (rfl) (Nat.le_of_ble_eq_true rfl) dX12_cannotCompare_2 (fun H locs w_ hU1 hN1 hW => ?_)
  have hU : jU w w_ [55] := jU.mono hU1 (by decide)
  have gO_ : w_[55]? = some (ad 55, .inr (11, [.int (nI 0), .ref (ad 56), .ref (ad 57), .ref (ad 58), .ref (ad 59), .ref (ad 60), .ref (ad 61), .ref (ad 62), .ref (ad 63), .ref (ad 64), .ref (ad 65), .int (nI n), .int (nI nc), .ref (ad 66), .ref (ad 71), .ref (ad 72), .ref (ad 73)])) := hN1
  clear hU1 hN1
  refine lv_iload_n S.1 S.2.1 dX12_cannotCompare_5 rfl (lv_at hl 1 rfl) ?_
  refine j_callS (As := [.int (nI j)]) (rest := []) S hK hA hW (c_X12_isSlot l D cy (nI j)    ) (jgo wm_X12_162) yk_X12_isSlot ⟨⟨rfl, rfl⟩, by decide, by decide⟩ rfl hl.1 rfl (Nat.le_of_ble_eq_true rfl) dX12_cannotCompare_6 ⟨Nat.le_of_ble_eq_true rfl, Nat.le_of_ble_eq_true rfl⟩ (fun v u H locs hp hW => ?_)
  obtain ⟨rfl, rfl⟩ := hp
  refine W.eq (g2 := F0 m 9 ls [.int (bI (vB (nI j) 4))]) rfl ?_
  refine jb_if_eq (tgt := 19) S dX12_cannotCompare_9 (by decide) (fun c_9 => ?_) (fun c_9 => ?_)
  · exact absurd (vB_nI hj (by decide)) (by rw [c_9]; decide)
  · refine lv_iload_n S.1 S.2.1 dX12_cannotCompare_12 rfl (lv_at hl 2 rfl) ?_
    refine j_callS (As := [.int (nI y)]) (rest := []) S hK hA hW (c_X12_isSlot l D cy (nI y)    ) (jgo wm_X12_162) yk_X12_isSlot ⟨⟨rfl, rfl⟩, by decide, by decide⟩ rfl hl.1 rfl (Nat.le_of_ble_eq_true rfl) dX12_cannotCompare_13 ⟨Nat.le_of_ble_eq_true rfl, Nat.le_of_ble_eq_true rfl⟩ (fun v u H locs hp hW => ?_)
    obtain ⟨rfl, rfl⟩ := hp
    refine W.eq (g2 := F0 m 16 ls [.int (bI (vB (nI y) 4))]) rfl ?_
    refine jb_if_ne (tgt := 27) S dX12_cannotCompare_16 (by decide) (fun c_16 => ?_) (fun c_16 => ?_)
    · refine lv_aload_n S.1 S.2.1 dX12_cannotCompare_27 rfl (lv_at hl 0 rfl) ?_
      refine j_get (ci := 11) (C := RX12) (T := TX12) (N := 17) (v := .ref (ad 71)) S (fun w h => List.mem_cons_of_mem _ (inG12 w h)) hK hW gO_ rfl 14 (by decide) (List.mem_cons_of_mem _ wfl_X12_55) (fun _ h9 => h9) rfl dX12_cannotCompare_28 ?_
      refine lv_iload_n S.1 S.2.1 dX12_cannotCompare_31 rfl (lv_at hl 1 rfl) ?_
      refine j_iald (x := kv j) S hK hW (hU.get gV (by decide)) (vp_in_nI (by omega) (by omega)) (nI_clamp (by omega)) (rfl) dX12_cannotCompare_32 ?_
      refine lv_if_lt (tgt := 45) S.1 S.2.1 dX12_cannotCompare_33 (by decide) (fun c_33 => ?_) (fun c_33 => ?_)
      · first | exact absurd c_33 hkv | exact hkv c_33 | exact hkv (i32_lt.mpr c_33)
      · refine lv_aload_n S.1 S.2.1 dX12_cannotCompare_36 rfl (lv_at hl 0 rfl) ?_
        refine j_get (ci := 11) (C := RX12) (T := TX12) (N := 17) (v := .ref (ad 71)) S (fun w h => List.mem_cons_of_mem _ (inG12 w h)) hK hW gO_ rfl 14 (by decide) (List.mem_cons_of_mem _ wfl_X12_55) (fun _ h9 => h9) rfl dX12_cannotCompare_37 ?_
        refine lv_iload_n S.1 S.2.1 dX12_cannotCompare_40 rfl (lv_at hl 2 rfl) ?_
        refine j_iald (x := kv y) S hK hW (hU.get gV (by decide)) (vp_in_nI (by omega) (by omega)) (nI_clamp (by omega)) (rfl) dX12_cannotCompare_41 ?_
        refine lv_if_ge (tgt := 53) S.1 S.2.1 dX12_cannotCompare_42 (by decide) (fun c_42 => ?_) (fun c_42 => ?_)
        · refine lv_aload_n S.1 S.2.1 dX12_cannotCompare_53 rfl (lv_at hl 0 rfl) ?_
          refine j_get (ci := 11) (C := RX12) (T := TX12) (N := 17) (v := .ref (ad 71)) S (fun w h => List.mem_cons_of_mem _ (inG12 w h)) hK hW gO_ rfl 14 (by decide) (List.mem_cons_of_mem _ wfl_X12_55) (fun _ h9 => h9) rfl dX12_cannotCompare_54 ?_
          refine lv_iload_n S.1 S.2.1 dX12_cannotCompare_57 rfl (lv_at hl 1 rfl) ?_
          refine j_iald (x := kv j) S hK hW (hU.get gV (by decide)) (vp_in_nI (by omega) (by omega)) (nI_clamp (by omega)) (rfl) dX12_cannotCompare_58 ?_
          refine lv_aload_n S.1 S.2.1 dX12_cannotCompare_59 rfl (lv_at hl 0 rfl) ?_
          refine j_get (ci := 11) (C := RX12) (T := TX12) (N := 17) (v := .ref (ad 71)) S (fun w h => List.mem_cons_of_mem _ (inG12 w h)) hK hW gO_ rfl 14 (by decide) (List.mem_cons_of_mem _ wfl_X12_55) (fun _ h9 => h9) rfl dX12_cannotCompare_60 ?_
          refine lv_iload_n S.1 S.2.1 dX12_cannotCompare_63 rfl (lv_at hl 2 rfl) ?_
          refine j_iald (x := kv y) S hK hW (hU.get gV (by decide)) (vp_in_nI (by omega) (by omega)) (nI_clamp (by omega)) (rfl) dX12_cannotCompare_64 ?_
          refine lv_icmp_eq (tgt := 73) S.1 S.2.1 dX12_cannotCompare_65 (by decide) (fun c_65 => ?_) (fun c_65 => ?_)
          · exact absurd c_65 hne
          · refine lv_aload_n S.1 S.2.1 dX12_cannotCompare_68 rfl (lv_at hl 0 rfl) ?_
            refine lv_iconst (v := nI 3) S.1 S.2.1 dX12_cannotCompare_69 (by decide) ?_
            refine j_put (ci := 11) (C := RX12) (T := TX12) (N := 17) (ty := .int) S (fun w h => List.mem_cons_of_mem _ (inG12 w h)) tyX12 tyX12_ok nmX12 hK hW gO_ rfl 0 (by decide) (List.mem_cons_of_mem _ wfl_X12_1) (fun _ h9 => h9) rfl (by decide +kernel) (rfl) (rfl) (Nat.le_of_ble_eq_true rfl) dX12_cannotCompare_70 (fun H locs w_ hU1 hN1 hW => ?_)
            have hU := hU.then hU1 (by decide)
            have gO_ : w_[55]? = some (ad 55, .inr (11, [.int (nI 3), .ref (ad 56), .ref (ad 57), .ref (ad 58), .ref (ad 59), .ref (ad 60), .ref (ad 61), .ref (ad 62), .ref (ad 63), .ref (ad 64), .ref (ad 65), .int (nI n), .int (nI nc), .ref (ad 66), .ref (ad 71), .ref (ad 72), .ref (ad 73)])) := hN1
            clear hU1 hN1
            refine lv_aload_n S.1 S.2.1 dX12_cannotCompare_73 rfl (lv_at hl 0 rfl) ?_
            refine j_get (ci := 11) (C := RX12) (T := TX12) (N := 17) (v := .int (nI 3)) S (fun w h => List.mem_cons_of_mem _ (inG12 w h)) hK hW gO_ rfl 0 (by decide) (List.mem_cons_of_mem _ wfl_X12_1) (fun _ h9 => h9) rfl dX12_cannotCompare_74 ?_
            refine jn_if_le (tgt := 84) S (by omega) dX12_cannotCompare_77 (by decide) (fun c_77 => ?_) (fun c_77 => ?_)
            · first | exact absurd (show 3 ≤ 0 from c_77) (by decide) | exact absurd c_77 (by decide)
            · refine lv_iconst (v := nI 1) S.1 S.2.1 dX12_cannotCompare_80 (by decide) ?_
              refine lv_goto (tgt := 85) S.1 S.2.1 dX12_cannotCompare_81 (by decide) ?_
              subst hQ
              exact j_iret (u := w_) S hr (rfl) hK hW dX12_cannotCompare_85 ⟨by decide, by decide⟩ (⟨rfl, hU, gO_⟩)
        · first | exact absurd c_42 hkw | exact absurd (Int32.not_le.mp c_42) hkw | exact hkw (i32_lt.mpr c_42)
    · exact absurd (vB_nI hy (by decide)) (by rw [c_16]; decide)
