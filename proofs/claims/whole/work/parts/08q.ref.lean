/-! THE REFERENCE: rows fixed and freed (laid by wip/whole/tools, from the specs there) -/
/-- fix -/
theorem c_X12_fix_ok (l : Launch) (D : va_G) (cy : Nat → ClassId) {w : va_W} (ad : Nat → Nat) (th n nc : Nat) (od : Nat → Nat) (rb tu : Nat → Bool) (kv : Nat → Int32) (gx : Nat → Nat → Bool) (j x y : Nat) (gO : w[55]? = some (ad 55, .inr (11, [.int (nI th), .ref (ad 56), .ref (ad 57), .ref (ad 58), .ref (ad 59), .ref (ad 60), .ref (ad 61), .ref (ad 62), .ref (ad 63), .ref (ad 64), .ref (ad 65), .int (nI n), .int (nI nc), .ref (ad 66), .ref (ad 71), .ref (ad 72), .ref (ad 73)]))) (gD : w[59]? = some (ad 59, .inl (cy 0, 10, .inl (nf od)))) (gR : w[72]? = some (ad 72, .inl (cy 3, 1024, .inl (bf rb)))) (gU : w[73]? = some (ad 73, .inl (cy 3, 1024, .inl (bf tu)))) (gK : w[66]? = some (ad 66, .inl (cy 6, 4, .inr (.inr (.inr (.inr (kpF ad))))))) (gV : w[71]? = some (ad 71, .inl (cy 0, 4, .inl kv))) (gX : w[67 + j]? = some (ad (67 + j), .inl (cy 3, 1024, .inl (bf (gx j))))) (hn : n ≤ 10) (hod : ∀ j, od j < 10) (hj : j < 4) (hx : x < n) (hy : y < 2) (hkv : kv j = nI n) : jM l yX12_fix (jws yX12_fix cX12_fix 5 (some .int)) (jR 6 0 0) D cy w [.ref (ad 55), .int (nI j), .int (nI x), .int (nI y)] 0 0 (fun vv uu => ∃ (rb1 : Nat → Bool), ∃ (tu1 : Nat → Bool), vv = some (.int (nI (sumN (nodesB (fun d => (fixS n x y (gx j)) (layP n od d n)) n) n))) ∧ jU w uu [55, 67 + j, 72, 73] ∧ uu[55]? = some (ad 55, .inr (11, [.int (nI 0), .ref (ad 56), .ref (ad 57), .ref (ad 58), .ref (ad 59), .ref (ad 60), .ref (ad 61), .ref (ad 62), .ref (ad 63), .ref (ad 64), .ref (ad 65), .int (nI n), .int (nI nc), .ref (ad 66), .ref (ad 71), .ref (ad 72), .ref (ad 73)])) ∧ uu[67 + j]? = some (ad (67 + j), .inl (cy 3, 1024, .inl (bf (rowM (rowM (fixS n x y (gx j)) rb) (gx j))))) ∧ uu[72]? = some (ad 72, .inl (cy 3, 1024, .inl (bf rb1))) ∧ uu[73]? = some (ad 73, .inl (cy 3, 1024, .inl (bf tu1)))) := by
  have hp2 := two_pow10 hn
  refine j_of (by decide) rfl (Nat.le_of_ble_eq_true rfl) ?_
  intro p e s m args below meth c A ls Q hQ S hr hK hA H locs hW hl
  have hl : lv_has ls 5 [(0, .ref (ad 55)), (1, .int (nI j)), (2, .int (nI x)), (3, .int (nI y))] := hl
  refine lv_aload_n S.1 S.2.1 dX12_fix_0 rfl (lv_at hl 0 rfl) ?_
  refine lv_iconst (v := nI 0) S.1 S.2.1 dX12_fix_1 (by decide) ?_
  refine j_put (ci := 11) (C := RX12) (T := TX12) (N := 17) (ty := .int) S (fun w h => List.mem_cons_of_mem _ (inG12 w h)) tyX12 tyX12_ok nmX12 hK hW gO rfl 0 (by decide) (List.mem_cons_of_mem _ wfl_X12_1) (fun _ h9 => h9) rfl (by decide +kernel) (rfl) (rfl) (Nat.le_of_ble_eq_true rfl) dX12_fix_2 (fun H locs w_ hU1 hN1 hW => ?_)
  have hU : jU w w_ [55, 67 + j, 72, 73] := jU.mono hU1 (by first | decide | (simp; done) | (simp; omega))
  have gR_ := hU1.get gR (by first | decide | (simp; done) | (simp; omega))
  have gU_ := hU1.get gU (by first | decide | (simp; done) | (simp; omega))
  have gX_ := hU1.get gX (by first | decide | (simp; done) | (simp; omega))
  have gO_ : w_[55]? = some (ad 55, .inr (11, [.int (nI 0), .ref (ad 56), .ref (ad 57), .ref (ad 58), .ref (ad 59), .ref (ad 60), .ref (ad 61), .ref (ad 62), .ref (ad 63), .ref (ad 64), .ref (ad 65), .int (nI n), .int (nI nc), .ref (ad 66), .ref (ad 71), .ref (ad 72), .ref (ad 73)])) := hN1
  clear hU1 hN1
  refine lv_iload_n S.1 S.2.1 dX12_fix_5 rfl (lv_at hl 1 rfl) ?_
  refine j_callS (As := [.int (nI j)]) (rest := []) S hK hA hW (c_X12_isSlot l D cy (nI j)    ) (jgo wm_X12_162) yk_X12_isSlot ⟨⟨rfl, rfl⟩, by decide, by decide⟩ rfl hl.1 rfl (Nat.le_of_ble_eq_true rfl) dX12_fix_6 ⟨Nat.le_of_ble_eq_true rfl, Nat.le_of_ble_eq_true rfl⟩ (fun v u H locs hp hW => ?_)
  obtain ⟨rfl, rfl⟩ := hp
  refine W.eq (g2 := F0 m 9 ls [.int (bI (vB (nI j) 4))]) rfl ?_
  refine jb_if_eq (tgt := 21) S dX12_fix_9 (by decide) (fun c_9 => ?_) (fun c_9 => ?_)
  · exact absurd (vB_nI hj (by decide)) (by rw [c_9]; decide)
  · refine lv_iload_n S.1 S.2.1 dX12_fix_12 rfl (lv_at hl 3 rfl) ?_
    refine lv_iconst (v := nI 0) S.1 S.2.1 dX12_fix_13 (by decide) ?_
    refine lv_iconst (v := nI 1) S.1 S.2.1 dX12_fix_14 (by decide) ?_
    refine j_callS (As := [.int (nI y), .int (nI 0), .int (nI 1)]) (rest := []) S hK hA hW (c_X12_isBetween l D cy (nI y) (nI 0) (nI 1)    ) (jgo wm_X12_67) yk_X12_isBetween ⟨⟨rfl, rfl⟩, by decide, by decide⟩ rfl hl.1 rfl (Nat.le_of_ble_eq_true rfl) dX12_fix_15 ⟨Nat.le_of_ble_eq_true rfl, Nat.le_of_ble_eq_true rfl⟩ (fun v u H locs hp hW => ?_)
    obtain ⟨rfl, rfl⟩ := hp
    refine W.eq (g2 := F0 m 18 ls [.int (bI (decide ((nI 0) ≤ (nI y)) && decide ((nI y) ≤ (nI 1))))]) rfl ?_
    refine lv_topi_to (y := bI (vB (nI y) 2)) (by rw [btw_k (k := 1) (by decide)]) ?_
    refine jb_if_ne (tgt := 27) S dX12_fix_18 (by decide) (fun c_18 => ?_) (fun c_18 => ?_)
    · refine lv_aload_n S.1 S.2.1 dX12_fix_27 rfl (lv_at hl 0 rfl) ?_
      refine lv_iload_n S.1 S.2.1 dX12_fix_28 rfl (lv_at hl 2 rfl) ?_
      refine j_callV (k := 55) (ci := 11) (q := (RX12, TX12, 17)) (As := [.int (nI x)]) (rest := []) S hK hA hW (c_X12_isVariable l D cy ad 0 n nc (nI x) gO_   (by omega)) (jgo wm_X12_75) yk_X12_isVariable gO_ rfl rfl ⟨⟨rfl, rfl⟩, by decide, by decide⟩ rfl hl.1 rfl (Nat.le_of_ble_eq_true rfl) dX12_fix_29 ⟨Nat.le_of_ble_eq_true rfl, Nat.le_of_ble_eq_true rfl⟩ (fun v u H locs hp hW => ?_)
      obtain ⟨rfl, rfl⟩ := hp
      refine W.eq (g2 := F0 m 32 ls [.int (bI (vB (nI x) n))]) rfl ?_
      refine jb_if_ne (tgt := 41) S dX12_fix_32 (by decide) (fun c_32 => ?_) (fun c_32 => ?_)
      · refine lv_aload_n S.1 S.2.1 dX12_fix_41 rfl (lv_at hl 0 rfl) ?_
        refine j_get (ci := 11) (C := RX12) (T := TX12) (N := 17) (v := .ref (ad 71)) S (fun w h => List.mem_cons_of_mem _ (inG12 w h)) hK hW gO_ rfl 14 (by decide) (List.mem_cons_of_mem _ wfl_X12_55) (fun _ h9 => h9) rfl dX12_fix_42 ?_
        refine lv_iload_n S.1 S.2.1 dX12_fix_45 rfl (lv_at hl 1 rfl) ?_
        refine j_iald (x := nI n) S hK hW (hU.get gV (by first | decide | (simp; done) | (simp; omega))) (vp_in_nI (by omega) (by omega)) (nI_clamp (by omega)) (hkv) dX12_fix_46 ?_
        refine jn_if_ge (tgt := 56) S (by omega) dX12_fix_47 (by decide) ?_
        refine lv_aload_n S.1 S.2.1 dX12_fix_56 rfl (lv_at hl 0 rfl) ?_
        refine j_get (ci := 11) (C := RX12) (T := TX12) (N := 17) (v := .ref (ad 71)) S (fun w h => List.mem_cons_of_mem _ (inG12 w h)) hK hW gO_ rfl 14 (by decide) (List.mem_cons_of_mem _ wfl_X12_55) (fun _ h9 => h9) rfl dX12_fix_57 ?_
        refine lv_iload_n S.1 S.2.1 dX12_fix_60 rfl (lv_at hl 1 rfl) ?_
        refine j_iald (x := nI n) S hK hW (hU.get gV (by first | decide | (simp; done) | (simp; omega))) (vp_in_nI (by omega) (by omega)) (nI_clamp (by omega)) (hkv) dX12_fix_61 ?_
        refine lv_aload_n S.1 S.2.1 dX12_fix_62 rfl (lv_at hl 0 rfl) ?_
        refine j_get (ci := 11) (C := RX12) (T := TX12) (N := 17) (v := .int (nI n)) S (fun w h => List.mem_cons_of_mem _ (inG12 w h)) hK hW gO_ rfl 11 (by decide) (List.mem_cons_of_mem _ wfl_X12_64) (fun _ h9 => h9) rfl dX12_fix_63 ?_
        refine jn_cmp_eq (tgt := 75) S (by omega) (by omega) dX12_fix_66 (by decide) (fun c_66 => ?_) (fun c_66 => ?_)
        · refine lv_iconst (v := nI 0) S.1 S.2.1 dX12_fix_75 (by decide) ?_
          refine lv_istore (lv' := [(4, .int (nI 0)), (0, .ref (ad 55)), (1, .int (nI j)), (2, .int (nI x)), (3, .int (nI y))]) S.1 S.2.1 dX12_fix_76 hl (by decide) rfl (fun ls hl => ?_)
          have gR_ : w_[72]? = some (ad 72, .inl (cy 3, 1024, .inl (bf (mixF (fixS n x y (gx j)) rb 0)))) := by
            rw [mixF_0]; exact gR_
          have L78 : ∀ (k : Nat) (a1 : Nat), 1024 - a1 = k → (a1 ≤ 1024) → ∀ (w_ : va_W), jU w w_ [55, 67 + j, 72, 73] → (w_[55]? = some (ad 55, .inr (11, [.int (nI 0), .ref (ad 56), .ref (ad 57), .ref (ad 58), .ref (ad 59), .ref (ad 60), .ref (ad 61), .ref (ad 62), .ref (ad 63), .ref (ad 64), .ref (ad 65), .int (nI n), .int (nI nc), .ref (ad 66), .ref (ad 71), .ref (ad 72), .ref (ad 73)]))) → (w_[72]? = some (ad 72, .inl (cy 3, 1024, .inl (bf (mixF (fixS n x y (gx j)) rb a1))))) → (w_[67 + j]? = some (ad (67 + j), .inl (cy 3, 1024, .inl (bf (gx j))))) → (w_[73]? = some (ad 73, .inl (cy 3, 1024, .inl (bf tu)))) → ∀ (H : Heap) (locs : List Loc) (ls : Array Slot), jW D A s.heap w_ H locs → lv_has ls 5 [(0, .ref (ad 55)), (1, .int (nI j)), (2, .int (nI x)), (3, .int (nI y)), (4, .int (nI a1))] → W p l e (jR 6 0 0) s m args below meth c H locs 0 0 Q (F0 m 78 ls []) := by
            intro k
            induction k using Nat.strongRecOn with
            | ind k ih78 =>
            intro a1 hk ha1 w_ hU gO_ gR_ gX_ gU_ H locs ls hW hl
            subst hk
            refine lv_iload S.1 S.2.1 dX12_fix_78 (lv_at hl 4 rfl) ?_
            refine lv_sipush (v := nI 1024) S.1 S.2.1 dX12_fix_80 (by decide) ?_
            refine jn_cmp_ge (tgt := 135) S (by omega) (by omega) dX12_fix_83 (by decide) (fun c_83 => ?_) (fun c_83 => ?_)
            · have ea : a1 = 1024 := by omega
              subst ea
              have gR_ : w_[72]? = some (ad 72, .inl (cy 3, 1024, .inl (bf (rowM (fixS n x y (gx j)) rb)))) := by
                exact gR_
              refine lv_aload_n S.1 S.2.1 dX12_fix_135 rfl (lv_at hl 0 rfl) ?_
              refine lv_iload_n S.1 S.2.1 dX12_fix_136 rfl (lv_at hl 1 rfl) ?_
              refine j_callV (k := 55) (ci := 11) (q := (RX12, TX12, 17)) (As := [.int (nI j)]) (rest := []) S hK hA hW (c_X12_becomes l D cy ad 0 n nc od (rowM (fixS n x y (gx j)) rb) tu gx j gO_ (hU.get gD (by first | decide | (simp; done) | (simp; omega))) gR_ gU_ (hU.get gK (by first | decide | (simp; done) | (simp; omega))) gX_   (by omega) (hod) (by omega)) (jgo wm_X12_165) yk_X12_becomes gO_ rfl rfl ⟨⟨rfl, rfl⟩, by decide, by decide⟩ rfl hl.1 rfl (Nat.le_of_ble_eq_true rfl) dX12_fix_137 ⟨Nat.le_of_ble_eq_true rfl, Nat.le_of_ble_eq_true rfl⟩ (fun v w_ H locs hp hW => ?_)
              obtain ⟨rfl, hU1, hN1, hN2⟩ := hp
              have hU := hU.then hU1 (by first | decide | (simp; done) | (simp; omega))
              have gO_ := hU1.get gO_ (by first | decide | (simp; done) | (simp; omega))
              have gR_ := hU1.get gR_ (by first | decide | (simp; done) | (simp; omega))
              have gX_ : w_[67 + j]? = some (ad (67 + j), .inl (cy 3, 1024, .inl (bf (rowM (rowM (fixS n x y (gx j)) rb) (gx j))))) := hN1
              have gU_ : w_[73]? = some (ad 73, .inl (cy 3, 1024, .inl (bf (mixF (fun d => (rowM (fixS n x y (gx j)) rb) (layP n od d n)) tu (2 ^ n))))) := hN2
              clear hU1 hN1 hN2
              refine W.eq (g2 := F0 m 140 ls [.int (nI (sumN (nodesB (fun d => (rowM (fixS n x y (gx j)) rb) (layP n od d n)) n) n))]) rfl ?_
              refine lv_topi_to (y := nI (sumN (nodesB (fun d => (fixS n x y (gx j)) (layP n od d n)) n) n)) (congrArg nI (sumN_congr (fun j hj => nodesB_congr hj (fun i _ => row_at (layP_lt hod))))) ?_
              subst hQ
              exact j_iret (u := w_) S hr (rfl) hK hW dX12_fix_140 ⟨by decide, by decide⟩ (⟨_, _, rfl, hU, gO_, gX_, gR_, gU_⟩)
            · refine lv_aload_n S.1 S.2.1 dX12_fix_86 rfl (lv_at hl 0 rfl) ?_
              refine j_get (ci := 11) (C := RX12) (T := TX12) (N := 17) (v := .ref (ad 72)) S (fun w h => List.mem_cons_of_mem _ (inG12 w h)) hK hW gO_ rfl 15 (by decide) (List.mem_cons_of_mem _ wfl_X12_58) (fun _ h9 => h9) rfl dX12_fix_87 ?_
              refine lv_iload S.1 S.2.1 dX12_fix_90 (lv_at hl 4 rfl) ?_
              refine lv_iload S.1 S.2.1 dX12_fix_92 (lv_at hl 4 rfl) ?_
              refine lv_aload_n S.1 S.2.1 dX12_fix_94 rfl (lv_at hl 0 rfl) ?_
              refine j_callV (k := 55) (ci := 11) (q := (RX12, TX12, 17)) (As := []) (rest := [.int (nI a1), .int (nI a1), .ref (ad 72)]) S hK hA hW (c_X12_all l D cy ad 0 n nc gO_   (by omega)) (jgo wm_X12_98) yk_X12_all gO_ rfl rfl ⟨⟨rfl, rfl⟩, by decide, by decide⟩ rfl hl.1 rfl (Nat.le_of_ble_eq_true rfl) dX12_fix_95 ⟨Nat.le_of_ble_eq_true rfl, Nat.le_of_ble_eq_true rfl⟩ (fun v u H locs hp hW => ?_)
              obtain ⟨rfl, rfl⟩ := hp
              refine W.eq (g2 := F0 m 98 ls [.int (nI (2 ^ n)), .int (nI a1), .int (nI a1), .ref (ad 72)]) rfl ?_
              refine jn_cmp_ge (tgt := 127) S (by omega) (by omega) dX12_fix_98 (by decide) (fun c_98 => ?_) (fun c_98 => ?_)
              · refine lv_iconst (v := nI 0) S.1 S.2.1 dX12_fix_127 (by decide) ?_
                refine j_zast S hK hW gR_ (vp_in_nI (by omega) (by omega)) (nI_clamp (by omega)) (rfl) dX12_fix_128 (fun H locs w_ hU1 hN1 hW => ?_)
                have hU := hU.then hU1 (by first | decide | (simp; done) | (simp; omega))
                have gO_ := hU1.get gO_ (by first | decide | (simp; done) | (simp; omega))
                have gX_ := hU1.get gX_ (by first | decide | (simp; done) | (simp; omega))
                have gU_ := hU1.get gU_ (by first | decide | (simp; done) | (simp; omega))
                have gR_ : w_[72]? = some (ad 72, .inl (cy 3, 1024, .inl (upd (bf (mixF (fixS n x y (gx j)) rb a1)) a1 (nI 0)))) := hN1
                clear hU1 hN1
                have gR_ : w_[72]? = some (ad 72, .inl (cy 3, 1024, .inl (bf (mixF (fixS n x y (gx j)) rb (a1 + 1))))) := by
                  first
                  | (rw [← mixF_upd (g := (fixS n x y (gx j))) (b := true) (by show (decide (a1 < 2 ^ n) && gx j (nAnd a1 (2 ^ x) ||| y <<< x)) = true; rw [decide_eq_true c_98, c_120]; rfl)]; exact gR_)
                  | (rw [← mixF_upd (g := (fixS n x y (gx j))) (b := false) (by show (decide (a1 < 2 ^ n) && gx j (nAnd a1 (2 ^ x) ||| y <<< x)) = false; first | (rw [c_120, Bool.and_false]) | (rw [decide_eq_false (by omega)]; rfl))]; exact gR_)
                refine lv_iinc (v := nI (a1 + 1)) (lv' := [(4, .int (nI (a1 + 1))), (0, .ref (ad 55)), (1, .int (nI j)), (2, .int (nI x)), (3, .int (nI y))]) S.1 S.2.1 dX12_fix_129 hl (k := 4) rfl (nI_add _ 1) (by decide) rfl (fun ls hl => ?_)
                refine lv_goto (tgt := 78) S.1 S.2.1 dX12_fix_132 (by decide) ?_
                exact ih78 _ (by omega) (a1 + 1) rfl (by omega) w_ hU gO_ gR_ gX_ gU_ H locs ls hW (lv_sub hl [1, 2, 3, 4, 0] rfl)
              · refine lv_aload_n S.1 S.2.1 dX12_fix_101 rfl (lv_at hl 0 rfl) ?_
                refine j_get (ci := 11) (C := RX12) (T := TX12) (N := 17) (v := .ref (ad 66)) S (fun w h => List.mem_cons_of_mem _ (inG12 w h)) hK hW gO_ rfl 13 (by decide) (List.mem_cons_of_mem _ wfl_X12_52) (fun _ h9 => h9) rfl dX12_fix_102 ?_
                refine lv_iload_n S.1 S.2.1 dX12_fix_105 rfl (lv_at hl 1 rfl) ?_
                refine j_aaldB (x := .ref (ad (67 + j))) S hK hW (hU.get gK (by first | decide | (simp; done) | (simp; omega))) (vp_in_nI (by omega) (by omega)) (nI_clamp (by omega)) (kp_at hj) dX12_fix_106 ?_
                refine lv_iload S.1 S.2.1 dX12_fix_107 (lv_at hl 4 rfl) ?_
                refine lv_iconst (v := nI 1) S.1 S.2.1 dX12_fix_109 (by decide) ?_
                refine lv_iload_n S.1 S.2.1 dX12_fix_110 rfl (lv_at hl 2 rfl) ?_
                refine jn_shl1 S (by omega) dX12_fix_111 ?_
                refine lv_iconst (v := (-1)) S.1 S.2.1 dX12_fix_112 (by decide) ?_
                refine lv_ixor S.1 S.2.1 dX12_fix_113 ?_
                refine jn_andn S dX12_fix_114 ?_
                refine lv_iload_n S.1 S.2.1 dX12_fix_115 rfl (lv_at hl 3 rfl) ?_
                refine lv_iload_n S.1 S.2.1 dX12_fix_116 rfl (lv_at hl 2 rfl) ?_
                refine jn_shl S (by omega) dX12_fix_117 ?_
                refine jn_or S dX12_fix_118 ?_
                have hfl := fix_lt hn hx hy (show a1 < 1024 by omega)
                refine j_zald (x := bI (gx j ((nAnd a1 (2 ^ x)) ||| (y <<< x)))) S hK hW gX_ (vp_in_nI (by omega) (by omega)) (nI_clamp (by omega)) (rfl) dX12_fix_119 ?_
                refine jb_if_eq (tgt := 127) S dX12_fix_120 (by decide) (fun c_120 => ?_) (fun c_120 => ?_)
                · refine lv_iconst (v := nI 0) S.1 S.2.1 dX12_fix_127 (by decide) ?_
                  refine j_zast S hK hW gR_ (vp_in_nI (by omega) (by omega)) (nI_clamp (by omega)) (rfl) dX12_fix_128 (fun H locs w_ hU1 hN1 hW => ?_)
                  have hU := hU.then hU1 (by first | decide | (simp; done) | (simp; omega))
                  have gO_ := hU1.get gO_ (by first | decide | (simp; done) | (simp; omega))
                  have gX_ := hU1.get gX_ (by first | decide | (simp; done) | (simp; omega))
                  have gU_ := hU1.get gU_ (by first | decide | (simp; done) | (simp; omega))
                  have gR_ : w_[72]? = some (ad 72, .inl (cy 3, 1024, .inl (upd (bf (mixF (fixS n x y (gx j)) rb a1)) a1 (nI 0)))) := hN1
                  clear hU1 hN1
                  have gR_ : w_[72]? = some (ad 72, .inl (cy 3, 1024, .inl (bf (mixF (fixS n x y (gx j)) rb (a1 + 1))))) := by
                    first
                    | (rw [← mixF_upd (g := (fixS n x y (gx j))) (b := true) (by show (decide (a1 < 2 ^ n) && gx j (nAnd a1 (2 ^ x) ||| y <<< x)) = true; rw [decide_eq_true c_98, c_120]; rfl)]; exact gR_)
                    | (rw [← mixF_upd (g := (fixS n x y (gx j))) (b := false) (by show (decide (a1 < 2 ^ n) && gx j (nAnd a1 (2 ^ x) ||| y <<< x)) = false; first | (rw [c_120, Bool.and_false]) | (rw [decide_eq_false (by omega)]; rfl))]; exact gR_)
                  refine lv_iinc (v := nI (a1 + 1)) (lv' := [(4, .int (nI (a1 + 1))), (0, .ref (ad 55)), (1, .int (nI j)), (2, .int (nI x)), (3, .int (nI y))]) S.1 S.2.1 dX12_fix_129 hl (k := 4) rfl (nI_add _ 1) (by decide) rfl (fun ls hl => ?_)
                  refine lv_goto (tgt := 78) S.1 S.2.1 dX12_fix_132 (by decide) ?_
                  exact ih78 _ (by omega) (a1 + 1) rfl (by omega) w_ hU gO_ gR_ gX_ gU_ H locs ls hW (lv_sub hl [1, 2, 3, 4, 0] rfl)
                · refine lv_iconst (v := nI 1) S.1 S.2.1 dX12_fix_123 (by decide) ?_
                  refine lv_goto (tgt := 128) S.1 S.2.1 dX12_fix_124 (by decide) ?_
                  refine j_zast S hK hW gR_ (vp_in_nI (by omega) (by omega)) (nI_clamp (by omega)) (rfl) dX12_fix_128 (fun H locs w_ hU1 hN1 hW => ?_)
                  have hU := hU.then hU1 (by first | decide | (simp; done) | (simp; omega))
                  have gO_ := hU1.get gO_ (by first | decide | (simp; done) | (simp; omega))
                  have gX_ := hU1.get gX_ (by first | decide | (simp; done) | (simp; omega))
                  have gU_ := hU1.get gU_ (by first | decide | (simp; done) | (simp; omega))
                  have gR_ : w_[72]? = some (ad 72, .inl (cy 3, 1024, .inl (upd (bf (mixF (fixS n x y (gx j)) rb a1)) a1 (nI 1)))) := hN1
                  clear hU1 hN1
                  have gR_ : w_[72]? = some (ad 72, .inl (cy 3, 1024, .inl (bf (mixF (fixS n x y (gx j)) rb (a1 + 1))))) := by
                    first
                    | (rw [← mixF_upd (g := (fixS n x y (gx j))) (b := true) (by show (decide (a1 < 2 ^ n) && gx j (nAnd a1 (2 ^ x) ||| y <<< x)) = true; rw [decide_eq_true c_98, c_120]; rfl)]; exact gR_)
                    | (rw [← mixF_upd (g := (fixS n x y (gx j))) (b := false) (by show (decide (a1 < 2 ^ n) && gx j (nAnd a1 (2 ^ x) ||| y <<< x)) = false; first | (rw [c_120, Bool.and_false]) | (rw [decide_eq_false (by omega)]; rfl))]; exact gR_)
                  refine lv_iinc (v := nI (a1 + 1)) (lv' := [(4, .int (nI (a1 + 1))), (0, .ref (ad 55)), (1, .int (nI j)), (2, .int (nI x)), (3, .int (nI y))]) S.1 S.2.1 dX12_fix_129 hl (k := 4) rfl (nI_add _ 1) (by decide) rfl (fun ls hl => ?_)
                  refine lv_goto (tgt := 78) S.1 S.2.1 dX12_fix_132 (by decide) ?_
                  exact ih78 _ (by omega) (a1 + 1) rfl (by omega) w_ hU gO_ gR_ gX_ gU_ H locs ls hW (lv_sub hl [1, 2, 3, 4, 0] rfl)
          exact L78 _ 0 rfl (Nat.zero_le _) w_ hU gO_ gR_ gX_ gU_ H locs ls hW (lv_sub hl [1, 2, 3, 4, 0] rfl)
        · exact absurd rfl c_66
      · exact absurd (vB_nI hx (by omega)) (by rw [c_32]; decide)
    · exact absurd (vB_nI hy (by decide)) (by rw [c_18]; decide)
/-- fix, wrong words -/
theorem c_X12_fix_b1 (l : Launch) (D : va_G) (cy : Nat → ClassId) {w : va_W} (ad : Nat → Nat) (th n nc : Nat) (v u1 u2 : Int32) (gO : w[55]? = some (ad 55, .inr (11, [.int (nI th), .ref (ad 56), .ref (ad 57), .ref (ad 58), .ref (ad 59), .ref (ad 60), .ref (ad 61), .ref (ad 62), .ref (ad 63), .ref (ad 64), .ref (ad 65), .int (nI n), .int (nI nc), .ref (ad 66), .ref (ad 71), .ref (ad 72), .ref (ad 73)]))) (hv : vB v 4 = false ∨ vB u2 2 = false) : jM l yX12_fix (jws yX12_fix cX12_fix 5 (some .int)) (jR 6 0 0) D cy w [.ref (ad 55), .int v, .int u1, .int u2] 0 0 (fun vv uu => vv = some (.int (nI 0)) ∧ jU w uu [55] ∧ uu[55]? = some (ad 55, .inr (11, [.int (nI 1), .ref (ad 56), .ref (ad 57), .ref (ad 58), .ref (ad 59), .ref (ad 60), .ref (ad 61), .ref (ad 62), .ref (ad 63), .ref (ad 64), .ref (ad 65), .int (nI n), .int (nI nc), .ref (ad 66), .ref (ad 71), .ref (ad 72), .ref (ad 73)]))) := by
  refine j_of (by decide) rfl (Nat.le_of_ble_eq_true rfl) ?_
  intro p e s m args below meth c A ls Q hQ S hr hK hA H locs hW hl
  have hl : lv_has ls 5 [(0, .ref (ad 55)), (1, .int v), (2, .int u1), (3, .int u2)] := hl
  refine lv_aload_n S.1 S.2.1 dX12_fix_0 rfl (lv_at hl 0 rfl) ?_
  refine lv_iconst (v := nI 0) S.1 S.2.1 dX12_fix_1 (by decide) ?_
  refine j_put (ci := 11) (C := RX12) (T := TX12) (N := 17) (ty := .int) S (fun w h => List.mem_cons_of_mem _ (inG12 w h)) tyX12 tyX12_ok nmX12 hK hW gO rfl 0 (by decide) (List.mem_cons_of_mem _ wfl_X12_1) (fun _ h9 => h9) rfl (by decide +kernel) (rfl) (rfl) (Nat.le_of_ble_eq_true rfl) dX12_fix_2 (fun H locs w_ hU1 hN1 hW => ?_)
  have hU : jU w w_ [55] := jU.mono hU1 (by decide)
  have gO_ : w_[55]? = some (ad 55, .inr (11, [.int (nI 0), .ref (ad 56), .ref (ad 57), .ref (ad 58), .ref (ad 59), .ref (ad 60), .ref (ad 61), .ref (ad 62), .ref (ad 63), .ref (ad 64), .ref (ad 65), .int (nI n), .int (nI nc), .ref (ad 66), .ref (ad 71), .ref (ad 72), .ref (ad 73)])) := hN1
  clear hU1 hN1
  refine lv_iload_n S.1 S.2.1 dX12_fix_5 rfl (lv_at hl 1 rfl) ?_
  refine j_callS (As := [.int v]) (rest := []) S hK hA hW (c_X12_isSlot l D cy v    ) (jgo wm_X12_162) yk_X12_isSlot ⟨⟨rfl, rfl⟩, by decide, by decide⟩ rfl hl.1 rfl (Nat.le_of_ble_eq_true rfl) dX12_fix_6 ⟨Nat.le_of_ble_eq_true rfl, Nat.le_of_ble_eq_true rfl⟩ (fun v u H locs hp hW => ?_)
  obtain ⟨rfl, rfl⟩ := hp
  refine W.eq (g2 := F0 m 9 ls [.int (bI (vB v 4))]) rfl ?_
  refine jb_if_eq (tgt := 21) S dX12_fix_9 (by decide) (fun c_9 => ?_) (fun c_9 => ?_)
  · refine lv_aload_n S.1 S.2.1 dX12_fix_21 rfl (lv_at hl 0 rfl) ?_
    refine lv_iconst (v := nI 1) S.1 S.2.1 dX12_fix_22 (by decide) ?_
    refine j_callV (k := 55) (ci := 11) (q := (RX12, TX12, 17)) (As := [.int (nI 1)]) (rest := []) S hK hA hW (c_X12_fails l D cy ad 0 n nc 1 gO_   ) (jgo wm_X12_71) yk_X12_fails gO_ rfl rfl ⟨⟨rfl, rfl⟩, by decide, by decide⟩ rfl hl.1 rfl (Nat.le_of_ble_eq_true rfl) dX12_fix_23 ⟨Nat.le_of_ble_eq_true rfl, Nat.le_of_ble_eq_true rfl⟩ (fun v w_ H locs hp hW => ?_)
    obtain ⟨rfl, hU1, hN1⟩ := hp
    have hU := hU.then hU1 (by decide)
    have gO_ : w_[55]? = some (ad 55, .inr (11, [.int (nI 1), .ref (ad 56), .ref (ad 57), .ref (ad 58), .ref (ad 59), .ref (ad 60), .ref (ad 61), .ref (ad 62), .ref (ad 63), .ref (ad 64), .ref (ad 65), .int (nI n), .int (nI nc), .ref (ad 66), .ref (ad 71), .ref (ad 72), .ref (ad 73)])) := hN1
    clear hU1 hN1
    refine W.eq (g2 := F0 m 26 ls [.int (nI 0)]) rfl ?_
    subst hQ
    exact j_iret (u := w_) S hr (rfl) hK hW dX12_fix_26 ⟨by decide, by decide⟩ (⟨rfl, hU, gO_⟩)
  · refine lv_iload_n S.1 S.2.1 dX12_fix_12 rfl (lv_at hl 3 rfl) ?_
    refine lv_iconst (v := nI 0) S.1 S.2.1 dX12_fix_13 (by decide) ?_
    refine lv_iconst (v := nI 1) S.1 S.2.1 dX12_fix_14 (by decide) ?_
    refine j_callS (As := [.int u2, .int (nI 0), .int (nI 1)]) (rest := []) S hK hA hW (c_X12_isBetween l D cy u2 (nI 0) (nI 1)    ) (jgo wm_X12_67) yk_X12_isBetween ⟨⟨rfl, rfl⟩, by decide, by decide⟩ rfl hl.1 rfl (Nat.le_of_ble_eq_true rfl) dX12_fix_15 ⟨Nat.le_of_ble_eq_true rfl, Nat.le_of_ble_eq_true rfl⟩ (fun v u H locs hp hW => ?_)
    obtain ⟨rfl, rfl⟩ := hp
    refine W.eq (g2 := F0 m 18 ls [.int (bI (decide ((nI 0) ≤ u2) && decide (u2 ≤ (nI 1))))]) rfl ?_
    refine lv_topi_to (y := bI (vB u2 2)) (by rw [btw_k (k := 1) (by decide)]) ?_
    refine jb_if_ne (tgt := 27) S dX12_fix_18 (by decide) (fun c_18 => ?_) (fun c_18 => ?_)
    · exact (by rcases hv with q | q; rw [c_9] at q; cases q; rw [c_18] at q; cases q)
    · refine lv_aload_n S.1 S.2.1 dX12_fix_21 rfl (lv_at hl 0 rfl) ?_
      refine lv_iconst (v := nI 1) S.1 S.2.1 dX12_fix_22 (by decide) ?_
      refine j_callV (k := 55) (ci := 11) (q := (RX12, TX12, 17)) (As := [.int (nI 1)]) (rest := []) S hK hA hW (c_X12_fails l D cy ad 0 n nc 1 gO_   ) (jgo wm_X12_71) yk_X12_fails gO_ rfl rfl ⟨⟨rfl, rfl⟩, by decide, by decide⟩ rfl hl.1 rfl (Nat.le_of_ble_eq_true rfl) dX12_fix_23 ⟨Nat.le_of_ble_eq_true rfl, Nat.le_of_ble_eq_true rfl⟩ (fun v w_ H locs hp hW => ?_)
      obtain ⟨rfl, hU1, hN1⟩ := hp
      have hU := hU.then hU1 (by decide)
      have gO_ : w_[55]? = some (ad 55, .inr (11, [.int (nI 1), .ref (ad 56), .ref (ad 57), .ref (ad 58), .ref (ad 59), .ref (ad 60), .ref (ad 61), .ref (ad 62), .ref (ad 63), .ref (ad 64), .ref (ad 65), .int (nI n), .int (nI nc), .ref (ad 66), .ref (ad 71), .ref (ad 72), .ref (ad 73)])) := hN1
      clear hU1 hN1
      refine W.eq (g2 := F0 m 26 ls [.int (nI 0)]) rfl ?_
      subst hQ
      exact j_iret (u := w_) S hr (rfl) hK hW dX12_fix_26 ⟨by decide, by decide⟩ (⟨rfl, hU, gO_⟩)
/-- fix, no such variable -/
theorem c_X12_fix_b2 (l : Launch) (D : va_G) (cy : Nat → ClassId) {w : va_W} (ad : Nat → Nat) (th n nc : Nat) (u1 : Int32) (j y : Nat) (gO : w[55]? = some (ad 55, .inr (11, [.int (nI th), .ref (ad 56), .ref (ad 57), .ref (ad 58), .ref (ad 59), .ref (ad 60), .ref (ad 61), .ref (ad 62), .ref (ad 63), .ref (ad 64), .ref (ad 65), .int (nI n), .int (nI nc), .ref (ad 66), .ref (ad 71), .ref (ad 72), .ref (ad 73)]))) (hn : n ≤ 10) (hj : j < 4) (hy : y < 2) (hv : vB u1 n = false) : jM l yX12_fix (jws yX12_fix cX12_fix 5 (some .int)) (jR 6 0 0) D cy w [.ref (ad 55), .int (nI j), .int u1, .int (nI y)] 0 0 (fun vv uu => vv = some (.int (nI 0)) ∧ jU w uu [55] ∧ uu[55]? = some (ad 55, .inr (11, [.int (nI 2), .ref (ad 56), .ref (ad 57), .ref (ad 58), .ref (ad 59), .ref (ad 60), .ref (ad 61), .ref (ad 62), .ref (ad 63), .ref (ad 64), .ref (ad 65), .int (nI n), .int (nI nc), .ref (ad 66), .ref (ad 71), .ref (ad 72), .ref (ad 73)]))) := by
  refine j_of (by decide) rfl (Nat.le_of_ble_eq_true rfl) ?_
  intro p e s m args below meth c A ls Q hQ S hr hK hA H locs hW hl
  have hl : lv_has ls 5 [(0, .ref (ad 55)), (1, .int (nI j)), (2, .int u1), (3, .int (nI y))] := hl
  refine lv_aload_n S.1 S.2.1 dX12_fix_0 rfl (lv_at hl 0 rfl) ?_
  refine lv_iconst (v := nI 0) S.1 S.2.1 dX12_fix_1 (by decide) ?_
  refine j_put (ci := 11) (C := RX12) (T := TX12) (N := 17) (ty := .int) S (fun w h => List.mem_cons_of_mem _ (inG12 w h)) tyX12 tyX12_ok nmX12 hK hW gO rfl 0 (by decide) (List.mem_cons_of_mem _ wfl_X12_1) (fun _ h9 => h9) rfl (by decide +kernel) (rfl) (rfl) (Nat.le_of_ble_eq_true rfl) dX12_fix_2 (fun H locs w_ hU1 hN1 hW => ?_)
  have hU : jU w w_ [55] := jU.mono hU1 (by decide)
  have gO_ : w_[55]? = some (ad 55, .inr (11, [.int (nI 0), .ref (ad 56), .ref (ad 57), .ref (ad 58), .ref (ad 59), .ref (ad 60), .ref (ad 61), .ref (ad 62), .ref (ad 63), .ref (ad 64), .ref (ad 65), .int (nI n), .int (nI nc), .ref (ad 66), .ref (ad 71), .ref (ad 72), .ref (ad 73)])) := hN1
  clear hU1 hN1
  refine lv_iload_n S.1 S.2.1 dX12_fix_5 rfl (lv_at hl 1 rfl) ?_
  refine j_callS (As := [.int (nI j)]) (rest := []) S hK hA hW (c_X12_isSlot l D cy (nI j)    ) (jgo wm_X12_162) yk_X12_isSlot ⟨⟨rfl, rfl⟩, by decide, by decide⟩ rfl hl.1 rfl (Nat.le_of_ble_eq_true rfl) dX12_fix_6 ⟨Nat.le_of_ble_eq_true rfl, Nat.le_of_ble_eq_true rfl⟩ (fun v u H locs hp hW => ?_)
  obtain ⟨rfl, rfl⟩ := hp
  refine W.eq (g2 := F0 m 9 ls [.int (bI (vB (nI j) 4))]) rfl ?_
  refine jb_if_eq (tgt := 21) S dX12_fix_9 (by decide) (fun c_9 => ?_) (fun c_9 => ?_)
  · exact absurd (vB_nI hj (by decide)) (by rw [c_9]; decide)
  · refine lv_iload_n S.1 S.2.1 dX12_fix_12 rfl (lv_at hl 3 rfl) ?_
    refine lv_iconst (v := nI 0) S.1 S.2.1 dX12_fix_13 (by decide) ?_
    refine lv_iconst (v := nI 1) S.1 S.2.1 dX12_fix_14 (by decide) ?_
    refine j_callS (As := [.int (nI y), .int (nI 0), .int (nI 1)]) (rest := []) S hK hA hW (c_X12_isBetween l D cy (nI y) (nI 0) (nI 1)    ) (jgo wm_X12_67) yk_X12_isBetween ⟨⟨rfl, rfl⟩, by decide, by decide⟩ rfl hl.1 rfl (Nat.le_of_ble_eq_true rfl) dX12_fix_15 ⟨Nat.le_of_ble_eq_true rfl, Nat.le_of_ble_eq_true rfl⟩ (fun v u H locs hp hW => ?_)
    obtain ⟨rfl, rfl⟩ := hp
    refine W.eq (g2 := F0 m 18 ls [.int (bI (decide ((nI 0) ≤ (nI y)) && decide ((nI y) ≤ (nI 1))))]) rfl ?_
    refine lv_topi_to (y := bI (vB (nI y) 2)) (by rw [btw_k (k := 1) (by decide)]) ?_
    refine jb_if_ne (tgt := 27) S dX12_fix_18 (by decide) (fun c_18 => ?_) (fun c_18 => ?_)
    · refine lv_aload_n S.1 S.2.1 dX12_fix_27 rfl (lv_at hl 0 rfl) ?_
      refine lv_iload_n S.1 S.2.1 dX12_fix_28 rfl (lv_at hl 2 rfl) ?_
      refine j_callV (k := 55) (ci := 11) (q := (RX12, TX12, 17)) (As := [.int u1]) (rest := []) S hK hA hW (c_X12_isVariable l D cy ad 0 n nc u1 gO_   (by omega)) (jgo wm_X12_75) yk_X12_isVariable gO_ rfl rfl ⟨⟨rfl, rfl⟩, by decide, by decide⟩ rfl hl.1 rfl (Nat.le_of_ble_eq_true rfl) dX12_fix_29 ⟨Nat.le_of_ble_eq_true rfl, Nat.le_of_ble_eq_true rfl⟩ (fun v u H locs hp hW => ?_)
      obtain ⟨rfl, rfl⟩ := hp
      refine W.eq (g2 := F0 m 32 ls [.int (bI (vB u1 n))]) rfl ?_
      refine jb_if_ne (tgt := 41) S dX12_fix_32 (by decide) (fun c_32 => ?_) (fun c_32 => ?_)
      · exact absurd c_32 (by rw [hv]; decide)
      · refine lv_aload_n S.1 S.2.1 dX12_fix_35 rfl (lv_at hl 0 rfl) ?_
        refine lv_iconst (v := nI 2) S.1 S.2.1 dX12_fix_36 (by decide) ?_
        refine j_callV (k := 55) (ci := 11) (q := (RX12, TX12, 17)) (As := [.int (nI 2)]) (rest := []) S hK hA hW (c_X12_fails l D cy ad 0 n nc 2 gO_   ) (jgo wm_X12_71) yk_X12_fails gO_ rfl rfl ⟨⟨rfl, rfl⟩, by decide, by decide⟩ rfl hl.1 rfl (Nat.le_of_ble_eq_true rfl) dX12_fix_37 ⟨Nat.le_of_ble_eq_true rfl, Nat.le_of_ble_eq_true rfl⟩ (fun v w_ H locs hp hW => ?_)
        obtain ⟨rfl, hU1, hN1⟩ := hp
        have hU := hU.then hU1 (by decide)
        have gO_ : w_[55]? = some (ad 55, .inr (11, [.int (nI 2), .ref (ad 56), .ref (ad 57), .ref (ad 58), .ref (ad 59), .ref (ad 60), .ref (ad 61), .ref (ad 62), .ref (ad 63), .ref (ad 64), .ref (ad 65), .int (nI n), .int (nI nc), .ref (ad 66), .ref (ad 71), .ref (ad 72), .ref (ad 73)])) := hN1
        clear hU1 hN1
        refine W.eq (g2 := F0 m 40 ls [.int (nI 0)]) rfl ?_
        subst hQ
        exact j_iret (u := w_) S hr (rfl) hK hW dX12_fix_40 ⟨by decide, by decide⟩ (⟨rfl, hU, gO_⟩)
    · exact absurd (vB_nI hy (by decide)) (by rw [c_18]; decide)
/-- fix, nothing kept -/
theorem c_X12_fix_b3 (l : Launch) (D : va_G) (cy : Nat → ClassId) {w : va_W} (ad : Nat → Nat) (th n nc : Nat) (kv : Nat → Int32) (j x y : Nat) (gO : w[55]? = some (ad 55, .inr (11, [.int (nI th), .ref (ad 56), .ref (ad 57), .ref (ad 58), .ref (ad 59), .ref (ad 60), .ref (ad 61), .ref (ad 62), .ref (ad 63), .ref (ad 64), .ref (ad 65), .int (nI n), .int (nI nc), .ref (ad 66), .ref (ad 71), .ref (ad 72), .ref (ad 73)]))) (gV : w[71]? = some (ad 71, .inl (cy 0, 4, .inl kv))) (hn : n ≤ 10) (hj : j < 4) (hx : x < n) (hy : y < 2) (hkv : kv j < 0) : jM l yX12_fix (jws yX12_fix cX12_fix 5 (some .int)) (jR 6 0 0) D cy w [.ref (ad 55), .int (nI j), .int (nI x), .int (nI y)] 0 0 (fun vv uu => vv = some (.int (nI 0)) ∧ jU w uu [55] ∧ uu[55]? = some (ad 55, .inr (11, [.int (nI 3), .ref (ad 56), .ref (ad 57), .ref (ad 58), .ref (ad 59), .ref (ad 60), .ref (ad 61), .ref (ad 62), .ref (ad 63), .ref (ad 64), .ref (ad 65), .int (nI n), .int (nI nc), .ref (ad 66), .ref (ad 71), .ref (ad 72), .ref (ad 73)]))) := by
  refine j_of (by decide) rfl (Nat.le_of_ble_eq_true rfl) ?_
  intro p e s m args below meth c A ls Q hQ S hr hK hA H locs hW hl
  have hl : lv_has ls 5 [(0, .ref (ad 55)), (1, .int (nI j)), (2, .int (nI x)), (3, .int (nI y))] := hl
  refine lv_aload_n S.1 S.2.1 dX12_fix_0 rfl (lv_at hl 0 rfl) ?_
  refine lv_iconst (v := nI 0) S.1 S.2.1 dX12_fix_1 (by decide) ?_
  refine j_put (ci := 11) (C := RX12) (T := TX12) (N := 17) (ty := .int) S (fun w h => List.mem_cons_of_mem _ (inG12 w h)) tyX12 tyX12_ok nmX12 hK hW gO rfl 0 (by decide) (List.mem_cons_of_mem _ wfl_X12_1) (fun _ h9 => h9) rfl (by decide +kernel) (rfl) (rfl) (Nat.le_of_ble_eq_true rfl) dX12_fix_2 (fun H locs w_ hU1 hN1 hW => ?_)
  have hU : jU w w_ [55] := jU.mono hU1 (by decide)
  have gO_ : w_[55]? = some (ad 55, .inr (11, [.int (nI 0), .ref (ad 56), .ref (ad 57), .ref (ad 58), .ref (ad 59), .ref (ad 60), .ref (ad 61), .ref (ad 62), .ref (ad 63), .ref (ad 64), .ref (ad 65), .int (nI n), .int (nI nc), .ref (ad 66), .ref (ad 71), .ref (ad 72), .ref (ad 73)])) := hN1
  clear hU1 hN1
  refine lv_iload_n S.1 S.2.1 dX12_fix_5 rfl (lv_at hl 1 rfl) ?_
  refine j_callS (As := [.int (nI j)]) (rest := []) S hK hA hW (c_X12_isSlot l D cy (nI j)    ) (jgo wm_X12_162) yk_X12_isSlot ⟨⟨rfl, rfl⟩, by decide, by decide⟩ rfl hl.1 rfl (Nat.le_of_ble_eq_true rfl) dX12_fix_6 ⟨Nat.le_of_ble_eq_true rfl, Nat.le_of_ble_eq_true rfl⟩ (fun v u H locs hp hW => ?_)
  obtain ⟨rfl, rfl⟩ := hp
  refine W.eq (g2 := F0 m 9 ls [.int (bI (vB (nI j) 4))]) rfl ?_
  refine jb_if_eq (tgt := 21) S dX12_fix_9 (by decide) (fun c_9 => ?_) (fun c_9 => ?_)
  · exact absurd (vB_nI hj (by decide)) (by rw [c_9]; decide)
  · refine lv_iload_n S.1 S.2.1 dX12_fix_12 rfl (lv_at hl 3 rfl) ?_
    refine lv_iconst (v := nI 0) S.1 S.2.1 dX12_fix_13 (by decide) ?_
    refine lv_iconst (v := nI 1) S.1 S.2.1 dX12_fix_14 (by decide) ?_
    refine j_callS (As := [.int (nI y), .int (nI 0), .int (nI 1)]) (rest := []) S hK hA hW (c_X12_isBetween l D cy (nI y) (nI 0) (nI 1)    ) (jgo wm_X12_67) yk_X12_isBetween ⟨⟨rfl, rfl⟩, by decide, by decide⟩ rfl hl.1 rfl (Nat.le_of_ble_eq_true rfl) dX12_fix_15 ⟨Nat.le_of_ble_eq_true rfl, Nat.le_of_ble_eq_true rfl⟩ (fun v u H locs hp hW => ?_)
    obtain ⟨rfl, rfl⟩ := hp
    refine W.eq (g2 := F0 m 18 ls [.int (bI (decide ((nI 0) ≤ (nI y)) && decide ((nI y) ≤ (nI 1))))]) rfl ?_
    refine lv_topi_to (y := bI (vB (nI y) 2)) (by rw [btw_k (k := 1) (by decide)]) ?_
    refine jb_if_ne (tgt := 27) S dX12_fix_18 (by decide) (fun c_18 => ?_) (fun c_18 => ?_)
    · refine lv_aload_n S.1 S.2.1 dX12_fix_27 rfl (lv_at hl 0 rfl) ?_
      refine lv_iload_n S.1 S.2.1 dX12_fix_28 rfl (lv_at hl 2 rfl) ?_
      refine j_callV (k := 55) (ci := 11) (q := (RX12, TX12, 17)) (As := [.int (nI x)]) (rest := []) S hK hA hW (c_X12_isVariable l D cy ad 0 n nc (nI x) gO_   (by omega)) (jgo wm_X12_75) yk_X12_isVariable gO_ rfl rfl ⟨⟨rfl, rfl⟩, by decide, by decide⟩ rfl hl.1 rfl (Nat.le_of_ble_eq_true rfl) dX12_fix_29 ⟨Nat.le_of_ble_eq_true rfl, Nat.le_of_ble_eq_true rfl⟩ (fun v u H locs hp hW => ?_)
      obtain ⟨rfl, rfl⟩ := hp
      refine W.eq (g2 := F0 m 32 ls [.int (bI (vB (nI x) n))]) rfl ?_
      refine jb_if_ne (tgt := 41) S dX12_fix_32 (by decide) (fun c_32 => ?_) (fun c_32 => ?_)
      · refine lv_aload_n S.1 S.2.1 dX12_fix_41 rfl (lv_at hl 0 rfl) ?_
        refine j_get (ci := 11) (C := RX12) (T := TX12) (N := 17) (v := .ref (ad 71)) S (fun w h => List.mem_cons_of_mem _ (inG12 w h)) hK hW gO_ rfl 14 (by decide) (List.mem_cons_of_mem _ wfl_X12_55) (fun _ h9 => h9) rfl dX12_fix_42 ?_
        refine lv_iload_n S.1 S.2.1 dX12_fix_45 rfl (lv_at hl 1 rfl) ?_
        refine j_iald (x := kv j) S hK hW (hU.get gV (by decide)) (vp_in_nI (by omega) (by omega)) (nI_clamp (by omega)) (rfl) dX12_fix_46 ?_
        refine lv_if_ge (tgt := 56) S.1 S.2.1 dX12_fix_47 (by decide) (fun c_47 => ?_) (fun c_47 => ?_)
        · first | exact absurd hkv c_47 | exact c_47 hkv | exact absurd hkv (Int32.not_lt.mpr c_47)
        · refine lv_aload_n S.1 S.2.1 dX12_fix_50 rfl (lv_at hl 0 rfl) ?_
          refine lv_iconst (v := nI 3) S.1 S.2.1 dX12_fix_51 (by decide) ?_
          refine j_callV (k := 55) (ci := 11) (q := (RX12, TX12, 17)) (As := [.int (nI 3)]) (rest := []) S hK hA hW (c_X12_fails l D cy ad 0 n nc 3 gO_   ) (jgo wm_X12_71) yk_X12_fails gO_ rfl rfl ⟨⟨rfl, rfl⟩, by decide, by decide⟩ rfl hl.1 rfl (Nat.le_of_ble_eq_true rfl) dX12_fix_52 ⟨Nat.le_of_ble_eq_true rfl, Nat.le_of_ble_eq_true rfl⟩ (fun v w_ H locs hp hW => ?_)
          obtain ⟨rfl, hU1, hN1⟩ := hp
          have hU := hU.then hU1 (by decide)
          have gO_ : w_[55]? = some (ad 55, .inr (11, [.int (nI 3), .ref (ad 56), .ref (ad 57), .ref (ad 58), .ref (ad 59), .ref (ad 60), .ref (ad 61), .ref (ad 62), .ref (ad 63), .ref (ad 64), .ref (ad 65), .int (nI n), .int (nI nc), .ref (ad 66), .ref (ad 71), .ref (ad 72), .ref (ad 73)])) := hN1
          clear hU1 hN1
          refine W.eq (g2 := F0 m 55 ls [.int (nI 0)]) rfl ?_
          subst hQ
          exact j_iret (u := w_) S hr (rfl) hK hW dX12_fix_55 ⟨by decide, by decide⟩ (⟨rfl, hU, gO_⟩)
      · exact absurd (vB_nI hx (by omega)) (by rw [c_32]; decide)
    · exact absurd (vB_nI hy (by decide)) (by rw [c_18]; decide)
/-- fix, other variables -/
theorem c_X12_fix_b4 (l : Launch) (D : va_G) (cy : Nat → ClassId) {w : va_W} (ad : Nat → Nat) (th n nc : Nat) (kv : Nat → Int32) (j x y : Nat) (gO : w[55]? = some (ad 55, .inr (11, [.int (nI th), .ref (ad 56), .ref (ad 57), .ref (ad 58), .ref (ad 59), .ref (ad 60), .ref (ad 61), .ref (ad 62), .ref (ad 63), .ref (ad 64), .ref (ad 65), .int (nI n), .int (nI nc), .ref (ad 66), .ref (ad 71), .ref (ad 72), .ref (ad 73)]))) (gV : w[71]? = some (ad 71, .inl (cy 0, 4, .inl kv))) (hn : n ≤ 10) (hj : j < 4) (hx : x < n) (hy : y < 2) (hkv : ¬ kv j < 0) (hne : kv j ≠ nI n) : jM l yX12_fix (jws yX12_fix cX12_fix 5 (some .int)) (jR 6 0 0) D cy w [.ref (ad 55), .int (nI j), .int (nI x), .int (nI y)] 0 0 (fun vv uu => vv = some (.int (nI 0)) ∧ jU w uu [55] ∧ uu[55]? = some (ad 55, .inr (11, [.int (nI 4), .ref (ad 56), .ref (ad 57), .ref (ad 58), .ref (ad 59), .ref (ad 60), .ref (ad 61), .ref (ad 62), .ref (ad 63), .ref (ad 64), .ref (ad 65), .int (nI n), .int (nI nc), .ref (ad 66), .ref (ad 71), .ref (ad 72), .ref (ad 73)]))) := by
  refine j_of (by decide) rfl (Nat.le_of_ble_eq_true rfl) ?_
  intro p e s m args below meth c A ls Q hQ S hr hK hA H locs hW hl
  have hl : lv_has ls 5 [(0, .ref (ad 55)), (1, .int (nI j)), (2, .int (nI x)), (3, .int (nI y))] := hl
  refine lv_aload_n S.1 S.2.1 dX12_fix_0 rfl (lv_at hl 0 rfl) ?_
  refine lv_iconst (v := nI 0) S.1 S.2.1 dX12_fix_1 (by decide) ?_
  refine j_put (ci := 11) (C := RX12) (T := TX12) (N := 17) (ty := .int) S (fun w h => List.mem_cons_of_mem _ (inG12 w h)) tyX12 tyX12_ok nmX12 hK hW gO rfl 0 (by decide) (List.mem_cons_of_mem _ wfl_X12_1) (fun _ h9 => h9) rfl (by decide +kernel) (rfl) (rfl) (Nat.le_of_ble_eq_true rfl) dX12_fix_2 (fun H locs w_ hU1 hN1 hW => ?_)
  have hU : jU w w_ [55] := jU.mono hU1 (by decide)
  have gO_ : w_[55]? = some (ad 55, .inr (11, [.int (nI 0), .ref (ad 56), .ref (ad 57), .ref (ad 58), .ref (ad 59), .ref (ad 60), .ref (ad 61), .ref (ad 62), .ref (ad 63), .ref (ad 64), .ref (ad 65), .int (nI n), .int (nI nc), .ref (ad 66), .ref (ad 71), .ref (ad 72), .ref (ad 73)])) := hN1
  clear hU1 hN1
  refine lv_iload_n S.1 S.2.1 dX12_fix_5 rfl (lv_at hl 1 rfl) ?_
  refine j_callS (As := [.int (nI j)]) (rest := []) S hK hA hW (c_X12_isSlot l D cy (nI j)    ) (jgo wm_X12_162) yk_X12_isSlot ⟨⟨rfl, rfl⟩, by decide, by decide⟩ rfl hl.1 rfl (Nat.le_of_ble_eq_true rfl) dX12_fix_6 ⟨Nat.le_of_ble_eq_true rfl, Nat.le_of_ble_eq_true rfl⟩ (fun v u H locs hp hW => ?_)
  obtain ⟨rfl, rfl⟩ := hp
  refine W.eq (g2 := F0 m 9 ls [.int (bI (vB (nI j) 4))]) rfl ?_
  refine jb_if_eq (tgt := 21) S dX12_fix_9 (by decide) (fun c_9 => ?_) (fun c_9 => ?_)
  · exact absurd (vB_nI hj (by decide)) (by rw [c_9]; decide)
  · refine lv_iload_n S.1 S.2.1 dX12_fix_12 rfl (lv_at hl 3 rfl) ?_
    refine lv_iconst (v := nI 0) S.1 S.2.1 dX12_fix_13 (by decide) ?_
    refine lv_iconst (v := nI 1) S.1 S.2.1 dX12_fix_14 (by decide) ?_
    refine j_callS (As := [.int (nI y), .int (nI 0), .int (nI 1)]) (rest := []) S hK hA hW (c_X12_isBetween l D cy (nI y) (nI 0) (nI 1)    ) (jgo wm_X12_67) yk_X12_isBetween ⟨⟨rfl, rfl⟩, by decide, by decide⟩ rfl hl.1 rfl (Nat.le_of_ble_eq_true rfl) dX12_fix_15 ⟨Nat.le_of_ble_eq_true rfl, Nat.le_of_ble_eq_true rfl⟩ (fun v u H locs hp hW => ?_)
    obtain ⟨rfl, rfl⟩ := hp
    refine W.eq (g2 := F0 m 18 ls [.int (bI (decide ((nI 0) ≤ (nI y)) && decide ((nI y) ≤ (nI 1))))]) rfl ?_
    refine lv_topi_to (y := bI (vB (nI y) 2)) (by rw [btw_k (k := 1) (by decide)]) ?_
    refine jb_if_ne (tgt := 27) S dX12_fix_18 (by decide) (fun c_18 => ?_) (fun c_18 => ?_)
    · refine lv_aload_n S.1 S.2.1 dX12_fix_27 rfl (lv_at hl 0 rfl) ?_
      refine lv_iload_n S.1 S.2.1 dX12_fix_28 rfl (lv_at hl 2 rfl) ?_
      refine j_callV (k := 55) (ci := 11) (q := (RX12, TX12, 17)) (As := [.int (nI x)]) (rest := []) S hK hA hW (c_X12_isVariable l D cy ad 0 n nc (nI x) gO_   (by omega)) (jgo wm_X12_75) yk_X12_isVariable gO_ rfl rfl ⟨⟨rfl, rfl⟩, by decide, by decide⟩ rfl hl.1 rfl (Nat.le_of_ble_eq_true rfl) dX12_fix_29 ⟨Nat.le_of_ble_eq_true rfl, Nat.le_of_ble_eq_true rfl⟩ (fun v u H locs hp hW => ?_)
      obtain ⟨rfl, rfl⟩ := hp
      refine W.eq (g2 := F0 m 32 ls [.int (bI (vB (nI x) n))]) rfl ?_
      refine jb_if_ne (tgt := 41) S dX12_fix_32 (by decide) (fun c_32 => ?_) (fun c_32 => ?_)
      · refine lv_aload_n S.1 S.2.1 dX12_fix_41 rfl (lv_at hl 0 rfl) ?_
        refine j_get (ci := 11) (C := RX12) (T := TX12) (N := 17) (v := .ref (ad 71)) S (fun w h => List.mem_cons_of_mem _ (inG12 w h)) hK hW gO_ rfl 14 (by decide) (List.mem_cons_of_mem _ wfl_X12_55) (fun _ h9 => h9) rfl dX12_fix_42 ?_
        refine lv_iload_n S.1 S.2.1 dX12_fix_45 rfl (lv_at hl 1 rfl) ?_
        refine j_iald (x := kv j) S hK hW (hU.get gV (by decide)) (vp_in_nI (by omega) (by omega)) (nI_clamp (by omega)) (rfl) dX12_fix_46 ?_
        refine lv_if_ge (tgt := 56) S.1 S.2.1 dX12_fix_47 (by decide) (fun c_47 => ?_) (fun c_47 => ?_)
        · refine lv_aload_n S.1 S.2.1 dX12_fix_56 rfl (lv_at hl 0 rfl) ?_
          refine j_get (ci := 11) (C := RX12) (T := TX12) (N := 17) (v := .ref (ad 71)) S (fun w h => List.mem_cons_of_mem _ (inG12 w h)) hK hW gO_ rfl 14 (by decide) (List.mem_cons_of_mem _ wfl_X12_55) (fun _ h9 => h9) rfl dX12_fix_57 ?_
          refine lv_iload_n S.1 S.2.1 dX12_fix_60 rfl (lv_at hl 1 rfl) ?_
          refine j_iald (x := kv j) S hK hW (hU.get gV (by decide)) (vp_in_nI (by omega) (by omega)) (nI_clamp (by omega)) (rfl) dX12_fix_61 ?_
          refine lv_aload_n S.1 S.2.1 dX12_fix_62 rfl (lv_at hl 0 rfl) ?_
          refine j_get (ci := 11) (C := RX12) (T := TX12) (N := 17) (v := .int (nI n)) S (fun w h => List.mem_cons_of_mem _ (inG12 w h)) hK hW gO_ rfl 11 (by decide) (List.mem_cons_of_mem _ wfl_X12_64) (fun _ h9 => h9) rfl dX12_fix_63 ?_
          refine lv_icmp_eq (tgt := 75) S.1 S.2.1 dX12_fix_66 (by decide) (fun c_66 => ?_) (fun c_66 => ?_)
          · exact absurd c_66 hne
          · refine lv_aload_n S.1 S.2.1 dX12_fix_69 rfl (lv_at hl 0 rfl) ?_
            refine lv_iconst (v := nI 4) S.1 S.2.1 dX12_fix_70 (by decide) ?_
            refine j_callV (k := 55) (ci := 11) (q := (RX12, TX12, 17)) (As := [.int (nI 4)]) (rest := []) S hK hA hW (c_X12_fails l D cy ad 0 n nc 4 gO_   ) (jgo wm_X12_71) yk_X12_fails gO_ rfl rfl ⟨⟨rfl, rfl⟩, by decide, by decide⟩ rfl hl.1 rfl (Nat.le_of_ble_eq_true rfl) dX12_fix_71 ⟨Nat.le_of_ble_eq_true rfl, Nat.le_of_ble_eq_true rfl⟩ (fun v w_ H locs hp hW => ?_)
            obtain ⟨rfl, hU1, hN1⟩ := hp
            have hU := hU.then hU1 (by decide)
            have gO_ : w_[55]? = some (ad 55, .inr (11, [.int (nI 4), .ref (ad 56), .ref (ad 57), .ref (ad 58), .ref (ad 59), .ref (ad 60), .ref (ad 61), .ref (ad 62), .ref (ad 63), .ref (ad 64), .ref (ad 65), .int (nI n), .int (nI nc), .ref (ad 66), .ref (ad 71), .ref (ad 72), .ref (ad 73)])) := hN1
            clear hU1 hN1
            refine W.eq (g2 := F0 m 74 ls [.int (nI 0)]) rfl ?_
            subst hQ
            exact j_iret (u := w_) S hr (rfl) hK hW dX12_fix_74 ⟨by decide, by decide⟩ (⟨rfl, hU, gO_⟩)
        · first | exact absurd c_47 hkv | exact absurd (Int32.not_le.mp c_47) hkv | exact hkv (i32_lt.mpr c_47)
      · exact absurd (vB_nI hx (by omega)) (by rw [c_32]; decide)
    · exact absurd (vB_nI hy (by decide)) (by rw [c_18]; decide)
/-- free -/
theorem c_X12_free__ok (l : Launch) (D : va_G) (cy : Nat → ClassId) {w : va_W} (ad : Nat → Nat) (th n nc : Nat) (od : Nat → Nat) (rb tu : Nat → Bool) (kv : Nat → Int32) (gx : Nat → Nat → Bool) (j x : Nat) (gO : w[55]? = some (ad 55, .inr (11, [.int (nI th), .ref (ad 56), .ref (ad 57), .ref (ad 58), .ref (ad 59), .ref (ad 60), .ref (ad 61), .ref (ad 62), .ref (ad 63), .ref (ad 64), .ref (ad 65), .int (nI n), .int (nI nc), .ref (ad 66), .ref (ad 71), .ref (ad 72), .ref (ad 73)]))) (gD : w[59]? = some (ad 59, .inl (cy 0, 10, .inl (nf od)))) (gR : w[72]? = some (ad 72, .inl (cy 3, 1024, .inl (bf rb)))) (gU : w[73]? = some (ad 73, .inl (cy 3, 1024, .inl (bf tu)))) (gK : w[66]? = some (ad 66, .inl (cy 6, 4, .inr (.inr (.inr (.inr (kpF ad))))))) (gV : w[71]? = some (ad 71, .inl (cy 0, 4, .inl kv))) (gX : w[67 + j]? = some (ad (67 + j), .inl (cy 3, 1024, .inl (bf (gx j))))) (hn : n ≤ 10) (hod : ∀ j, od j < 10) (hj : j < 4) (hx : x < n) (hkv : kv j = nI n) : jM l yX12_free_ (jws yX12_free_ cX12_free_ 4 (some .int)) (jR 6 0 0) D cy w [.ref (ad 55), .int (nI j), .int (nI x)] 0 0 (fun vv uu => ∃ (rb1 : Nat → Bool), ∃ (tu1 : Nat → Bool), vv = some (.int (nI (sumN (nodesB (fun d => (freeS n x (gx j)) (layP n od d n)) n) n))) ∧ jU w uu [55, 67 + j, 72, 73] ∧ uu[55]? = some (ad 55, .inr (11, [.int (nI 0), .ref (ad 56), .ref (ad 57), .ref (ad 58), .ref (ad 59), .ref (ad 60), .ref (ad 61), .ref (ad 62), .ref (ad 63), .ref (ad 64), .ref (ad 65), .int (nI n), .int (nI nc), .ref (ad 66), .ref (ad 71), .ref (ad 72), .ref (ad 73)])) ∧ uu[67 + j]? = some (ad (67 + j), .inl (cy 3, 1024, .inl (bf (rowM (rowM (freeS n x (gx j)) rb) (gx j))))) ∧ uu[72]? = some (ad 72, .inl (cy 3, 1024, .inl (bf rb1))) ∧ uu[73]? = some (ad 73, .inl (cy 3, 1024, .inl (bf tu1)))) := by
  have hp2 := two_pow10 hn
  refine j_of (by decide) rfl (Nat.le_of_ble_eq_true rfl) ?_
  intro p e s m args below meth c A ls Q hQ S hr hK hA H locs hW hl
  have hl : lv_has ls 4 [(0, .ref (ad 55)), (1, .int (nI j)), (2, .int (nI x))] := hl
  refine lv_aload_n S.1 S.2.1 dX12_free__0 rfl (lv_at hl 0 rfl) ?_
  refine lv_iconst (v := nI 0) S.1 S.2.1 dX12_free__1 (by decide) ?_
  refine j_put (ci := 11) (C := RX12) (T := TX12) (N := 17) (ty := .int) S (fun w h => List.mem_cons_of_mem _ (inG12 w h)) tyX12 tyX12_ok nmX12 hK hW gO rfl 0 (by decide) (List.mem_cons_of_mem _ wfl_X12_1) (fun _ h9 => h9) rfl (by decide +kernel) (rfl) (rfl) (Nat.le_of_ble_eq_true rfl) dX12_free__2 (fun H locs w_ hU1 hN1 hW => ?_)
  have hU : jU w w_ [55, 67 + j, 72, 73] := jU.mono hU1 (by first | decide | (simp; done) | (simp; omega))
  have gR_ := hU1.get gR (by first | decide | (simp; done) | (simp; omega))
  have gU_ := hU1.get gU (by first | decide | (simp; done) | (simp; omega))
  have gX_ := hU1.get gX (by first | decide | (simp; done) | (simp; omega))
  have gO_ : w_[55]? = some (ad 55, .inr (11, [.int (nI 0), .ref (ad 56), .ref (ad 57), .ref (ad 58), .ref (ad 59), .ref (ad 60), .ref (ad 61), .ref (ad 62), .ref (ad 63), .ref (ad 64), .ref (ad 65), .int (nI n), .int (nI nc), .ref (ad 66), .ref (ad 71), .ref (ad 72), .ref (ad 73)])) := hN1
  clear hU1 hN1
  refine lv_iload_n S.1 S.2.1 dX12_free__5 rfl (lv_at hl 1 rfl) ?_
  refine j_callS (As := [.int (nI j)]) (rest := []) S hK hA hW (c_X12_isSlot l D cy (nI j)    ) (jgo wm_X12_162) yk_X12_isSlot ⟨⟨rfl, rfl⟩, by decide, by decide⟩ rfl hl.1 rfl (Nat.le_of_ble_eq_true rfl) dX12_free__6 ⟨Nat.le_of_ble_eq_true rfl, Nat.le_of_ble_eq_true rfl⟩ (fun v u H locs hp hW => ?_)
  obtain ⟨rfl, rfl⟩ := hp
  refine W.eq (g2 := F0 m 9 ls [.int (bI (vB (nI j) 4))]) rfl ?_
  refine jb_if_ne (tgt := 18) S dX12_free__9 (by decide) (fun c_9 => ?_) (fun c_9 => ?_)
  · refine lv_aload_n S.1 S.2.1 dX12_free__18 rfl (lv_at hl 0 rfl) ?_
    refine lv_iload_n S.1 S.2.1 dX12_free__19 rfl (lv_at hl 2 rfl) ?_
    refine j_callV (k := 55) (ci := 11) (q := (RX12, TX12, 17)) (As := [.int (nI x)]) (rest := []) S hK hA hW (c_X12_isVariable l D cy ad 0 n nc (nI x) gO_   (by omega)) (jgo wm_X12_75) yk_X12_isVariable gO_ rfl rfl ⟨⟨rfl, rfl⟩, by decide, by decide⟩ rfl hl.1 rfl (Nat.le_of_ble_eq_true rfl) dX12_free__20 ⟨Nat.le_of_ble_eq_true rfl, Nat.le_of_ble_eq_true rfl⟩ (fun v u H locs hp hW => ?_)
    obtain ⟨rfl, rfl⟩ := hp
    refine W.eq (g2 := F0 m 23 ls [.int (bI (vB (nI x) n))]) rfl ?_
    refine jb_if_ne (tgt := 32) S dX12_free__23 (by decide) (fun c_23 => ?_) (fun c_23 => ?_)
    · refine lv_aload_n S.1 S.2.1 dX12_free__32 rfl (lv_at hl 0 rfl) ?_
      refine j_get (ci := 11) (C := RX12) (T := TX12) (N := 17) (v := .ref (ad 71)) S (fun w h => List.mem_cons_of_mem _ (inG12 w h)) hK hW gO_ rfl 14 (by decide) (List.mem_cons_of_mem _ wfl_X12_55) (fun _ h9 => h9) rfl dX12_free__33 ?_
      refine lv_iload_n S.1 S.2.1 dX12_free__36 rfl (lv_at hl 1 rfl) ?_
      refine j_iald (x := nI n) S hK hW (hU.get gV (by first | decide | (simp; done) | (simp; omega))) (vp_in_nI (by omega) (by omega)) (nI_clamp (by omega)) (hkv) dX12_free__37 ?_
      refine jn_if_ge (tgt := 47) S (by omega) dX12_free__38 (by decide) ?_
      refine lv_aload_n S.1 S.2.1 dX12_free__47 rfl (lv_at hl 0 rfl) ?_
      refine j_get (ci := 11) (C := RX12) (T := TX12) (N := 17) (v := .ref (ad 71)) S (fun w h => List.mem_cons_of_mem _ (inG12 w h)) hK hW gO_ rfl 14 (by decide) (List.mem_cons_of_mem _ wfl_X12_55) (fun _ h9 => h9) rfl dX12_free__48 ?_
      refine lv_iload_n S.1 S.2.1 dX12_free__51 rfl (lv_at hl 1 rfl) ?_
      refine j_iald (x := nI n) S hK hW (hU.get gV (by first | decide | (simp; done) | (simp; omega))) (vp_in_nI (by omega) (by omega)) (nI_clamp (by omega)) (hkv) dX12_free__52 ?_
      refine lv_aload_n S.1 S.2.1 dX12_free__53 rfl (lv_at hl 0 rfl) ?_
      refine j_get (ci := 11) (C := RX12) (T := TX12) (N := 17) (v := .int (nI n)) S (fun w h => List.mem_cons_of_mem _ (inG12 w h)) hK hW gO_ rfl 11 (by decide) (List.mem_cons_of_mem _ wfl_X12_64) (fun _ h9 => h9) rfl dX12_free__54 ?_
      refine jn_cmp_eq (tgt := 66) S (by omega) (by omega) dX12_free__57 (by decide) (fun c_57 => ?_) (fun c_57 => ?_)
      · refine lv_iconst (v := nI 0) S.1 S.2.1 dX12_free__66 (by decide) ?_
        refine lv_istore_n (lv' := [(3, .int (nI 0)), (0, .ref (ad 55)), (1, .int (nI j)), (2, .int (nI x))]) S.1 S.2.1 dX12_free__67 rfl hl (by decide) rfl (fun ls hl => ?_)
        have gR_ : w_[72]? = some (ad 72, .inl (cy 3, 1024, .inl (bf (mixF (freeS n x (gx j)) rb 0)))) := by
          rw [mixF_0]; exact gR_
        have L68 : ∀ (k : Nat) (a1 : Nat), 1024 - a1 = k → (a1 ≤ 1024) → ∀ (w_ : va_W), jU w w_ [55, 67 + j, 72, 73] → (w_[55]? = some (ad 55, .inr (11, [.int (nI 0), .ref (ad 56), .ref (ad 57), .ref (ad 58), .ref (ad 59), .ref (ad 60), .ref (ad 61), .ref (ad 62), .ref (ad 63), .ref (ad 64), .ref (ad 65), .int (nI n), .int (nI nc), .ref (ad 66), .ref (ad 71), .ref (ad 72), .ref (ad 73)]))) → (w_[72]? = some (ad 72, .inl (cy 3, 1024, .inl (bf (mixF (freeS n x (gx j)) rb a1))))) → (w_[67 + j]? = some (ad (67 + j), .inl (cy 3, 1024, .inl (bf (gx j))))) → (w_[73]? = some (ad 73, .inl (cy 3, 1024, .inl (bf tu)))) → ∀ (H : Heap) (locs : List Loc) (ls : Array Slot), jW D A s.heap w_ H locs → lv_has ls 4 [(0, .ref (ad 55)), (1, .int (nI j)), (2, .int (nI x)), (3, .int (nI a1))] → W p l e (jR 6 0 0) s m args below meth c H locs 0 0 Q (F0 m 68 ls []) := by
          intro k
          induction k using Nat.strongRecOn with
          | ind k ih68 =>
          intro a1 hk ha1 w_ hU gO_ gR_ gX_ gU_ H locs ls hW hl
          subst hk
          refine lv_iload_n S.1 S.2.1 dX12_free__68 rfl (lv_at hl 3 rfl) ?_
          refine lv_sipush (v := nI 1024) S.1 S.2.1 dX12_free__69 (by decide) ?_
          refine jn_cmp_ge (tgt := 126) S (by omega) (by omega) dX12_free__72 (by decide) (fun c_72 => ?_) (fun c_72 => ?_)
          · have ea : a1 = 1024 := by omega
            subst ea
            have gR_ : w_[72]? = some (ad 72, .inl (cy 3, 1024, .inl (bf (rowM (freeS n x (gx j)) rb)))) := by
              exact gR_
            refine lv_aload_n S.1 S.2.1 dX12_free__126 rfl (lv_at hl 0 rfl) ?_
            refine lv_iload_n S.1 S.2.1 dX12_free__127 rfl (lv_at hl 1 rfl) ?_
            refine j_callV (k := 55) (ci := 11) (q := (RX12, TX12, 17)) (As := [.int (nI j)]) (rest := []) S hK hA hW (c_X12_becomes l D cy ad 0 n nc od (rowM (freeS n x (gx j)) rb) tu gx j gO_ (hU.get gD (by first | decide | (simp; done) | (simp; omega))) gR_ gU_ (hU.get gK (by first | decide | (simp; done) | (simp; omega))) gX_   (by omega) (hod) (by omega)) (jgo wm_X12_165) yk_X12_becomes gO_ rfl rfl ⟨⟨rfl, rfl⟩, by decide, by decide⟩ rfl hl.1 rfl (Nat.le_of_ble_eq_true rfl) dX12_free__128 ⟨Nat.le_of_ble_eq_true rfl, Nat.le_of_ble_eq_true rfl⟩ (fun v w_ H locs hp hW => ?_)
            obtain ⟨rfl, hU1, hN1, hN2⟩ := hp
            have hU := hU.then hU1 (by first | decide | (simp; done) | (simp; omega))
            have gO_ := hU1.get gO_ (by first | decide | (simp; done) | (simp; omega))
            have gR_ := hU1.get gR_ (by first | decide | (simp; done) | (simp; omega))
            have gX_ : w_[67 + j]? = some (ad (67 + j), .inl (cy 3, 1024, .inl (bf (rowM (rowM (freeS n x (gx j)) rb) (gx j))))) := hN1
            have gU_ : w_[73]? = some (ad 73, .inl (cy 3, 1024, .inl (bf (mixF (fun d => (rowM (freeS n x (gx j)) rb) (layP n od d n)) tu (2 ^ n))))) := hN2
            clear hU1 hN1 hN2
            refine W.eq (g2 := F0 m 131 ls [.int (nI (sumN (nodesB (fun d => (rowM (freeS n x (gx j)) rb) (layP n od d n)) n) n))]) rfl ?_
            refine lv_topi_to (y := nI (sumN (nodesB (fun d => (freeS n x (gx j)) (layP n od d n)) n) n)) (congrArg nI (sumN_congr (fun j hj => nodesB_congr hj (fun i _ => row_at (layP_lt hod))))) ?_
            subst hQ
            exact j_iret (u := w_) S hr (rfl) hK hW dX12_free__131 ⟨by decide, by decide⟩ (⟨_, _, rfl, hU, gO_, gX_, gR_, gU_⟩)
          · refine lv_aload_n S.1 S.2.1 dX12_free__75 rfl (lv_at hl 0 rfl) ?_
            refine j_get (ci := 11) (C := RX12) (T := TX12) (N := 17) (v := .ref (ad 72)) S (fun w h => List.mem_cons_of_mem _ (inG12 w h)) hK hW gO_ rfl 15 (by decide) (List.mem_cons_of_mem _ wfl_X12_58) (fun _ h9 => h9) rfl dX12_free__76 ?_
            refine lv_iload_n S.1 S.2.1 dX12_free__79 rfl (lv_at hl 3 rfl) ?_
            refine lv_iload_n S.1 S.2.1 dX12_free__80 rfl (lv_at hl 3 rfl) ?_
            refine lv_aload_n S.1 S.2.1 dX12_free__81 rfl (lv_at hl 0 rfl) ?_
            refine j_callV (k := 55) (ci := 11) (q := (RX12, TX12, 17)) (As := []) (rest := [.int (nI a1), .int (nI a1), .ref (ad 72)]) S hK hA hW (c_X12_all l D cy ad 0 n nc gO_   (by omega)) (jgo wm_X12_98) yk_X12_all gO_ rfl rfl ⟨⟨rfl, rfl⟩, by decide, by decide⟩ rfl hl.1 rfl (Nat.le_of_ble_eq_true rfl) dX12_free__82 ⟨Nat.le_of_ble_eq_true rfl, Nat.le_of_ble_eq_true rfl⟩ (fun v u H locs hp hW => ?_)
            obtain ⟨rfl, rfl⟩ := hp
            refine W.eq (g2 := F0 m 85 ls [.int (nI (2 ^ n)), .int (nI a1), .int (nI a1), .ref (ad 72)]) rfl ?_
            refine jn_cmp_ge (tgt := 118) S (by omega) (by omega) dX12_free__85 (by decide) (fun c_85 => ?_) (fun c_85 => ?_)
            · refine lv_iconst (v := nI 0) S.1 S.2.1 dX12_free__118 (by decide) ?_
              refine j_zast S hK hW gR_ (vp_in_nI (by omega) (by omega)) (nI_clamp (by omega)) (rfl) dX12_free__119 (fun H locs w_ hU1 hN1 hW => ?_)
              have hU := hU.then hU1 (by first | decide | (simp; done) | (simp; omega))
              have gO_ := hU1.get gO_ (by first | decide | (simp; done) | (simp; omega))
              have gX_ := hU1.get gX_ (by first | decide | (simp; done) | (simp; omega))
              have gU_ := hU1.get gU_ (by first | decide | (simp; done) | (simp; omega))
              have gR_ : w_[72]? = some (ad 72, .inl (cy 3, 1024, .inl (upd (bf (mixF (freeS n x (gx j)) rb a1)) a1 (nI 0)))) := hN1
              clear hU1 hN1
              have gR_ : w_[72]? = some (ad 72, .inl (cy 3, 1024, .inl (bf (mixF (freeS n x (gx j)) rb (a1 + 1))))) := by
                first
                | (rw [← mixF_upd (g := (freeS n x (gx j))) (b := true) (by show (decide (a1 < 2 ^ n) && (gx j a1 || gx j (a1 ^^^ 2 ^ x))) = true;  first | (rw [decide_eq_true c_85, c_96]; rfl) | (rw [decide_eq_true c_85, c_96, c_111]; rfl))]; exact gR_)
                | (rw [← mixF_upd (g := (freeS n x (gx j))) (b := false) (by show (decide (a1 < 2 ^ n) && (gx j a1 || gx j (a1 ^^^ 2 ^ x))) = false;  first | (rw [c_96, c_111, Bool.or_false, Bool.and_false]) | (rw [decide_eq_false (by omega)]; rfl))]; exact gR_)
              refine lv_iinc (v := nI (a1 + 1)) (lv' := [(3, .int (nI (a1 + 1))), (0, .ref (ad 55)), (1, .int (nI j)), (2, .int (nI x))]) S.1 S.2.1 dX12_free__120 hl (k := 3) rfl (nI_add _ 1) (by decide) rfl (fun ls hl => ?_)
              refine lv_goto (tgt := 68) S.1 S.2.1 dX12_free__123 (by decide) ?_
              exact ih68 _ (by omega) (a1 + 1) rfl (by omega) w_ hU gO_ gR_ gX_ gU_ H locs ls hW (lv_sub hl [1, 2, 3, 0] rfl)
            · refine lv_aload_n S.1 S.2.1 dX12_free__88 rfl (lv_at hl 0 rfl) ?_
              refine j_get (ci := 11) (C := RX12) (T := TX12) (N := 17) (v := .ref (ad 66)) S (fun w h => List.mem_cons_of_mem _ (inG12 w h)) hK hW gO_ rfl 13 (by decide) (List.mem_cons_of_mem _ wfl_X12_52) (fun _ h9 => h9) rfl dX12_free__89 ?_
              refine lv_iload_n S.1 S.2.1 dX12_free__92 rfl (lv_at hl 1 rfl) ?_
              refine j_aaldB (x := .ref (ad (67 + j))) S hK hW (hU.get gK (by first | decide | (simp; done) | (simp; omega))) (vp_in_nI (by omega) (by omega)) (nI_clamp (by omega)) (kp_at hj) dX12_free__93 ?_
              refine lv_iload_n S.1 S.2.1 dX12_free__94 rfl (lv_at hl 3 rfl) ?_
              refine j_zald (x := bI (gx j a1)) S hK hW gX_ (vp_in_nI (by omega) (by omega)) (nI_clamp (by omega)) (rfl) dX12_free__95 ?_
              refine jb_if_ne (tgt := 114) S dX12_free__96 (by decide) (fun c_96 => ?_) (fun c_96 => ?_)
              · refine lv_iconst (v := nI 1) S.1 S.2.1 dX12_free__114 (by decide) ?_
                refine lv_goto (tgt := 119) S.1 S.2.1 dX12_free__115 (by decide) ?_
                refine j_zast S hK hW gR_ (vp_in_nI (by omega) (by omega)) (nI_clamp (by omega)) (rfl) dX12_free__119 (fun H locs w_ hU1 hN1 hW => ?_)
                have hU := hU.then hU1 (by first | decide | (simp; done) | (simp; omega))
                have gO_ := hU1.get gO_ (by first | decide | (simp; done) | (simp; omega))
                have gX_ := hU1.get gX_ (by first | decide | (simp; done) | (simp; omega))
                have gU_ := hU1.get gU_ (by first | decide | (simp; done) | (simp; omega))
                have gR_ : w_[72]? = some (ad 72, .inl (cy 3, 1024, .inl (upd (bf (mixF (freeS n x (gx j)) rb a1)) a1 (nI 1)))) := hN1
                clear hU1 hN1
                have gR_ : w_[72]? = some (ad 72, .inl (cy 3, 1024, .inl (bf (mixF (freeS n x (gx j)) rb (a1 + 1))))) := by
                  first
                  | (rw [← mixF_upd (g := (freeS n x (gx j))) (b := true) (by show (decide (a1 < 2 ^ n) && (gx j a1 || gx j (a1 ^^^ 2 ^ x))) = true;  first | (rw [decide_eq_true c_85, c_96]; rfl) | (rw [decide_eq_true c_85, c_96, c_111]; rfl))]; exact gR_)
                  | (rw [← mixF_upd (g := (freeS n x (gx j))) (b := false) (by show (decide (a1 < 2 ^ n) && (gx j a1 || gx j (a1 ^^^ 2 ^ x))) = false;  first | (rw [c_96, c_111, Bool.or_false, Bool.and_false]) | (rw [decide_eq_false (by omega)]; rfl))]; exact gR_)
                refine lv_iinc (v := nI (a1 + 1)) (lv' := [(3, .int (nI (a1 + 1))), (0, .ref (ad 55)), (1, .int (nI j)), (2, .int (nI x))]) S.1 S.2.1 dX12_free__120 hl (k := 3) rfl (nI_add _ 1) (by decide) rfl (fun ls hl => ?_)
                refine lv_goto (tgt := 68) S.1 S.2.1 dX12_free__123 (by decide) ?_
                exact ih68 _ (by omega) (a1 + 1) rfl (by omega) w_ hU gO_ gR_ gX_ gU_ H locs ls hW (lv_sub hl [1, 2, 3, 0] rfl)
              · refine lv_aload_n S.1 S.2.1 dX12_free__99 rfl (lv_at hl 0 rfl) ?_
                refine j_get (ci := 11) (C := RX12) (T := TX12) (N := 17) (v := .ref (ad 66)) S (fun w h => List.mem_cons_of_mem _ (inG12 w h)) hK hW gO_ rfl 13 (by decide) (List.mem_cons_of_mem _ wfl_X12_52) (fun _ h9 => h9) rfl dX12_free__100 ?_
                refine lv_iload_n S.1 S.2.1 dX12_free__103 rfl (lv_at hl 1 rfl) ?_
                refine j_aaldB (x := .ref (ad (67 + j))) S hK hW (hU.get gK (by first | decide | (simp; done) | (simp; omega))) (vp_in_nI (by omega) (by omega)) (nI_clamp (by omega)) (kp_at hj) dX12_free__104 ?_
                refine lv_iload_n S.1 S.2.1 dX12_free__105 rfl (lv_at hl 3 rfl) ?_
                refine lv_iconst (v := nI 1) S.1 S.2.1 dX12_free__106 (by decide) ?_
                refine lv_iload_n S.1 S.2.1 dX12_free__107 rfl (lv_at hl 2 rfl) ?_
                refine jn_shl1 S (by omega) dX12_free__108 ?_
                refine jn_xor S dX12_free__109 ?_
                have hxl := xor_lt10 (k := x) (show a1 < 1024 by omega) (by omega)
                refine j_zald (x := bI (gx j (a1 ^^^ (2 ^ x)))) S hK hW gX_ (vp_in_nI (by omega) (by omega)) (nI_clamp (by omega)) (rfl) dX12_free__110 ?_
                refine jb_if_eq (tgt := 118) S dX12_free__111 (by decide) (fun c_111 => ?_) (fun c_111 => ?_)
                · refine lv_iconst (v := nI 0) S.1 S.2.1 dX12_free__118 (by decide) ?_
                  refine j_zast S hK hW gR_ (vp_in_nI (by omega) (by omega)) (nI_clamp (by omega)) (rfl) dX12_free__119 (fun H locs w_ hU1 hN1 hW => ?_)
                  have hU := hU.then hU1 (by first | decide | (simp; done) | (simp; omega))
                  have gO_ := hU1.get gO_ (by first | decide | (simp; done) | (simp; omega))
                  have gX_ := hU1.get gX_ (by first | decide | (simp; done) | (simp; omega))
                  have gU_ := hU1.get gU_ (by first | decide | (simp; done) | (simp; omega))
                  have gR_ : w_[72]? = some (ad 72, .inl (cy 3, 1024, .inl (upd (bf (mixF (freeS n x (gx j)) rb a1)) a1 (nI 0)))) := hN1
                  clear hU1 hN1
                  have gR_ : w_[72]? = some (ad 72, .inl (cy 3, 1024, .inl (bf (mixF (freeS n x (gx j)) rb (a1 + 1))))) := by
                    first
                    | (rw [← mixF_upd (g := (freeS n x (gx j))) (b := true) (by show (decide (a1 < 2 ^ n) && (gx j a1 || gx j (a1 ^^^ 2 ^ x))) = true;  first | (rw [decide_eq_true c_85, c_96]; rfl) | (rw [decide_eq_true c_85, c_96, c_111]; rfl))]; exact gR_)
                    | (rw [← mixF_upd (g := (freeS n x (gx j))) (b := false) (by show (decide (a1 < 2 ^ n) && (gx j a1 || gx j (a1 ^^^ 2 ^ x))) = false;  first | (rw [c_96, c_111, Bool.or_false, Bool.and_false]) | (rw [decide_eq_false (by omega)]; rfl))]; exact gR_)
                  refine lv_iinc (v := nI (a1 + 1)) (lv' := [(3, .int (nI (a1 + 1))), (0, .ref (ad 55)), (1, .int (nI j)), (2, .int (nI x))]) S.1 S.2.1 dX12_free__120 hl (k := 3) rfl (nI_add _ 1) (by decide) rfl (fun ls hl => ?_)
                  refine lv_goto (tgt := 68) S.1 S.2.1 dX12_free__123 (by decide) ?_
                  exact ih68 _ (by omega) (a1 + 1) rfl (by omega) w_ hU gO_ gR_ gX_ gU_ H locs ls hW (lv_sub hl [1, 2, 3, 0] rfl)
                · refine lv_iconst (v := nI 1) S.1 S.2.1 dX12_free__114 (by decide) ?_
                  refine lv_goto (tgt := 119) S.1 S.2.1 dX12_free__115 (by decide) ?_
                  refine j_zast S hK hW gR_ (vp_in_nI (by omega) (by omega)) (nI_clamp (by omega)) (rfl) dX12_free__119 (fun H locs w_ hU1 hN1 hW => ?_)
                  have hU := hU.then hU1 (by first | decide | (simp; done) | (simp; omega))
                  have gO_ := hU1.get gO_ (by first | decide | (simp; done) | (simp; omega))
                  have gX_ := hU1.get gX_ (by first | decide | (simp; done) | (simp; omega))
                  have gU_ := hU1.get gU_ (by first | decide | (simp; done) | (simp; omega))
                  have gR_ : w_[72]? = some (ad 72, .inl (cy 3, 1024, .inl (upd (bf (mixF (freeS n x (gx j)) rb a1)) a1 (nI 1)))) := hN1
                  clear hU1 hN1
                  have gR_ : w_[72]? = some (ad 72, .inl (cy 3, 1024, .inl (bf (mixF (freeS n x (gx j)) rb (a1 + 1))))) := by
                    first
                    | (rw [← mixF_upd (g := (freeS n x (gx j))) (b := true) (by show (decide (a1 < 2 ^ n) && (gx j a1 || gx j (a1 ^^^ 2 ^ x))) = true;  first | (rw [decide_eq_true c_85, c_96]; rfl) | (rw [decide_eq_true c_85, c_96, c_111]; rfl))]; exact gR_)
                    | (rw [← mixF_upd (g := (freeS n x (gx j))) (b := false) (by show (decide (a1 < 2 ^ n) && (gx j a1 || gx j (a1 ^^^ 2 ^ x))) = false;  first | (rw [c_96, c_111, Bool.or_false, Bool.and_false]) | (rw [decide_eq_false (by omega)]; rfl))]; exact gR_)
                  refine lv_iinc (v := nI (a1 + 1)) (lv' := [(3, .int (nI (a1 + 1))), (0, .ref (ad 55)), (1, .int (nI j)), (2, .int (nI x))]) S.1 S.2.1 dX12_free__120 hl (k := 3) rfl (nI_add _ 1) (by decide) rfl (fun ls hl => ?_)
                  refine lv_goto (tgt := 68) S.1 S.2.1 dX12_free__123 (by decide) ?_
                  exact ih68 _ (by omega) (a1 + 1) rfl (by omega) w_ hU gO_ gR_ gX_ gU_ H locs ls hW (lv_sub hl [1, 2, 3, 0] rfl)
        exact L68 _ 0 rfl (Nat.zero_le _) w_ hU gO_ gR_ gX_ gU_ H locs ls hW (lv_sub hl [1, 2, 3, 0] rfl)
      · exact absurd rfl c_57
    · exact absurd (vB_nI hx (by omega)) (by rw [c_23]; decide)
  · exact absurd (vB_nI hj (by decide)) (by rw [c_9]; decide)
/-- free, no such slot -/
theorem c_X12_free__b1 (l : Launch) (D : va_G) (cy : Nat → ClassId) {w : va_W} (ad : Nat → Nat) (th n nc : Nat) (v u1 : Int32) (gO : w[55]? = some (ad 55, .inr (11, [.int (nI th), .ref (ad 56), .ref (ad 57), .ref (ad 58), .ref (ad 59), .ref (ad 60), .ref (ad 61), .ref (ad 62), .ref (ad 63), .ref (ad 64), .ref (ad 65), .int (nI n), .int (nI nc), .ref (ad 66), .ref (ad 71), .ref (ad 72), .ref (ad 73)]))) (hv : vB v 4 = false) : jM l yX12_free_ (jws yX12_free_ cX12_free_ 4 (some .int)) (jR 6 0 0) D cy w [.ref (ad 55), .int v, .int u1] 0 0 (fun vv uu => vv = some (.int (nI 0)) ∧ jU w uu [55] ∧ uu[55]? = some (ad 55, .inr (11, [.int (nI 1), .ref (ad 56), .ref (ad 57), .ref (ad 58), .ref (ad 59), .ref (ad 60), .ref (ad 61), .ref (ad 62), .ref (ad 63), .ref (ad 64), .ref (ad 65), .int (nI n), .int (nI nc), .ref (ad 66), .ref (ad 71), .ref (ad 72), .ref (ad 73)]))) := by
  refine j_of (by decide) rfl (Nat.le_of_ble_eq_true rfl) ?_
  intro p e s m args below meth c A ls Q hQ S hr hK hA H locs hW hl
  have hl : lv_has ls 4 [(0, .ref (ad 55)), (1, .int v), (2, .int u1)] := hl
  refine lv_aload_n S.1 S.2.1 dX12_free__0 rfl (lv_at hl 0 rfl) ?_
  refine lv_iconst (v := nI 0) S.1 S.2.1 dX12_free__1 (by decide) ?_
  refine j_put (ci := 11) (C := RX12) (T := TX12) (N := 17) (ty := .int) S (fun w h => List.mem_cons_of_mem _ (inG12 w h)) tyX12 tyX12_ok nmX12 hK hW gO rfl 0 (by decide) (List.mem_cons_of_mem _ wfl_X12_1) (fun _ h9 => h9) rfl (by decide +kernel) (rfl) (rfl) (Nat.le_of_ble_eq_true rfl) dX12_free__2 (fun H locs w_ hU1 hN1 hW => ?_)
  have hU : jU w w_ [55] := jU.mono hU1 (by decide)
  have gO_ : w_[55]? = some (ad 55, .inr (11, [.int (nI 0), .ref (ad 56), .ref (ad 57), .ref (ad 58), .ref (ad 59), .ref (ad 60), .ref (ad 61), .ref (ad 62), .ref (ad 63), .ref (ad 64), .ref (ad 65), .int (nI n), .int (nI nc), .ref (ad 66), .ref (ad 71), .ref (ad 72), .ref (ad 73)])) := hN1
  clear hU1 hN1
  refine lv_iload_n S.1 S.2.1 dX12_free__5 rfl (lv_at hl 1 rfl) ?_
  refine j_callS (As := [.int v]) (rest := []) S hK hA hW (c_X12_isSlot l D cy v    ) (jgo wm_X12_162) yk_X12_isSlot ⟨⟨rfl, rfl⟩, by decide, by decide⟩ rfl hl.1 rfl (Nat.le_of_ble_eq_true rfl) dX12_free__6 ⟨Nat.le_of_ble_eq_true rfl, Nat.le_of_ble_eq_true rfl⟩ (fun v u H locs hp hW => ?_)
  obtain ⟨rfl, rfl⟩ := hp
  refine W.eq (g2 := F0 m 9 ls [.int (bI (vB v 4))]) rfl ?_
  refine jb_if_ne (tgt := 18) S dX12_free__9 (by decide) (fun c_9 => ?_) (fun c_9 => ?_)
  · exact absurd c_9 (by rw [hv]; decide)
  · refine lv_aload_n S.1 S.2.1 dX12_free__12 rfl (lv_at hl 0 rfl) ?_
    refine lv_iconst (v := nI 1) S.1 S.2.1 dX12_free__13 (by decide) ?_
    refine j_callV (k := 55) (ci := 11) (q := (RX12, TX12, 17)) (As := [.int (nI 1)]) (rest := []) S hK hA hW (c_X12_fails l D cy ad 0 n nc 1 gO_   ) (jgo wm_X12_71) yk_X12_fails gO_ rfl rfl ⟨⟨rfl, rfl⟩, by decide, by decide⟩ rfl hl.1 rfl (Nat.le_of_ble_eq_true rfl) dX12_free__14 ⟨Nat.le_of_ble_eq_true rfl, Nat.le_of_ble_eq_true rfl⟩ (fun v w_ H locs hp hW => ?_)
    obtain ⟨rfl, hU1, hN1⟩ := hp
    have hU := hU.then hU1 (by decide)
    have gO_ : w_[55]? = some (ad 55, .inr (11, [.int (nI 1), .ref (ad 56), .ref (ad 57), .ref (ad 58), .ref (ad 59), .ref (ad 60), .ref (ad 61), .ref (ad 62), .ref (ad 63), .ref (ad 64), .ref (ad 65), .int (nI n), .int (nI nc), .ref (ad 66), .ref (ad 71), .ref (ad 72), .ref (ad 73)])) := hN1
    clear hU1 hN1
    refine W.eq (g2 := F0 m 17 ls [.int (nI 0)]) rfl ?_
    subst hQ
    exact j_iret (u := w_) S hr (rfl) hK hW dX12_free__17 ⟨by decide, by decide⟩ (⟨rfl, hU, gO_⟩)
/-- free, no such variable -/
theorem c_X12_free__b2 (l : Launch) (D : va_G) (cy : Nat → ClassId) {w : va_W} (ad : Nat → Nat) (th n nc : Nat) (u1 : Int32) (j : Nat) (gO : w[55]? = some (ad 55, .inr (11, [.int (nI th), .ref (ad 56), .ref (ad 57), .ref (ad 58), .ref (ad 59), .ref (ad 60), .ref (ad 61), .ref (ad 62), .ref (ad 63), .ref (ad 64), .ref (ad 65), .int (nI n), .int (nI nc), .ref (ad 66), .ref (ad 71), .ref (ad 72), .ref (ad 73)]))) (hn : n ≤ 10) (hj : j < 4) (hv : vB u1 n = false) : jM l yX12_free_ (jws yX12_free_ cX12_free_ 4 (some .int)) (jR 6 0 0) D cy w [.ref (ad 55), .int (nI j), .int u1] 0 0 (fun vv uu => vv = some (.int (nI 0)) ∧ jU w uu [55] ∧ uu[55]? = some (ad 55, .inr (11, [.int (nI 2), .ref (ad 56), .ref (ad 57), .ref (ad 58), .ref (ad 59), .ref (ad 60), .ref (ad 61), .ref (ad 62), .ref (ad 63), .ref (ad 64), .ref (ad 65), .int (nI n), .int (nI nc), .ref (ad 66), .ref (ad 71), .ref (ad 72), .ref (ad 73)]))) := by
  refine j_of (by decide) rfl (Nat.le_of_ble_eq_true rfl) ?_
  intro p e s m args below meth c A ls Q hQ S hr hK hA H locs hW hl
  have hl : lv_has ls 4 [(0, .ref (ad 55)), (1, .int (nI j)), (2, .int u1)] := hl
  refine lv_aload_n S.1 S.2.1 dX12_free__0 rfl (lv_at hl 0 rfl) ?_
  refine lv_iconst (v := nI 0) S.1 S.2.1 dX12_free__1 (by decide) ?_
  refine j_put (ci := 11) (C := RX12) (T := TX12) (N := 17) (ty := .int) S (fun w h => List.mem_cons_of_mem _ (inG12 w h)) tyX12 tyX12_ok nmX12 hK hW gO rfl 0 (by decide) (List.mem_cons_of_mem _ wfl_X12_1) (fun _ h9 => h9) rfl (by decide +kernel) (rfl) (rfl) (Nat.le_of_ble_eq_true rfl) dX12_free__2 (fun H locs w_ hU1 hN1 hW => ?_)
  have hU : jU w w_ [55] := jU.mono hU1 (by decide)
  have gO_ : w_[55]? = some (ad 55, .inr (11, [.int (nI 0), .ref (ad 56), .ref (ad 57), .ref (ad 58), .ref (ad 59), .ref (ad 60), .ref (ad 61), .ref (ad 62), .ref (ad 63), .ref (ad 64), .ref (ad 65), .int (nI n), .int (nI nc), .ref (ad 66), .ref (ad 71), .ref (ad 72), .ref (ad 73)])) := hN1
  clear hU1 hN1
  refine lv_iload_n S.1 S.2.1 dX12_free__5 rfl (lv_at hl 1 rfl) ?_
  refine j_callS (As := [.int (nI j)]) (rest := []) S hK hA hW (c_X12_isSlot l D cy (nI j)    ) (jgo wm_X12_162) yk_X12_isSlot ⟨⟨rfl, rfl⟩, by decide, by decide⟩ rfl hl.1 rfl (Nat.le_of_ble_eq_true rfl) dX12_free__6 ⟨Nat.le_of_ble_eq_true rfl, Nat.le_of_ble_eq_true rfl⟩ (fun v u H locs hp hW => ?_)
  obtain ⟨rfl, rfl⟩ := hp
  refine W.eq (g2 := F0 m 9 ls [.int (bI (vB (nI j) 4))]) rfl ?_
  refine jb_if_ne (tgt := 18) S dX12_free__9 (by decide) (fun c_9 => ?_) (fun c_9 => ?_)
  · refine lv_aload_n S.1 S.2.1 dX12_free__18 rfl (lv_at hl 0 rfl) ?_
    refine lv_iload_n S.1 S.2.1 dX12_free__19 rfl (lv_at hl 2 rfl) ?_
    refine j_callV (k := 55) (ci := 11) (q := (RX12, TX12, 17)) (As := [.int u1]) (rest := []) S hK hA hW (c_X12_isVariable l D cy ad 0 n nc u1 gO_   (by omega)) (jgo wm_X12_75) yk_X12_isVariable gO_ rfl rfl ⟨⟨rfl, rfl⟩, by decide, by decide⟩ rfl hl.1 rfl (Nat.le_of_ble_eq_true rfl) dX12_free__20 ⟨Nat.le_of_ble_eq_true rfl, Nat.le_of_ble_eq_true rfl⟩ (fun v u H locs hp hW => ?_)
    obtain ⟨rfl, rfl⟩ := hp
    refine W.eq (g2 := F0 m 23 ls [.int (bI (vB u1 n))]) rfl ?_
    refine jb_if_ne (tgt := 32) S dX12_free__23 (by decide) (fun c_23 => ?_) (fun c_23 => ?_)
    · exact absurd c_23 (by rw [hv]; decide)
    · refine lv_aload_n S.1 S.2.1 dX12_free__26 rfl (lv_at hl 0 rfl) ?_
      refine lv_iconst (v := nI 2) S.1 S.2.1 dX12_free__27 (by decide) ?_
      refine j_callV (k := 55) (ci := 11) (q := (RX12, TX12, 17)) (As := [.int (nI 2)]) (rest := []) S hK hA hW (c_X12_fails l D cy ad 0 n nc 2 gO_   ) (jgo wm_X12_71) yk_X12_fails gO_ rfl rfl ⟨⟨rfl, rfl⟩, by decide, by decide⟩ rfl hl.1 rfl (Nat.le_of_ble_eq_true rfl) dX12_free__28 ⟨Nat.le_of_ble_eq_true rfl, Nat.le_of_ble_eq_true rfl⟩ (fun v w_ H locs hp hW => ?_)
      obtain ⟨rfl, hU1, hN1⟩ := hp
      have hU := hU.then hU1 (by decide)
      have gO_ : w_[55]? = some (ad 55, .inr (11, [.int (nI 2), .ref (ad 56), .ref (ad 57), .ref (ad 58), .ref (ad 59), .ref (ad 60), .ref (ad 61), .ref (ad 62), .ref (ad 63), .ref (ad 64), .ref (ad 65), .int (nI n), .int (nI nc), .ref (ad 66), .ref (ad 71), .ref (ad 72), .ref (ad 73)])) := hN1
      clear hU1 hN1
      refine W.eq (g2 := F0 m 31 ls [.int (nI 0)]) rfl ?_
      subst hQ
      exact j_iret (u := w_) S hr (rfl) hK hW dX12_free__31 ⟨by decide, by decide⟩ (⟨rfl, hU, gO_⟩)
  · exact absurd (vB_nI hj (by decide)) (by rw [c_9]; decide)
/-- free, nothing kept -/
theorem c_X12_free__b3 (l : Launch) (D : va_G) (cy : Nat → ClassId) {w : va_W} (ad : Nat → Nat) (th n nc : Nat) (kv : Nat → Int32) (j x : Nat) (gO : w[55]? = some (ad 55, .inr (11, [.int (nI th), .ref (ad 56), .ref (ad 57), .ref (ad 58), .ref (ad 59), .ref (ad 60), .ref (ad 61), .ref (ad 62), .ref (ad 63), .ref (ad 64), .ref (ad 65), .int (nI n), .int (nI nc), .ref (ad 66), .ref (ad 71), .ref (ad 72), .ref (ad 73)]))) (gV : w[71]? = some (ad 71, .inl (cy 0, 4, .inl kv))) (hn : n ≤ 10) (hj : j < 4) (hx : x < n) (hkv : kv j < 0) : jM l yX12_free_ (jws yX12_free_ cX12_free_ 4 (some .int)) (jR 6 0 0) D cy w [.ref (ad 55), .int (nI j), .int (nI x)] 0 0 (fun vv uu => vv = some (.int (nI 0)) ∧ jU w uu [55] ∧ uu[55]? = some (ad 55, .inr (11, [.int (nI 3), .ref (ad 56), .ref (ad 57), .ref (ad 58), .ref (ad 59), .ref (ad 60), .ref (ad 61), .ref (ad 62), .ref (ad 63), .ref (ad 64), .ref (ad 65), .int (nI n), .int (nI nc), .ref (ad 66), .ref (ad 71), .ref (ad 72), .ref (ad 73)]))) := by
  refine j_of (by decide) rfl (Nat.le_of_ble_eq_true rfl) ?_
  intro p e s m args below meth c A ls Q hQ S hr hK hA H locs hW hl
  have hl : lv_has ls 4 [(0, .ref (ad 55)), (1, .int (nI j)), (2, .int (nI x))] := hl
  refine lv_aload_n S.1 S.2.1 dX12_free__0 rfl (lv_at hl 0 rfl) ?_
  refine lv_iconst (v := nI 0) S.1 S.2.1 dX12_free__1 (by decide) ?_
  refine j_put (ci := 11) (C := RX12) (T := TX12) (N := 17) (ty := .int) S (fun w h => List.mem_cons_of_mem _ (inG12 w h)) tyX12 tyX12_ok nmX12 hK hW gO rfl 0 (by decide) (List.mem_cons_of_mem _ wfl_X12_1) (fun _ h9 => h9) rfl (by decide +kernel) (rfl) (rfl) (Nat.le_of_ble_eq_true rfl) dX12_free__2 (fun H locs w_ hU1 hN1 hW => ?_)
  have hU : jU w w_ [55] := jU.mono hU1 (by decide)
  have gO_ : w_[55]? = some (ad 55, .inr (11, [.int (nI 0), .ref (ad 56), .ref (ad 57), .ref (ad 58), .ref (ad 59), .ref (ad 60), .ref (ad 61), .ref (ad 62), .ref (ad 63), .ref (ad 64), .ref (ad 65), .int (nI n), .int (nI nc), .ref (ad 66), .ref (ad 71), .ref (ad 72), .ref (ad 73)])) := hN1
  clear hU1 hN1
  refine lv_iload_n S.1 S.2.1 dX12_free__5 rfl (lv_at hl 1 rfl) ?_
  refine j_callS (As := [.int (nI j)]) (rest := []) S hK hA hW (c_X12_isSlot l D cy (nI j)    ) (jgo wm_X12_162) yk_X12_isSlot ⟨⟨rfl, rfl⟩, by decide, by decide⟩ rfl hl.1 rfl (Nat.le_of_ble_eq_true rfl) dX12_free__6 ⟨Nat.le_of_ble_eq_true rfl, Nat.le_of_ble_eq_true rfl⟩ (fun v u H locs hp hW => ?_)
  obtain ⟨rfl, rfl⟩ := hp
  refine W.eq (g2 := F0 m 9 ls [.int (bI (vB (nI j) 4))]) rfl ?_
  refine jb_if_ne (tgt := 18) S dX12_free__9 (by decide) (fun c_9 => ?_) (fun c_9 => ?_)
  · refine lv_aload_n S.1 S.2.1 dX12_free__18 rfl (lv_at hl 0 rfl) ?_
    refine lv_iload_n S.1 S.2.1 dX12_free__19 rfl (lv_at hl 2 rfl) ?_
    refine j_callV (k := 55) (ci := 11) (q := (RX12, TX12, 17)) (As := [.int (nI x)]) (rest := []) S hK hA hW (c_X12_isVariable l D cy ad 0 n nc (nI x) gO_   (by omega)) (jgo wm_X12_75) yk_X12_isVariable gO_ rfl rfl ⟨⟨rfl, rfl⟩, by decide, by decide⟩ rfl hl.1 rfl (Nat.le_of_ble_eq_true rfl) dX12_free__20 ⟨Nat.le_of_ble_eq_true rfl, Nat.le_of_ble_eq_true rfl⟩ (fun v u H locs hp hW => ?_)
    obtain ⟨rfl, rfl⟩ := hp
    refine W.eq (g2 := F0 m 23 ls [.int (bI (vB (nI x) n))]) rfl ?_
    refine jb_if_ne (tgt := 32) S dX12_free__23 (by decide) (fun c_23 => ?_) (fun c_23 => ?_)
    · refine lv_aload_n S.1 S.2.1 dX12_free__32 rfl (lv_at hl 0 rfl) ?_
      refine j_get (ci := 11) (C := RX12) (T := TX12) (N := 17) (v := .ref (ad 71)) S (fun w h => List.mem_cons_of_mem _ (inG12 w h)) hK hW gO_ rfl 14 (by decide) (List.mem_cons_of_mem _ wfl_X12_55) (fun _ h9 => h9) rfl dX12_free__33 ?_
      refine lv_iload_n S.1 S.2.1 dX12_free__36 rfl (lv_at hl 1 rfl) ?_
      refine j_iald (x := kv j) S hK hW (hU.get gV (by decide)) (vp_in_nI (by omega) (by omega)) (nI_clamp (by omega)) (rfl) dX12_free__37 ?_
      refine lv_if_ge (tgt := 47) S.1 S.2.1 dX12_free__38 (by decide) (fun c_38 => ?_) (fun c_38 => ?_)
      · first | exact absurd hkv c_38 | exact c_38 hkv | exact absurd hkv (Int32.not_lt.mpr c_38)
      · refine lv_aload_n S.1 S.2.1 dX12_free__41 rfl (lv_at hl 0 rfl) ?_
        refine lv_iconst (v := nI 3) S.1 S.2.1 dX12_free__42 (by decide) ?_
        refine j_callV (k := 55) (ci := 11) (q := (RX12, TX12, 17)) (As := [.int (nI 3)]) (rest := []) S hK hA hW (c_X12_fails l D cy ad 0 n nc 3 gO_   ) (jgo wm_X12_71) yk_X12_fails gO_ rfl rfl ⟨⟨rfl, rfl⟩, by decide, by decide⟩ rfl hl.1 rfl (Nat.le_of_ble_eq_true rfl) dX12_free__43 ⟨Nat.le_of_ble_eq_true rfl, Nat.le_of_ble_eq_true rfl⟩ (fun v w_ H locs hp hW => ?_)
        obtain ⟨rfl, hU1, hN1⟩ := hp
        have hU := hU.then hU1 (by decide)
        have gO_ : w_[55]? = some (ad 55, .inr (11, [.int (nI 3), .ref (ad 56), .ref (ad 57), .ref (ad 58), .ref (ad 59), .ref (ad 60), .ref (ad 61), .ref (ad 62), .ref (ad 63), .ref (ad 64), .ref (ad 65), .int (nI n), .int (nI nc), .ref (ad 66), .ref (ad 71), .ref (ad 72), .ref (ad 73)])) := hN1
        clear hU1 hN1
        refine W.eq (g2 := F0 m 46 ls [.int (nI 0)]) rfl ?_
        subst hQ
        exact j_iret (u := w_) S hr (rfl) hK hW dX12_free__46 ⟨by decide, by decide⟩ (⟨rfl, hU, gO_⟩)
    · exact absurd (vB_nI hx (by omega)) (by rw [c_23]; decide)
  · exact absurd (vB_nI hj (by decide)) (by rw [c_9]; decide)
/-- free, other variables -/
theorem c_X12_free__b4 (l : Launch) (D : va_G) (cy : Nat → ClassId) {w : va_W} (ad : Nat → Nat) (th n nc : Nat) (kv : Nat → Int32) (j x : Nat) (gO : w[55]? = some (ad 55, .inr (11, [.int (nI th), .ref (ad 56), .ref (ad 57), .ref (ad 58), .ref (ad 59), .ref (ad 60), .ref (ad 61), .ref (ad 62), .ref (ad 63), .ref (ad 64), .ref (ad 65), .int (nI n), .int (nI nc), .ref (ad 66), .ref (ad 71), .ref (ad 72), .ref (ad 73)]))) (gV : w[71]? = some (ad 71, .inl (cy 0, 4, .inl kv))) (hn : n ≤ 10) (hj : j < 4) (hx : x < n) (hkv : ¬ kv j < 0) (hne : kv j ≠ nI n) : jM l yX12_free_ (jws yX12_free_ cX12_free_ 4 (some .int)) (jR 6 0 0) D cy w [.ref (ad 55), .int (nI j), .int (nI x)] 0 0 (fun vv uu => vv = some (.int (nI 0)) ∧ jU w uu [55] ∧ uu[55]? = some (ad 55, .inr (11, [.int (nI 4), .ref (ad 56), .ref (ad 57), .ref (ad 58), .ref (ad 59), .ref (ad 60), .ref (ad 61), .ref (ad 62), .ref (ad 63), .ref (ad 64), .ref (ad 65), .int (nI n), .int (nI nc), .ref (ad 66), .ref (ad 71), .ref (ad 72), .ref (ad 73)]))) := by
  refine j_of (by decide) rfl (Nat.le_of_ble_eq_true rfl) ?_
  intro p e s m args below meth c A ls Q hQ S hr hK hA H locs hW hl
  have hl : lv_has ls 4 [(0, .ref (ad 55)), (1, .int (nI j)), (2, .int (nI x))] := hl
  refine lv_aload_n S.1 S.2.1 dX12_free__0 rfl (lv_at hl 0 rfl) ?_
  refine lv_iconst (v := nI 0) S.1 S.2.1 dX12_free__1 (by decide) ?_
  refine j_put (ci := 11) (C := RX12) (T := TX12) (N := 17) (ty := .int) S (fun w h => List.mem_cons_of_mem _ (inG12 w h)) tyX12 tyX12_ok nmX12 hK hW gO rfl 0 (by decide) (List.mem_cons_of_mem _ wfl_X12_1) (fun _ h9 => h9) rfl (by decide +kernel) (rfl) (rfl) (Nat.le_of_ble_eq_true rfl) dX12_free__2 (fun H locs w_ hU1 hN1 hW => ?_)
  have hU : jU w w_ [55] := jU.mono hU1 (by decide)
  have gO_ : w_[55]? = some (ad 55, .inr (11, [.int (nI 0), .ref (ad 56), .ref (ad 57), .ref (ad 58), .ref (ad 59), .ref (ad 60), .ref (ad 61), .ref (ad 62), .ref (ad 63), .ref (ad 64), .ref (ad 65), .int (nI n), .int (nI nc), .ref (ad 66), .ref (ad 71), .ref (ad 72), .ref (ad 73)])) := hN1
  clear hU1 hN1
  refine lv_iload_n S.1 S.2.1 dX12_free__5 rfl (lv_at hl 1 rfl) ?_
  refine j_callS (As := [.int (nI j)]) (rest := []) S hK hA hW (c_X12_isSlot l D cy (nI j)    ) (jgo wm_X12_162) yk_X12_isSlot ⟨⟨rfl, rfl⟩, by decide, by decide⟩ rfl hl.1 rfl (Nat.le_of_ble_eq_true rfl) dX12_free__6 ⟨Nat.le_of_ble_eq_true rfl, Nat.le_of_ble_eq_true rfl⟩ (fun v u H locs hp hW => ?_)
  obtain ⟨rfl, rfl⟩ := hp
  refine W.eq (g2 := F0 m 9 ls [.int (bI (vB (nI j) 4))]) rfl ?_
  refine jb_if_ne (tgt := 18) S dX12_free__9 (by decide) (fun c_9 => ?_) (fun c_9 => ?_)
  · refine lv_aload_n S.1 S.2.1 dX12_free__18 rfl (lv_at hl 0 rfl) ?_
    refine lv_iload_n S.1 S.2.1 dX12_free__19 rfl (lv_at hl 2 rfl) ?_
    refine j_callV (k := 55) (ci := 11) (q := (RX12, TX12, 17)) (As := [.int (nI x)]) (rest := []) S hK hA hW (c_X12_isVariable l D cy ad 0 n nc (nI x) gO_   (by omega)) (jgo wm_X12_75) yk_X12_isVariable gO_ rfl rfl ⟨⟨rfl, rfl⟩, by decide, by decide⟩ rfl hl.1 rfl (Nat.le_of_ble_eq_true rfl) dX12_free__20 ⟨Nat.le_of_ble_eq_true rfl, Nat.le_of_ble_eq_true rfl⟩ (fun v u H locs hp hW => ?_)
    obtain ⟨rfl, rfl⟩ := hp
    refine W.eq (g2 := F0 m 23 ls [.int (bI (vB (nI x) n))]) rfl ?_
    refine jb_if_ne (tgt := 32) S dX12_free__23 (by decide) (fun c_23 => ?_) (fun c_23 => ?_)
    · refine lv_aload_n S.1 S.2.1 dX12_free__32 rfl (lv_at hl 0 rfl) ?_
      refine j_get (ci := 11) (C := RX12) (T := TX12) (N := 17) (v := .ref (ad 71)) S (fun w h => List.mem_cons_of_mem _ (inG12 w h)) hK hW gO_ rfl 14 (by decide) (List.mem_cons_of_mem _ wfl_X12_55) (fun _ h9 => h9) rfl dX12_free__33 ?_
      refine lv_iload_n S.1 S.2.1 dX12_free__36 rfl (lv_at hl 1 rfl) ?_
      refine j_iald (x := kv j) S hK hW (hU.get gV (by decide)) (vp_in_nI (by omega) (by omega)) (nI_clamp (by omega)) (rfl) dX12_free__37 ?_
      refine lv_if_ge (tgt := 47) S.1 S.2.1 dX12_free__38 (by decide) (fun c_38 => ?_) (fun c_38 => ?_)
      · refine lv_aload_n S.1 S.2.1 dX12_free__47 rfl (lv_at hl 0 rfl) ?_
        refine j_get (ci := 11) (C := RX12) (T := TX12) (N := 17) (v := .ref (ad 71)) S (fun w h => List.mem_cons_of_mem _ (inG12 w h)) hK hW gO_ rfl 14 (by decide) (List.mem_cons_of_mem _ wfl_X12_55) (fun _ h9 => h9) rfl dX12_free__48 ?_
        refine lv_iload_n S.1 S.2.1 dX12_free__51 rfl (lv_at hl 1 rfl) ?_
        refine j_iald (x := kv j) S hK hW (hU.get gV (by decide)) (vp_in_nI (by omega) (by omega)) (nI_clamp (by omega)) (rfl) dX12_free__52 ?_
        refine lv_aload_n S.1 S.2.1 dX12_free__53 rfl (lv_at hl 0 rfl) ?_
        refine j_get (ci := 11) (C := RX12) (T := TX12) (N := 17) (v := .int (nI n)) S (fun w h => List.mem_cons_of_mem _ (inG12 w h)) hK hW gO_ rfl 11 (by decide) (List.mem_cons_of_mem _ wfl_X12_64) (fun _ h9 => h9) rfl dX12_free__54 ?_
        refine lv_icmp_eq (tgt := 66) S.1 S.2.1 dX12_free__57 (by decide) (fun c_57 => ?_) (fun c_57 => ?_)
        · exact absurd c_57 hne
        · refine lv_aload_n S.1 S.2.1 dX12_free__60 rfl (lv_at hl 0 rfl) ?_
          refine lv_iconst (v := nI 4) S.1 S.2.1 dX12_free__61 (by decide) ?_
          refine j_callV (k := 55) (ci := 11) (q := (RX12, TX12, 17)) (As := [.int (nI 4)]) (rest := []) S hK hA hW (c_X12_fails l D cy ad 0 n nc 4 gO_   ) (jgo wm_X12_71) yk_X12_fails gO_ rfl rfl ⟨⟨rfl, rfl⟩, by decide, by decide⟩ rfl hl.1 rfl (Nat.le_of_ble_eq_true rfl) dX12_free__62 ⟨Nat.le_of_ble_eq_true rfl, Nat.le_of_ble_eq_true rfl⟩ (fun v w_ H locs hp hW => ?_)
          obtain ⟨rfl, hU1, hN1⟩ := hp
          have hU := hU.then hU1 (by decide)
          have gO_ : w_[55]? = some (ad 55, .inr (11, [.int (nI 4), .ref (ad 56), .ref (ad 57), .ref (ad 58), .ref (ad 59), .ref (ad 60), .ref (ad 61), .ref (ad 62), .ref (ad 63), .ref (ad 64), .ref (ad 65), .int (nI n), .int (nI nc), .ref (ad 66), .ref (ad 71), .ref (ad 72), .ref (ad 73)])) := hN1
          clear hU1 hN1
          refine W.eq (g2 := F0 m 65 ls [.int (nI 0)]) rfl ?_
          subst hQ
          exact j_iret (u := w_) S hr (rfl) hK hW dX12_free__65 ⟨by decide, by decide⟩ (⟨rfl, hU, gO_⟩)
      · first | exact absurd c_38 hkv | exact absurd (Int32.not_le.mp c_38) hkv | exact hkv (i32_lt.mpr c_38)
    · exact absurd (vB_nI hx (by omega)) (by rw [c_23]; decide)
  · exact absurd (vB_nI hj (by decide)) (by rw [c_9]; decide)
