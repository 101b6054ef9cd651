/-! THE REFERENCE: rows written (laid by wip/whole/tools, from the specs there) -/
/-- becomes -/
theorem c_X12_becomes (l : Launch) (D : va_G) (cy : Nat → ClassId) {w : va_W} (ad : Nat → Nat) (th n nc : Nat) (od : Nat → Nat) (rb tu : Nat → Bool) (gx : Nat → Nat → Bool) (j : Nat) (gO : w[55]? = some (ad 55, .inr (11, [.int (nI th), .ref (ad 56), .ref (ad 57), .ref (ad 58), .ref (ad 59), .ref (ad 60), .ref (ad 61), .ref (ad 62), .ref (ad 63), .ref (ad 64), .ref (ad 65), .int (nI n), .int (nI nc), .ref (ad 66), .ref (ad 71), .ref (ad 72), .ref (ad 73)]))) (gD : w[59]? = some (ad 59, .inl (cy 0, 10, .inl (nf od)))) (gR : w[72]? = some (ad 72, .inl (cy 3, 1024, .inl (bf rb)))) (gU : w[73]? = some (ad 73, .inl (cy 3, 1024, .inl (bf tu)))) (gK : w[66]? = some (ad 66, .inl (cy 6, 4, .inr (.inr (.inr (.inr (kpF ad))))))) (gX : w[67 + j]? = some (ad (67 + j), .inl (cy 3, 1024, .inl (bf (gx j))))) (hn : n ≤ 10) (hod : ∀ j, od j < 10) (hj : j < 4) : jM l yX12_becomes (jws yX12_becomes cX12_becomes 3 (some .int)) (jR 4 0 0) D cy w [.ref (ad 55), .int (nI j)] 0 0 (fun vv uu => vv = some (.int (nI (sumN (nodesB (fun d => rb (layP n od d n)) n) n))) ∧ jU w uu [67 + j, 73] ∧ uu[67 + j]? = some (ad (67 + j), .inl (cy 3, 1024, .inl (bf (rowM rb (gx j))))) ∧ uu[73]? = some (ad 73, .inl (cy 3, 1024, .inl (bf (mixF (fun d => rb (layP n od d n)) tu (2 ^ n)))))) := by
  refine j_of (by decide) rfl (Nat.le_of_ble_eq_true rfl) ?_
  intro p e s m args below meth c A ls Q hQ S hr hK hA H locs hW hl
  have hl : lv_has ls 3 [(0, .ref (ad 55)), (1, .int (nI j))] := hl
  refine lv_iconst (v := nI 0) S.1 S.2.1 dX12_becomes_0 (by decide) ?_
  refine lv_istore_n (lv' := [(2, .int (nI 0)), (0, .ref (ad 55)), (1, .int (nI j))]) S.1 S.2.1 dX12_becomes_1 rfl hl (by decide) rfl (fun ls hl => ?_)
  have gX_ : w[67 + j]? = some (ad (67 + j), .inl (cy 3, 1024, .inl (bf (mixF rb (gx j) 0)))) := by
    rw [mixF_0]; exact gX
  have L2 : ∀ (k : Nat) (i : Nat), 1024 - i = k → (i ≤ 1024) → ∀ (w_ : va_W), jU w w_ [67 + j, 73] → (w_[67 + j]? = some (ad (67 + j), .inl (cy 3, 1024, .inl (bf (mixF rb (gx j) i))))) → (w_[73]? = some (ad 73, .inl (cy 3, 1024, .inl (bf tu)))) → ∀ (H : Heap) (locs : List Loc) (ls : Array Slot), jW D A s.heap w_ H locs → lv_has ls 3 [(0, .ref (ad 55)), (1, .int (nI j)), (2, .int (nI i))] → W p l e (jR 4 0 0) s m args below meth c H locs 0 0 Q (F0 m 2 ls []) := by
    intro k
    induction k using Nat.strongRecOn with
    | ind k ih2 =>
    intro i hk hi w_ hU gX_ gU_ H locs ls hW hl
    subst hk
    refine lv_iload_n S.1 S.2.1 dX12_becomes_2 rfl (lv_at hl 2 rfl) ?_
    refine lv_sipush (v := nI 1024) S.1 S.2.1 dX12_becomes_3 (by decide) ?_
    refine jn_cmp_ge (tgt := 29) S (by omega) (by omega) dX12_becomes_6 (by decide) (fun c_6 => ?_) (fun c_6 => ?_)
    · refine lv_aload_n S.1 S.2.1 dX12_becomes_29 rfl (lv_at hl 0 rfl) ?_
      refine j_callV (k := 55) (ci := 11) (q := (RX12, TX12, 17)) (As := []) (rest := []) S hK hA hW (c_X12_nodesOfRow l D cy ad th n nc od rb tu (hU.get gO (by first | decide | (simp; done) | (simp; omega))) (hU.get gD (by first | decide | (simp; done) | (simp; omega))) (hU.get gR (by first | decide | (simp; done) | (simp; omega))) gU_   (by omega) (hod)) (jgo wm_X12_153) yk_X12_nodesOfRow (hU.get gO (by first | decide | (simp; done) | (simp; omega))) rfl rfl ⟨⟨rfl, rfl⟩, by decide, by decide⟩ rfl hl.1 rfl (Nat.le_of_ble_eq_true rfl) dX12_becomes_30 ⟨Nat.le_of_ble_eq_true rfl, Nat.le_of_ble_eq_true rfl⟩ (fun v w_ H locs hp hW => ?_)
      obtain ⟨rfl, hU1, hN1⟩ := hp
      have hU := hU.then hU1 (by first | decide | (simp; done) | (simp; omega))
      have gX_ := hU1.get gX_ (by first | decide | (simp; done) | (simp; omega))
      have gU_ : w_[73]? = some (ad 73, .inl (cy 3, 1024, .inl (bf (mixF (fun d => rb (layP n od d n)) tu (2 ^ n))))) := hN1
      clear hU1 hN1
      refine W.eq (g2 := F0 m 33 ls [.int (nI (sumN (nodesB (fun d => rb (layP n od d n)) n) n))]) rfl ?_
      subst hQ
      refine j_iret (u := w_) S hr (rfl) hK hW dX12_becomes_33 ⟨by decide, by decide⟩ ?_
      have ei : i = 1024 := by omega
      subst ei
      exact ⟨rfl, hU, gX_, gU_⟩
    · refine lv_aload_n S.1 S.2.1 dX12_becomes_9 rfl (lv_at hl 0 rfl) ?_
      refine j_get (ci := 11) (C := RX12) (T := TX12) (N := 17) (v := .ref (ad 66)) S (fun w h => List.mem_cons_of_mem _ (inG12 w h)) hK hW (hU.get gO (by first | decide | (simp; done) | (simp; omega))) rfl 13 (by decide) (List.mem_cons_of_mem _ wfl_X12_52) (fun _ h9 => h9) rfl dX12_becomes_10 ?_
      refine lv_iload_n S.1 S.2.1 dX12_becomes_13 rfl (lv_at hl 1 rfl) ?_
      refine j_aaldB (x := .ref (ad (67 + j))) S hK hW (hU.get gK (by first | decide | (simp; done) | (simp; omega))) (vp_in_nI (by omega) (by omega)) (nI_clamp (by omega)) (kp_at hj) dX12_becomes_14 ?_
      refine lv_iload_n S.1 S.2.1 dX12_becomes_15 rfl (lv_at hl 2 rfl) ?_
      refine lv_aload_n S.1 S.2.1 dX12_becomes_16 rfl (lv_at hl 0 rfl) ?_
      refine j_get (ci := 11) (C := RX12) (T := TX12) (N := 17) (v := .ref (ad 72)) S (fun w h => List.mem_cons_of_mem _ (inG12 w h)) hK hW (hU.get gO (by first | decide | (simp; done) | (simp; omega))) rfl 15 (by decide) (List.mem_cons_of_mem _ wfl_X12_58) (fun _ h9 => h9) rfl dX12_becomes_17 ?_
      refine lv_iload_n S.1 S.2.1 dX12_becomes_20 rfl (lv_at hl 2 rfl) ?_
      refine j_zald (x := bI (rb i)) S hK hW (hU.get gR (by first | decide | (simp; done) | (simp; omega))) (vp_in_nI (by omega) (by omega)) (nI_clamp (by omega)) (rfl) dX12_becomes_21 ?_
      refine j_zast S hK hW gX_ (vp_in_nI (by omega) (by omega)) (nI_clamp (by omega)) (bI_vnar _) dX12_becomes_22 (fun H locs w_ hU1 hN1 hW => ?_)
      have hU := hU.then hU1 (by first | decide | (simp; done) | (simp; omega))
      have gU_ := hU1.get gU_ (by first | decide | (simp; done) | (simp; omega))
      have gX_ : w_[67 + j]? = some (ad (67 + j), .inl (cy 3, 1024, .inl (upd (bf (mixF rb (gx j) i)) i (bI (rb i))))) := hN1
      clear hU1 hN1
      have gX_ : w_[67 + j]? = some (ad (67 + j), .inl (cy 3, 1024, .inl (bf (mixF rb (gx j) (i + 1))))) := by
        rw [← mixF_upd (g := rb) (b := rb i) rfl]; exact gX_
      refine lv_iinc (v := nI (i + 1)) (lv' := [(2, .int (nI (i + 1))), (0, .ref (ad 55)), (1, .int (nI j))]) S.1 S.2.1 dX12_becomes_23 hl (k := 2) rfl (nI_add _ 1) (by decide) rfl (fun ls hl => ?_)
      refine lv_goto (tgt := 2) S.1 S.2.1 dX12_becomes_26 (by decide) ?_
      exact ih2 _ (by omega) (i + 1) rfl (by omega) w_ hU gX_ gU_ H locs ls hW (lv_sub hl [1, 2, 0] rfl)
  exact L2 _ 0 rfl (Nat.zero_le _) w jU.rf gX_ gU H locs ls hW (lv_sub hl [1, 2, 0] rfl)
/-- keep -/
theorem c_X12_keep_ok (l : Launch) (D : va_G) (cy : Nat → ClassId) {w : va_W} (ad : Nat → Nat) (th n nc : Nat) (sd se lv : Nat) (cs : Nat → CN) (od : Nat → Nat) (rb tu : Nat → Bool) (kv : Nat → Int32) (gx : Nat → Nat → Bool) (j : Nat) (gO : w[55]? = some (ad 55, .inr (11, [.int (nI th), .ref (ad 56), .ref (ad 57), .ref (ad 58), .ref (ad 59), .ref (ad 60), .ref (ad 61), .ref (ad 62), .ref (ad 63), .ref (ad 64), .ref (ad 65), .int (nI n), .int (nI nc), .ref (ad 66), .ref (ad 71), .ref (ad 72), .ref (ad 73)]))) (gE : w[58]? = some (ad 58, .inl (cy 0, 10, .inl (evA n sd se)))) (gP : w[65]? = some (ad 65, .inl (cy 3, 20, .inl (bf (dpB nc lv))))) (gC0 : w[60]? = some (ad 60, .inl (cy 2, 20, .inl (nf (ckd cs))))) (gC1 : w[61]? = some (ad 61, .inl (cy 0, 20, .inl (nf (cst cs))))) (gC2 : w[62]? = some (ad 62, .inl (cy 0, 20, .inl (nf (cot cs))))) (gC3 : w[63]? = some (ad 63, .inl (cy 0, 20, .inl (nf (cle cs))))) (gC4 : w[64]? = some (ad 64, .inl (cy 0, 20, .inl (nf (cgr cs))))) (gD : w[59]? = some (ad 59, .inl (cy 0, 10, .inl (nf od)))) (gR : w[72]? = some (ad 72, .inl (cy 3, 1024, .inl (bf rb)))) (gU : w[73]? = some (ad 73, .inl (cy 3, 1024, .inl (bf tu)))) (gK : w[66]? = some (ad 66, .inl (cy 6, 4, .inr (.inr (.inr (.inr (kpF ad))))))) (gV : w[71]? = some (ad 71, .inl (cy 0, 4, .inl kv))) (gX : w[67 + j]? = some (ad (67 + j), .inl (cy 3, 1024, .inl (bf (gx j))))) (hn : n ≤ 10) (hsd : sd < 2 ^ n) (hse : se &&& sd = se) (hnc : nc ≤ 20) (hcs : csI nc cs) (hod : ∀ j, od j < 10) (hj : j < 4) : jM l yX12_keep (jws yX12_keep cX12_keep 3 (some .int)) (jR 5 0 0) D cy w [.ref (ad 55), .int (nI j)] 0 0 (fun vv uu => ∃ (rb1 : Nat → Bool), ∃ (tu1 : Nat → Bool), vv = some (.int (nI (sumN (nodesB (fun d => (mdl n sd se nc cs lv) (layP n od d n)) n) n))) ∧ jU w uu [55, 67 + j, 71, 72, 73] ∧ uu[55]? = some (ad 55, .inr (11, [.int (nI 0), .ref (ad 56), .ref (ad 57), .ref (ad 58), .ref (ad 59), .ref (ad 60), .ref (ad 61), .ref (ad 62), .ref (ad 63), .ref (ad 64), .ref (ad 65), .int (nI n), .int (nI nc), .ref (ad 66), .ref (ad 71), .ref (ad 72), .ref (ad 73)])) ∧ uu[67 + j]? = some (ad (67 + j), .inl (cy 3, 1024, .inl (bf (rowM (rowM (mdl n sd se nc cs lv) rb) (gx j))))) ∧ uu[71]? = some (ad 71, .inl (cy 0, 4, .inl (upd kv j (nI n)))) ∧ uu[72]? = some (ad 72, .inl (cy 3, 1024, .inl (bf rb1))) ∧ uu[73]? = some (ad 73, .inl (cy 3, 1024, .inl (bf tu1)))) := by
  refine j_of (by decide) rfl (Nat.le_of_ble_eq_true rfl) ?_
  intro p e s m args below meth c A ls Q hQ S hr hK hA H locs hW hl
  have hl : lv_has ls 3 [(0, .ref (ad 55)), (1, .int (nI j))] := hl
  refine lv_aload_n S.1 S.2.1 dX12_keep_0 rfl (lv_at hl 0 rfl) ?_
  refine lv_iconst (v := nI 0) S.1 S.2.1 dX12_keep_1 (by decide) ?_
  refine j_put (ci := 11) (C := RX12) (T := TX12) (N := 17) (ty := .int) S (fun w h => List.mem_cons_of_mem _ (inG12 w h)) tyX12 tyX12_ok nmX12 hK hW gO rfl 0 (by decide) (List.mem_cons_of_mem _ wfl_X12_1) (fun _ h9 => h9) rfl (by decide +kernel) (rfl) (rfl) (Nat.le_of_ble_eq_true rfl) dX12_keep_2 (fun H locs w_ hU1 hN1 hW => ?_)
  have hU : jU w w_ [55, 67 + j, 71, 72, 73] := jU.mono hU1 (by first | decide | (simp; done) | (simp; omega))
  have gR_ := hU1.get gR (by first | decide | (simp; done) | (simp; omega))
  have gU_ := hU1.get gU (by first | decide | (simp; done) | (simp; omega))
  have gV_ := hU1.get gV (by first | decide | (simp; done) | (simp; omega))
  have gX_ := hU1.get gX (by first | decide | (simp; done) | (simp; omega))
  have gO_ : w_[55]? = some (ad 55, .inr (11, [.int (nI 0), .ref (ad 56), .ref (ad 57), .ref (ad 58), .ref (ad 59), .ref (ad 60), .ref (ad 61), .ref (ad 62), .ref (ad 63), .ref (ad 64), .ref (ad 65), .int (nI n), .int (nI nc), .ref (ad 66), .ref (ad 71), .ref (ad 72), .ref (ad 73)])) := hN1
  clear hU1 hN1
  refine lv_iload_n S.1 S.2.1 dX12_keep_5 rfl (lv_at hl 1 rfl) ?_
  refine j_callS (As := [.int (nI j)]) (rest := []) S hK hA hW (c_X12_isSlot l D cy (nI j)    ) (jgo wm_X12_162) yk_X12_isSlot ⟨⟨rfl, rfl⟩, by decide, by decide⟩ rfl hl.1 rfl (Nat.le_of_ble_eq_true rfl) dX12_keep_6 ⟨Nat.le_of_ble_eq_true rfl, Nat.le_of_ble_eq_true rfl⟩ (fun v u H locs hp hW => ?_)
  obtain ⟨rfl, rfl⟩ := hp
  refine W.eq (g2 := F0 m 9 ls [.int (bI (vB (nI j) 4))]) rfl ?_
  refine jb_if_ne (tgt := 18) S dX12_keep_9 (by decide) (fun c_9 => ?_) (fun c_9 => ?_)
  · refine lv_aload_n S.1 S.2.1 dX12_keep_18 rfl (lv_at hl 0 rfl) ?_
    refine j_callV (k := 55) (ci := 11) (q := (RX12, TX12, 17)) (As := []) (rest := []) S hK hA hW (c_X12_readsModels l D cy ad 0 n nc sd se lv cs rb gO_ (hU.get gE (by first | decide | (simp; done) | (simp; omega))) (hU.get gP (by first | decide | (simp; done) | (simp; omega))) (hU.get gC0 (by first | decide | (simp; done) | (simp; omega))) (hU.get gC1 (by first | decide | (simp; done) | (simp; omega))) (hU.get gC2 (by first | decide | (simp; done) | (simp; omega))) (hU.get gC3 (by first | decide | (simp; done) | (simp; omega))) (hU.get gC4 (by first | decide | (simp; done) | (simp; omega))) gR_   (by omega) (hsd) (hse) (by omega) (hcs)) (jgo wm_X12_150) yk_X12_readsModels gO_ rfl rfl ⟨⟨rfl, rfl⟩, by decide, by decide⟩ rfl hl.1 rfl (Nat.le_of_ble_eq_true rfl) dX12_keep_19 ⟨Nat.le_of_ble_eq_true rfl, Nat.le_of_ble_eq_true rfl⟩ (fun v w_ H locs hp hW => ?_)
    obtain ⟨rfl, hU1, hN1⟩ := hp
    have hU := hU.then hU1 (by first | decide | (simp; done) | (simp; omega))
    have gU_ := hU1.get gU_ (by first | decide | (simp; done) | (simp; omega))
    have gV_ := hU1.get gV_ (by first | decide | (simp; done) | (simp; omega))
    have gX_ := hU1.get gX_ (by first | decide | (simp; done) | (simp; omega))
    have gO_ := hU1.get gO_ (by first | decide | (simp; done) | (simp; omega))
    have gR_ : w_[72]? = some (ad 72, .inl (cy 3, 1024, .inl (bf (rowM (mdl n sd se nc cs lv) rb)))) := hN1
    clear hU1 hN1
    refine W.eq (g2 := F0 m 22 ls []) rfl ?_
    refine lv_iconst (v := nI 0) S.1 S.2.1 dX12_keep_22 (by decide) ?_
    refine lv_istore_n (lv' := [(2, .int (nI 0)), (0, .ref (ad 55)), (1, .int (nI j))]) S.1 S.2.1 dX12_keep_23 rfl hl (by decide) rfl (fun ls hl => ?_)
    have gX_ : w_[67 + j]? = some (ad (67 + j), .inl (cy 3, 1024, .inl (bf (mixF (rowM (mdl n sd se nc cs lv) rb) (gx j) 0)))) := by
      rw [mixF_0]; exact gX_
    have L24 : ∀ (k : Nat) (i : Nat), 1024 - i = k → (i ≤ 1024) → ∀ (w_ : va_W), jU w w_ [55, 67 + j, 71, 72, 73] → (w_[55]? = some (ad 55, .inr (11, [.int (nI 0), .ref (ad 56), .ref (ad 57), .ref (ad 58), .ref (ad 59), .ref (ad 60), .ref (ad 61), .ref (ad 62), .ref (ad 63), .ref (ad 64), .ref (ad 65), .int (nI n), .int (nI nc), .ref (ad 66), .ref (ad 71), .ref (ad 72), .ref (ad 73)]))) → (w_[72]? = some (ad 72, .inl (cy 3, 1024, .inl (bf (rowM (mdl n sd se nc cs lv) rb))))) → (w_[67 + j]? = some (ad (67 + j), .inl (cy 3, 1024, .inl (bf (mixF (rowM (mdl n sd se nc cs lv) rb) (gx j) i))))) → (w_[73]? = some (ad 73, .inl (cy 3, 1024, .inl (bf tu)))) → (w_[71]? = some (ad 71, .inl (cy 0, 4, .inl kv))) → ∀ (H : Heap) (locs : List Loc) (ls : Array Slot), jW D A s.heap w_ H locs → lv_has ls 3 [(0, .ref (ad 55)), (1, .int (nI j)), (2, .int (nI i))] → W p l e (jR 5 0 0) s m args below meth c H locs 0 0 Q (F0 m 24 ls []) := by
      intro k
      induction k using Nat.strongRecOn with
      | ind k ih24 =>
      intro i hk hi w_ hU gO_ gR_ gX_ gU_ gV_ H locs ls hW hl
      subst hk
      refine lv_iload_n S.1 S.2.1 dX12_keep_24 rfl (lv_at hl 2 rfl) ?_
      refine lv_sipush (v := nI 1024) S.1 S.2.1 dX12_keep_25 (by decide) ?_
      refine jn_cmp_ge (tgt := 51) S (by omega) (by omega) dX12_keep_28 (by decide) (fun c_28 => ?_) (fun c_28 => ?_)
      · have ei : i = 1024 := by omega
        subst ei
        refine lv_aload_n S.1 S.2.1 dX12_keep_51 rfl (lv_at hl 0 rfl) ?_
        refine j_get (ci := 11) (C := RX12) (T := TX12) (N := 17) (v := .ref (ad 71)) S (fun w h => List.mem_cons_of_mem _ (inG12 w h)) hK hW gO_ rfl 14 (by decide) (List.mem_cons_of_mem _ wfl_X12_55) (fun _ h9 => h9) rfl dX12_keep_52 ?_
        refine lv_iload_n S.1 S.2.1 dX12_keep_55 rfl (lv_at hl 1 rfl) ?_
        refine lv_aload_n S.1 S.2.1 dX12_keep_56 rfl (lv_at hl 0 rfl) ?_
        refine j_get (ci := 11) (C := RX12) (T := TX12) (N := 17) (v := .int (nI n)) S (fun w h => List.mem_cons_of_mem _ (inG12 w h)) hK hW gO_ rfl 11 (by decide) (List.mem_cons_of_mem _ wfl_X12_64) (fun _ h9 => h9) rfl dX12_keep_57 ?_
        refine j_iast S hK hW gV_ (vp_in_nI (by omega) (by omega)) (nI_clamp (by omega)) dX12_keep_60 (fun H locs w_ hU1 hN1 hW => ?_)
        have hU := hU.then hU1 (by first | decide | (simp; done) | (simp; omega))
        have gO_ := hU1.get gO_ (by first | decide | (simp; done) | (simp; omega))
        have gR_ := hU1.get gR_ (by first | decide | (simp; done) | (simp; omega))
        have gX_ := hU1.get gX_ (by first | decide | (simp; done) | (simp; omega))
        have gU_ := hU1.get gU_ (by first | decide | (simp; done) | (simp; omega))
        have gV_ : w_[71]? = some (ad 71, .inl (cy 0, 4, .inl (upd kv j (nI n)))) := hN1
        clear hU1 hN1
        refine lv_aload_n S.1 S.2.1 dX12_keep_61 rfl (lv_at hl 0 rfl) ?_
        refine j_callV (k := 55) (ci := 11) (q := (RX12, TX12, 17)) (As := []) (rest := []) S hK hA hW (c_X12_nodesOfRow l D cy ad 0 n nc od (rowM (mdl n sd se nc cs lv) rb) tu gO_ (hU.get gD (by first | decide | (simp; done) | (simp; omega))) gR_ gU_   (by omega) (hod)) (jgo wm_X12_153) yk_X12_nodesOfRow gO_ rfl rfl ⟨⟨rfl, rfl⟩, by decide, by decide⟩ rfl hl.1 rfl (Nat.le_of_ble_eq_true rfl) dX12_keep_62 ⟨Nat.le_of_ble_eq_true rfl, Nat.le_of_ble_eq_true rfl⟩ (fun v w_ H locs hp hW => ?_)
        obtain ⟨rfl, hU1, hN1⟩ := hp
        have hU := hU.then hU1 (by first | decide | (simp; done) | (simp; omega))
        have gO_ := hU1.get gO_ (by first | decide | (simp; done) | (simp; omega))
        have gR_ := hU1.get gR_ (by first | decide | (simp; done) | (simp; omega))
        have gX_ := hU1.get gX_ (by first | decide | (simp; done) | (simp; omega))
        have gV_ := hU1.get gV_ (by first | decide | (simp; done) | (simp; omega))
        have gU_ : w_[73]? = some (ad 73, .inl (cy 3, 1024, .inl (bf (mixF (fun d => (rowM (mdl n sd se nc cs lv) rb) (layP n od d n)) tu (2 ^ n))))) := hN1
        clear hU1 hN1
        refine W.eq (g2 := F0 m 65 ls [.int (nI (sumN (nodesB (fun d => (rowM (mdl n sd se nc cs lv) rb) (layP n od d n)) n) n))]) rfl ?_
        refine lv_topi_to (y := nI (sumN (nodesB (fun d => (mdl n sd se nc cs lv) (layP n od d n)) n) n)) (congrArg nI (sumN_congr (fun j hj => nodesB_congr hj (fun i _ => row_at (layP_lt hod))))) ?_
        subst hQ
        exact j_iret (u := w_) S hr (rfl) hK hW dX12_keep_65 ⟨by decide, by decide⟩ (⟨_, _, rfl, hU, gO_, gX_, gV_, gR_, gU_⟩)
      · refine lv_aload_n S.1 S.2.1 dX12_keep_31 rfl (lv_at hl 0 rfl) ?_
        refine j_get (ci := 11) (C := RX12) (T := TX12) (N := 17) (v := .ref (ad 66)) S (fun w h => List.mem_cons_of_mem _ (inG12 w h)) hK hW gO_ rfl 13 (by decide) (List.mem_cons_of_mem _ wfl_X12_52) (fun _ h9 => h9) rfl dX12_keep_32 ?_
        refine lv_iload_n S.1 S.2.1 dX12_keep_35 rfl (lv_at hl 1 rfl) ?_
        refine j_aaldB (x := .ref (ad (67 + j))) S hK hW (hU.get gK (by first | decide | (simp; done) | (simp; omega))) (vp_in_nI (by omega) (by omega)) (nI_clamp (by omega)) (kp_at hj) dX12_keep_36 ?_
        refine lv_iload_n S.1 S.2.1 dX12_keep_37 rfl (lv_at hl 2 rfl) ?_
        refine lv_aload_n S.1 S.2.1 dX12_keep_38 rfl (lv_at hl 0 rfl) ?_
        refine j_get (ci := 11) (C := RX12) (T := TX12) (N := 17) (v := .ref (ad 72)) S (fun w h => List.mem_cons_of_mem _ (inG12 w h)) hK hW gO_ rfl 15 (by decide) (List.mem_cons_of_mem _ wfl_X12_58) (fun _ h9 => h9) rfl dX12_keep_39 ?_
        refine lv_iload_n S.1 S.2.1 dX12_keep_42 rfl (lv_at hl 2 rfl) ?_
        refine j_zald (x := bI ((rowM (mdl n sd se nc cs lv) rb) i)) S hK hW gR_ (vp_in_nI (by omega) (by omega)) (nI_clamp (by omega)) (rfl) dX12_keep_43 ?_
        refine j_zast S hK hW gX_ (vp_in_nI (by omega) (by omega)) (nI_clamp (by omega)) (bI_vnar _) dX12_keep_44 (fun H locs w_ hU1 hN1 hW => ?_)
        have hU := hU.then hU1 (by first | decide | (simp; done) | (simp; omega))
        have gO_ := hU1.get gO_ (by first | decide | (simp; done) | (simp; omega))
        have gR_ := hU1.get gR_ (by first | decide | (simp; done) | (simp; omega))
        have gU_ := hU1.get gU_ (by first | decide | (simp; done) | (simp; omega))
        have gV_ := hU1.get gV_ (by first | decide | (simp; done) | (simp; omega))
        have gX_ : w_[67 + j]? = some (ad (67 + j), .inl (cy 3, 1024, .inl (upd (bf (mixF (rowM (mdl n sd se nc cs lv) rb) (gx j) i)) i (bI ((rowM (mdl n sd se nc cs lv) rb) i))))) := hN1
        clear hU1 hN1
        have gX_ : w_[67 + j]? = some (ad (67 + j), .inl (cy 3, 1024, .inl (bf (mixF (rowM (mdl n sd se nc cs lv) rb) (gx j) (i + 1))))) := by
          rw [← mixF_upd (g := (rowM (mdl n sd se nc cs lv) rb)) (b := (rowM (mdl n sd se nc cs lv) rb) i) rfl]; exact gX_
        refine lv_iinc (v := nI (i + 1)) (lv' := [(2, .int (nI (i + 1))), (0, .ref (ad 55)), (1, .int (nI j))]) S.1 S.2.1 dX12_keep_45 hl (k := 2) rfl (nI_add _ 1) (by decide) rfl (fun ls hl => ?_)
        refine lv_goto (tgt := 24) S.1 S.2.1 dX12_keep_48 (by decide) ?_
        exact ih24 _ (by omega) (i + 1) rfl (by omega) w_ hU gO_ gR_ gX_ gU_ gV_ H locs ls hW (lv_sub hl [1, 2, 0] rfl)
    exact L24 _ 0 rfl (Nat.zero_le _) w_ hU gO_ gR_ gX_ gU_ gV_ H locs ls hW (lv_sub hl [1, 2, 0] rfl)
  · exact absurd (vB_nI hj (by decide)) (by rw [c_9]; decide)
/-- keep, no such slot -/
theorem c_X12_keep_b (l : Launch) (D : va_G) (cy : Nat → ClassId) {w : va_W} (ad : Nat → Nat) (th n nc : Nat) (v : Int32) (gO : w[55]? = some (ad 55, .inr (11, [.int (nI th), .ref (ad 56), .ref (ad 57), .ref (ad 58), .ref (ad 59), .ref (ad 60), .ref (ad 61), .ref (ad 62), .ref (ad 63), .ref (ad 64), .ref (ad 65), .int (nI n), .int (nI nc), .ref (ad 66), .ref (ad 71), .ref (ad 72), .ref (ad 73)]))) (hv : vB v 4 = false) : jM l yX12_keep (jws yX12_keep cX12_keep 3 (some .int)) (jR 5 0 0) D cy w [.ref (ad 55), .int v] 0 0 (fun vv uu => vv = some (.int (nI 0)) ∧ jU w uu [55] ∧ uu[55]? = some (ad 55, .inr (11, [.int (nI 1), .ref (ad 56), .ref (ad 57), .ref (ad 58), .ref (ad 59), .ref (ad 60), .ref (ad 61), .ref (ad 62), .ref (ad 63), .ref (ad 64), .ref (ad 65), .int (nI n), .int (nI nc), .ref (ad 66), .ref (ad 71), .ref (ad 72), .ref (ad 73)]))) := by
  refine j_of (by decide) rfl (Nat.le_of_ble_eq_true rfl) ?_
  intro p e s m args below meth c A ls Q hQ S hr hK hA H locs hW hl
  have hl : lv_has ls 3 [(0, .ref (ad 55)), (1, .int v)] := hl
  refine lv_aload_n S.1 S.2.1 dX12_keep_0 rfl (lv_at hl 0 rfl) ?_
  refine lv_iconst (v := nI 0) S.1 S.2.1 dX12_keep_1 (by decide) ?_
  refine j_put (ci := 11) (C := RX12) (T := TX12) (N := 17) (ty := .int) S (fun w h => List.mem_cons_of_mem _ (inG12 w h)) tyX12 tyX12_ok nmX12 hK hW gO rfl 0 (by decide) (List.mem_cons_of_mem _ wfl_X12_1) (fun _ h9 => h9) rfl (by decide +kernel) (rfl) (rfl) (Nat.le_of_ble_eq_true rfl) dX12_keep_2 (fun H locs w_ hU1 hN1 hW => ?_)
  have hU : jU w w_ [55] := jU.mono hU1 (by decide)
  have gO_ : w_[55]? = some (ad 55, .inr (11, [.int (nI 0), .ref (ad 56), .ref (ad 57), .ref (ad 58), .ref (ad 59), .ref (ad 60), .ref (ad 61), .ref (ad 62), .ref (ad 63), .ref (ad 64), .ref (ad 65), .int (nI n), .int (nI nc), .ref (ad 66), .ref (ad 71), .ref (ad 72), .ref (ad 73)])) := hN1
  clear hU1 hN1
  refine lv_iload_n S.1 S.2.1 dX12_keep_5 rfl (lv_at hl 1 rfl) ?_
  refine j_callS (As := [.int v]) (rest := []) S hK hA hW (c_X12_isSlot l D cy v    ) (jgo wm_X12_162) yk_X12_isSlot ⟨⟨rfl, rfl⟩, by decide, by decide⟩ rfl hl.1 rfl (Nat.le_of_ble_eq_true rfl) dX12_keep_6 ⟨Nat.le_of_ble_eq_true rfl, Nat.le_of_ble_eq_true rfl⟩ (fun v u H locs hp hW => ?_)
  obtain ⟨rfl, rfl⟩ := hp
  refine W.eq (g2 := F0 m 9 ls [.int (bI (vB v 4))]) rfl ?_
  refine jb_if_ne (tgt := 18) S dX12_keep_9 (by decide) (fun c_9 => ?_) (fun c_9 => ?_)
  · exact absurd c_9 (by rw [hv]; decide)
  · refine lv_aload_n S.1 S.2.1 dX12_keep_12 rfl (lv_at hl 0 rfl) ?_
    refine lv_iconst (v := nI 1) S.1 S.2.1 dX12_keep_13 (by decide) ?_
    refine j_callV (k := 55) (ci := 11) (q := (RX12, TX12, 17)) (As := [.int (nI 1)]) (rest := []) S hK hA hW (c_X12_fails l D cy ad 0 n nc 1 gO_   ) (jgo wm_X12_71) yk_X12_fails gO_ rfl rfl ⟨⟨rfl, rfl⟩, by decide, by decide⟩ rfl hl.1 rfl (Nat.le_of_ble_eq_true rfl) dX12_keep_14 ⟨Nat.le_of_ble_eq_true rfl, Nat.le_of_ble_eq_true rfl⟩ (fun v w_ H locs hp hW => ?_)
    obtain ⟨rfl, hU1, hN1⟩ := hp
    have hU := hU.then hU1 (by decide)
    have gO_ : w_[55]? = some (ad 55, .inr (11, [.int (nI 1), .ref (ad 56), .ref (ad 57), .ref (ad 58), .ref (ad 59), .ref (ad 60), .ref (ad 61), .ref (ad 62), .ref (ad 63), .ref (ad 64), .ref (ad 65), .int (nI n), .int (nI nc), .ref (ad 66), .ref (ad 71), .ref (ad 72), .ref (ad 73)])) := hN1
    clear hU1 hN1
    refine W.eq (g2 := F0 m 17 ls [.int (nI 0)]) rfl ?_
    subst hQ
    exact j_iret (u := w_) S hr (rfl) hK hW dX12_keep_17 ⟨by decide, by decide⟩ (⟨rfl, hU, gO_⟩)
