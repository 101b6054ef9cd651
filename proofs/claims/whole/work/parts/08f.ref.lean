/-! THE REFERENCE: single models, parts (laid by wip/whole/tools, from the specs there) -/
/-! THE REFERENCE: single models, variables -/
theorem revN_lt10 {n p : Nat} (hn : n ≤ 10) : revN n p < 2 ^ n := bsum_lt _ _
def clrB (rb : Nat → Bool) (i : Nat) : Nat → Bool := fun j => if j < i then false else rb j
theorem clr_upd (rb : Nat → Bool) (i : Nat) : upd (bf (clrB rb i)) i (nI 0) = bf (clrB rb (i + 1)) := by
  funext j; unfold upd bf clrB
  by_cases e : j = i
  · subst e; rw [if_pos rfl, if_pos (by omega)]; rfl
  · rw [if_neg e]
    by_cases q : j < i
    · rw [if_pos q, if_pos (by omega)]
    · rw [if_neg q, if_neg (by omega)]
theorem clr_0 (rb : Nat → Bool) : clrB rb 0 = rb := by funext j; unfold clrB; rw [if_neg (by omega)]
/-- the row's 1024 places, and what lies behind them -/
def rowM (g rb : Nat → Bool) : Nat → Bool := fun j => if j < 1024 then g j else rb j
theorem row_clr (rb : Nat → Bool) : clrB rb 1024 = rowM (fun _ => false) rb := rfl
theorem row_at {g rb : Nat → Bool} {j : Nat} (h : j < 1024) : rowM g rb j = g j := if_pos h
theorem row_prj {M rb : Nat → Bool} {x a : Nat} (h : a &&& x < 1024) : upd (bf (rowM (prjS M x a) rb)) (a &&& x) (bI (prjS M x a (a &&& x) || M a)) = bf (rowM (prjS M x (a + 1)) rb) := by
  funext j; unfold upd bf rowM
  by_cases e : j = a &&& x
  · subst e; rw [if_pos rfl, if_pos h]
    apply congrArg bI
    show _ = (prjS M x a (a &&& x) || (M a && decide (a &&& x = a &&& x)))
    rw [decide_eq_true rfl, Bool.and_true]
  · rw [if_neg e]
    by_cases q : j < 1024
    · rw [if_pos q, if_pos q]
      apply congrArg bI
      show _ = (prjS M x a j || (M a && decide (a &&& x = j)))
      rw [decide_eq_false (fun z => e z.symm), Bool.and_false, Bool.or_false]
    · rw [if_neg q, if_neg q]
/-- first -/
theorem c_X12_first_ok (l : Launch) (D : va_G) (cy : Nat → ClassId) {w : va_W} (ad : Nat → Nat) (th n nc : Nat) (sd se lv : Nat) (cs : Nat → CN) (t : Nat) (gO : w[55]? = some (ad 55, .inr (11, [.int (nI th), .ref (ad 56), .ref (ad 57), .ref (ad 58), .ref (ad 59), .ref (ad 60), .ref (ad 61), .ref (ad 62), .ref (ad 63), .ref (ad 64), .ref (ad 65), .int (nI n), .int (nI nc), .ref (ad 66), .ref (ad 71), .ref (ad 72), .ref (ad 73)]))) (gE : w[58]? = some (ad 58, .inl (cy 0, 10, .inl (evA n sd se)))) (gP : w[65]? = some (ad 65, .inl (cy 3, 20, .inl (bf (dpB nc lv))))) (gC0 : w[60]? = some (ad 60, .inl (cy 2, 20, .inl (nf (ckd cs))))) (gC1 : w[61]? = some (ad 61, .inl (cy 0, 20, .inl (nf (cst cs))))) (gC2 : w[62]? = some (ad 62, .inl (cy 0, 20, .inl (nf (cot cs))))) (gC3 : w[63]? = some (ad 63, .inl (cy 0, 20, .inl (nf (cle cs))))) (gC4 : w[64]? = some (ad 64, .inl (cy 0, 20, .inl (nf (cgr cs))))) (hn : n ≤ 10) (hsd : sd < 2 ^ n) (hse : se &&& sd = se) (hnc : nc ≤ 20) (hcs : csI nc cs) (ht : t < 2 ^ n) (hm : mdc sd se nc cs lv (revN n t) = true) (hmn : ∀ j, j < t → mdc sd se nc cs lv (revN n j) = false) : jM l yX12_first (jws yX12_first cX12_first 2 (some .int)) (jR 4 0 0) D cy w [.ref (ad 55)] 0 0 (fun vv uu => vv = some (.int (nI (revN n t))) ∧ jU w uu [55] ∧ uu[55]? = some (ad 55, .inr (11, [.int (nI 0), .ref (ad 56), .ref (ad 57), .ref (ad 58), .ref (ad 59), .ref (ad 60), .ref (ad 61), .ref (ad 62), .ref (ad 63), .ref (ad 64), .ref (ad 65), .int (nI n), .int (nI nc), .ref (ad 66), .ref (ad 71), .ref (ad 72), .ref (ad 73)]))) := by
  have hp2 := two_pow10 hn
  refine j_of (by decide) rfl (Nat.le_of_ble_eq_true rfl) ?_
  intro p e s m args below meth c A ls Q hQ S hr hK hA H locs hW hl
  have hl : lv_has ls 2 [(0, .ref (ad 55))] := hl
  refine lv_aload_n S.1 S.2.1 dX12_first_0 rfl (lv_at hl 0 rfl) ?_
  refine lv_iconst (v := nI 0) S.1 S.2.1 dX12_first_1 (by decide) ?_
  refine j_put (ci := 11) (C := RX12) (T := TX12) (N := 17) (ty := .int) S (fun w h => List.mem_cons_of_mem _ (inG12 w h)) tyX12 tyX12_ok nmX12 hK hW gO rfl 0 (by decide) (List.mem_cons_of_mem _ wfl_X12_1) (fun _ h9 => h9) rfl (by decide +kernel) (rfl) (rfl) (Nat.le_of_ble_eq_true rfl) dX12_first_2 (fun H locs w_ hU1 hN1 hW => ?_)
  have hU : jU w w_ [55] := jU.mono hU1 (by decide)
  have gO_ : w_[55]? = some (ad 55, .inr (11, [.int (nI 0), .ref (ad 56), .ref (ad 57), .ref (ad 58), .ref (ad 59), .ref (ad 60), .ref (ad 61), .ref (ad 62), .ref (ad 63), .ref (ad 64), .ref (ad 65), .int (nI n), .int (nI nc), .ref (ad 66), .ref (ad 71), .ref (ad 72), .ref (ad 73)])) := hN1
  clear hU1 hN1
  refine lv_iconst (v := nI 0) S.1 S.2.1 dX12_first_5 (by decide) ?_
  refine lv_istore_n (lv' := [(1, .int (nI 0)), (0, .ref (ad 55))]) S.1 S.2.1 dX12_first_6 rfl hl (by decide) rfl (fun ls hl => ?_)
  have L7 : ∀ (k : Nat) (q0 : Nat), 2 ^ n - q0 = k → (q0 ≤ t) → ∀ (w_ : va_W), jU w w_ [55] → (w_[55]? = some (ad 55, .inr (11, [.int (nI 0), .ref (ad 56), .ref (ad 57), .ref (ad 58), .ref (ad 59), .ref (ad 60), .ref (ad 61), .ref (ad 62), .ref (ad 63), .ref (ad 64), .ref (ad 65), .int (nI n), .int (nI nc), .ref (ad 66), .ref (ad 71), .ref (ad 72), .ref (ad 73)]))) → ∀ (H : Heap) (locs : List Loc) (ls : Array Slot), jW D A s.heap w_ H locs → lv_has ls 2 [(0, .ref (ad 55)), (1, .int (nI q0))] → W p l e (jR 4 0 0) s m args below meth c H locs 0 0 Q (F0 m 7 ls []) := by
    intro k
    induction k using Nat.strongRecOn with
    | ind k ih7 =>
    intro q0 hk hi w_ hU gO_ H locs ls hW hl
    subst hk
    refine lv_iload_n S.1 S.2.1 dX12_first_7 rfl (lv_at hl 1 rfl) ?_
    refine lv_aload_n S.1 S.2.1 dX12_first_8 rfl (lv_at hl 0 rfl) ?_
    refine j_callV (k := 55) (ci := 11) (q := (RX12, TX12, 17)) (As := []) (rest := [.int (nI q0)]) S hK hA hW (c_X12_all l D cy ad 0 n nc gO_   (by omega)) (jgo wm_X12_98) yk_X12_all gO_ rfl rfl ⟨⟨rfl, rfl⟩, by decide, by decide⟩ rfl hl.1 rfl (Nat.le_of_ble_eq_true rfl) dX12_first_9 ⟨Nat.le_of_ble_eq_true rfl, Nat.le_of_ble_eq_true rfl⟩ (fun v u H locs hp hW => ?_)
    obtain ⟨rfl, rfl⟩ := hp
    refine W.eq (g2 := F0 m 12 ls [.int (nI (2 ^ n)), .int (nI q0)]) rfl ?_
    refine jn_cmp_ge (tgt := 45) S (by omega) (by omega) dX12_first_12 (by decide) (fun c_12 => ?_) (fun c_12 => ?_)
    · exact absurd c_12 (by omega)
    · refine lv_aload_n S.1 S.2.1 dX12_first_15 rfl (lv_at hl 0 rfl) ?_
      refine lv_iload_n S.1 S.2.1 dX12_first_16 rfl (lv_at hl 1 rfl) ?_
      refine lv_aload_n S.1 S.2.1 dX12_first_17 rfl (lv_at hl 0 rfl) ?_
      refine j_get (ci := 11) (C := RX12) (T := TX12) (N := 17) (v := .int (nI n)) S (fun w h => List.mem_cons_of_mem _ (inG12 w h)) hK hW gO_ rfl 11 (by decide) (List.mem_cons_of_mem _ wfl_X12_64) (fun _ h9 => h9) rfl dX12_first_18 ?_
      refine j_callS (As := [.int (nI q0), .int (nI n)]) (rest := [.ref (ad 55)]) S hK hA hW (c_X12_assignmentAt l D cy q0 n    (hn) (by omega)) (jgo wm_X12_137) yk_X12_assignmentAt ⟨⟨rfl, rfl⟩, by decide, by decide⟩ rfl hl.1 rfl (Nat.le_of_ble_eq_true rfl) dX12_first_21 ⟨Nat.le_of_ble_eq_true rfl, Nat.le_of_ble_eq_true rfl⟩ (fun v u H locs hp hW => ?_)
      obtain ⟨rfl, rfl⟩ := hp
      refine W.eq (g2 := F0 m 24 ls [.int (nI (revN n q0)), .ref (ad 55)]) rfl ?_
      refine j_callV (k := 55) (ci := 11) (q := (RX12, TX12, 17)) (As := [.int (nI (revN n q0))]) (rest := []) S hK hA hW (c_X12_isModel l D cy ad 0 n nc sd se lv cs (revN n q0) gO_ (hU.get gE (by decide)) (hU.get gP (by decide)) (hU.get gC0 (by decide)) (hU.get gC1 (by decide)) (hU.get gC2 (by decide)) (hU.get gC3 (by decide)) (hU.get gC4 (by decide))   (by omega) (hsd) (hse) (by omega) (hcs) (revN_lt10 hn)) (jgo wm_X12_102) yk_X12_isModel gO_ rfl rfl ⟨⟨rfl, rfl⟩, by decide, by decide⟩ rfl hl.1 rfl (Nat.le_of_ble_eq_true rfl) dX12_first_24 ⟨Nat.le_of_ble_eq_true rfl, Nat.le_of_ble_eq_true rfl⟩ (fun v u H locs hp hW => ?_)
      obtain ⟨rfl, rfl⟩ := hp
      refine W.eq (g2 := F0 m 27 ls [.int (bI (mdc sd se nc cs lv (revN n q0)))]) rfl ?_
      refine jb_if_eq (tgt := 39) S dX12_first_27 (by decide) (fun c_27 => ?_) (fun c_27 => ?_)
      · refine lv_iinc (v := nI (q0 + 1)) (lv' := [(1, .int (nI (q0 + 1))), (0, .ref (ad 55))]) S.1 S.2.1 dX12_first_39 hl (k := 1) rfl (nI_add _ 1) (by decide) rfl (fun ls hl => ?_)
        refine lv_goto (tgt := 7) S.1 S.2.1 dX12_first_42 (by decide) ?_
        exact ih7 _ (by omega) (q0 + 1) rfl (by rcases Nat.lt_or_eq_of_le hi with q | q; exact q; subst q; exact absurd (c_27.symm.trans hm) (by decide)) w_ hU gO_ H locs ls hW (lv_sub hl [1, 0] rfl)
      · refine lv_iload_n S.1 S.2.1 dX12_first_30 rfl (lv_at hl 1 rfl) ?_
        refine lv_aload_n S.1 S.2.1 dX12_first_31 rfl (lv_at hl 0 rfl) ?_
        refine j_get (ci := 11) (C := RX12) (T := TX12) (N := 17) (v := .int (nI n)) S (fun w h => List.mem_cons_of_mem _ (inG12 w h)) hK hW gO_ rfl 11 (by decide) (List.mem_cons_of_mem _ wfl_X12_64) (fun _ h9 => h9) rfl dX12_first_32 ?_
        refine j_callS (As := [.int (nI q0), .int (nI n)]) (rest := []) S hK hA hW (c_X12_assignmentAt l D cy q0 n    (hn) (by omega)) (jgo wm_X12_137) yk_X12_assignmentAt ⟨⟨rfl, rfl⟩, by decide, by decide⟩ rfl hl.1 rfl (Nat.le_of_ble_eq_true rfl) dX12_first_35 ⟨Nat.le_of_ble_eq_true rfl, Nat.le_of_ble_eq_true rfl⟩ (fun v u H locs hp hW => ?_)
        obtain ⟨rfl, rfl⟩ := hp
        refine W.eq (g2 := F0 m 38 ls [.int (nI (revN n q0))]) rfl ?_
        subst hQ
        refine j_iret (u := w_) S hr (rfl) hK hW dX12_first_38 ⟨by decide, by decide⟩ ?_
        have ep : q0 = t := by rcases Nat.lt_or_eq_of_le hi with q | q; exact absurd ((hmn q0 q).symm.trans c_27) (by decide); exact q
        subst ep
        exact ⟨rfl, hU, gO_⟩
  exact L7 _ 0 rfl (Nat.zero_le _) w_ hU gO_ H locs ls hW (lv_sub hl [1, 0] rfl)
/-- first, no models -/
theorem c_X12_first_b (l : Launch) (D : va_G) (cy : Nat → ClassId) {w : va_W} (ad : Nat → Nat) (th n nc : Nat) (sd se lv : Nat) (cs : Nat → CN) (gO : w[55]? = some (ad 55, .inr (11, [.int (nI th), .ref (ad 56), .ref (ad 57), .ref (ad 58), .ref (ad 59), .ref (ad 60), .ref (ad 61), .ref (ad 62), .ref (ad 63), .ref (ad 64), .ref (ad 65), .int (nI n), .int (nI nc), .ref (ad 66), .ref (ad 71), .ref (ad 72), .ref (ad 73)]))) (gE : w[58]? = some (ad 58, .inl (cy 0, 10, .inl (evA n sd se)))) (gP : w[65]? = some (ad 65, .inl (cy 3, 20, .inl (bf (dpB nc lv))))) (gC0 : w[60]? = some (ad 60, .inl (cy 2, 20, .inl (nf (ckd cs))))) (gC1 : w[61]? = some (ad 61, .inl (cy 0, 20, .inl (nf (cst cs))))) (gC2 : w[62]? = some (ad 62, .inl (cy 0, 20, .inl (nf (cot cs))))) (gC3 : w[63]? = some (ad 63, .inl (cy 0, 20, .inl (nf (cle cs))))) (gC4 : w[64]? = some (ad 64, .inl (cy 0, 20, .inl (nf (cgr cs))))) (hn : n ≤ 10) (hsd : sd < 2 ^ n) (hse : se &&& sd = se) (hnc : nc ≤ 20) (hcs : csI nc cs) (hm : ∀ j, j < 2 ^ n → mdc sd se nc cs lv (revN n j) = false) : jM l yX12_first (jws yX12_first cX12_first 2 (some .int)) (jR 4 0 0) D cy w [.ref (ad 55)] 0 0 (fun vv uu => vv = some (.int (nI 0)) ∧ jU w uu [55] ∧ uu[55]? = some (ad 55, .inr (11, [.int (nI 1), .ref (ad 56), .ref (ad 57), .ref (ad 58), .ref (ad 59), .ref (ad 60), .ref (ad 61), .ref (ad 62), .ref (ad 63), .ref (ad 64), .ref (ad 65), .int (nI n), .int (nI nc), .ref (ad 66), .ref (ad 71), .ref (ad 72), .ref (ad 73)]))) := by
  have hp2 := two_pow10 hn
  refine j_of (by decide) rfl (Nat.le_of_ble_eq_true rfl) ?_
  intro p e s m args below meth c A ls Q hQ S hr hK hA H locs hW hl
  have hl : lv_has ls 2 [(0, .ref (ad 55))] := hl
  refine lv_aload_n S.1 S.2.1 dX12_first_0 rfl (lv_at hl 0 rfl) ?_
  refine lv_iconst (v := nI 0) S.1 S.2.1 dX12_first_1 (by decide) ?_
  refine j_put (ci := 11) (C := RX12) (T := TX12) (N := 17) (ty := .int) S (fun w h => List.mem_cons_of_mem _ (inG12 w h)) tyX12 tyX12_ok nmX12 hK hW gO rfl 0 (by decide) (List.mem_cons_of_mem _ wfl_X12_1) (fun _ h9 => h9) rfl (by decide +kernel) (rfl) (rfl) (Nat.le_of_ble_eq_true rfl) dX12_first_2 (fun H locs w_ hU1 hN1 hW => ?_)
  have hU : jU w w_ [55] := jU.mono hU1 (by decide)
  have gO_ : w_[55]? = some (ad 55, .inr (11, [.int (nI 0), .ref (ad 56), .ref (ad 57), .ref (ad 58), .ref (ad 59), .ref (ad 60), .ref (ad 61), .ref (ad 62), .ref (ad 63), .ref (ad 64), .ref (ad 65), .int (nI n), .int (nI nc), .ref (ad 66), .ref (ad 71), .ref (ad 72), .ref (ad 73)])) := hN1
  clear hU1 hN1
  refine lv_iconst (v := nI 0) S.1 S.2.1 dX12_first_5 (by decide) ?_
  refine lv_istore_n (lv' := [(1, .int (nI 0)), (0, .ref (ad 55))]) S.1 S.2.1 dX12_first_6 rfl hl (by decide) rfl (fun ls hl => ?_)
  have L7 : ∀ (k : Nat) (q0 : Nat), 2 ^ n - q0 = k → (q0 ≤ 2 ^ n) → ∀ (w_ : va_W), jU w w_ [55] → (w_[55]? = some (ad 55, .inr (11, [.int (nI 0), .ref (ad 56), .ref (ad 57), .ref (ad 58), .ref (ad 59), .ref (ad 60), .ref (ad 61), .ref (ad 62), .ref (ad 63), .ref (ad 64), .ref (ad 65), .int (nI n), .int (nI nc), .ref (ad 66), .ref (ad 71), .ref (ad 72), .ref (ad 73)]))) → ∀ (H : Heap) (locs : List Loc) (ls : Array Slot), jW D A s.heap w_ H locs → lv_has ls 2 [(0, .ref (ad 55)), (1, .int (nI q0))] → W p l e (jR 4 0 0) s m args below meth c H locs 0 0 Q (F0 m 7 ls []) := by
    intro k
    induction k using Nat.strongRecOn with
    | ind k ih7 =>
    intro q0 hk hi w_ hU gO_ H locs ls hW hl
    subst hk
    refine lv_iload_n S.1 S.2.1 dX12_first_7 rfl (lv_at hl 1 rfl) ?_
    refine lv_aload_n S.1 S.2.1 dX12_first_8 rfl (lv_at hl 0 rfl) ?_
    refine j_callV (k := 55) (ci := 11) (q := (RX12, TX12, 17)) (As := []) (rest := [.int (nI q0)]) S hK hA hW (c_X12_all l D cy ad 0 n nc gO_   (by omega)) (jgo wm_X12_98) yk_X12_all gO_ rfl rfl ⟨⟨rfl, rfl⟩, by decide, by decide⟩ rfl hl.1 rfl (Nat.le_of_ble_eq_true rfl) dX12_first_9 ⟨Nat.le_of_ble_eq_true rfl, Nat.le_of_ble_eq_true rfl⟩ (fun v u H locs hp hW => ?_)
    obtain ⟨rfl, rfl⟩ := hp
    refine W.eq (g2 := F0 m 12 ls [.int (nI (2 ^ n)), .int (nI q0)]) rfl ?_
    refine jn_cmp_ge (tgt := 45) S (by omega) (by omega) dX12_first_12 (by decide) (fun c_12 => ?_) (fun c_12 => ?_)
    · refine lv_aload_n S.1 S.2.1 dX12_first_45 rfl (lv_at hl 0 rfl) ?_
      refine lv_iconst (v := nI 1) S.1 S.2.1 dX12_first_46 (by decide) ?_
      refine j_callV (k := 55) (ci := 11) (q := (RX12, TX12, 17)) (As := [.int (nI 1)]) (rest := []) S hK hA hW (c_X12_fails l D cy ad 0 n nc 1 gO_   ) (jgo wm_X12_71) yk_X12_fails gO_ rfl rfl ⟨⟨rfl, rfl⟩, by decide, by decide⟩ rfl hl.1 rfl (Nat.le_of_ble_eq_true rfl) dX12_first_47 ⟨Nat.le_of_ble_eq_true rfl, Nat.le_of_ble_eq_true rfl⟩ (fun v w_ H locs hp hW => ?_)
      obtain ⟨rfl, hU1, hN1⟩ := hp
      have hU := hU.then hU1 (by decide)
      have gO_ : w_[55]? = some (ad 55, .inr (11, [.int (nI 1), .ref (ad 56), .ref (ad 57), .ref (ad 58), .ref (ad 59), .ref (ad 60), .ref (ad 61), .ref (ad 62), .ref (ad 63), .ref (ad 64), .ref (ad 65), .int (nI n), .int (nI nc), .ref (ad 66), .ref (ad 71), .ref (ad 72), .ref (ad 73)])) := hN1
      clear hU1 hN1
      refine W.eq (g2 := F0 m 50 ls [.int (nI 0)]) rfl ?_
      subst hQ
      exact j_iret (u := w_) S hr (rfl) hK hW dX12_first_50 ⟨by decide, by decide⟩ (⟨rfl, hU, gO_⟩)
    · refine lv_aload_n S.1 S.2.1 dX12_first_15 rfl (lv_at hl 0 rfl) ?_
      refine lv_iload_n S.1 S.2.1 dX12_first_16 rfl (lv_at hl 1 rfl) ?_
      refine lv_aload_n S.1 S.2.1 dX12_first_17 rfl (lv_at hl 0 rfl) ?_
      refine j_get (ci := 11) (C := RX12) (T := TX12) (N := 17) (v := .int (nI n)) S (fun w h => List.mem_cons_of_mem _ (inG12 w h)) hK hW gO_ rfl 11 (by decide) (List.mem_cons_of_mem _ wfl_X12_64) (fun _ h9 => h9) rfl dX12_first_18 ?_
      refine j_callS (As := [.int (nI q0), .int (nI n)]) (rest := [.ref (ad 55)]) S hK hA hW (c_X12_assignmentAt l D cy q0 n    (hn) (by omega)) (jgo wm_X12_137) yk_X12_assignmentAt ⟨⟨rfl, rfl⟩, by decide, by decide⟩ rfl hl.1 rfl (Nat.le_of_ble_eq_true rfl) dX12_first_21 ⟨Nat.le_of_ble_eq_true rfl, Nat.le_of_ble_eq_true rfl⟩ (fun v u H locs hp hW => ?_)
      obtain ⟨rfl, rfl⟩ := hp
      refine W.eq (g2 := F0 m 24 ls [.int (nI (revN n q0)), .ref (ad 55)]) rfl ?_
      refine j_callV (k := 55) (ci := 11) (q := (RX12, TX12, 17)) (As := [.int (nI (revN n q0))]) (rest := []) S hK hA hW (c_X12_isModel l D cy ad 0 n nc sd se lv cs (revN n q0) gO_ (hU.get gE (by decide)) (hU.get gP (by decide)) (hU.get gC0 (by decide)) (hU.get gC1 (by decide)) (hU.get gC2 (by decide)) (hU.get gC3 (by decide)) (hU.get gC4 (by decide))   (by omega) (hsd) (hse) (by omega) (hcs) (revN_lt10 hn)) (jgo wm_X12_102) yk_X12_isModel gO_ rfl rfl ⟨⟨rfl, rfl⟩, by decide, by decide⟩ rfl hl.1 rfl (Nat.le_of_ble_eq_true rfl) dX12_first_24 ⟨Nat.le_of_ble_eq_true rfl, Nat.le_of_ble_eq_true rfl⟩ (fun v u H locs hp hW => ?_)
      obtain ⟨rfl, rfl⟩ := hp
      refine W.eq (g2 := F0 m 27 ls [.int (bI (mdc sd se nc cs lv (revN n q0)))]) rfl ?_
      refine jb_if_eq (tgt := 39) S dX12_first_27 (by decide) (fun c_27 => ?_) (fun c_27 => ?_)
      · refine lv_iinc (v := nI (q0 + 1)) (lv' := [(1, .int (nI (q0 + 1))), (0, .ref (ad 55))]) S.1 S.2.1 dX12_first_39 hl (k := 1) rfl (nI_add _ 1) (by decide) rfl (fun ls hl => ?_)
        refine lv_goto (tgt := 7) S.1 S.2.1 dX12_first_42 (by decide) ?_
        exact ih7 _ (by omega) (q0 + 1) rfl (by omega) w_ hU gO_ H locs ls hW (lv_sub hl [1, 0] rfl)
      · exact absurd ((hm q0 (by omega)).symm.trans c_27) (by decide)
  exact L7 _ 0 rfl (Nat.zero_le _) w_ hU gO_ H locs ls hW (lv_sub hl [1, 0] rfl)
/-- lucky -/
theorem c_X12_lucky_ok (l : Launch) (D : va_G) (cy : Nat → ClassId) {w : va_W} (ad : Nat → Nat) (th n nc : Nat) (sd se lv : Nat) (cs : Nat → CN) (wf wt : Nat → Nat) (t L : Nat) (gO : w[55]? = some (ad 55, .inr (11, [.int (nI th), .ref (ad 56), .ref (ad 57), .ref (ad 58), .ref (ad 59), .ref (ad 60), .ref (ad 61), .ref (ad 62), .ref (ad 63), .ref (ad 64), .ref (ad 65), .int (nI n), .int (nI nc), .ref (ad 66), .ref (ad 71), .ref (ad 72), .ref (ad 73)]))) (gE : w[58]? = some (ad 58, .inl (cy 0, 10, .inl (evA n sd se)))) (gP : w[65]? = some (ad 65, .inl (cy 3, 20, .inl (bf (dpB nc lv))))) (gC0 : w[60]? = some (ad 60, .inl (cy 2, 20, .inl (nf (ckd cs))))) (gC1 : w[61]? = some (ad 61, .inl (cy 0, 20, .inl (nf (cst cs))))) (gC2 : w[62]? = some (ad 62, .inl (cy 0, 20, .inl (nf (cot cs))))) (gC3 : w[63]? = some (ad 63, .inl (cy 0, 20, .inl (nf (cle cs))))) (gC4 : w[64]? = some (ad 64, .inl (cy 0, 20, .inl (nf (cgr cs))))) (gF : w[56]? = some (ad 56, .inl (cy 0, 10, .inl (nf wf)))) (gT : w[57]? = some (ad 57, .inl (cy 0, 10, .inl (nf wt)))) (hn : n ≤ 10) (hsd : sd < 2 ^ n) (hse : se &&& sd = se) (hnc : nc ≤ 20) (hcs : csI nc cs) (hwf : ∀ j, wf j ≤ 9) (hwt : ∀ j, wt j ≤ 9) (ht : t < 2 ^ n) (hL : L < 2 ^ 62) (h1 : L < sumI (fun d => mdc sd se nc cs lv (revN n d)) (fun d => prodN wf wt (revN n d) n) (t + 1)) (h2 : sumI (fun d => mdc sd se nc cs lv (revN n d)) (fun d => prodN wf wt (revN n d) n) t ≤ L) : jM l yX12_lucky (jws yX12_lucky cX12_lucky 7 (some .int)) (jR 4 0 0) D cy w [.ref (ad 55), .long (lN L)] 0 0 (fun vv uu => vv = some (.int (nI (revN n t))) ∧ jU w uu [55] ∧ uu[55]? = some (ad 55, .inr (11, [.int (nI 0), .ref (ad 56), .ref (ad 57), .ref (ad 58), .ref (ad 59), .ref (ad 60), .ref (ad 61), .ref (ad 62), .ref (ad 63), .ref (ad 64), .ref (ad 65), .int (nI n), .int (nI nc), .ref (ad 66), .ref (ad 71), .ref (ad 72), .ref (ad 73)]))) := by
  have hp2 := two_pow10 hn
  have h910 : 9 ^ n ≤ 9 ^ 10 := Nat.pow_le_pow_right (by decide) hn
  have hpb : ∀ d, prodN wf wt d n ≤ 3486784401 := fun d => Nat.le_trans (prodN_le hwf hwt d n) h910
  have hsl : sumI (mdc sd se nc cs lv) (fun d => prodN wf wt d n) (2 ^ n) ≤ 2 ^ n * 3486784401 := sumI_le (fun j _ => hpb j)
  have hsb : 2 ^ n * 3486784401 ≤ 1024 * 3486784401 := Nat.mul_le_mul_right _ hp2
  have hst : ∀ t, t ≤ 2 ^ n → sumI (fun d => mdc sd se nc cs lv (revN n d)) (fun d => prodN wf wt (revN n d) n) t ≤ 2 ^ n * 3486784401 := fun t ht => Nat.le_trans (sumI_up ht) (sumI_le (fun j _ => hpb (revN n j)))
  refine j_of (by decide) rfl (Nat.le_of_ble_eq_true rfl) ?_
  intro p e s m args below meth c A ls Q hQ S hr hK hA H locs hW hl
  have hl : lv_has ls 7 [(0, .ref (ad 55)), (1, .long (lN L))] := hl
  refine lv_aload_n S.1 S.2.1 dX12_lucky_0 rfl (lv_at hl 0 rfl) ?_
  refine lv_iconst (v := nI 0) S.1 S.2.1 dX12_lucky_1 (by decide) ?_
  refine j_put (ci := 11) (C := RX12) (T := TX12) (N := 17) (ty := .int) S (fun w h => List.mem_cons_of_mem _ (inG12 w h)) tyX12 tyX12_ok nmX12 hK hW gO rfl 0 (by decide) (List.mem_cons_of_mem _ wfl_X12_1) (fun _ h9 => h9) rfl (by decide +kernel) (rfl) (rfl) (Nat.le_of_ble_eq_true rfl) dX12_lucky_2 (fun H locs w_ hU1 hN1 hW => ?_)
  have hU : jU w w_ [55] := jU.mono hU1 (by decide)
  have gO_ : w_[55]? = some (ad 55, .inr (11, [.int (nI 0), .ref (ad 56), .ref (ad 57), .ref (ad 58), .ref (ad 59), .ref (ad 60), .ref (ad 61), .ref (ad 62), .ref (ad 63), .ref (ad 64), .ref (ad 65), .int (nI n), .int (nI nc), .ref (ad 66), .ref (ad 71), .ref (ad 72), .ref (ad 73)])) := hN1
  clear hU1 hN1
  refine lv_lconst (v := lN 0) S.1 S.2.1 dX12_lucky_5 (by decide) ?_
  refine lv_lstore_n (lv' := [(3, .long (lN 0)), (0, .ref (ad 55)), (1, .long (lN L))]) S.1 S.2.1 dX12_lucky_6 rfl hl (by decide) rfl (fun ls hl => ?_)
  refine lv_iconst (v := nI 0) S.1 S.2.1 dX12_lucky_7 (by decide) ?_
  refine lv_istore (lv' := [(5, .int (nI 0)), (3, .long (lN 0)), (0, .ref (ad 55)), (1, .long (lN L))]) S.1 S.2.1 dX12_lucky_8 hl (by decide) rfl (fun ls hl => ?_)
  have L10 : ∀ (k : Nat) (q0 : Nat), 2 ^ n - q0 = k → (q0 ≤ t) → ∀ (w_ : va_W), jU w w_ [55] → (w_[55]? = some (ad 55, .inr (11, [.int (nI 0), .ref (ad 56), .ref (ad 57), .ref (ad 58), .ref (ad 59), .ref (ad 60), .ref (ad 61), .ref (ad 62), .ref (ad 63), .ref (ad 64), .ref (ad 65), .int (nI n), .int (nI nc), .ref (ad 66), .ref (ad 71), .ref (ad 72), .ref (ad 73)]))) → ∀ (H : Heap) (locs : List Loc) (ls : Array Slot), jW D A s.heap w_ H locs → lv_has ls 7 [(0, .ref (ad 55)), (1, .long (lN L)), (3, .long (lN (sumI (fun d => mdc sd se nc cs lv (revN n d)) (fun d => prodN wf wt (revN n d) n) q0))), (5, .int (nI q0))] → W p l e (jR 4 0 0) s m args below meth c H locs 0 0 Q (F0 m 10 ls []) := by
    intro k
    induction k using Nat.strongRecOn with
    | ind k ih10 =>
    intro q0 hk hi w_ hU gO_ H locs ls hW hl
    subst hk
    have hs2 := hst q0 (by omega)
    refine lv_lload_n S.1 S.2.1 dX12_lucky_10 rfl (lv_at hl 1 rfl) ?_
    refine lv_lconst (v := lN 0) S.1 S.2.1 dX12_lucky_11 (by decide) ?_
    refine jnl_lt (tgt := 73) S (by omega) (by decide) dX12_lucky_12 dX12_lucky_13 (by decide) (fun c_13 => ?_) (fun c_13 => ?_)
    · first | exact absurd c_13 (by omega) | omega
    · refine lv_iload S.1 S.2.1 dX12_lucky_16 (lv_at hl 3 rfl) ?_
      refine lv_aload_n S.1 S.2.1 dX12_lucky_18 rfl (lv_at hl 0 rfl) ?_
      refine j_callV (k := 55) (ci := 11) (q := (RX12, TX12, 17)) (As := []) (rest := [.int (nI q0)]) S hK hA hW (c_X12_all l D cy ad 0 n nc gO_   (by omega)) (jgo wm_X12_98) yk_X12_all gO_ rfl rfl ⟨⟨rfl, rfl⟩, by decide, by decide⟩ rfl hl.1 rfl (Nat.le_of_ble_eq_true rfl) dX12_lucky_19 ⟨Nat.le_of_ble_eq_true rfl, Nat.le_of_ble_eq_true rfl⟩ (fun v u H locs hp hW => ?_)
      obtain ⟨rfl, rfl⟩ := hp
      refine W.eq (g2 := F0 m 22 ls [.int (nI (2 ^ n)), .int (nI q0)]) rfl ?_
      refine jn_cmp_ge (tgt := 73) S (by omega) (by omega) dX12_lucky_22 (by decide) (fun c_22 => ?_) (fun c_22 => ?_)
      · exact absurd c_22 (by omega)
      · refine lv_iload S.1 S.2.1 dX12_lucky_25 (lv_at hl 3 rfl) ?_
        refine lv_aload_n S.1 S.2.1 dX12_lucky_27 rfl (lv_at hl 0 rfl) ?_
        refine j_get (ci := 11) (C := RX12) (T := TX12) (N := 17) (v := .int (nI n)) S (fun w h => List.mem_cons_of_mem _ (inG12 w h)) hK hW gO_ rfl 11 (by decide) (List.mem_cons_of_mem _ wfl_X12_64) (fun _ h9 => h9) rfl dX12_lucky_28 ?_
        refine j_callS (As := [.int (nI q0), .int (nI n)]) (rest := []) S hK hA hW (c_X12_assignmentAt l D cy q0 n    (hn) (by omega)) (jgo wm_X12_137) yk_X12_assignmentAt ⟨⟨rfl, rfl⟩, by decide, by decide⟩ rfl hl.1 rfl (Nat.le_of_ble_eq_true rfl) dX12_lucky_31 ⟨Nat.le_of_ble_eq_true rfl, Nat.le_of_ble_eq_true rfl⟩ (fun v u H locs hp hW => ?_)
        obtain ⟨rfl, rfl⟩ := hp
        refine W.eq (g2 := F0 m 34 ls [.int (nI (revN n q0))]) rfl ?_
        refine lv_istore (lv' := [(6, .int (nI (revN n q0))), (0, .ref (ad 55)), (1, .long (lN L)), (3, .long (lN (sumI (fun d => mdc sd se nc cs lv (revN n d)) (fun d => prodN wf wt (revN n d) n) q0))), (5, .int (nI q0))]) S.1 S.2.1 dX12_lucky_34 hl (by decide) rfl (fun ls hl => ?_)
        refine lv_lload_n S.1 S.2.1 dX12_lucky_36 rfl (lv_at hl 3 rfl) ?_
        refine lv_aload_n S.1 S.2.1 dX12_lucky_37 rfl (lv_at hl 1 rfl) ?_
        refine lv_iload S.1 S.2.1 dX12_lucky_38 (lv_at hl 0 rfl) ?_
        refine j_callV (k := 55) (ci := 11) (q := (RX12, TX12, 17)) (As := [.int (nI (revN n q0))]) (rest := [.long (lN (sumI (fun d => mdc sd se nc cs lv (revN n d)) (fun d => prodN wf wt (revN n d) n) q0))]) S hK hA hW (c_X12_isModel l D cy ad 0 n nc sd se lv cs (revN n q0) gO_ (hU.get gE (by decide)) (hU.get gP (by decide)) (hU.get gC0 (by decide)) (hU.get gC1 (by decide)) (hU.get gC2 (by decide)) (hU.get gC3 (by decide)) (hU.get gC4 (by decide))   (by omega) (hsd) (hse) (by omega) (hcs) (revN_lt10 hn)) (jgo wm_X12_102) yk_X12_isModel gO_ rfl rfl ⟨⟨rfl, rfl⟩, by decide, by decide⟩ rfl hl.1 rfl (Nat.le_of_ble_eq_true rfl) dX12_lucky_40 ⟨Nat.le_of_ble_eq_true rfl, Nat.le_of_ble_eq_true rfl⟩ (fun v u H locs hp hW => ?_)
        obtain ⟨rfl, rfl⟩ := hp
        refine W.eq (g2 := F0 m 43 ls [.int (bI (mdc sd se nc cs lv (revN n q0))), .long (lN (sumI (fun d => mdc sd se nc cs lv (revN n d)) (fun d => prodN wf wt (revN n d) n) q0))]) rfl ?_
        refine jb_if_eq (tgt := 55) S dX12_lucky_43 (by decide) (fun c_43 => ?_) (fun c_43 => ?_)
        · refine lv_lconst (v := lN 0) S.1 S.2.1 dX12_lucky_55 (by decide) ?_
          have hs1 := hst (q0 + 1) (by omega)
          have hs0 := hpb (revN n q0)
          have hs2 := hst q0 (by omega)
          refine jnl_add S dX12_lucky_56 ?_
          refine lv_topl_to (y := lN (sumI (fun d => mdc sd se nc cs lv (revN n d)) (fun d => prodN wf wt (revN n d) n) (q0 + 1))) (congrArg lN (by first | exact (sumI_t (X := (fun d => mdc sd se nc cs lv (revN n d))) (f := (fun d => prodN wf wt (revN n d) n)) c_43).symm | exact (sumI_f (X := (fun d => mdc sd se nc cs lv (revN n d))) (f := (fun d => prodN wf wt (revN n d) n)) c_43).symm)) ?_
          refine lv_lstore_n (lv' := [(3, .long (lN (sumI (fun d => mdc sd se nc cs lv (revN n d)) (fun d => prodN wf wt (revN n d) n) (q0 + 1)))), (6, .int (nI (revN n q0))), (0, .ref (ad 55)), (1, .long (lN L)), (5, .int (nI q0))]) S.1 S.2.1 dX12_lucky_57 rfl hl (by decide) rfl (fun ls hl => ?_)
          refine lv_lload_n S.1 S.2.1 dX12_lucky_58 rfl (lv_at hl 0 rfl) ?_
          refine lv_lload_n S.1 S.2.1 dX12_lucky_59 rfl (lv_at hl 3 rfl) ?_
          refine jnl_le (tgt := 67) S (by omega) (by omega) dX12_lucky_60 dX12_lucky_61 (by decide) (fun c_61 => ?_) (fun c_61 => ?_)
          · refine lv_iinc (v := nI (q0 + 1)) (lv' := [(5, .int (nI (q0 + 1))), (3, .long (lN (sumI (fun d => mdc sd se nc cs lv (revN n d)) (fun d => prodN wf wt (revN n d) n) (q0 + 1)))), (6, .int (nI (revN n q0))), (0, .ref (ad 55)), (1, .long (lN L))]) S.1 S.2.1 dX12_lucky_67 hl (k := 4) rfl (nI_add _ 1) (by decide) rfl (fun ls hl => ?_)
            refine lv_goto (tgt := 10) S.1 S.2.1 dX12_lucky_70 (by decide) ?_
            exact ih10 _ (by omega) (q0 + 1) rfl (by rcases Nat.lt_or_eq_of_le hi with q | q; exact q; subst q; omega) w_ hU gO_ H locs ls hW (lv_sub hl [3, 4, 1, 0] rfl)
          · refine lv_iload S.1 S.2.1 dX12_lucky_64 (lv_at hl 1 rfl) ?_
            subst hQ
            refine j_iret (u := w_) S hr (rfl) hK hW dX12_lucky_66 ⟨by decide, by decide⟩ ?_
            have ep : q0 = t := by
              rcases Nat.lt_or_eq_of_le hi with q | q
              · have z := sumI_up (X := (fun d => mdc sd se nc cs lv (revN n d))) (f := (fun d => prodN wf wt (revN n d) n)) (show q0 + 1 ≤ t from q); omega
              · exact q
            subst ep
            exact ⟨rfl, hU, gO_⟩
        · refine lv_aload_n S.1 S.2.1 dX12_lucky_46 rfl (lv_at hl 1 rfl) ?_
          refine lv_iload S.1 S.2.1 dX12_lucky_47 (lv_at hl 0 rfl) ?_
          refine j_callV (k := 55) (ci := 11) (q := (RX12, TX12, 17)) (As := [.int (nI (revN n q0))]) (rest := [.long (lN (sumI (fun d => mdc sd se nc cs lv (revN n d)) (fun d => prodN wf wt (revN n d) n) q0))]) S hK hA hW (c_X12_weigh l D cy ad 0 n nc wf wt (revN n q0) gO_ (hU.get gF (by decide)) (hU.get gT (by decide))   (by omega) (Nat.lt_of_lt_of_le (revN_lt10 hn) hp2) (hwf) (hwt)) (jgo wm_X12_109) yk_X12_weigh gO_ rfl rfl ⟨⟨rfl, rfl⟩, by decide, by decide⟩ rfl hl.1 rfl (Nat.le_of_ble_eq_true rfl) dX12_lucky_49 ⟨Nat.le_of_ble_eq_true rfl, Nat.le_of_ble_eq_true rfl⟩ (fun v u H locs hp hW => ?_)
          obtain ⟨rfl, rfl⟩ := hp
          refine W.eq (g2 := F0 m 52 ls [.long (lN (prodN wf wt (revN n q0) n)), .long (lN (sumI (fun d => mdc sd se nc cs lv (revN n d)) (fun d => prodN wf wt (revN n d) n) q0))]) rfl ?_
          refine lv_goto (tgt := 56) S.1 S.2.1 dX12_lucky_52 (by decide) ?_
          have hs1 := hst (q0 + 1) (by omega)
          have hs0 := hpb (revN n q0)
          have hs2 := hst q0 (by omega)
          refine jnl_add S dX12_lucky_56 ?_
          refine lv_topl_to (y := lN (sumI (fun d => mdc sd se nc cs lv (revN n d)) (fun d => prodN wf wt (revN n d) n) (q0 + 1))) (congrArg lN (by first | exact (sumI_t (X := (fun d => mdc sd se nc cs lv (revN n d))) (f := (fun d => prodN wf wt (revN n d) n)) c_43).symm | exact (sumI_f (X := (fun d => mdc sd se nc cs lv (revN n d))) (f := (fun d => prodN wf wt (revN n d) n)) c_43).symm)) ?_
          refine lv_lstore_n (lv' := [(3, .long (lN (sumI (fun d => mdc sd se nc cs lv (revN n d)) (fun d => prodN wf wt (revN n d) n) (q0 + 1)))), (6, .int (nI (revN n q0))), (0, .ref (ad 55)), (1, .long (lN L)), (5, .int (nI q0))]) S.1 S.2.1 dX12_lucky_57 rfl hl (by decide) rfl (fun ls hl => ?_)
          refine lv_lload_n S.1 S.2.1 dX12_lucky_58 rfl (lv_at hl 0 rfl) ?_
          refine lv_lload_n S.1 S.2.1 dX12_lucky_59 rfl (lv_at hl 3 rfl) ?_
          refine jnl_le (tgt := 67) S (by omega) (by omega) dX12_lucky_60 dX12_lucky_61 (by decide) (fun c_61 => ?_) (fun c_61 => ?_)
          · refine lv_iinc (v := nI (q0 + 1)) (lv' := [(5, .int (nI (q0 + 1))), (3, .long (lN (sumI (fun d => mdc sd se nc cs lv (revN n d)) (fun d => prodN wf wt (revN n d) n) (q0 + 1)))), (6, .int (nI (revN n q0))), (0, .ref (ad 55)), (1, .long (lN L))]) S.1 S.2.1 dX12_lucky_67 hl (k := 4) rfl (nI_add _ 1) (by decide) rfl (fun ls hl => ?_)
            refine lv_goto (tgt := 10) S.1 S.2.1 dX12_lucky_70 (by decide) ?_
            exact ih10 _ (by omega) (q0 + 1) rfl (by rcases Nat.lt_or_eq_of_le hi with q | q; exact q; subst q; omega) w_ hU gO_ H locs ls hW (lv_sub hl [3, 4, 1, 0] rfl)
          · refine lv_iload S.1 S.2.1 dX12_lucky_64 (lv_at hl 1 rfl) ?_
            subst hQ
            refine j_iret (u := w_) S hr (rfl) hK hW dX12_lucky_66 ⟨by decide, by decide⟩ ?_
            have ep : q0 = t := by
              rcases Nat.lt_or_eq_of_le hi with q | q
              · have z := sumI_up (X := (fun d => mdc sd se nc cs lv (revN n d))) (f := (fun d => prodN wf wt (revN n d) n)) (show q0 + 1 ≤ t from q); omega
              · exact q
            subst ep
            exact ⟨rfl, hU, gO_⟩
  exact L10 _ 0 rfl (Nat.zero_le _) w_ hU gO_ H locs ls hW (lv_sub hl [2, 3, 1, 0] rfl)
/-- lucky, no such luck -/
theorem c_X12_lucky_b (l : Launch) (D : va_G) (cy : Nat → ClassId) {w : va_W} (ad : Nat → Nat) (th n nc : Nat) (sd se lv : Nat) (cs : Nat → CN) (wf wt : Nat → Nat) (L : Nat) (gO : w[55]? = some (ad 55, .inr (11, [.int (nI th), .ref (ad 56), .ref (ad 57), .ref (ad 58), .ref (ad 59), .ref (ad 60), .ref (ad 61), .ref (ad 62), .ref (ad 63), .ref (ad 64), .ref (ad 65), .int (nI n), .int (nI nc), .ref (ad 66), .ref (ad 71), .ref (ad 72), .ref (ad 73)]))) (gE : w[58]? = some (ad 58, .inl (cy 0, 10, .inl (evA n sd se)))) (gP : w[65]? = some (ad 65, .inl (cy 3, 20, .inl (bf (dpB nc lv))))) (gC0 : w[60]? = some (ad 60, .inl (cy 2, 20, .inl (nf (ckd cs))))) (gC1 : w[61]? = some (ad 61, .inl (cy 0, 20, .inl (nf (cst cs))))) (gC2 : w[62]? = some (ad 62, .inl (cy 0, 20, .inl (nf (cot cs))))) (gC3 : w[63]? = some (ad 63, .inl (cy 0, 20, .inl (nf (cle cs))))) (gC4 : w[64]? = some (ad 64, .inl (cy 0, 20, .inl (nf (cgr cs))))) (gF : w[56]? = some (ad 56, .inl (cy 0, 10, .inl (nf wf)))) (gT : w[57]? = some (ad 57, .inl (cy 0, 10, .inl (nf wt)))) (hn : n ≤ 10) (hsd : sd < 2 ^ n) (hse : se &&& sd = se) (hnc : nc ≤ 20) (hcs : csI nc cs) (hwf : ∀ j, wf j ≤ 9) (hwt : ∀ j, wt j ≤ 9) (hL : L < 2 ^ 63) (h2 : sumI (fun d => mdc sd se nc cs lv (revN n d)) (fun d => prodN wf wt (revN n d) n) (2 ^ n) ≤ L) : jM l yX12_lucky (jws yX12_lucky cX12_lucky 7 (some .int)) (jR 4 0 0) D cy w [.ref (ad 55), .long (lN L)] 0 0 (fun vv uu => vv = some (.int (nI 0)) ∧ jU w uu [55] ∧ uu[55]? = some (ad 55, .inr (11, [.int (nI 1), .ref (ad 56), .ref (ad 57), .ref (ad 58), .ref (ad 59), .ref (ad 60), .ref (ad 61), .ref (ad 62), .ref (ad 63), .ref (ad 64), .ref (ad 65), .int (nI n), .int (nI nc), .ref (ad 66), .ref (ad 71), .ref (ad 72), .ref (ad 73)]))) := by
  have hp2 := two_pow10 hn
  have h910 : 9 ^ n ≤ 9 ^ 10 := Nat.pow_le_pow_right (by decide) hn
  have hpb : ∀ d, prodN wf wt d n ≤ 3486784401 := fun d => Nat.le_trans (prodN_le hwf hwt d n) h910
  have hsl : sumI (mdc sd se nc cs lv) (fun d => prodN wf wt d n) (2 ^ n) ≤ 2 ^ n * 3486784401 := sumI_le (fun j _ => hpb j)
  have hsb : 2 ^ n * 3486784401 ≤ 1024 * 3486784401 := Nat.mul_le_mul_right _ hp2
  have hst : ∀ t, t ≤ 2 ^ n → sumI (fun d => mdc sd se nc cs lv (revN n d)) (fun d => prodN wf wt (revN n d) n) t ≤ 2 ^ n * 3486784401 := fun t ht => Nat.le_trans (sumI_up ht) (sumI_le (fun j _ => hpb (revN n j)))
  refine j_of (by decide) rfl (Nat.le_of_ble_eq_true rfl) ?_
  intro p e s m args below meth c A ls Q hQ S hr hK hA H locs hW hl
  have hl : lv_has ls 7 [(0, .ref (ad 55)), (1, .long (lN L))] := hl
  refine lv_aload_n S.1 S.2.1 dX12_lucky_0 rfl (lv_at hl 0 rfl) ?_
  refine lv_iconst (v := nI 0) S.1 S.2.1 dX12_lucky_1 (by decide) ?_
  refine j_put (ci := 11) (C := RX12) (T := TX12) (N := 17) (ty := .int) S (fun w h => List.mem_cons_of_mem _ (inG12 w h)) tyX12 tyX12_ok nmX12 hK hW gO rfl 0 (by decide) (List.mem_cons_of_mem _ wfl_X12_1) (fun _ h9 => h9) rfl (by decide +kernel) (rfl) (rfl) (Nat.le_of_ble_eq_true rfl) dX12_lucky_2 (fun H locs w_ hU1 hN1 hW => ?_)
  have hU : jU w w_ [55] := jU.mono hU1 (by decide)
  have gO_ : w_[55]? = some (ad 55, .inr (11, [.int (nI 0), .ref (ad 56), .ref (ad 57), .ref (ad 58), .ref (ad 59), .ref (ad 60), .ref (ad 61), .ref (ad 62), .ref (ad 63), .ref (ad 64), .ref (ad 65), .int (nI n), .int (nI nc), .ref (ad 66), .ref (ad 71), .ref (ad 72), .ref (ad 73)])) := hN1
  clear hU1 hN1
  refine lv_lconst (v := lN 0) S.1 S.2.1 dX12_lucky_5 (by decide) ?_
  refine lv_lstore_n (lv' := [(3, .long (lN 0)), (0, .ref (ad 55)), (1, .long (lN L))]) S.1 S.2.1 dX12_lucky_6 rfl hl (by decide) rfl (fun ls hl => ?_)
  refine lv_iconst (v := nI 0) S.1 S.2.1 dX12_lucky_7 (by decide) ?_
  refine lv_istore (lv' := [(5, .int (nI 0)), (3, .long (lN 0)), (0, .ref (ad 55)), (1, .long (lN L))]) S.1 S.2.1 dX12_lucky_8 hl (by decide) rfl (fun ls hl => ?_)
  have L10 : ∀ (k : Nat) (q0 : Nat), 2 ^ n - q0 = k → (q0 ≤ 2 ^ n) → ∀ (w_ : va_W), jU w w_ [55] → (w_[55]? = some (ad 55, .inr (11, [.int (nI 0), .ref (ad 56), .ref (ad 57), .ref (ad 58), .ref (ad 59), .ref (ad 60), .ref (ad 61), .ref (ad 62), .ref (ad 63), .ref (ad 64), .ref (ad 65), .int (nI n), .int (nI nc), .ref (ad 66), .ref (ad 71), .ref (ad 72), .ref (ad 73)]))) → ∀ (H : Heap) (locs : List Loc) (ls : Array Slot), jW D A s.heap w_ H locs → lv_has ls 7 [(0, .ref (ad 55)), (1, .long (lN L)), (3, .long (lN (sumI (fun d => mdc sd se nc cs lv (revN n d)) (fun d => prodN wf wt (revN n d) n) q0))), (5, .int (nI q0))] → W p l e (jR 4 0 0) s m args below meth c H locs 0 0 Q (F0 m 10 ls []) := by
    intro k
    induction k using Nat.strongRecOn with
    | ind k ih10 =>
    intro q0 hk hi w_ hU gO_ H locs ls hW hl
    subst hk
    have hs2 := hst q0 (by omega)
    refine lv_lload_n S.1 S.2.1 dX12_lucky_10 rfl (lv_at hl 1 rfl) ?_
    refine lv_lconst (v := lN 0) S.1 S.2.1 dX12_lucky_11 (by decide) ?_
    refine jnl_lt (tgt := 73) S (by omega) (by decide) dX12_lucky_12 dX12_lucky_13 (by decide) (fun c_13 => ?_) (fun c_13 => ?_)
    · first | exact absurd c_13 (by omega) | omega
    · refine lv_iload S.1 S.2.1 dX12_lucky_16 (lv_at hl 3 rfl) ?_
      refine lv_aload_n S.1 S.2.1 dX12_lucky_18 rfl (lv_at hl 0 rfl) ?_
      refine j_callV (k := 55) (ci := 11) (q := (RX12, TX12, 17)) (As := []) (rest := [.int (nI q0)]) S hK hA hW (c_X12_all l D cy ad 0 n nc gO_   (by omega)) (jgo wm_X12_98) yk_X12_all gO_ rfl rfl ⟨⟨rfl, rfl⟩, by decide, by decide⟩ rfl hl.1 rfl (Nat.le_of_ble_eq_true rfl) dX12_lucky_19 ⟨Nat.le_of_ble_eq_true rfl, Nat.le_of_ble_eq_true rfl⟩ (fun v u H locs hp hW => ?_)
      obtain ⟨rfl, rfl⟩ := hp
      refine W.eq (g2 := F0 m 22 ls [.int (nI (2 ^ n)), .int (nI q0)]) rfl ?_
      refine jn_cmp_ge (tgt := 73) S (by omega) (by omega) dX12_lucky_22 (by decide) (fun c_22 => ?_) (fun c_22 => ?_)
      · refine lv_aload_n S.1 S.2.1 dX12_lucky_73 rfl (lv_at hl 0 rfl) ?_
        refine lv_iconst (v := nI 1) S.1 S.2.1 dX12_lucky_74 (by decide) ?_
        refine j_callV (k := 55) (ci := 11) (q := (RX12, TX12, 17)) (As := [.int (nI 1)]) (rest := []) S hK hA hW (c_X12_fails l D cy ad 0 n nc 1 gO_   ) (jgo wm_X12_71) yk_X12_fails gO_ rfl rfl ⟨⟨rfl, rfl⟩, by decide, by decide⟩ rfl hl.1 rfl (Nat.le_of_ble_eq_true rfl) dX12_lucky_75 ⟨Nat.le_of_ble_eq_true rfl, Nat.le_of_ble_eq_true rfl⟩ (fun v w_ H locs hp hW => ?_)
        obtain ⟨rfl, hU1, hN1⟩ := hp
        have hU := hU.then hU1 (by decide)
        have gO_ : w_[55]? = some (ad 55, .inr (11, [.int (nI 1), .ref (ad 56), .ref (ad 57), .ref (ad 58), .ref (ad 59), .ref (ad 60), .ref (ad 61), .ref (ad 62), .ref (ad 63), .ref (ad 64), .ref (ad 65), .int (nI n), .int (nI nc), .ref (ad 66), .ref (ad 71), .ref (ad 72), .ref (ad 73)])) := hN1
        clear hU1 hN1
        refine W.eq (g2 := F0 m 78 ls [.int (nI 0)]) rfl ?_
        subst hQ
        exact j_iret (u := w_) S hr (rfl) hK hW dX12_lucky_78 ⟨by decide, by decide⟩ (⟨rfl, hU, gO_⟩)
      · refine lv_iload S.1 S.2.1 dX12_lucky_25 (lv_at hl 3 rfl) ?_
        refine lv_aload_n S.1 S.2.1 dX12_lucky_27 rfl (lv_at hl 0 rfl) ?_
        refine j_get (ci := 11) (C := RX12) (T := TX12) (N := 17) (v := .int (nI n)) S (fun w h => List.mem_cons_of_mem _ (inG12 w h)) hK hW gO_ rfl 11 (by decide) (List.mem_cons_of_mem _ wfl_X12_64) (fun _ h9 => h9) rfl dX12_lucky_28 ?_
        refine j_callS (As := [.int (nI q0), .int (nI n)]) (rest := []) S hK hA hW (c_X12_assignmentAt l D cy q0 n    (hn) (by omega)) (jgo wm_X12_137) yk_X12_assignmentAt ⟨⟨rfl, rfl⟩, by decide, by decide⟩ rfl hl.1 rfl (Nat.le_of_ble_eq_true rfl) dX12_lucky_31 ⟨Nat.le_of_ble_eq_true rfl, Nat.le_of_ble_eq_true rfl⟩ (fun v u H locs hp hW => ?_)
        obtain ⟨rfl, rfl⟩ := hp
        refine W.eq (g2 := F0 m 34 ls [.int (nI (revN n q0))]) rfl ?_
        refine lv_istore (lv' := [(6, .int (nI (revN n q0))), (0, .ref (ad 55)), (1, .long (lN L)), (3, .long (lN (sumI (fun d => mdc sd se nc cs lv (revN n d)) (fun d => prodN wf wt (revN n d) n) q0))), (5, .int (nI q0))]) S.1 S.2.1 dX12_lucky_34 hl (by decide) rfl (fun ls hl => ?_)
        refine lv_lload_n S.1 S.2.1 dX12_lucky_36 rfl (lv_at hl 3 rfl) ?_
        refine lv_aload_n S.1 S.2.1 dX12_lucky_37 rfl (lv_at hl 1 rfl) ?_
        refine lv_iload S.1 S.2.1 dX12_lucky_38 (lv_at hl 0 rfl) ?_
        refine j_callV (k := 55) (ci := 11) (q := (RX12, TX12, 17)) (As := [.int (nI (revN n q0))]) (rest := [.long (lN (sumI (fun d => mdc sd se nc cs lv (revN n d)) (fun d => prodN wf wt (revN n d) n) q0))]) S hK hA hW (c_X12_isModel l D cy ad 0 n nc sd se lv cs (revN n q0) gO_ (hU.get gE (by decide)) (hU.get gP (by decide)) (hU.get gC0 (by decide)) (hU.get gC1 (by decide)) (hU.get gC2 (by decide)) (hU.get gC3 (by decide)) (hU.get gC4 (by decide))   (by omega) (hsd) (hse) (by omega) (hcs) (revN_lt10 hn)) (jgo wm_X12_102) yk_X12_isModel gO_ rfl rfl ⟨⟨rfl, rfl⟩, by decide, by decide⟩ rfl hl.1 rfl (Nat.le_of_ble_eq_true rfl) dX12_lucky_40 ⟨Nat.le_of_ble_eq_true rfl, Nat.le_of_ble_eq_true rfl⟩ (fun v u H locs hp hW => ?_)
        obtain ⟨rfl, rfl⟩ := hp
        refine W.eq (g2 := F0 m 43 ls [.int (bI (mdc sd se nc cs lv (revN n q0))), .long (lN (sumI (fun d => mdc sd se nc cs lv (revN n d)) (fun d => prodN wf wt (revN n d) n) q0))]) rfl ?_
        refine jb_if_eq (tgt := 55) S dX12_lucky_43 (by decide) (fun c_43 => ?_) (fun c_43 => ?_)
        · refine lv_lconst (v := lN 0) S.1 S.2.1 dX12_lucky_55 (by decide) ?_
          have hs1 := hst (q0 + 1) (by omega)
          have hs0 := hpb (revN n q0)
          have hs2 := hst q0 (by omega)
          refine jnl_add S dX12_lucky_56 ?_
          refine lv_topl_to (y := lN (sumI (fun d => mdc sd se nc cs lv (revN n d)) (fun d => prodN wf wt (revN n d) n) (q0 + 1))) (congrArg lN (by first | exact (sumI_t (X := (fun d => mdc sd se nc cs lv (revN n d))) (f := (fun d => prodN wf wt (revN n d) n)) c_43).symm | exact (sumI_f (X := (fun d => mdc sd se nc cs lv (revN n d))) (f := (fun d => prodN wf wt (revN n d) n)) c_43).symm)) ?_
          refine lv_lstore_n (lv' := [(3, .long (lN (sumI (fun d => mdc sd se nc cs lv (revN n d)) (fun d => prodN wf wt (revN n d) n) (q0 + 1)))), (6, .int (nI (revN n q0))), (0, .ref (ad 55)), (1, .long (lN L)), (5, .int (nI q0))]) S.1 S.2.1 dX12_lucky_57 rfl hl (by decide) rfl (fun ls hl => ?_)
          refine lv_lload_n S.1 S.2.1 dX12_lucky_58 rfl (lv_at hl 0 rfl) ?_
          refine lv_lload_n S.1 S.2.1 dX12_lucky_59 rfl (lv_at hl 3 rfl) ?_
          refine jnl_le (tgt := 67) S (by omega) (by omega) dX12_lucky_60 dX12_lucky_61 (by decide) (fun c_61 => ?_) (fun c_61 => ?_)
          · refine lv_iinc (v := nI (q0 + 1)) (lv' := [(5, .int (nI (q0 + 1))), (3, .long (lN (sumI (fun d => mdc sd se nc cs lv (revN n d)) (fun d => prodN wf wt (revN n d) n) (q0 + 1)))), (6, .int (nI (revN n q0))), (0, .ref (ad 55)), (1, .long (lN L))]) S.1 S.2.1 dX12_lucky_67 hl (k := 4) rfl (nI_add _ 1) (by decide) rfl (fun ls hl => ?_)
            refine lv_goto (tgt := 10) S.1 S.2.1 dX12_lucky_70 (by decide) ?_
            exact ih10 _ (by omega) (q0 + 1) rfl (by omega) w_ hU gO_ H locs ls hW (lv_sub hl [3, 4, 1, 0] rfl)
          · exact absurd (sumI_up (X := (fun d => mdc sd se nc cs lv (revN n d))) (f := (fun d => prodN wf wt (revN n d) n)) (show q0 + 1 ≤ 2 ^ n by omega)) (by omega)
        · refine lv_aload_n S.1 S.2.1 dX12_lucky_46 rfl (lv_at hl 1 rfl) ?_
          refine lv_iload S.1 S.2.1 dX12_lucky_47 (lv_at hl 0 rfl) ?_
          refine j_callV (k := 55) (ci := 11) (q := (RX12, TX12, 17)) (As := [.int (nI (revN n q0))]) (rest := [.long (lN (sumI (fun d => mdc sd se nc cs lv (revN n d)) (fun d => prodN wf wt (revN n d) n) q0))]) S hK hA hW (c_X12_weigh l D cy ad 0 n nc wf wt (revN n q0) gO_ (hU.get gF (by decide)) (hU.get gT (by decide))   (by omega) (Nat.lt_of_lt_of_le (revN_lt10 hn) hp2) (hwf) (hwt)) (jgo wm_X12_109) yk_X12_weigh gO_ rfl rfl ⟨⟨rfl, rfl⟩, by decide, by decide⟩ rfl hl.1 rfl (Nat.le_of_ble_eq_true rfl) dX12_lucky_49 ⟨Nat.le_of_ble_eq_true rfl, Nat.le_of_ble_eq_true rfl⟩ (fun v u H locs hp hW => ?_)
          obtain ⟨rfl, rfl⟩ := hp
          refine W.eq (g2 := F0 m 52 ls [.long (lN (prodN wf wt (revN n q0) n)), .long (lN (sumI (fun d => mdc sd se nc cs lv (revN n d)) (fun d => prodN wf wt (revN n d) n) q0))]) rfl ?_
          refine lv_goto (tgt := 56) S.1 S.2.1 dX12_lucky_52 (by decide) ?_
          have hs1 := hst (q0 + 1) (by omega)
          have hs0 := hpb (revN n q0)
          have hs2 := hst q0 (by omega)
          refine jnl_add S dX12_lucky_56 ?_
          refine lv_topl_to (y := lN (sumI (fun d => mdc sd se nc cs lv (revN n d)) (fun d => prodN wf wt (revN n d) n) (q0 + 1))) (congrArg lN (by first | exact (sumI_t (X := (fun d => mdc sd se nc cs lv (revN n d))) (f := (fun d => prodN wf wt (revN n d) n)) c_43).symm | exact (sumI_f (X := (fun d => mdc sd se nc cs lv (revN n d))) (f := (fun d => prodN wf wt (revN n d) n)) c_43).symm)) ?_
          refine lv_lstore_n (lv' := [(3, .long (lN (sumI (fun d => mdc sd se nc cs lv (revN n d)) (fun d => prodN wf wt (revN n d) n) (q0 + 1)))), (6, .int (nI (revN n q0))), (0, .ref (ad 55)), (1, .long (lN L)), (5, .int (nI q0))]) S.1 S.2.1 dX12_lucky_57 rfl hl (by decide) rfl (fun ls hl => ?_)
          refine lv_lload_n S.1 S.2.1 dX12_lucky_58 rfl (lv_at hl 0 rfl) ?_
          refine lv_lload_n S.1 S.2.1 dX12_lucky_59 rfl (lv_at hl 3 rfl) ?_
          refine jnl_le (tgt := 67) S (by omega) (by omega) dX12_lucky_60 dX12_lucky_61 (by decide) (fun c_61 => ?_) (fun c_61 => ?_)
          · refine lv_iinc (v := nI (q0 + 1)) (lv' := [(5, .int (nI (q0 + 1))), (3, .long (lN (sumI (fun d => mdc sd se nc cs lv (revN n d)) (fun d => prodN wf wt (revN n d) n) (q0 + 1)))), (6, .int (nI (revN n q0))), (0, .ref (ad 55)), (1, .long (lN L))]) S.1 S.2.1 dX12_lucky_67 hl (k := 4) rfl (nI_add _ 1) (by decide) rfl (fun ls hl => ?_)
            refine lv_goto (tgt := 10) S.1 S.2.1 dX12_lucky_70 (by decide) ?_
            exact ih10 _ (by omega) (q0 + 1) rfl (by omega) w_ hU gO_ H locs ls hW (lv_sub hl [3, 4, 1, 0] rfl)
          · exact absurd (sumI_up (X := (fun d => mdc sd se nc cs lv (revN n d))) (f := (fun d => prodN wf wt (revN n d) n)) (show q0 + 1 ≤ 2 ^ n by omega)) (by omega)
  exact L10 _ 0 rfl (Nat.zero_le _) w_ hU gO_ H locs ls hW (lv_sub hl [2, 3, 1, 0] rfl)
/-- hasNoPart -/
theorem c_X12_hasNoPart_ok (l : Launch) (D : va_G) (cy : Nat → ClassId) {w : va_W} (ad : Nat → Nat) (th n nc : Nat) (sd se x : Nat) (gO : w[55]? = some (ad 55, .inr (11, [.int (nI th), .ref (ad 56), .ref (ad 57), .ref (ad 58), .ref (ad 59), .ref (ad 60), .ref (ad 61), .ref (ad 62), .ref (ad 63), .ref (ad 64), .ref (ad 65), .int (nI n), .int (nI nc), .ref (ad 66), .ref (ad 71), .ref (ad 72), .ref (ad 73)]))) (gE : w[58]? = some (ad 58, .inl (cy 0, 10, .inl (evA n sd se)))) (hn : n ≤ 10) (hx : x < n) (hsv : sd.testBit x = false) : jM l yX12_hasNoPart (jws yX12_hasNoPart cX12_hasNoPart 2 (some .boolean)) (jR 2 0 0) D cy w [.ref (ad 55), .int (nI x)] 0 0 (fun vv uu => vv = some (.int (bI false)) ∧ jU w uu [55] ∧ uu[55]? = some (ad 55, .inr (11, [.int (nI 0), .ref (ad 56), .ref (ad 57), .ref (ad 58), .ref (ad 59), .ref (ad 60), .ref (ad 61), .ref (ad 62), .ref (ad 63), .ref (ad 64), .ref (ad 65), .int (nI n), .int (nI nc), .ref (ad 66), .ref (ad 71), .ref (ad 72), .ref (ad 73)]))) := by
  refine j_of (by decide) rfl (Nat.le_of_ble_eq_true rfl) ?_
  intro p e s m args below meth c A ls Q hQ S hr hK hA H locs hW hl
  have hl : lv_has ls 2 [(0, .ref (ad 55)), (1, .int (nI x))] := hl
  refine lv_aload_n S.1 S.2.1 dX12_hasNoPart_0 rfl (lv_at hl 0 rfl) ?_
  refine lv_aload_n S.1 S.2.1 dX12_hasNoPart_1 rfl (lv_at hl 0 rfl) ?_
  refine lv_iload_n S.1 S.2.1 dX12_hasNoPart_2 rfl (lv_at hl 1 rfl) ?_
  refine j_callV (k := 55) (ci := 11) (q := (RX12, TX12, 17)) (As := [.int (nI x)]) (rest := [.ref (ad 55)]) S hK hA hW (c_X12_isVariable l D cy ad th n nc (nI x) gO   (by omega)) (jgo wm_X12_75) yk_X12_isVariable gO rfl rfl ⟨⟨rfl, rfl⟩, by decide, by decide⟩ rfl hl.1 rfl (Nat.le_of_ble_eq_true rfl) dX12_hasNoPart_3 ⟨Nat.le_of_ble_eq_true rfl, Nat.le_of_ble_eq_true rfl⟩ (fun v u H locs hp hW => ?_)
  obtain ⟨rfl, rfl⟩ := hp
  refine W.eq (g2 := F0 m 6 ls [.int (bI (vB (nI x) n)), .ref (ad 55)]) rfl ?_
  refine jb_if_ne (tgt := 13) S dX12_hasNoPart_6 (by decide) (fun c_6 => ?_) (fun c_6 => ?_)
  · refine lv_aload_n S.1 S.2.1 dX12_hasNoPart_13 rfl (lv_at hl 0 rfl) ?_
    refine j_get (ci := 11) (C := RX12) (T := TX12) (N := 17) (v := .ref (ad 58)) S (fun w h => List.mem_cons_of_mem _ (inG12 w h)) hK hW gO rfl 3 (by decide) (List.mem_cons_of_mem _ wfl_X12_24) (fun _ h9 => h9) rfl dX12_hasNoPart_14 ?_
    refine lv_iload_n S.1 S.2.1 dX12_hasNoPart_17 rfl (lv_at hl 1 rfl) ?_
    refine j_iald (x := (-1)) S hK hW gE (vp_in_nI (by omega) (by omega)) (nI_clamp (by omega)) (by rw [evA_at hx, evI, if_neg (by rw [hsv]; decide)]) dX12_hasNoPart_18 ?_
    refine lv_if_ge (tgt := 26) S.1 S.2.1 dX12_hasNoPart_19 (by decide) (fun c_19 => ?_) (fun c_19 => ?_)
    · first | exact absurd c_19 (by decide) | exact absurd (by decide) c_19
    · refine lv_iconst (v := nI 0) S.1 S.2.1 dX12_hasNoPart_22 (by decide) ?_
      refine lv_goto (tgt := 27) S.1 S.2.1 dX12_hasNoPart_23 (by decide) ?_
      refine j_put (ci := 11) (C := RX12) (T := TX12) (N := 17) (ty := .int) S (fun w h => List.mem_cons_of_mem _ (inG12 w h)) tyX12 tyX12_ok nmX12 hK hW gO rfl 0 (by decide) (List.mem_cons_of_mem _ wfl_X12_1) (fun _ h9 => h9) rfl (by decide +kernel) (rfl) (rfl) (Nat.le_of_ble_eq_true rfl) dX12_hasNoPart_27 (fun H locs w_ hU1 hN1 hW => ?_)
      have hU : jU w w_ [55] := jU.mono hU1 (by decide)
      have gO_ : w_[55]? = some (ad 55, .inr (11, [.int (nI 0), .ref (ad 56), .ref (ad 57), .ref (ad 58), .ref (ad 59), .ref (ad 60), .ref (ad 61), .ref (ad 62), .ref (ad 63), .ref (ad 64), .ref (ad 65), .int (nI n), .int (nI nc), .ref (ad 66), .ref (ad 71), .ref (ad 72), .ref (ad 73)])) := hN1
      clear hU1 hN1
      refine lv_aload_n S.1 S.2.1 dX12_hasNoPart_30 rfl (lv_at hl 0 rfl) ?_
      refine j_get (ci := 11) (C := RX12) (T := TX12) (N := 17) (v := .int (nI 0)) S (fun w h => List.mem_cons_of_mem _ (inG12 w h)) hK hW gO_ rfl 0 (by decide) (List.mem_cons_of_mem _ wfl_X12_1) (fun _ h9 => h9) rfl dX12_hasNoPart_31 ?_
      refine jn_if_le (tgt := 41) S (by omega) dX12_hasNoPart_34 (by decide) (fun c_34 => ?_) (fun c_34 => ?_)
      · refine lv_iconst (v := nI 0) S.1 S.2.1 dX12_hasNoPart_41 (by decide) ?_
        subst hQ
        exact j_iret (u := w_) S hr (rfl) hK hW dX12_hasNoPart_42 ⟨by decide, by decide⟩ (⟨rfl, hU, gO_⟩)
      · first | exact absurd (show 0 < 0 from c_34) (by decide) | exact absurd c_34 (by decide)
  · exact absurd (vB_nI hx (by omega)) (by rw [c_6]; decide)
/-- hasNoPart, no such variable -/
theorem c_X12_hasNoPart_b1 (l : Launch) (D : va_G) (cy : Nat → ClassId) {w : va_W} (ad : Nat → Nat) (th n nc : Nat) (v : Int32) (gO : w[55]? = some (ad 55, .inr (11, [.int (nI th), .ref (ad 56), .ref (ad 57), .ref (ad 58), .ref (ad 59), .ref (ad 60), .ref (ad 61), .ref (ad 62), .ref (ad 63), .ref (ad 64), .ref (ad 65), .int (nI n), .int (nI nc), .ref (ad 66), .ref (ad 71), .ref (ad 72), .ref (ad 73)]))) (hn : n ≤ 10) (hv : vB v n = false) : jM l yX12_hasNoPart (jws yX12_hasNoPart cX12_hasNoPart 2 (some .boolean)) (jR 2 0 0) D cy w [.ref (ad 55), .int v] 0 0 (fun vv uu => vv = some (.int (bI true)) ∧ jU w uu [55] ∧ uu[55]? = some (ad 55, .inr (11, [.int (nI 1), .ref (ad 56), .ref (ad 57), .ref (ad 58), .ref (ad 59), .ref (ad 60), .ref (ad 61), .ref (ad 62), .ref (ad 63), .ref (ad 64), .ref (ad 65), .int (nI n), .int (nI nc), .ref (ad 66), .ref (ad 71), .ref (ad 72), .ref (ad 73)]))) := by
  refine j_of (by decide) rfl (Nat.le_of_ble_eq_true rfl) ?_
  intro p e s m args below meth c A ls Q hQ S hr hK hA H locs hW hl
  have hl : lv_has ls 2 [(0, .ref (ad 55)), (1, .int v)] := hl
  refine lv_aload_n S.1 S.2.1 dX12_hasNoPart_0 rfl (lv_at hl 0 rfl) ?_
  refine lv_aload_n S.1 S.2.1 dX12_hasNoPart_1 rfl (lv_at hl 0 rfl) ?_
  refine lv_iload_n S.1 S.2.1 dX12_hasNoPart_2 rfl (lv_at hl 1 rfl) ?_
  refine j_callV (k := 55) (ci := 11) (q := (RX12, TX12, 17)) (As := [.int v]) (rest := [.ref (ad 55)]) S hK hA hW (c_X12_isVariable l D cy ad th n nc v gO   (by omega)) (jgo wm_X12_75) yk_X12_isVariable gO rfl rfl ⟨⟨rfl, rfl⟩, by decide, by decide⟩ rfl hl.1 rfl (Nat.le_of_ble_eq_true rfl) dX12_hasNoPart_3 ⟨Nat.le_of_ble_eq_true rfl, Nat.le_of_ble_eq_true rfl⟩ (fun v u H locs hp hW => ?_)
  obtain ⟨rfl, rfl⟩ := hp
  refine W.eq (g2 := F0 m 6 ls [.int (bI (vB v n)), .ref (ad 55)]) rfl ?_
  refine jb_if_ne (tgt := 13) S dX12_hasNoPart_6 (by decide) (fun c_6 => ?_) (fun c_6 => ?_)
  · exact absurd c_6 (by rw [hv]; decide)
  · refine lv_iconst (v := nI 1) S.1 S.2.1 dX12_hasNoPart_9 (by decide) ?_
    refine lv_goto (tgt := 27) S.1 S.2.1 dX12_hasNoPart_10 (by decide) ?_
    refine j_put (ci := 11) (C := RX12) (T := TX12) (N := 17) (ty := .int) S (fun w h => List.mem_cons_of_mem _ (inG12 w h)) tyX12 tyX12_ok nmX12 hK hW gO rfl 0 (by decide) (List.mem_cons_of_mem _ wfl_X12_1) (fun _ h9 => h9) rfl (by decide +kernel) (rfl) (rfl) (Nat.le_of_ble_eq_true rfl) dX12_hasNoPart_27 (fun H locs w_ hU1 hN1 hW => ?_)
    have hU : jU w w_ [55] := jU.mono hU1 (by decide)
    have gO_ : w_[55]? = some (ad 55, .inr (11, [.int (nI 1), .ref (ad 56), .ref (ad 57), .ref (ad 58), .ref (ad 59), .ref (ad 60), .ref (ad 61), .ref (ad 62), .ref (ad 63), .ref (ad 64), .ref (ad 65), .int (nI n), .int (nI nc), .ref (ad 66), .ref (ad 71), .ref (ad 72), .ref (ad 73)])) := hN1
    clear hU1 hN1
    refine lv_aload_n S.1 S.2.1 dX12_hasNoPart_30 rfl (lv_at hl 0 rfl) ?_
    refine j_get (ci := 11) (C := RX12) (T := TX12) (N := 17) (v := .int (nI 1)) S (fun w h => List.mem_cons_of_mem _ (inG12 w h)) hK hW gO_ rfl 0 (by decide) (List.mem_cons_of_mem _ wfl_X12_1) (fun _ h9 => h9) rfl dX12_hasNoPart_31 ?_
    refine jn_if_le (tgt := 41) S (by omega) dX12_hasNoPart_34 (by decide) (fun c_34 => ?_) (fun c_34 => ?_)
    · first | exact absurd (show 1 ≤ 0 from c_34) (by decide) | exact absurd c_34 (by decide)
    · refine lv_iconst (v := nI 1) S.1 S.2.1 dX12_hasNoPart_37 (by decide) ?_
      refine lv_goto (tgt := 42) S.1 S.2.1 dX12_hasNoPart_38 (by decide) ?_
      subst hQ
      exact j_iret (u := w_) S hr (rfl) hK hW dX12_hasNoPart_42 ⟨by decide, by decide⟩ (⟨rfl, hU, gO_⟩)
/-- hasNoPart, settled -/
theorem c_X12_hasNoPart_b2 (l : Launch) (D : va_G) (cy : Nat → ClassId) {w : va_W} (ad : Nat → Nat) (th n nc : Nat) (sd se x : Nat) (gO : w[55]? = some (ad 55, .inr (11, [.int (nI th), .ref (ad 56), .ref (ad 57), .ref (ad 58), .ref (ad 59), .ref (ad 60), .ref (ad 61), .ref (ad 62), .ref (ad 63), .ref (ad 64), .ref (ad 65), .int (nI n), .int (nI nc), .ref (ad 66), .ref (ad 71), .ref (ad 72), .ref (ad 73)]))) (gE : w[58]? = some (ad 58, .inl (cy 0, 10, .inl (evA n sd se)))) (hn : n ≤ 10) (hx : x < n) (hsv : sd.testBit x = true) : jM l yX12_hasNoPart (jws yX12_hasNoPart cX12_hasNoPart 2 (some .boolean)) (jR 2 0 0) D cy w [.ref (ad 55), .int (nI x)] 0 0 (fun vv uu => vv = some (.int (bI true)) ∧ jU w uu [55] ∧ uu[55]? = some (ad 55, .inr (11, [.int (nI 2), .ref (ad 56), .ref (ad 57), .ref (ad 58), .ref (ad 59), .ref (ad 60), .ref (ad 61), .ref (ad 62), .ref (ad 63), .ref (ad 64), .ref (ad 65), .int (nI n), .int (nI nc), .ref (ad 66), .ref (ad 71), .ref (ad 72), .ref (ad 73)]))) := by
  have hb1 := b01_lt (se.testBit x)
  refine j_of (by decide) rfl (Nat.le_of_ble_eq_true rfl) ?_
  intro p e s m args below meth c A ls Q hQ S hr hK hA H locs hW hl
  have hl : lv_has ls 2 [(0, .ref (ad 55)), (1, .int (nI x))] := hl
  refine lv_aload_n S.1 S.2.1 dX12_hasNoPart_0 rfl (lv_at hl 0 rfl) ?_
  refine lv_aload_n S.1 S.2.1 dX12_hasNoPart_1 rfl (lv_at hl 0 rfl) ?_
  refine lv_iload_n S.1 S.2.1 dX12_hasNoPart_2 rfl (lv_at hl 1 rfl) ?_
  refine j_callV (k := 55) (ci := 11) (q := (RX12, TX12, 17)) (As := [.int (nI x)]) (rest := [.ref (ad 55)]) S hK hA hW (c_X12_isVariable l D cy ad th n nc (nI x) gO   (by omega)) (jgo wm_X12_75) yk_X12_isVariable gO rfl rfl ⟨⟨rfl, rfl⟩, by decide, by decide⟩ rfl hl.1 rfl (Nat.le_of_ble_eq_true rfl) dX12_hasNoPart_3 ⟨Nat.le_of_ble_eq_true rfl, Nat.le_of_ble_eq_true rfl⟩ (fun v u H locs hp hW => ?_)
  obtain ⟨rfl, rfl⟩ := hp
  refine W.eq (g2 := F0 m 6 ls [.int (bI (vB (nI x) n)), .ref (ad 55)]) rfl ?_
  refine jb_if_ne (tgt := 13) S dX12_hasNoPart_6 (by decide) (fun c_6 => ?_) (fun c_6 => ?_)
  · refine lv_aload_n S.1 S.2.1 dX12_hasNoPart_13 rfl (lv_at hl 0 rfl) ?_
    refine j_get (ci := 11) (C := RX12) (T := TX12) (N := 17) (v := .ref (ad 58)) S (fun w h => List.mem_cons_of_mem _ (inG12 w h)) hK hW gO rfl 3 (by decide) (List.mem_cons_of_mem _ wfl_X12_24) (fun _ h9 => h9) rfl dX12_hasNoPart_14 ?_
    refine lv_iload_n S.1 S.2.1 dX12_hasNoPart_17 rfl (lv_at hl 1 rfl) ?_
    refine j_iald (x := nI (b01 (se.testBit x))) S hK hW gE (vp_in_nI (by omega) (by omega)) (nI_clamp (by omega)) (by rw [evA_at hx, evI, if_pos hsv, bI_b01]) dX12_hasNoPart_18 ?_
    refine jn_if_ge (tgt := 26) S (by omega) dX12_hasNoPart_19 (by decide) ?_
    refine lv_iconst (v := nI 2) S.1 S.2.1 dX12_hasNoPart_26 (by decide) ?_
    refine j_put (ci := 11) (C := RX12) (T := TX12) (N := 17) (ty := .int) S (fun w h => List.mem_cons_of_mem _ (inG12 w h)) tyX12 tyX12_ok nmX12 hK hW gO rfl 0 (by decide) (List.mem_cons_of_mem _ wfl_X12_1) (fun _ h9 => h9) rfl (by decide +kernel) (rfl) (rfl) (Nat.le_of_ble_eq_true rfl) dX12_hasNoPart_27 (fun H locs w_ hU1 hN1 hW => ?_)
    have hU : jU w w_ [55] := jU.mono hU1 (by decide)
    have gO_ : w_[55]? = some (ad 55, .inr (11, [.int (nI 2), .ref (ad 56), .ref (ad 57), .ref (ad 58), .ref (ad 59), .ref (ad 60), .ref (ad 61), .ref (ad 62), .ref (ad 63), .ref (ad 64), .ref (ad 65), .int (nI n), .int (nI nc), .ref (ad 66), .ref (ad 71), .ref (ad 72), .ref (ad 73)])) := hN1
    clear hU1 hN1
    refine lv_aload_n S.1 S.2.1 dX12_hasNoPart_30 rfl (lv_at hl 0 rfl) ?_
    refine j_get (ci := 11) (C := RX12) (T := TX12) (N := 17) (v := .int (nI 2)) S (fun w h => List.mem_cons_of_mem _ (inG12 w h)) hK hW gO_ rfl 0 (by decide) (List.mem_cons_of_mem _ wfl_X12_1) (fun _ h9 => h9) rfl dX12_hasNoPart_31 ?_
    refine jn_if_le (tgt := 41) S (by omega) dX12_hasNoPart_34 (by decide) (fun c_34 => ?_) (fun c_34 => ?_)
    · first | exact absurd (show 2 ≤ 0 from c_34) (by decide) | exact absurd c_34 (by decide)
    · refine lv_iconst (v := nI 1) S.1 S.2.1 dX12_hasNoPart_37 (by decide) ?_
      refine lv_goto (tgt := 42) S.1 S.2.1 dX12_hasNoPart_38 (by decide) ?_
      subst hQ
      exact j_iret (u := w_) S hr (rfl) hK hW dX12_hasNoPart_42 ⟨by decide, by decide⟩ (⟨rfl, hU, gO_⟩)
  · exact absurd (vB_nI hx (by omega)) (by rw [c_6]; decide)
/-- parts -/
theorem c_X12_parts (l : Launch) (D : va_G) (cy : Nat → ClassId) {w : va_W} (ad : Nat → Nat) (th n nc : Nat) (sd se lv : Nat) (cs : Nat → CN) (gO : w[55]? = some (ad 55, .inr (11, [.int (nI th), .ref (ad 56), .ref (ad 57), .ref (ad 58), .ref (ad 59), .ref (ad 60), .ref (ad 61), .ref (ad 62), .ref (ad 63), .ref (ad 64), .ref (ad 65), .int (nI n), .int (nI nc), .ref (ad 66), .ref (ad 71), .ref (ad 72), .ref (ad 73)]))) (gE : w[58]? = some (ad 58, .inl (cy 0, 10, .inl (evA n sd se)))) (gP : w[65]? = some (ad 65, .inl (cy 3, 20, .inl (bf (dpB nc lv))))) (gC0 : w[60]? = some (ad 60, .inl (cy 2, 20, .inl (nf (ckd cs))))) (gC1 : w[61]? = some (ad 61, .inl (cy 0, 20, .inl (nf (cst cs))))) (gC2 : w[62]? = some (ad 62, .inl (cy 0, 20, .inl (nf (cot cs))))) (gC3 : w[63]? = some (ad 63, .inl (cy 0, 20, .inl (nf (cle cs))))) (gC4 : w[64]? = some (ad 64, .inl (cy 0, 20, .inl (nf (cgr cs))))) (hn : n ≤ 10) (hnc : nc ≤ 20) (hcs : csI nc cs) : jM l yX12_parts (jws yX12_parts cX12_parts 3 (some .int)) (jR 4 0 0) D cy w [.ref (ad 55)] 0 0 (fun vv uu => vv = some (.int (nI (cnt (fun v => !sd.testBit v && decide (lowN (itP nc cs lv (nAnd (2 ^ n - 1) sd) v 10) n = v)) n))) ∧ jU w uu [55] ∧ uu[55]? = some (ad 55, .inr (11, [.int (nI 0), .ref (ad 56), .ref (ad 57), .ref (ad 58), .ref (ad 59), .ref (ad 60), .ref (ad 61), .ref (ad 62), .ref (ad 63), .ref (ad 64), .ref (ad 65), .int (nI n), .int (nI nc), .ref (ad 66), .ref (ad 71), .ref (ad 72), .ref (ad 73)]))) := by
  have hp2 := two_pow10 hn
  have hop : nAnd (2 ^ n - 1) sd < 1024 := nAnd_lt (n := 10) (by omega)
  refine j_of (by decide) rfl (Nat.le_of_ble_eq_true rfl) ?_
  intro p e s m args below meth c A ls Q hQ S hr hK hA H locs hW hl
  have hl : lv_has ls 3 [(0, .ref (ad 55))] := hl
  refine lv_aload_n S.1 S.2.1 dX12_parts_0 rfl (lv_at hl 0 rfl) ?_
  refine lv_iconst (v := nI 0) S.1 S.2.1 dX12_parts_1 (by decide) ?_
  refine j_put (ci := 11) (C := RX12) (T := TX12) (N := 17) (ty := .int) S (fun w h => List.mem_cons_of_mem _ (inG12 w h)) tyX12 tyX12_ok nmX12 hK hW gO rfl 0 (by decide) (List.mem_cons_of_mem _ wfl_X12_1) (fun _ h9 => h9) rfl (by decide +kernel) (rfl) (rfl) (Nat.le_of_ble_eq_true rfl) dX12_parts_2 (fun H locs w_ hU1 hN1 hW => ?_)
  have hU : jU w w_ [55] := jU.mono hU1 (by decide)
  have gO_ : w_[55]? = some (ad 55, .inr (11, [.int (nI 0), .ref (ad 56), .ref (ad 57), .ref (ad 58), .ref (ad 59), .ref (ad 60), .ref (ad 61), .ref (ad 62), .ref (ad 63), .ref (ad 64), .ref (ad 65), .int (nI n), .int (nI nc), .ref (ad 66), .ref (ad 71), .ref (ad 72), .ref (ad 73)])) := hN1
  clear hU1 hN1
  refine lv_iconst (v := nI 0) S.1 S.2.1 dX12_parts_5 (by decide) ?_
  refine lv_istore_n (lv' := [(1, .int (nI 0)), (0, .ref (ad 55))]) S.1 S.2.1 dX12_parts_6 rfl hl (by decide) rfl (fun ls hl => ?_)
  refine lv_iconst (v := nI 0) S.1 S.2.1 dX12_parts_7 (by decide) ?_
  refine lv_istore_n (lv' := [(2, .int (nI 0)), (1, .int (nI 0)), (0, .ref (ad 55))]) S.1 S.2.1 dX12_parts_8 rfl hl (by decide) rfl (fun ls hl => ?_)
  have L9 : ∀ (k : Nat) (v : Nat), n - v = k → (v ≤ n) → ∀ (w_ : va_W), jU w w_ [55] → (w_[55]? = some (ad 55, .inr (11, [.int (nI 0), .ref (ad 56), .ref (ad 57), .ref (ad 58), .ref (ad 59), .ref (ad 60), .ref (ad 61), .ref (ad 62), .ref (ad 63), .ref (ad 64), .ref (ad 65), .int (nI n), .int (nI nc), .ref (ad 66), .ref (ad 71), .ref (ad 72), .ref (ad 73)]))) → ∀ (H : Heap) (locs : List Loc) (ls : Array Slot), jW D A s.heap w_ H locs → lv_has ls 3 [(0, .ref (ad 55)), (1, .int (nI (cnt (fun v => !sd.testBit v && decide (lowN (itP nc cs lv (nAnd (2 ^ n - 1) sd) v 10) n = v)) v))), (2, .int (nI v))] → W p l e (jR 4 0 0) s m args below meth c H locs 0 0 Q (F0 m 9 ls []) := by
    intro k
    induction k using Nat.strongRecOn with
    | ind k ih9 =>
    intro v hk hv w_ hU gO_ H locs ls hW hl
    subst hk
    refine lv_iload_n S.1 S.2.1 dX12_parts_9 rfl (lv_at hl 2 rfl) ?_
    refine lv_aload_n S.1 S.2.1 dX12_parts_10 rfl (lv_at hl 0 rfl) ?_
    refine j_get (ci := 11) (C := RX12) (T := TX12) (N := 17) (v := .int (nI n)) S (fun w h => List.mem_cons_of_mem _ (inG12 w h)) hK hW gO_ rfl 11 (by decide) (List.mem_cons_of_mem _ wfl_X12_64) (fun _ h9 => h9) rfl dX12_parts_11 ?_
    refine jn_cmp_ge (tgt := 52) S (by omega) (by omega) dX12_parts_14 (by decide) (fun c_14 => ?_) (fun c_14 => ?_)
    · refine lv_iload_n S.1 S.2.1 dX12_parts_52 rfl (lv_at hl 1 rfl) ?_
      subst hQ
      refine j_iret (u := w_) S hr (rfl) hK hW dX12_parts_53 ⟨by decide, by decide⟩ ?_
      have ev : v = n := by omega
      subst ev
      exact ⟨rfl, hU, gO_⟩
    · rcases Bool.eq_false_or_eq_true (sd.testBit v) with hsv | hsv
      · refine lv_iload_n S.1 S.2.1 dX12_parts_17 rfl (lv_at hl 1 rfl) ?_
        refine lv_aload_n S.1 S.2.1 dX12_parts_18 rfl (lv_at hl 0 rfl) ?_
        refine j_get (ci := 11) (C := RX12) (T := TX12) (N := 17) (v := .ref (ad 58)) S (fun w h => List.mem_cons_of_mem _ (inG12 w h)) hK hW gO_ rfl 3 (by decide) (List.mem_cons_of_mem _ wfl_X12_24) (fun _ h9 => h9) rfl dX12_parts_19 ?_
        refine lv_iload_n S.1 S.2.1 dX12_parts_22 rfl (lv_at hl 2 rfl) ?_
        refine j_iald (x := nI (b01 (se.testBit v))) S hK hW (hU.get gE (by decide)) (vp_in_nI (by omega) (by omega)) (nI_clamp (by omega)) (by rw [evA_at (by omega), evI, if_pos hsv, bI_b01]) dX12_parts_23 ?_
        have hb1 := b01_lt (se.testBit v)
        refine jn_if_ge (tgt := 43) S (by omega) dX12_parts_24 (by decide) ?_
        refine lv_iconst (v := nI 0) S.1 S.2.1 dX12_parts_43 (by decide) ?_
        refine jn_add S dX12_parts_44 ?_
        refine lv_topi_to (y := nI (cnt (fun v => !sd.testBit v && decide (lowN (itP nc cs lv (nAnd (2 ^ n - 1) sd) v 10) n = v)) (v + 1))) (congrArg nI (by first | exact (cnt_s1 (by rw [hsv, decide_eq_true c_36]; rfl)).symm | exact (cnt_s0 (by rw [hsv, decide_eq_false c_36]; rfl)).symm | exact (cnt_s0 (by rw [hsv]; rfl)).symm)) ?_
        refine lv_istore_n (lv' := [(1, .int (nI (cnt (fun v => !sd.testBit v && decide (lowN (itP nc cs lv (nAnd (2 ^ n - 1) sd) v 10) n = v)) (v + 1)))), (0, .ref (ad 55)), (2, .int (nI v))]) S.1 S.2.1 dX12_parts_45 rfl hl (by decide) rfl (fun ls hl => ?_)
        refine lv_iinc (v := nI (v + 1)) (lv' := [(2, .int (nI (v + 1))), (1, .int (nI (cnt (fun v => !sd.testBit v && decide (lowN (itP nc cs lv (nAnd (2 ^ n - 1) sd) v 10) n = v)) (v + 1)))), (0, .ref (ad 55))]) S.1 S.2.1 dX12_parts_46 hl (k := 2) rfl (nI_add _ 1) (by decide) rfl (fun ls hl => ?_)
        refine lv_goto (tgt := 9) S.1 S.2.1 dX12_parts_49 (by decide) ?_
        exact ih9 _ (by omega) (v + 1) rfl (by omega) w_ hU gO_ H locs ls hW (lv_sub hl [2, 1, 0] rfl)
      · refine lv_iload_n S.1 S.2.1 dX12_parts_17 rfl (lv_at hl 1 rfl) ?_
        refine lv_aload_n S.1 S.2.1 dX12_parts_18 rfl (lv_at hl 0 rfl) ?_
        refine j_get (ci := 11) (C := RX12) (T := TX12) (N := 17) (v := .ref (ad 58)) S (fun w h => List.mem_cons_of_mem _ (inG12 w h)) hK hW gO_ rfl 3 (by decide) (List.mem_cons_of_mem _ wfl_X12_24) (fun _ h9 => h9) rfl dX12_parts_19 ?_
        refine lv_iload_n S.1 S.2.1 dX12_parts_22 rfl (lv_at hl 2 rfl) ?_
        refine j_iald (x := (-1)) S hK hW (hU.get gE (by decide)) (vp_in_nI (by omega) (by omega)) (nI_clamp (by omega)) (by rw [evA_at (by omega), evI, if_neg (by rw [hsv]; decide)]) dX12_parts_23 ?_
        have hb1 := b01_lt (se.testBit v)
        refine lv_if_ge (tgt := 43) S.1 S.2.1 dX12_parts_24 (by decide) (fun c_24 => ?_) (fun c_24 => ?_)
        · first | exact absurd c_24 (by decide) | exact absurd (by decide) c_24
        · refine lv_aload_n S.1 S.2.1 dX12_parts_27 rfl (lv_at hl 0 rfl) ?_
          refine lv_iload_n S.1 S.2.1 dX12_parts_28 rfl (lv_at hl 2 rfl) ?_
          refine j_callV (k := 55) (ci := 11) (q := (RX12, TX12, 17)) (As := [.int (nI v)]) (rest := [.int (nI (cnt (fun v => !sd.testBit v && decide (lowN (itP nc cs lv (nAnd (2 ^ n - 1) sd) v 10) n = v)) v))]) S hK hA hW (c_X12_part l D cy ad 0 n nc sd se lv cs v gO_ (hU.get gE (by decide)) (hU.get gP (by decide)) (hU.get gC0 (by decide)) (hU.get gC1 (by decide)) (hU.get gC2 (by decide)) (hU.get gC3 (by decide)) (hU.get gC4 (by decide))   (by omega) (by omega) (hcs) (by omega) (hsv)) (jgo wm_X12_128) yk_X12_part gO_ rfl rfl ⟨⟨rfl, rfl⟩, by decide, by decide⟩ rfl hl.1 rfl (Nat.le_of_ble_eq_true rfl) dX12_parts_29 ⟨Nat.le_of_ble_eq_true rfl, Nat.le_of_ble_eq_true rfl⟩ (fun v u H locs hp hW => ?_)
          obtain ⟨rfl, rfl⟩ := hp
          refine W.eq (g2 := F0 m 32 ls [.int (nI (itP nc cs lv (nAnd (2 ^ n - 1) sd) v 10)), .int (nI (cnt (fun v => !sd.testBit v && decide (lowN (itP nc cs lv (nAnd (2 ^ n - 1) sd) v 10) n = v)) v))]) rfl ?_
          have hlo := lowN_le (itP nc cs lv (nAnd (2 ^ n - 1) sd) v 10) n
          refine j_callS (As := [.int (nI (itP nc cs lv (nAnd (2 ^ n - 1) sd) v 10))]) (rest := [.int (nI (cnt (fun v => !sd.testBit v && decide (lowN (itP nc cs lv (nAnd (2 ^ n - 1) sd) v 10) n = v)) v))]) S hK hA hW (c_X12_lowest l D cy (itP nc cs lv (nAnd (2 ^ n - 1) sd) v 10) n v    (itP_lt hop (by omega) 10) (by omega) (hn) (itP_ne0)) (jgo wm_X12_131) yk_X12_lowest ⟨⟨rfl, rfl⟩, by decide, by decide⟩ rfl hl.1 rfl (Nat.le_of_ble_eq_true rfl) dX12_parts_32 ⟨Nat.le_of_ble_eq_true rfl, Nat.le_of_ble_eq_true rfl⟩ (fun v u H locs hp hW => ?_)
          obtain ⟨rfl, rfl⟩ := hp
          refine W.eq (g2 := F0 m 35 ls [.int (nI (lowN (itP nc cs lv (nAnd (2 ^ n - 1) sd) v 10) n)), .int (nI (cnt (fun v => !sd.testBit v && decide (lowN (itP nc cs lv (nAnd (2 ^ n - 1) sd) v 10) n = v)) v))]) rfl ?_
          refine lv_iload_n S.1 S.2.1 dX12_parts_35 rfl (lv_at hl 2 rfl) ?_
          refine jn_cmp_ne (tgt := 43) S (by omega) (by omega) dX12_parts_36 (by decide) (fun c_36 => ?_) (fun c_36 => ?_)
          · refine lv_iconst (v := nI 0) S.1 S.2.1 dX12_parts_43 (by decide) ?_
            refine jn_add S dX12_parts_44 ?_
            refine lv_topi_to (y := nI (cnt (fun v => !sd.testBit v && decide (lowN (itP nc cs lv (nAnd (2 ^ n - 1) sd) v 10) n = v)) (v + 1))) (congrArg nI (by first | exact (cnt_s1 (by rw [hsv, decide_eq_true c_36]; rfl)).symm | exact (cnt_s0 (by rw [hsv, decide_eq_false c_36]; rfl)).symm | exact (cnt_s0 (by rw [hsv]; rfl)).symm)) ?_
            refine lv_istore_n (lv' := [(1, .int (nI (cnt (fun v => !sd.testBit v && decide (lowN (itP nc cs lv (nAnd (2 ^ n - 1) sd) v 10) n = v)) (v + 1)))), (0, .ref (ad 55)), (2, .int (nI v))]) S.1 S.2.1 dX12_parts_45 rfl hl (by decide) rfl (fun ls hl => ?_)
            refine lv_iinc (v := nI (v + 1)) (lv' := [(2, .int (nI (v + 1))), (1, .int (nI (cnt (fun v => !sd.testBit v && decide (lowN (itP nc cs lv (nAnd (2 ^ n - 1) sd) v 10) n = v)) (v + 1)))), (0, .ref (ad 55))]) S.1 S.2.1 dX12_parts_46 hl (k := 2) rfl (nI_add _ 1) (by decide) rfl (fun ls hl => ?_)
            refine lv_goto (tgt := 9) S.1 S.2.1 dX12_parts_49 (by decide) ?_
            exact ih9 _ (by omega) (v + 1) rfl (by omega) w_ hU gO_ H locs ls hW (lv_sub hl [2, 1, 0] rfl)
          · refine lv_iconst (v := nI 1) S.1 S.2.1 dX12_parts_39 (by decide) ?_
            refine lv_goto (tgt := 44) S.1 S.2.1 dX12_parts_40 (by decide) ?_
            refine jn_add S dX12_parts_44 ?_
            refine lv_topi_to (y := nI (cnt (fun v => !sd.testBit v && decide (lowN (itP nc cs lv (nAnd (2 ^ n - 1) sd) v 10) n = v)) (v + 1))) (congrArg nI (by first | exact (cnt_s1 (by rw [hsv, decide_eq_true c_36]; rfl)).symm | exact (cnt_s0 (by rw [hsv, decide_eq_false c_36]; rfl)).symm | exact (cnt_s0 (by rw [hsv]; rfl)).symm)) ?_
            refine lv_istore_n (lv' := [(1, .int (nI (cnt (fun v => !sd.testBit v && decide (lowN (itP nc cs lv (nAnd (2 ^ n - 1) sd) v 10) n = v)) (v + 1)))), (0, .ref (ad 55)), (2, .int (nI v))]) S.1 S.2.1 dX12_parts_45 rfl hl (by decide) rfl (fun ls hl => ?_)
            refine lv_iinc (v := nI (v + 1)) (lv' := [(2, .int (nI (v + 1))), (1, .int (nI (cnt (fun v => !sd.testBit v && decide (lowN (itP nc cs lv (nAnd (2 ^ n - 1) sd) v 10) n = v)) (v + 1)))), (0, .ref (ad 55))]) S.1 S.2.1 dX12_parts_46 hl (k := 2) rfl (nI_add _ 1) (by decide) rfl (fun ls hl => ?_)
            refine lv_goto (tgt := 9) S.1 S.2.1 dX12_parts_49 (by decide) ?_
            exact ih9 _ (by omega) (v + 1) rfl (by omega) w_ hU gO_ H locs ls hW (lv_sub hl [2, 1, 0] rfl)
  exact L9 _ 0 rfl (Nat.zero_le _) w_ hU gO_ H locs ls hW (lv_sub hl [2, 1, 0] rfl)
/-- partOf -/
theorem c_X12_partOf_ok (l : Launch) (D : va_G) (cy : Nat → ClassId) {w : va_W} (ad : Nat → Nat) (th n nc : Nat) (sd se lv : Nat) (cs : Nat → CN) (x : Nat) (gO : w[55]? = some (ad 55, .inr (11, [.int (nI th), .ref (ad 56), .ref (ad 57), .ref (ad 58), .ref (ad 59), .ref (ad 60), .ref (ad 61), .ref (ad 62), .ref (ad 63), .ref (ad 64), .ref (ad 65), .int (nI n), .int (nI nc), .ref (ad 66), .ref (ad 71), .ref (ad 72), .ref (ad 73)]))) (gE : w[58]? = some (ad 58, .inl (cy 0, 10, .inl (evA n sd se)))) (gP : w[65]? = some (ad 65, .inl (cy 3, 20, .inl (bf (dpB nc lv))))) (gC0 : w[60]? = some (ad 60, .inl (cy 2, 20, .inl (nf (ckd cs))))) (gC1 : w[61]? = some (ad 61, .inl (cy 0, 20, .inl (nf (cst cs))))) (gC2 : w[62]? = some (ad 62, .inl (cy 0, 20, .inl (nf (cot cs))))) (gC3 : w[63]? = some (ad 63, .inl (cy 0, 20, .inl (nf (cle cs))))) (gC4 : w[64]? = some (ad 64, .inl (cy 0, 20, .inl (nf (cgr cs))))) (hn : n ≤ 10) (hnc : nc ≤ 20) (hcs : csI nc cs) (hx : x < n) (hsv : sd.testBit x = false) : jM l yX12_partOf (jws yX12_partOf cX12_partOf 2 (some .int)) (jR 5 0 0) D cy w [.ref (ad 55), .int (nI x)] 0 0 (fun vv uu => vv = some (.int (nI (lowN (itP nc cs lv (nAnd (2 ^ n - 1) sd) x 10) n))) ∧ jU w uu [55] ∧ uu[55]? = some (ad 55, .inr (11, [.int (nI 0), .ref (ad 56), .ref (ad 57), .ref (ad 58), .ref (ad 59), .ref (ad 60), .ref (ad 61), .ref (ad 62), .ref (ad 63), .ref (ad 64), .ref (ad 65), .int (nI n), .int (nI nc), .ref (ad 66), .ref (ad 71), .ref (ad 72), .ref (ad 73)]))) := by
  have hp2 := two_pow10 hn
  have hop : nAnd (2 ^ n - 1) sd < 1024 := nAnd_lt (n := 10) (by omega)
  refine j_of (by decide) rfl (Nat.le_of_ble_eq_true rfl) ?_
  intro p e s m args below meth c A ls Q hQ S hr hK hA H locs hW hl
  have hl : lv_has ls 2 [(0, .ref (ad 55)), (1, .int (nI x))] := hl
  refine lv_aload_n S.1 S.2.1 dX12_partOf_0 rfl (lv_at hl 0 rfl) ?_
  refine lv_iload_n S.1 S.2.1 dX12_partOf_1 rfl (lv_at hl 1 rfl) ?_
  refine j_callV (k := 55) (ci := 11) (q := (RX12, TX12, 17)) (As := [.int (nI x)]) (rest := []) S hK hA hW (c_X12_hasNoPart_ok l D cy ad th n nc sd se x gO gE   (by omega) (by omega) (hsv)) (jgo wm_X12_134) yk_X12_hasNoPart gO rfl rfl ⟨⟨rfl, rfl⟩, by decide, by decide⟩ rfl hl.1 rfl (Nat.le_of_ble_eq_true rfl) dX12_partOf_2 ⟨Nat.le_of_ble_eq_true rfl, Nat.le_of_ble_eq_true rfl⟩ (fun v w_ H locs hp hW => ?_)
  obtain ⟨rfl, hU1, hN1⟩ := hp
  have hU : jU w w_ [55] := jU.mono hU1 (by decide)
  have gO_ : w_[55]? = some (ad 55, .inr (11, [.int (nI 0), .ref (ad 56), .ref (ad 57), .ref (ad 58), .ref (ad 59), .ref (ad 60), .ref (ad 61), .ref (ad 62), .ref (ad 63), .ref (ad 64), .ref (ad 65), .int (nI n), .int (nI nc), .ref (ad 66), .ref (ad 71), .ref (ad 72), .ref (ad 73)])) := hN1
  clear hU1 hN1
  refine W.eq (g2 := F0 m 5 ls [.int (bI false)]) rfl ?_
  refine jb_if_eq (tgt := 12) S dX12_partOf_5 (by decide) (fun c_5 => ?_) (fun c_5 => ?_)
  · refine lv_aload_n S.1 S.2.1 dX12_partOf_12 rfl (lv_at hl 0 rfl) ?_
    refine lv_iload_n S.1 S.2.1 dX12_partOf_13 rfl (lv_at hl 1 rfl) ?_
    refine j_callV (k := 55) (ci := 11) (q := (RX12, TX12, 17)) (As := [.int (nI x)]) (rest := []) S hK hA hW (c_X12_part l D cy ad 0 n nc sd se lv cs x gO_ (hU.get gE (by decide)) (hU.get gP (by decide)) (hU.get gC0 (by decide)) (hU.get gC1 (by decide)) (hU.get gC2 (by decide)) (hU.get gC3 (by decide)) (hU.get gC4 (by decide))   (by omega) (by omega) (hcs) (by omega) (hsv)) (jgo wm_X12_128) yk_X12_part gO_ rfl rfl ⟨⟨rfl, rfl⟩, by decide, by decide⟩ rfl hl.1 rfl (Nat.le_of_ble_eq_true rfl) dX12_partOf_14 ⟨Nat.le_of_ble_eq_true rfl, Nat.le_of_ble_eq_true rfl⟩ (fun v u H locs hp hW => ?_)
    obtain ⟨rfl, rfl⟩ := hp
    refine W.eq (g2 := F0 m 17 ls [.int (nI (itP nc cs lv (nAnd (2 ^ n - 1) sd) x 10))]) rfl ?_
    refine j_callS (As := [.int (nI (itP nc cs lv (nAnd (2 ^ n - 1) sd) x 10))]) (rest := []) S hK hA hW (c_X12_lowest l D cy (itP nc cs lv (nAnd (2 ^ n - 1) sd) x 10) n x    (itP_lt hop (by omega) 10) (by omega) (hn) (itP_ne0)) (jgo wm_X12_131) yk_X12_lowest ⟨⟨rfl, rfl⟩, by decide, by decide⟩ rfl hl.1 rfl (Nat.le_of_ble_eq_true rfl) dX12_partOf_17 ⟨Nat.le_of_ble_eq_true rfl, Nat.le_of_ble_eq_true rfl⟩ (fun v u H locs hp hW => ?_)
    obtain ⟨rfl, rfl⟩ := hp
    refine W.eq (g2 := F0 m 20 ls [.int (nI (lowN (itP nc cs lv (nAnd (2 ^ n - 1) sd) x 10) n))]) rfl ?_
    subst hQ
    exact j_iret (u := w_) S hr (rfl) hK hW dX12_partOf_20 ⟨by decide, by decide⟩ (⟨rfl, hU, gO_⟩)
  · exact absurd c_5 (by decide)
/-- partOf, no such variable -/
theorem c_X12_partOf_b1 (l : Launch) (D : va_G) (cy : Nat → ClassId) {w : va_W} (ad : Nat → Nat) (th n nc : Nat) (v : Int32) (gO : w[55]? = some (ad 55, .inr (11, [.int (nI th), .ref (ad 56), .ref (ad 57), .ref (ad 58), .ref (ad 59), .ref (ad 60), .ref (ad 61), .ref (ad 62), .ref (ad 63), .ref (ad 64), .ref (ad 65), .int (nI n), .int (nI nc), .ref (ad 66), .ref (ad 71), .ref (ad 72), .ref (ad 73)]))) (hn : n ≤ 10) (hv : vB v n = false) : jM l yX12_partOf (jws yX12_partOf cX12_partOf 2 (some .int)) (jR 5 0 0) D cy w [.ref (ad 55), .int v] 0 0 (fun vv uu => vv = some (.int (nI 0)) ∧ jU w uu [55] ∧ uu[55]? = some (ad 55, .inr (11, [.int (nI 1), .ref (ad 56), .ref (ad 57), .ref (ad 58), .ref (ad 59), .ref (ad 60), .ref (ad 61), .ref (ad 62), .ref (ad 63), .ref (ad 64), .ref (ad 65), .int (nI n), .int (nI nc), .ref (ad 66), .ref (ad 71), .ref (ad 72), .ref (ad 73)]))) := by
  refine j_of (by decide) rfl (Nat.le_of_ble_eq_true rfl) ?_
  intro p e s m args below meth c A ls Q hQ S hr hK hA H locs hW hl
  have hl : lv_has ls 2 [(0, .ref (ad 55)), (1, .int v)] := hl
  refine lv_aload_n S.1 S.2.1 dX12_partOf_0 rfl (lv_at hl 0 rfl) ?_
  refine lv_iload_n S.1 S.2.1 dX12_partOf_1 rfl (lv_at hl 1 rfl) ?_
  refine j_callV (k := 55) (ci := 11) (q := (RX12, TX12, 17)) (As := [.int v]) (rest := []) S hK hA hW (c_X12_hasNoPart_b1 l D cy ad th n nc v gO   (by omega) (hv)) (jgo wm_X12_134) yk_X12_hasNoPart gO rfl rfl ⟨⟨rfl, rfl⟩, by decide, by decide⟩ rfl hl.1 rfl (Nat.le_of_ble_eq_true rfl) dX12_partOf_2 ⟨Nat.le_of_ble_eq_true rfl, Nat.le_of_ble_eq_true rfl⟩ (fun v w_ H locs hp hW => ?_)
  obtain ⟨rfl, hU1, hN1⟩ := hp
  have hU : jU w w_ [55] := jU.mono hU1 (by decide)
  have gO_ : w_[55]? = some (ad 55, .inr (11, [.int (nI 1), .ref (ad 56), .ref (ad 57), .ref (ad 58), .ref (ad 59), .ref (ad 60), .ref (ad 61), .ref (ad 62), .ref (ad 63), .ref (ad 64), .ref (ad 65), .int (nI n), .int (nI nc), .ref (ad 66), .ref (ad 71), .ref (ad 72), .ref (ad 73)])) := hN1
  clear hU1 hN1
  refine W.eq (g2 := F0 m 5 ls [.int (bI true)]) rfl ?_
  refine jb_if_eq (tgt := 12) S dX12_partOf_5 (by decide) (fun c_5 => ?_) (fun c_5 => ?_)
  · exact absurd c_5 (by decide)
  · refine lv_iconst (v := nI 0) S.1 S.2.1 dX12_partOf_8 (by decide) ?_
    refine lv_goto (tgt := 20) S.1 S.2.1 dX12_partOf_9 (by decide) ?_
    subst hQ
    exact j_iret (u := w_) S hr (rfl) hK hW dX12_partOf_20 ⟨by decide, by decide⟩ (⟨rfl, hU, gO_⟩)
/-- partOf, settled -/
theorem c_X12_partOf_b2 (l : Launch) (D : va_G) (cy : Nat → ClassId) {w : va_W} (ad : Nat → Nat) (th n nc : Nat) (sd se x : Nat) (gO : w[55]? = some (ad 55, .inr (11, [.int (nI th), .ref (ad 56), .ref (ad 57), .ref (ad 58), .ref (ad 59), .ref (ad 60), .ref (ad 61), .ref (ad 62), .ref (ad 63), .ref (ad 64), .ref (ad 65), .int (nI n), .int (nI nc), .ref (ad 66), .ref (ad 71), .ref (ad 72), .ref (ad 73)]))) (gE : w[58]? = some (ad 58, .inl (cy 0, 10, .inl (evA n sd se)))) (hn : n ≤ 10) (hx : x < n) (hsv : sd.testBit x = true) : jM l yX12_partOf (jws yX12_partOf cX12_partOf 2 (some .int)) (jR 5 0 0) D cy w [.ref (ad 55), .int (nI x)] 0 0 (fun vv uu => vv = some (.int (nI 0)) ∧ jU w uu [55] ∧ uu[55]? = some (ad 55, .inr (11, [.int (nI 2), .ref (ad 56), .ref (ad 57), .ref (ad 58), .ref (ad 59), .ref (ad 60), .ref (ad 61), .ref (ad 62), .ref (ad 63), .ref (ad 64), .ref (ad 65), .int (nI n), .int (nI nc), .ref (ad 66), .ref (ad 71), .ref (ad 72), .ref (ad 73)]))) := by
  refine j_of (by decide) rfl (Nat.le_of_ble_eq_true rfl) ?_
  intro p e s m args below meth c A ls Q hQ S hr hK hA H locs hW hl
  have hl : lv_has ls 2 [(0, .ref (ad 55)), (1, .int (nI x))] := hl
  refine lv_aload_n S.1 S.2.1 dX12_partOf_0 rfl (lv_at hl 0 rfl) ?_
  refine lv_iload_n S.1 S.2.1 dX12_partOf_1 rfl (lv_at hl 1 rfl) ?_
  refine j_callV (k := 55) (ci := 11) (q := (RX12, TX12, 17)) (As := [.int (nI x)]) (rest := []) S hK hA hW (c_X12_hasNoPart_b2 l D cy ad th n nc sd se x gO gE   (by omega) (by omega) (hsv)) (jgo wm_X12_134) yk_X12_hasNoPart gO rfl rfl ⟨⟨rfl, rfl⟩, by decide, by decide⟩ rfl hl.1 rfl (Nat.le_of_ble_eq_true rfl) dX12_partOf_2 ⟨Nat.le_of_ble_eq_true rfl, Nat.le_of_ble_eq_true rfl⟩ (fun v w_ H locs hp hW => ?_)
  obtain ⟨rfl, hU1, hN1⟩ := hp
  have hU : jU w w_ [55] := jU.mono hU1 (by decide)
  have gO_ : w_[55]? = some (ad 55, .inr (11, [.int (nI 2), .ref (ad 56), .ref (ad 57), .ref (ad 58), .ref (ad 59), .ref (ad 60), .ref (ad 61), .ref (ad 62), .ref (ad 63), .ref (ad 64), .ref (ad 65), .int (nI n), .int (nI nc), .ref (ad 66), .ref (ad 71), .ref (ad 72), .ref (ad 73)])) := hN1
  clear hU1 hN1
  refine W.eq (g2 := F0 m 5 ls [.int (bI true)]) rfl ?_
  refine jb_if_eq (tgt := 12) S dX12_partOf_5 (by decide) (fun c_5 => ?_) (fun c_5 => ?_)
  · exact absurd c_5 (by decide)
  · refine lv_iconst (v := nI 0) S.1 S.2.1 dX12_partOf_8 (by decide) ?_
    refine lv_goto (tgt := 20) S.1 S.2.1 dX12_partOf_9 (by decide) ?_
    subst hQ
    exact j_iret (u := w_) S hr (rfl) hK hW dX12_partOf_20 ⟨by decide, by decide⟩ (⟨rfl, hU, gO_⟩)
