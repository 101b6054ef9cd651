/-! THE REFERENCE: the order (laid by wip/whole/tools, from the specs there) -/
/-! THE REFERENCE: the order -/
theorem lst_sum {h : Nat → Bool} {f : Nat → Nat} : ∀ t, (∀ i j, i < t → j < t → h i = true → h j = true → i = j) → sumN (fun i => if h i then f i else 0) t = lstN h f t := by
  intro t
  induction t with
  | zero => intro _; rfl
  | succ t ih =>
    intro hi
    simp only [sumN]
    rw [ih (fun i j a b => hi i j (by omega) (by omega))]
    cases e : h t
    · rw [lstN_f e]; simp
    · rw [lstN_t e]
      have hz : ∀ m, m ≤ t → lstN h f m = 0 := by
        intro m
        induction m with
        | zero => intro _; rfl
        | succ m im =>
          intro hm
          cases e2 : h m
          · rw [lstN_f e2]; exact im (by omega)
          · exact absurd (hi m t (by omega) (by omega) e2 e) (by omega)
      rw [hz t (Nat.le_refl _)]; simp
theorem od_upd (od : Nat → Nat) (x y : Nat) : upd (upd (nf od) x (nI (od y))) y (nI (od x)) = nf (upB (upB od x (od y)) y (od x)) := by
  rw [nf_upd, nf_upd]
theorem sum_1 {h : Nat → Bool} {f : Nat → Nat} {t a : Nat} (e : h t = true) (ha : a = f t) : sumN (fun i => if h i then f i else 0) t + a = sumN (fun i => if h i then f i else 0) (t + 1) := by
  subst ha; simp only [sumN]; rw [if_pos e]
theorem sum_0 {h : Nat → Bool} {f : Nat → Nat} {t : Nat} (e : h t = false) : sumN (fun i => if h i then f i else 0) t + 0 = sumN (fun i => if h i then f i else 0) (t + 1) := by
  simp only [sumN]; rw [if_neg (by rw [e]; decide)]
theorem sumN_le1 {f : Nat → Nat} {B : Nat} (h : ∀ i, f i ≤ B) (t : Nat) : sumN f t ≤ B * t := by
  induction t with
  | zero => exact Nat.le_refl _
  | succ t ih => simp only [sumN]; have := h t; rw [Nat.mul_succ]; omega
/-- nodesFor -/
theorem c_X12_nodesFor_ok (l : Launch) (D : va_G) (cy : Nat → ClassId) {w : va_W} (ad : Nat → Nat) (th n nc : Nat) (sd se lv : Nat) (cs : Nat → CN) (od : Nat → Nat) (rb tu : Nat → Bool) (x : Nat) (gO : w[55]? = some (ad 55, .inr (11, [.int (nI th), .ref (ad 56), .ref (ad 57), .ref (ad 58), .ref (ad 59), .ref (ad 60), .ref (ad 61), .ref (ad 62), .ref (ad 63), .ref (ad 64), .ref (ad 65), .int (nI n), .int (nI nc), .ref (ad 66), .ref (ad 71), .ref (ad 72), .ref (ad 73)]))) (gE : w[58]? = some (ad 58, .inl (cy 0, 10, .inl (evA n sd se)))) (gP : w[65]? = some (ad 65, .inl (cy 3, 20, .inl (bf (dpB nc lv))))) (gC0 : w[60]? = some (ad 60, .inl (cy 2, 20, .inl (nf (ckd cs))))) (gC1 : w[61]? = some (ad 61, .inl (cy 0, 20, .inl (nf (cst cs))))) (gC2 : w[62]? = some (ad 62, .inl (cy 0, 20, .inl (nf (cot cs))))) (gC3 : w[63]? = some (ad 63, .inl (cy 0, 20, .inl (nf (cle cs))))) (gC4 : w[64]? = some (ad 64, .inl (cy 0, 20, .inl (nf (cgr cs))))) (gD : w[59]? = some (ad 59, .inl (cy 0, 10, .inl (nf od)))) (gR : w[72]? = some (ad 72, .inl (cy 3, 1024, .inl (bf rb)))) (gU : w[73]? = some (ad 73, .inl (cy 3, 1024, .inl (bf tu)))) (hn : n ≤ 10) (hsd : sd < 2 ^ n) (hse : se &&& sd = se) (hnc : nc ≤ 20) (hcs : csI nc cs) (hod : ∀ j, od j < 10) (hx : x < n) (hinj : ∀ i j, i < n → j < n → od i = od j → i = j) : jM l yX12_nodesFor (jws yX12_nodesFor cX12_nodesFor 4 (some .int)) (jR 5 0 0) D cy w [.ref (ad 55), .int (nI x)] 0 0 (fun vv uu => ∃ (rb1 : Nat → Bool), ∃ (tu1 : Nat → Bool), vv = some (.int (nI (lstN (fun i => decide (od i = x)) (nodesB (fun d => (mdl n sd se nc cs lv) (layP n od d n)) n) n))) ∧ jU w uu [55, 72, 73] ∧ uu[55]? = some (ad 55, .inr (11, [.int (nI 0), .ref (ad 56), .ref (ad 57), .ref (ad 58), .ref (ad 59), .ref (ad 60), .ref (ad 61), .ref (ad 62), .ref (ad 63), .ref (ad 64), .ref (ad 65), .int (nI n), .int (nI nc), .ref (ad 66), .ref (ad 71), .ref (ad 72), .ref (ad 73)])) ∧ uu[72]? = some (ad 72, .inl (cy 3, 1024, .inl (bf rb1))) ∧ uu[73]? = some (ad 73, .inl (cy 3, 1024, .inl (bf tu1)))) := by
  have hnl : ∀ i, i < n → (nodesB (fun d => (mdl n sd se nc cs lv) (layP n od d n)) n) i ≤ 1024 := fun i hi => Nat.le_trans (cnt_le _ _) (Nat.le_trans (Nat.pow_le_pow_right (by decide) (show i ≤ n by omega)) (two_pow10 hn))
  refine j_of (by decide) rfl (Nat.le_of_ble_eq_true rfl) ?_
  intro p e s m args below meth c A ls Q hQ S hr hK hA H locs hW hl
  have hl : lv_has ls 4 [(0, .ref (ad 55)), (1, .int (nI x))] := hl
  refine lv_aload_n S.1 S.2.1 dX12_nodesFor_0 rfl (lv_at hl 0 rfl) ?_
  refine lv_iconst (v := nI 0) S.1 S.2.1 dX12_nodesFor_1 (by decide) ?_
  refine j_put (ci := 11) (C := RX12) (T := TX12) (N := 17) (ty := .int) S (fun w h => List.mem_cons_of_mem _ (inG12 w h)) tyX12 tyX12_ok nmX12 hK hW gO rfl 0 (by decide) (List.mem_cons_of_mem _ wfl_X12_1) (fun _ h9 => h9) rfl (by decide +kernel) (rfl) (rfl) (Nat.le_of_ble_eq_true rfl) dX12_nodesFor_2 (fun H locs w_ hU1 hN1 hW => ?_)
  have hU : jU w w_ [55, 72, 73] := jU.mono hU1 (by decide)
  have gR_ := hU1.get gR (by decide)
  have gU_ := hU1.get gU (by decide)
  have gO_ : w_[55]? = some (ad 55, .inr (11, [.int (nI 0), .ref (ad 56), .ref (ad 57), .ref (ad 58), .ref (ad 59), .ref (ad 60), .ref (ad 61), .ref (ad 62), .ref (ad 63), .ref (ad 64), .ref (ad 65), .int (nI n), .int (nI nc), .ref (ad 66), .ref (ad 71), .ref (ad 72), .ref (ad 73)])) := hN1
  clear hU1 hN1
  refine lv_aload_n S.1 S.2.1 dX12_nodesFor_5 rfl (lv_at hl 0 rfl) ?_
  refine lv_iload_n S.1 S.2.1 dX12_nodesFor_6 rfl (lv_at hl 1 rfl) ?_
  refine j_callV (k := 55) (ci := 11) (q := (RX12, TX12, 17)) (As := [.int (nI x)]) (rest := []) S hK hA hW (c_X12_isVariable l D cy ad 0 n nc (nI x) gO_   (by omega)) (jgo wm_X12_75) yk_X12_isVariable gO_ rfl rfl ⟨⟨rfl, rfl⟩, by decide, by decide⟩ rfl hl.1 rfl (Nat.le_of_ble_eq_true rfl) dX12_nodesFor_7 ⟨Nat.le_of_ble_eq_true rfl, Nat.le_of_ble_eq_true rfl⟩ (fun v u H locs hp hW => ?_)
  obtain ⟨rfl, rfl⟩ := hp
  refine W.eq (g2 := F0 m 10 ls [.int (bI (vB (nI x) n))]) rfl ?_
  refine jb_if_ne (tgt := 19) S dX12_nodesFor_10 (by decide) (fun c_10 => ?_) (fun c_10 => ?_)
  · refine lv_aload_n S.1 S.2.1 dX12_nodesFor_19 rfl (lv_at hl 0 rfl) ?_
    refine j_callV (k := 55) (ci := 11) (q := (RX12, TX12, 17)) (As := []) (rest := []) S hK hA hW (c_X12_readsModels l D cy ad 0 n nc sd se lv cs rb gO_ (hU.get gE (by decide)) (hU.get gP (by decide)) (hU.get gC0 (by decide)) (hU.get gC1 (by decide)) (hU.get gC2 (by decide)) (hU.get gC3 (by decide)) (hU.get gC4 (by decide)) gR_   (by omega) (hsd) (hse) (by omega) (hcs)) (jgo wm_X12_150) yk_X12_readsModels gO_ rfl rfl ⟨⟨rfl, rfl⟩, by decide, by decide⟩ rfl hl.1 rfl (Nat.le_of_ble_eq_true rfl) dX12_nodesFor_20 ⟨Nat.le_of_ble_eq_true rfl, Nat.le_of_ble_eq_true rfl⟩ (fun v w_ H locs hp hW => ?_)
    obtain ⟨rfl, hU1, hN1⟩ := hp
    have hU := hU.then hU1 (by decide)
    have gU_ := hU1.get gU_ (by decide)
    have gO_ := hU1.get gO_ (by decide)
    have gR_ : w_[72]? = some (ad 72, .inl (cy 3, 1024, .inl (bf (rowM (mdl n sd se nc cs lv) rb)))) := hN1
    clear hU1 hN1
    refine W.eq (g2 := F0 m 23 ls []) rfl ?_
    refine lv_aload_n S.1 S.2.1 dX12_nodesFor_23 rfl (lv_at hl 0 rfl) ?_
    refine j_callV (k := 55) (ci := 11) (q := (RX12, TX12, 17)) (As := []) (rest := []) S hK hA hW (c_X12_turns l D cy ad 0 n nc od (rowM (mdl n sd se nc cs lv) rb) tu gO_ (hU.get gD (by decide)) gR_ gU_   (by omega) (hod)) (jgo wm_X12_144) yk_X12_turns gO_ rfl rfl ⟨⟨rfl, rfl⟩, by decide, by decide⟩ rfl hl.1 rfl (Nat.le_of_ble_eq_true rfl) dX12_nodesFor_24 ⟨Nat.le_of_ble_eq_true rfl, Nat.le_of_ble_eq_true rfl⟩ (fun v w_ H locs hp hW => ?_)
    obtain ⟨rfl, hU1, hN1⟩ := hp
    have hU := hU.then hU1 (by decide)
    have gR_ := hU1.get gR_ (by decide)
    have gO_ := hU1.get gO_ (by decide)
    have gU_ : w_[73]? = some (ad 73, .inl (cy 3, 1024, .inl (bf (mixF (fun d => (rowM (mdl n sd se nc cs lv) rb) (layP n od d n)) tu (2 ^ n))))) := hN1
    clear hU1 hN1
    refine W.eq (g2 := F0 m 27 ls []) rfl ?_
    refine lv_iconst (v := nI 0) S.1 S.2.1 dX12_nodesFor_27 (by decide) ?_
    refine lv_istore_n (lv' := [(2, .int (nI 0)), (0, .ref (ad 55)), (1, .int (nI x))]) S.1 S.2.1 dX12_nodesFor_28 rfl hl (by decide) rfl (fun ls hl => ?_)
    refine lv_iconst (v := nI 0) S.1 S.2.1 dX12_nodesFor_29 (by decide) ?_
    refine lv_istore_n (lv' := [(3, .int (nI 0)), (2, .int (nI 0)), (0, .ref (ad 55)), (1, .int (nI x))]) S.1 S.2.1 dX12_nodesFor_30 rfl hl (by decide) rfl (fun ls hl => ?_)
    have L31 : ∀ (k : Nat) (i : Nat), n - i = k → (i ≤ n) → (sumN (fun i => if decide (od i = x) then (nodesB (fun d => (mdl n sd se nc cs lv) (layP n od d n)) n) i else 0) i ≤ 1024 * i) → ∀ (w_ : va_W), jU w w_ [55, 72, 73] → (w_[55]? = some (ad 55, .inr (11, [.int (nI 0), .ref (ad 56), .ref (ad 57), .ref (ad 58), .ref (ad 59), .ref (ad 60), .ref (ad 61), .ref (ad 62), .ref (ad 63), .ref (ad 64), .ref (ad 65), .int (nI n), .int (nI nc), .ref (ad 66), .ref (ad 71), .ref (ad 72), .ref (ad 73)]))) → (w_[72]? = some (ad 72, .inl (cy 3, 1024, .inl (bf (rowM (mdl n sd se nc cs lv) rb))))) → (w_[73]? = some (ad 73, .inl (cy 3, 1024, .inl (bf (mixF (fun d => (rowM (mdl n sd se nc cs lv) rb) (layP n od d n)) tu (2 ^ n)))))) → ∀ (H : Heap) (locs : List Loc) (ls : Array Slot), jW D A s.heap w_ H locs → lv_has ls 4 [(0, .ref (ad 55)), (1, .int (nI x)), (2, .int (nI (sumN (fun i => if decide (od i = x) then (nodesB (fun d => (mdl n sd se nc cs lv) (layP n od d n)) n) i else 0) i))), (3, .int (nI i))] → W p l e (jR 5 0 0) s m args below meth c H locs 0 0 Q (F0 m 31 ls []) := by
      intro k
      induction k using Nat.strongRecOn with
      | ind k ih31 =>
      intro i hk hi hsi w_ hU gO_ gR_ gU_ H locs ls hW hl
      subst hk
      refine lv_iload_n S.1 S.2.1 dX12_nodesFor_31 rfl (lv_at hl 3 rfl) ?_
      refine lv_aload_n S.1 S.2.1 dX12_nodesFor_32 rfl (lv_at hl 0 rfl) ?_
      refine j_get (ci := 11) (C := RX12) (T := TX12) (N := 17) (v := .int (nI n)) S (fun w h => List.mem_cons_of_mem _ (inG12 w h)) hK hW gO_ rfl 11 (by decide) (List.mem_cons_of_mem _ wfl_X12_64) (fun _ h9 => h9) rfl dX12_nodesFor_33 ?_
      refine jn_cmp_ge (tgt := 67) S (by omega) (by omega) dX12_nodesFor_36 (by decide) (fun c_36 => ?_) (fun c_36 => ?_)
      · refine lv_iload_n S.1 S.2.1 dX12_nodesFor_67 rfl (lv_at hl 2 rfl) ?_
        subst hQ
        refine j_iret (u := w_) S hr (rfl) hK hW dX12_nodesFor_68 ⟨by decide, by decide⟩ ?_
        have ei : i = n := by omega
        subst ei
        exact ⟨_, _, congrArg (fun z => some (Value.int (nI z))) (lst_sum i (fun a b ha hb h1 h2 => hinj a b ha hb ((of_decide_eq_true h1).trans (of_decide_eq_true h2).symm))), hU, gO_, gR_, gU_⟩
      · refine lv_iload_n S.1 S.2.1 dX12_nodesFor_39 rfl (lv_at hl 2 rfl) ?_
        refine lv_aload_n S.1 S.2.1 dX12_nodesFor_40 rfl (lv_at hl 0 rfl) ?_
        refine j_get (ci := 11) (C := RX12) (T := TX12) (N := 17) (v := .ref (ad 59)) S (fun w h => List.mem_cons_of_mem _ (inG12 w h)) hK hW gO_ rfl 4 (by decide) (List.mem_cons_of_mem _ wfl_X12_27) (fun _ h9 => h9) rfl dX12_nodesFor_41 ?_
        refine lv_iload_n S.1 S.2.1 dX12_nodesFor_44 rfl (lv_at hl 3 rfl) ?_
        refine j_iald (x := nI (od i)) S hK hW (hU.get gD (by decide)) (vp_in_nI (by omega) (by omega)) (nI_clamp (by omega)) (rfl) dX12_nodesFor_45 ?_
        refine lv_iload_n S.1 S.2.1 dX12_nodesFor_46 rfl (lv_at hl 1 rfl) ?_
        have hoi := hod i
        refine jn_cmp_ne (tgt := 58) S (by omega) (by omega) dX12_nodesFor_47 (by decide) (fun c_47 => ?_) (fun c_47 => ?_)
        · refine lv_iconst (v := nI 0) S.1 S.2.1 dX12_nodesFor_58 (by decide) ?_
          have hni := hnl i (by omega)
          refine jn_add S dX12_nodesFor_59 ?_
          refine lv_topi_to (y := nI (sumN (fun i => if decide (od i = x) then (nodesB (fun d => (mdl n sd se nc cs lv) (layP n od d n)) n) i else 0) (i + 1))) (congrArg nI (by first | exact sum_1 (decide_eq_true c_47) rfl | exact sum_0 (decide_eq_false c_47))) ?_
          refine lv_istore_n (lv' := [(2, .int (nI (sumN (fun i => if decide (od i = x) then (nodesB (fun d => (mdl n sd se nc cs lv) (layP n od d n)) n) i else 0) (i + 1)))), (0, .ref (ad 55)), (1, .int (nI x)), (3, .int (nI i))]) S.1 S.2.1 dX12_nodesFor_60 rfl hl (by decide) rfl (fun ls hl => ?_)
          refine lv_iinc (v := nI (i + 1)) (lv' := [(3, .int (nI (i + 1))), (2, .int (nI (sumN (fun i => if decide (od i = x) then (nodesB (fun d => (mdl n sd se nc cs lv) (layP n od d n)) n) i else 0) (i + 1)))), (0, .ref (ad 55)), (1, .int (nI x))]) S.1 S.2.1 dX12_nodesFor_61 hl (k := 3) rfl (nI_add _ 1) (by decide) rfl (fun ls hl => ?_)
          refine lv_goto (tgt := 31) S.1 S.2.1 dX12_nodesFor_64 (by decide) ?_
          exact ih31 _ (by omega) (i + 1) rfl (by omega) (by simp only [sumN]; have hni := hnl i (by omega); split <;> omega) w_ hU gO_ gR_ gU_ H locs ls hW (lv_sub hl [2, 3, 1, 0] rfl)
        · refine lv_aload_n S.1 S.2.1 dX12_nodesFor_50 rfl (lv_at hl 0 rfl) ?_
          refine lv_iload_n S.1 S.2.1 dX12_nodesFor_51 rfl (lv_at hl 3 rfl) ?_
          refine j_callV (k := 55) (ci := 11) (q := (RX12, TX12, 17)) (As := [.int (nI i)]) (rest := [.int (nI (sumN (fun i => if decide (od i = x) then (nodesB (fun d => (mdl n sd se nc cs lv) (layP n od d n)) n) i else 0) i))]) S hK hA hW (c_X12_nodesAt l D cy ad 0 n nc (mixF (fun d => (rowM (mdl n sd se nc cs lv) rb) (layP n od d n)) tu (2 ^ n)) i gO_ gU_   (by omega) (by omega)) (jgo wm_X12_147) yk_X12_nodesAt gO_ rfl rfl ⟨⟨rfl, rfl⟩, by decide, by decide⟩ rfl hl.1 rfl (Nat.le_of_ble_eq_true rfl) dX12_nodesFor_52 ⟨Nat.le_of_ble_eq_true rfl, Nat.le_of_ble_eq_true rfl⟩ (fun v u H locs hp hW => ?_)
          obtain ⟨rfl, rfl⟩ := hp
          refine W.eq (g2 := F0 m 55 ls [.int (nI (nodesB (mixF (fun d => (rowM (mdl n sd se nc cs lv) rb) (layP n od d n)) tu (2 ^ n)) n i)), .int (nI (sumN (fun i => if decide (od i = x) then (nodesB (fun d => (mdl n sd se nc cs lv) (layP n od d n)) n) i else 0) i))]) rfl ?_
          refine lv_topi_to (y := nI ((nodesB (fun d => (mdl n sd se nc cs lv) (layP n od d n)) n) i)) (congrArg nI (nodesB_congr (by omega) (fun j hj => (mixF_lo hj).trans (row_at (layP_lt hod))))) ?_
          refine lv_goto (tgt := 59) S.1 S.2.1 dX12_nodesFor_55 (by decide) ?_
          have hni := hnl i (by omega)
          refine jn_add S dX12_nodesFor_59 ?_
          refine lv_topi_to (y := nI (sumN (fun i => if decide (od i = x) then (nodesB (fun d => (mdl n sd se nc cs lv) (layP n od d n)) n) i else 0) (i + 1))) (congrArg nI (by first | exact sum_1 (decide_eq_true c_47) rfl | exact sum_0 (decide_eq_false c_47))) ?_
          refine lv_istore_n (lv' := [(2, .int (nI (sumN (fun i => if decide (od i = x) then (nodesB (fun d => (mdl n sd se nc cs lv) (layP n od d n)) n) i else 0) (i + 1)))), (0, .ref (ad 55)), (1, .int (nI x)), (3, .int (nI i))]) S.1 S.2.1 dX12_nodesFor_60 rfl hl (by decide) rfl (fun ls hl => ?_)
          refine lv_iinc (v := nI (i + 1)) (lv' := [(3, .int (nI (i + 1))), (2, .int (nI (sumN (fun i => if decide (od i = x) then (nodesB (fun d => (mdl n sd se nc cs lv) (layP n od d n)) n) i else 0) (i + 1)))), (0, .ref (ad 55)), (1, .int (nI x))]) S.1 S.2.1 dX12_nodesFor_61 hl (k := 3) rfl (nI_add _ 1) (by decide) rfl (fun ls hl => ?_)
          refine lv_goto (tgt := 31) S.1 S.2.1 dX12_nodesFor_64 (by decide) ?_
          exact ih31 _ (by omega) (i + 1) rfl (by omega) (by simp only [sumN]; have hni := hnl i (by omega); split <;> omega) w_ hU gO_ gR_ gU_ H locs ls hW (lv_sub hl [2, 3, 1, 0] rfl)
    exact L31 _ 0 rfl (Nat.zero_le _) (Nat.le_refl _) w_ hU gO_ gR_ gU_ H locs ls hW (lv_sub hl [2, 3, 1, 0] rfl)
  · exact absurd (vB_nI hx (by omega)) (by rw [c_10]; decide)
/-- nodesFor, no such variable -/
theorem c_X12_nodesFor_b (l : Launch) (D : va_G) (cy : Nat → ClassId) {w : va_W} (ad : Nat → Nat) (th n nc : Nat) (v : Int32) (gO : w[55]? = some (ad 55, .inr (11, [.int (nI th), .ref (ad 56), .ref (ad 57), .ref (ad 58), .ref (ad 59), .ref (ad 60), .ref (ad 61), .ref (ad 62), .ref (ad 63), .ref (ad 64), .ref (ad 65), .int (nI n), .int (nI nc), .ref (ad 66), .ref (ad 71), .ref (ad 72), .ref (ad 73)]))) (hn : n ≤ 10) (hv : vB v n = false) : jM l yX12_nodesFor (jws yX12_nodesFor cX12_nodesFor 4 (some .int)) (jR 5 0 0) D cy w [.ref (ad 55), .int v] 0 0 (fun vv uu => vv = some (.int (nI 0)) ∧ jU w uu [55] ∧ uu[55]? = some (ad 55, .inr (11, [.int (nI 1), .ref (ad 56), .ref (ad 57), .ref (ad 58), .ref (ad 59), .ref (ad 60), .ref (ad 61), .ref (ad 62), .ref (ad 63), .ref (ad 64), .ref (ad 65), .int (nI n), .int (nI nc), .ref (ad 66), .ref (ad 71), .ref (ad 72), .ref (ad 73)]))) := by
  refine j_of (by decide) rfl (Nat.le_of_ble_eq_true rfl) ?_
  intro p e s m args below meth c A ls Q hQ S hr hK hA H locs hW hl
  have hl : lv_has ls 4 [(0, .ref (ad 55)), (1, .int v)] := hl
  refine lv_aload_n S.1 S.2.1 dX12_nodesFor_0 rfl (lv_at hl 0 rfl) ?_
  refine lv_iconst (v := nI 0) S.1 S.2.1 dX12_nodesFor_1 (by decide) ?_
  refine j_put (ci := 11) (C := RX12) (T := TX12) (N := 17) (ty := .int) S (fun w h => List.mem_cons_of_mem _ (inG12 w h)) tyX12 tyX12_ok nmX12 hK hW gO rfl 0 (by decide) (List.mem_cons_of_mem _ wfl_X12_1) (fun _ h9 => h9) rfl (by decide +kernel) (rfl) (rfl) (Nat.le_of_ble_eq_true rfl) dX12_nodesFor_2 (fun H locs w_ hU1 hN1 hW => ?_)
  have hU : jU w w_ [55] := jU.mono hU1 (by decide)
  have gO_ : w_[55]? = some (ad 55, .inr (11, [.int (nI 0), .ref (ad 56), .ref (ad 57), .ref (ad 58), .ref (ad 59), .ref (ad 60), .ref (ad 61), .ref (ad 62), .ref (ad 63), .ref (ad 64), .ref (ad 65), .int (nI n), .int (nI nc), .ref (ad 66), .ref (ad 71), .ref (ad 72), .ref (ad 73)])) := hN1
  clear hU1 hN1
  refine lv_aload_n S.1 S.2.1 dX12_nodesFor_5 rfl (lv_at hl 0 rfl) ?_
  refine lv_iload_n S.1 S.2.1 dX12_nodesFor_6 rfl (lv_at hl 1 rfl) ?_
  refine j_callV (k := 55) (ci := 11) (q := (RX12, TX12, 17)) (As := [.int v]) (rest := []) S hK hA hW (c_X12_isVariable l D cy ad 0 n nc v gO_   (by omega)) (jgo wm_X12_75) yk_X12_isVariable gO_ rfl rfl ⟨⟨rfl, rfl⟩, by decide, by decide⟩ rfl hl.1 rfl (Nat.le_of_ble_eq_true rfl) dX12_nodesFor_7 ⟨Nat.le_of_ble_eq_true rfl, Nat.le_of_ble_eq_true rfl⟩ (fun v u H locs hp hW => ?_)
  obtain ⟨rfl, rfl⟩ := hp
  refine W.eq (g2 := F0 m 10 ls [.int (bI (vB v n))]) rfl ?_
  refine jb_if_ne (tgt := 19) S dX12_nodesFor_10 (by decide) (fun c_10 => ?_) (fun c_10 => ?_)
  · exact absurd c_10 (by rw [hv]; decide)
  · refine lv_aload_n S.1 S.2.1 dX12_nodesFor_13 rfl (lv_at hl 0 rfl) ?_
    refine lv_iconst (v := nI 1) S.1 S.2.1 dX12_nodesFor_14 (by decide) ?_
    refine j_callV (k := 55) (ci := 11) (q := (RX12, TX12, 17)) (As := [.int (nI 1)]) (rest := []) S hK hA hW (c_X12_fails l D cy ad 0 n nc 1 gO_   ) (jgo wm_X12_71) yk_X12_fails gO_ rfl rfl ⟨⟨rfl, rfl⟩, by decide, by decide⟩ rfl hl.1 rfl (Nat.le_of_ble_eq_true rfl) dX12_nodesFor_15 ⟨Nat.le_of_ble_eq_true rfl, Nat.le_of_ble_eq_true rfl⟩ (fun v w_ H locs hp hW => ?_)
    obtain ⟨rfl, hU1, hN1⟩ := hp
    have hU := hU.then hU1 (by decide)
    have gO_ : w_[55]? = some (ad 55, .inr (11, [.int (nI 1), .ref (ad 56), .ref (ad 57), .ref (ad 58), .ref (ad 59), .ref (ad 60), .ref (ad 61), .ref (ad 62), .ref (ad 63), .ref (ad 64), .ref (ad 65), .int (nI n), .int (nI nc), .ref (ad 66), .ref (ad 71), .ref (ad 72), .ref (ad 73)])) := hN1
    clear hU1 hN1
    refine W.eq (g2 := F0 m 18 ls [.int (nI 0)]) rfl ?_
    subst hQ
    exact j_iret (u := w_) S hr (rfl) hK hW dX12_nodesFor_18 ⟨by decide, by decide⟩ (⟨rfl, hU, gO_⟩)
/-- orderAt -/
theorem c_X12_orderAt_ok (l : Launch) (D : va_G) (cy : Nat → ClassId) {w : va_W} (ad : Nat → Nat) (th n nc : Nat) (od : Nat → Nat) (x : Nat) (gO : w[55]? = some (ad 55, .inr (11, [.int (nI th), .ref (ad 56), .ref (ad 57), .ref (ad 58), .ref (ad 59), .ref (ad 60), .ref (ad 61), .ref (ad 62), .ref (ad 63), .ref (ad 64), .ref (ad 65), .int (nI n), .int (nI nc), .ref (ad 66), .ref (ad 71), .ref (ad 72), .ref (ad 73)]))) (gD : w[59]? = some (ad 59, .inl (cy 0, 10, .inl (nf od)))) (hn : n ≤ 10) (hx : x < n) : jM l yX12_orderAt (jws yX12_orderAt cX12_orderAt 2 (some .int)) (jR 5 0 0) D cy w [.ref (ad 55), .int (nI x)] 0 0 (fun vv uu => vv = some (.int (nI (od x))) ∧ jU w uu [55] ∧ uu[55]? = some (ad 55, .inr (11, [.int (nI 0), .ref (ad 56), .ref (ad 57), .ref (ad 58), .ref (ad 59), .ref (ad 60), .ref (ad 61), .ref (ad 62), .ref (ad 63), .ref (ad 64), .ref (ad 65), .int (nI n), .int (nI nc), .ref (ad 66), .ref (ad 71), .ref (ad 72), .ref (ad 73)]))) := by
  refine j_of (by decide) rfl (Nat.le_of_ble_eq_true rfl) ?_
  intro p e s m args below meth c A ls Q hQ S hr hK hA H locs hW hl
  have hl : lv_has ls 2 [(0, .ref (ad 55)), (1, .int (nI x))] := hl
  refine lv_aload_n S.1 S.2.1 dX12_orderAt_0 rfl (lv_at hl 0 rfl) ?_
  refine lv_iconst (v := nI 0) S.1 S.2.1 dX12_orderAt_1 (by decide) ?_
  refine j_put (ci := 11) (C := RX12) (T := TX12) (N := 17) (ty := .int) S (fun w h => List.mem_cons_of_mem _ (inG12 w h)) tyX12 tyX12_ok nmX12 hK hW gO rfl 0 (by decide) (List.mem_cons_of_mem _ wfl_X12_1) (fun _ h9 => h9) rfl (by decide +kernel) (rfl) (rfl) (Nat.le_of_ble_eq_true rfl) dX12_orderAt_2 (fun H locs w_ hU1 hN1 hW => ?_)
  have hU : jU w w_ [55] := jU.mono hU1 (by decide)
  have gO_ : w_[55]? = some (ad 55, .inr (11, [.int (nI 0), .ref (ad 56), .ref (ad 57), .ref (ad 58), .ref (ad 59), .ref (ad 60), .ref (ad 61), .ref (ad 62), .ref (ad 63), .ref (ad 64), .ref (ad 65), .int (nI n), .int (nI nc), .ref (ad 66), .ref (ad 71), .ref (ad 72), .ref (ad 73)])) := hN1
  clear hU1 hN1
  refine lv_aload_n S.1 S.2.1 dX12_orderAt_5 rfl (lv_at hl 0 rfl) ?_
  refine lv_iload_n S.1 S.2.1 dX12_orderAt_6 rfl (lv_at hl 1 rfl) ?_
  refine j_callV (k := 55) (ci := 11) (q := (RX12, TX12, 17)) (As := [.int (nI x)]) (rest := []) S hK hA hW (c_X12_isVariable l D cy ad 0 n nc (nI x) gO_   (by omega)) (jgo wm_X12_75) yk_X12_isVariable gO_ rfl rfl ⟨⟨rfl, rfl⟩, by decide, by decide⟩ rfl hl.1 rfl (Nat.le_of_ble_eq_true rfl) dX12_orderAt_7 ⟨Nat.le_of_ble_eq_true rfl, Nat.le_of_ble_eq_true rfl⟩ (fun v u H locs hp hW => ?_)
  obtain ⟨rfl, rfl⟩ := hp
  refine W.eq (g2 := F0 m 10 ls [.int (bI (vB (nI x) n))]) rfl ?_
  refine jb_if_eq (tgt := 22) S dX12_orderAt_10 (by decide) (fun c_10 => ?_) (fun c_10 => ?_)
  · exact absurd (vB_nI hx (by omega)) (by rw [c_10]; decide)
  · refine lv_aload_n S.1 S.2.1 dX12_orderAt_13 rfl (lv_at hl 0 rfl) ?_
    refine j_get (ci := 11) (C := RX12) (T := TX12) (N := 17) (v := .ref (ad 59)) S (fun w h => List.mem_cons_of_mem _ (inG12 w h)) hK hW gO_ rfl 4 (by decide) (List.mem_cons_of_mem _ wfl_X12_27) (fun _ h9 => h9) rfl dX12_orderAt_14 ?_
    refine lv_iload_n S.1 S.2.1 dX12_orderAt_17 rfl (lv_at hl 1 rfl) ?_
    refine j_iald (x := nI (od x)) S hK hW (hU.get gD (by decide)) (vp_in_nI (by omega) (by omega)) (nI_clamp (by omega)) (rfl) dX12_orderAt_18 ?_
    refine lv_goto (tgt := 27) S.1 S.2.1 dX12_orderAt_19 (by decide) ?_
    subst hQ
    exact j_iret (u := w_) S hr (rfl) hK hW dX12_orderAt_27 ⟨by decide, by decide⟩ (⟨rfl, hU, gO_⟩)
/-- orderAt, no such place -/
theorem c_X12_orderAt_b (l : Launch) (D : va_G) (cy : Nat → ClassId) {w : va_W} (ad : Nat → Nat) (th n nc : Nat) (v : Int32) (gO : w[55]? = some (ad 55, .inr (11, [.int (nI th), .ref (ad 56), .ref (ad 57), .ref (ad 58), .ref (ad 59), .ref (ad 60), .ref (ad 61), .ref (ad 62), .ref (ad 63), .ref (ad 64), .ref (ad 65), .int (nI n), .int (nI nc), .ref (ad 66), .ref (ad 71), .ref (ad 72), .ref (ad 73)]))) (hn : n ≤ 10) (hv : vB v n = false) : jM l yX12_orderAt (jws yX12_orderAt cX12_orderAt 2 (some .int)) (jR 5 0 0) D cy w [.ref (ad 55), .int v] 0 0 (fun vv uu => vv = some (.int (nI 0)) ∧ jU w uu [55] ∧ uu[55]? = some (ad 55, .inr (11, [.int (nI 1), .ref (ad 56), .ref (ad 57), .ref (ad 58), .ref (ad 59), .ref (ad 60), .ref (ad 61), .ref (ad 62), .ref (ad 63), .ref (ad 64), .ref (ad 65), .int (nI n), .int (nI nc), .ref (ad 66), .ref (ad 71), .ref (ad 72), .ref (ad 73)]))) := by
  refine j_of (by decide) rfl (Nat.le_of_ble_eq_true rfl) ?_
  intro p e s m args below meth c A ls Q hQ S hr hK hA H locs hW hl
  have hl : lv_has ls 2 [(0, .ref (ad 55)), (1, .int v)] := hl
  refine lv_aload_n S.1 S.2.1 dX12_orderAt_0 rfl (lv_at hl 0 rfl) ?_
  refine lv_iconst (v := nI 0) S.1 S.2.1 dX12_orderAt_1 (by decide) ?_
  refine j_put (ci := 11) (C := RX12) (T := TX12) (N := 17) (ty := .int) S (fun w h => List.mem_cons_of_mem _ (inG12 w h)) tyX12 tyX12_ok nmX12 hK hW gO rfl 0 (by decide) (List.mem_cons_of_mem _ wfl_X12_1) (fun _ h9 => h9) rfl (by decide +kernel) (rfl) (rfl) (Nat.le_of_ble_eq_true rfl) dX12_orderAt_2 (fun H locs w_ hU1 hN1 hW => ?_)
  have hU : jU w w_ [55] := jU.mono hU1 (by decide)
  have gO_ : w_[55]? = some (ad 55, .inr (11, [.int (nI 0), .ref (ad 56), .ref (ad 57), .ref (ad 58), .ref (ad 59), .ref (ad 60), .ref (ad 61), .ref (ad 62), .ref (ad 63), .ref (ad 64), .ref (ad 65), .int (nI n), .int (nI nc), .ref (ad 66), .ref (ad 71), .ref (ad 72), .ref (ad 73)])) := hN1
  clear hU1 hN1
  refine lv_aload_n S.1 S.2.1 dX12_orderAt_5 rfl (lv_at hl 0 rfl) ?_
  refine lv_iload_n S.1 S.2.1 dX12_orderAt_6 rfl (lv_at hl 1 rfl) ?_
  refine j_callV (k := 55) (ci := 11) (q := (RX12, TX12, 17)) (As := [.int v]) (rest := []) S hK hA hW (c_X12_isVariable l D cy ad 0 n nc v gO_   (by omega)) (jgo wm_X12_75) yk_X12_isVariable gO_ rfl rfl ⟨⟨rfl, rfl⟩, by decide, by decide⟩ rfl hl.1 rfl (Nat.le_of_ble_eq_true rfl) dX12_orderAt_7 ⟨Nat.le_of_ble_eq_true rfl, Nat.le_of_ble_eq_true rfl⟩ (fun v u H locs hp hW => ?_)
  obtain ⟨rfl, rfl⟩ := hp
  refine W.eq (g2 := F0 m 10 ls [.int (bI (vB v n))]) rfl ?_
  refine jb_if_eq (tgt := 22) S dX12_orderAt_10 (by decide) (fun c_10 => ?_) (fun c_10 => ?_)
  · refine lv_aload_n S.1 S.2.1 dX12_orderAt_22 rfl (lv_at hl 0 rfl) ?_
    refine lv_iconst (v := nI 1) S.1 S.2.1 dX12_orderAt_23 (by decide) ?_
    refine j_callV (k := 55) (ci := 11) (q := (RX12, TX12, 17)) (As := [.int (nI 1)]) (rest := []) S hK hA hW (c_X12_fails l D cy ad 0 n nc 1 gO_   ) (jgo wm_X12_71) yk_X12_fails gO_ rfl rfl ⟨⟨rfl, rfl⟩, by decide, by decide⟩ rfl hl.1 rfl (Nat.le_of_ble_eq_true rfl) dX12_orderAt_24 ⟨Nat.le_of_ble_eq_true rfl, Nat.le_of_ble_eq_true rfl⟩ (fun v w_ H locs hp hW => ?_)
    obtain ⟨rfl, hU1, hN1⟩ := hp
    have hU := hU.then hU1 (by decide)
    have gO_ : w_[55]? = some (ad 55, .inr (11, [.int (nI 1), .ref (ad 56), .ref (ad 57), .ref (ad 58), .ref (ad 59), .ref (ad 60), .ref (ad 61), .ref (ad 62), .ref (ad 63), .ref (ad 64), .ref (ad 65), .int (nI n), .int (nI nc), .ref (ad 66), .ref (ad 71), .ref (ad 72), .ref (ad 73)])) := hN1
    clear hU1 hN1
    refine W.eq (g2 := F0 m 27 ls [.int (nI 0)]) rfl ?_
    subst hQ
    exact j_iret (u := w_) S hr (rfl) hK hW dX12_orderAt_27 ⟨by decide, by decide⟩ (⟨rfl, hU, gO_⟩)
  · exact absurd c_10 (by rw [hv]; decide)
/-- exchange -/
theorem c_X12_exchange_ok (l : Launch) (D : va_G) (cy : Nat → ClassId) {w : va_W} (ad : Nat → Nat) (th n nc : Nat) (sd se lv : Nat) (cs : Nat → CN) (od : Nat → Nat) (rb tu : Nat → Bool) (x y : Nat) (gO : w[55]? = some (ad 55, .inr (11, [.int (nI th), .ref (ad 56), .ref (ad 57), .ref (ad 58), .ref (ad 59), .ref (ad 60), .ref (ad 61), .ref (ad 62), .ref (ad 63), .ref (ad 64), .ref (ad 65), .int (nI n), .int (nI nc), .ref (ad 66), .ref (ad 71), .ref (ad 72), .ref (ad 73)]))) (gE : w[58]? = some (ad 58, .inl (cy 0, 10, .inl (evA n sd se)))) (gP : w[65]? = some (ad 65, .inl (cy 3, 20, .inl (bf (dpB nc lv))))) (gC0 : w[60]? = some (ad 60, .inl (cy 2, 20, .inl (nf (ckd cs))))) (gC1 : w[61]? = some (ad 61, .inl (cy 0, 20, .inl (nf (cst cs))))) (gC2 : w[62]? = some (ad 62, .inl (cy 0, 20, .inl (nf (cot cs))))) (gC3 : w[63]? = some (ad 63, .inl (cy 0, 20, .inl (nf (cle cs))))) (gC4 : w[64]? = some (ad 64, .inl (cy 0, 20, .inl (nf (cgr cs))))) (gD : w[59]? = some (ad 59, .inl (cy 0, 10, .inl (nf od)))) (gR : w[72]? = some (ad 72, .inl (cy 3, 1024, .inl (bf rb)))) (gU : w[73]? = some (ad 73, .inl (cy 3, 1024, .inl (bf tu)))) (hn : n ≤ 10) (hsd : sd < 2 ^ n) (hse : se &&& sd = se) (hnc : nc ≤ 20) (hcs : csI nc cs) (hod : ∀ j, od j < 10) (hx : x < n) (hy : y < n) : jM l yX12_exchange (jws yX12_exchange cX12_exchange 4 (some .int)) (jR 6 0 0) D cy w [.ref (ad 55), .int (nI x), .int (nI y)] 0 0 (fun vv uu => ∃ (rb1 : Nat → Bool), ∃ (tu1 : Nat → Bool), vv = some (.int (nI (sumN (nodesB (fun d => (mdl n sd se nc cs lv) (layP n (upB (upB od x (od y)) y (od x)) d n)) n) n))) ∧ jU w uu [55, 59, 72, 73] ∧ uu[55]? = some (ad 55, .inr (11, [.int (nI 0), .ref (ad 56), .ref (ad 57), .ref (ad 58), .ref (ad 59), .ref (ad 60), .ref (ad 61), .ref (ad 62), .ref (ad 63), .ref (ad 64), .ref (ad 65), .int (nI n), .int (nI nc), .ref (ad 66), .ref (ad 71), .ref (ad 72), .ref (ad 73)])) ∧ uu[59]? = some (ad 59, .inl (cy 0, 10, .inl (nf (upB (upB od x (od y)) y (od x))))) ∧ uu[72]? = some (ad 72, .inl (cy 3, 1024, .inl (bf rb1))) ∧ uu[73]? = some (ad 73, .inl (cy 3, 1024, .inl (bf tu1)))) := by
  refine j_of (by decide) rfl (Nat.le_of_ble_eq_true rfl) ?_
  intro p e s m args below meth c A ls Q hQ S hr hK hA H locs hW hl
  have hl : lv_has ls 4 [(0, .ref (ad 55)), (1, .int (nI x)), (2, .int (nI y))] := hl
  refine lv_aload_n S.1 S.2.1 dX12_exchange_0 rfl (lv_at hl 0 rfl) ?_
  refine lv_iconst (v := nI 0) S.1 S.2.1 dX12_exchange_1 (by decide) ?_
  refine j_put (ci := 11) (C := RX12) (T := TX12) (N := 17) (ty := .int) S (fun w h => List.mem_cons_of_mem _ (inG12 w h)) tyX12 tyX12_ok nmX12 hK hW gO rfl 0 (by decide) (List.mem_cons_of_mem _ wfl_X12_1) (fun _ h9 => h9) rfl (by decide +kernel) (rfl) (rfl) (Nat.le_of_ble_eq_true rfl) dX12_exchange_2 (fun H locs w_ hU1 hN1 hW => ?_)
  have hU : jU w w_ [55, 59, 72, 73] := jU.mono hU1 (by decide)
  have gD_ := hU1.get gD (by decide)
  have gR_ := hU1.get gR (by decide)
  have gU_ := hU1.get gU (by decide)
  have gO_ : w_[55]? = some (ad 55, .inr (11, [.int (nI 0), .ref (ad 56), .ref (ad 57), .ref (ad 58), .ref (ad 59), .ref (ad 60), .ref (ad 61), .ref (ad 62), .ref (ad 63), .ref (ad 64), .ref (ad 65), .int (nI n), .int (nI nc), .ref (ad 66), .ref (ad 71), .ref (ad 72), .ref (ad 73)])) := hN1
  clear hU1 hN1
  refine lv_aload_n S.1 S.2.1 dX12_exchange_5 rfl (lv_at hl 0 rfl) ?_
  refine lv_iload_n S.1 S.2.1 dX12_exchange_6 rfl (lv_at hl 1 rfl) ?_
  refine j_callV (k := 55) (ci := 11) (q := (RX12, TX12, 17)) (As := [.int (nI x)]) (rest := []) S hK hA hW (c_X12_isVariable l D cy ad 0 n nc (nI x) gO_   (by omega)) (jgo wm_X12_75) yk_X12_isVariable gO_ rfl rfl ⟨⟨rfl, rfl⟩, by decide, by decide⟩ rfl hl.1 rfl (Nat.le_of_ble_eq_true rfl) dX12_exchange_7 ⟨Nat.le_of_ble_eq_true rfl, Nat.le_of_ble_eq_true rfl⟩ (fun v u H locs hp hW => ?_)
  obtain ⟨rfl, rfl⟩ := hp
  refine W.eq (g2 := F0 m 10 ls [.int (bI (vB (nI x) n))]) rfl ?_
  refine jb_if_eq (tgt := 21) S dX12_exchange_10 (by decide) (fun c_10 => ?_) (fun c_10 => ?_)
  · exact absurd (vB_nI hx (by omega)) (by rw [c_10]; decide)
  · refine lv_aload_n S.1 S.2.1 dX12_exchange_13 rfl (lv_at hl 0 rfl) ?_
    refine lv_iload_n S.1 S.2.1 dX12_exchange_14 rfl (lv_at hl 2 rfl) ?_
    refine j_callV (k := 55) (ci := 11) (q := (RX12, TX12, 17)) (As := [.int (nI y)]) (rest := []) S hK hA hW (c_X12_isVariable l D cy ad 0 n nc (nI y) gO_   (by omega)) (jgo wm_X12_75) yk_X12_isVariable gO_ rfl rfl ⟨⟨rfl, rfl⟩, by decide, by decide⟩ rfl hl.1 rfl (Nat.le_of_ble_eq_true rfl) dX12_exchange_15 ⟨Nat.le_of_ble_eq_true rfl, Nat.le_of_ble_eq_true rfl⟩ (fun v u H locs hp hW => ?_)
    obtain ⟨rfl, rfl⟩ := hp
    refine W.eq (g2 := F0 m 18 ls [.int (bI (vB (nI y) n))]) rfl ?_
    refine jb_if_ne (tgt := 27) S dX12_exchange_18 (by decide) (fun c_18 => ?_) (fun c_18 => ?_)
    · refine lv_aload_n S.1 S.2.1 dX12_exchange_27 rfl (lv_at hl 0 rfl) ?_
      refine j_get (ci := 11) (C := RX12) (T := TX12) (N := 17) (v := .ref (ad 59)) S (fun w h => List.mem_cons_of_mem _ (inG12 w h)) hK hW gO_ rfl 4 (by decide) (List.mem_cons_of_mem _ wfl_X12_27) (fun _ h9 => h9) rfl dX12_exchange_28 ?_
      refine lv_iload_n S.1 S.2.1 dX12_exchange_31 rfl (lv_at hl 1 rfl) ?_
      refine j_iald (x := nI (od x)) S hK hW gD_ (vp_in_nI (by omega) (by omega)) (nI_clamp (by omega)) (rfl) dX12_exchange_32 ?_
      refine lv_istore_n (lv' := [(3, .int (nI (od x))), (0, .ref (ad 55)), (1, .int (nI x)), (2, .int (nI y))]) S.1 S.2.1 dX12_exchange_33 rfl hl (by decide) rfl (fun ls hl => ?_)
      refine lv_aload_n S.1 S.2.1 dX12_exchange_34 rfl (lv_at hl 1 rfl) ?_
      refine j_get (ci := 11) (C := RX12) (T := TX12) (N := 17) (v := .ref (ad 59)) S (fun w h => List.mem_cons_of_mem _ (inG12 w h)) hK hW gO_ rfl 4 (by decide) (List.mem_cons_of_mem _ wfl_X12_27) (fun _ h9 => h9) rfl dX12_exchange_35 ?_
      refine lv_iload_n S.1 S.2.1 dX12_exchange_38 rfl (lv_at hl 2 rfl) ?_
      refine lv_aload_n S.1 S.2.1 dX12_exchange_39 rfl (lv_at hl 1 rfl) ?_
      refine j_get (ci := 11) (C := RX12) (T := TX12) (N := 17) (v := .ref (ad 59)) S (fun w h => List.mem_cons_of_mem _ (inG12 w h)) hK hW gO_ rfl 4 (by decide) (List.mem_cons_of_mem _ wfl_X12_27) (fun _ h9 => h9) rfl dX12_exchange_40 ?_
      refine lv_iload_n S.1 S.2.1 dX12_exchange_43 rfl (lv_at hl 3 rfl) ?_
      refine j_iald (x := nI (od y)) S hK hW gD_ (vp_in_nI (by omega) (by omega)) (nI_clamp (by omega)) (rfl) dX12_exchange_44 ?_
      refine j_iast S hK hW gD_ (vp_in_nI (by omega) (by omega)) (nI_clamp (by omega)) dX12_exchange_45 (fun H locs w_ hU1 hN1 hW => ?_)
      have hU := hU.then hU1 (by decide)
      have gR_ := hU1.get gR_ (by decide)
      have gU_ := hU1.get gU_ (by decide)
      have gO_ := hU1.get gO_ (by decide)
      have gD_ : w_[59]? = some (ad 59, .inl (cy 0, 10, .inl (upd (nf od) x (nI (od y))))) := hN1
      clear hU1 hN1
      refine lv_aload_n S.1 S.2.1 dX12_exchange_46 rfl (lv_at hl 1 rfl) ?_
      refine j_get (ci := 11) (C := RX12) (T := TX12) (N := 17) (v := .ref (ad 59)) S (fun w h => List.mem_cons_of_mem _ (inG12 w h)) hK hW gO_ rfl 4 (by decide) (List.mem_cons_of_mem _ wfl_X12_27) (fun _ h9 => h9) rfl dX12_exchange_47 ?_
      refine lv_iload_n S.1 S.2.1 dX12_exchange_50 rfl (lv_at hl 3 rfl) ?_
      refine lv_iload_n S.1 S.2.1 dX12_exchange_51 rfl (lv_at hl 0 rfl) ?_
      refine j_iast S hK hW gD_ (vp_in_nI (by omega) (by omega)) (nI_clamp (by omega)) dX12_exchange_52 (fun H locs w_ hU1 hN1 hW => ?_)
      have hU := hU.then hU1 (by decide)
      have gR_ := hU1.get gR_ (by decide)
      have gU_ := hU1.get gU_ (by decide)
      have gO_ := hU1.get gO_ (by decide)
      have gD_ : w_[59]? = some (ad 59, .inl (cy 0, 10, .inl (upd (upd (nf od) x (nI (od y))) y (nI (od x))))) := hN1
      clear hU1 hN1
      have gD_ : w_[59]? = some (ad 59, .inl (cy 0, 10, .inl (nf (upB (upB od x (od y)) y (od x))))) := by
        first | (rw [← od_upd]; exact gD_) | exact gD_
      refine lv_aload_n S.1 S.2.1 dX12_exchange_53 rfl (lv_at hl 1 rfl) ?_
      refine j_callV (k := 55) (ci := 11) (q := (RX12, TX12, 17)) (As := []) (rest := []) S hK hA hW (c_X12_nodes l D cy ad 0 n nc sd se lv cs (upB (upB od x (od y)) y (od x)) rb tu gO_ (hU.get gE (by decide)) (hU.get gP (by decide)) (hU.get gC0 (by decide)) (hU.get gC1 (by decide)) (hU.get gC2 (by decide)) (hU.get gC3 (by decide)) (hU.get gC4 (by decide)) gD_ gR_ gU_   (by omega) (hsd) (hse) (by omega) (hcs) (fun j => by unfold upB; split; exact hod _; split; exact hod _; exact hod _)) (jgo wm_X12_159) yk_X12_nodes gO_ rfl rfl ⟨⟨rfl, rfl⟩, by decide, by decide⟩ rfl hl.1 rfl (Nat.le_of_ble_eq_true rfl) dX12_exchange_54 ⟨Nat.le_of_ble_eq_true rfl, Nat.le_of_ble_eq_true rfl⟩ (fun v w_ H locs hp hW => ?_)
      obtain ⟨rb1_54, tu1_54, rfl, hU1, hN1, hN2, hN3⟩ := hp
      have hU := hU.then hU1 (by decide)
      have gD_ := hU1.get gD_ (by decide)
      have gO_ : w_[55]? = some (ad 55, .inr (11, [.int (nI 0), .ref (ad 56), .ref (ad 57), .ref (ad 58), .ref (ad 59), .ref (ad 60), .ref (ad 61), .ref (ad 62), .ref (ad 63), .ref (ad 64), .ref (ad 65), .int (nI n), .int (nI nc), .ref (ad 66), .ref (ad 71), .ref (ad 72), .ref (ad 73)])) := hN1
      have gR_ : w_[72]? = some (ad 72, .inl (cy 3, 1024, .inl (bf rb1_54))) := hN2
      have gU_ : w_[73]? = some (ad 73, .inl (cy 3, 1024, .inl (bf tu1_54))) := hN3
      clear hU1 hN1 hN2 hN3
      refine W.eq (g2 := F0 m 57 ls [.int (nI (sumN (nodesB (fun d => (mdl n sd se nc cs lv) (layP n (upB (upB od x (od y)) y (od x)) d n)) n) n))]) rfl ?_
      subst hQ
      exact j_iret (u := w_) S hr (rfl) hK hW dX12_exchange_57 ⟨by decide, by decide⟩ (⟨_, _, rfl, hU, gO_, gD_, gR_, gU_⟩)
    · exact absurd (vB_nI hy (by omega)) (by rw [c_18]; decide)
/-- exchange, no such places -/
theorem c_X12_exchange_b (l : Launch) (D : va_G) (cy : Nat → ClassId) {w : va_W} (ad : Nat → Nat) (th n nc : Nat) (v u1 : Int32) (gO : w[55]? = some (ad 55, .inr (11, [.int (nI th), .ref (ad 56), .ref (ad 57), .ref (ad 58), .ref (ad 59), .ref (ad 60), .ref (ad 61), .ref (ad 62), .ref (ad 63), .ref (ad 64), .ref (ad 65), .int (nI n), .int (nI nc), .ref (ad 66), .ref (ad 71), .ref (ad 72), .ref (ad 73)]))) (hn : n ≤ 10) (hv : vB v n = false ∨ vB u1 n = false) : jM l yX12_exchange (jws yX12_exchange cX12_exchange 4 (some .int)) (jR 6 0 0) D cy w [.ref (ad 55), .int v, .int u1] 0 0 (fun vv uu => vv = some (.int (nI 0)) ∧ jU w uu [55] ∧ uu[55]? = some (ad 55, .inr (11, [.int (nI 1), .ref (ad 56), .ref (ad 57), .ref (ad 58), .ref (ad 59), .ref (ad 60), .ref (ad 61), .ref (ad 62), .ref (ad 63), .ref (ad 64), .ref (ad 65), .int (nI n), .int (nI nc), .ref (ad 66), .ref (ad 71), .ref (ad 72), .ref (ad 73)]))) := by
  refine j_of (by decide) rfl (Nat.le_of_ble_eq_true rfl) ?_
  intro p e s m args below meth c A ls Q hQ S hr hK hA H locs hW hl
  have hl : lv_has ls 4 [(0, .ref (ad 55)), (1, .int v), (2, .int u1)] := hl
  refine lv_aload_n S.1 S.2.1 dX12_exchange_0 rfl (lv_at hl 0 rfl) ?_
  refine lv_iconst (v := nI 0) S.1 S.2.1 dX12_exchange_1 (by decide) ?_
  refine j_put (ci := 11) (C := RX12) (T := TX12) (N := 17) (ty := .int) S (fun w h => List.mem_cons_of_mem _ (inG12 w h)) tyX12 tyX12_ok nmX12 hK hW gO rfl 0 (by decide) (List.mem_cons_of_mem _ wfl_X12_1) (fun _ h9 => h9) rfl (by decide +kernel) (rfl) (rfl) (Nat.le_of_ble_eq_true rfl) dX12_exchange_2 (fun H locs w_ hU1 hN1 hW => ?_)
  have hU : jU w w_ [55] := jU.mono hU1 (by decide)
  have gO_ : w_[55]? = some (ad 55, .inr (11, [.int (nI 0), .ref (ad 56), .ref (ad 57), .ref (ad 58), .ref (ad 59), .ref (ad 60), .ref (ad 61), .ref (ad 62), .ref (ad 63), .ref (ad 64), .ref (ad 65), .int (nI n), .int (nI nc), .ref (ad 66), .ref (ad 71), .ref (ad 72), .ref (ad 73)])) := hN1
  clear hU1 hN1
  refine lv_aload_n S.1 S.2.1 dX12_exchange_5 rfl (lv_at hl 0 rfl) ?_
  refine lv_iload_n S.1 S.2.1 dX12_exchange_6 rfl (lv_at hl 1 rfl) ?_
  refine j_callV (k := 55) (ci := 11) (q := (RX12, TX12, 17)) (As := [.int v]) (rest := []) S hK hA hW (c_X12_isVariable l D cy ad 0 n nc v gO_   (by omega)) (jgo wm_X12_75) yk_X12_isVariable gO_ rfl rfl ⟨⟨rfl, rfl⟩, by decide, by decide⟩ rfl hl.1 rfl (Nat.le_of_ble_eq_true rfl) dX12_exchange_7 ⟨Nat.le_of_ble_eq_true rfl, Nat.le_of_ble_eq_true rfl⟩ (fun v u H locs hp hW => ?_)
  obtain ⟨rfl, rfl⟩ := hp
  refine W.eq (g2 := F0 m 10 ls [.int (bI (vB v n))]) rfl ?_
  refine jb_if_eq (tgt := 21) S dX12_exchange_10 (by decide) (fun c_10 => ?_) (fun c_10 => ?_)
  · refine lv_aload_n S.1 S.2.1 dX12_exchange_21 rfl (lv_at hl 0 rfl) ?_
    refine lv_iconst (v := nI 1) S.1 S.2.1 dX12_exchange_22 (by decide) ?_
    refine j_callV (k := 55) (ci := 11) (q := (RX12, TX12, 17)) (As := [.int (nI 1)]) (rest := []) S hK hA hW (c_X12_fails l D cy ad 0 n nc 1 gO_   ) (jgo wm_X12_71) yk_X12_fails gO_ rfl rfl ⟨⟨rfl, rfl⟩, by decide, by decide⟩ rfl hl.1 rfl (Nat.le_of_ble_eq_true rfl) dX12_exchange_23 ⟨Nat.le_of_ble_eq_true rfl, Nat.le_of_ble_eq_true rfl⟩ (fun v w_ H locs hp hW => ?_)
    obtain ⟨rfl, hU1, hN1⟩ := hp
    have hU := hU.then hU1 (by decide)
    have gO_ : w_[55]? = some (ad 55, .inr (11, [.int (nI 1), .ref (ad 56), .ref (ad 57), .ref (ad 58), .ref (ad 59), .ref (ad 60), .ref (ad 61), .ref (ad 62), .ref (ad 63), .ref (ad 64), .ref (ad 65), .int (nI n), .int (nI nc), .ref (ad 66), .ref (ad 71), .ref (ad 72), .ref (ad 73)])) := hN1
    clear hU1 hN1
    refine W.eq (g2 := F0 m 26 ls [.int (nI 0)]) rfl ?_
    subst hQ
    exact j_iret (u := w_) S hr (rfl) hK hW dX12_exchange_26 ⟨by decide, by decide⟩ (⟨rfl, hU, gO_⟩)
  · refine lv_aload_n S.1 S.2.1 dX12_exchange_13 rfl (lv_at hl 0 rfl) ?_
    refine lv_iload_n S.1 S.2.1 dX12_exchange_14 rfl (lv_at hl 2 rfl) ?_
    refine j_callV (k := 55) (ci := 11) (q := (RX12, TX12, 17)) (As := [.int u1]) (rest := []) S hK hA hW (c_X12_isVariable l D cy ad 0 n nc u1 gO_   (by omega)) (jgo wm_X12_75) yk_X12_isVariable gO_ rfl rfl ⟨⟨rfl, rfl⟩, by decide, by decide⟩ rfl hl.1 rfl (Nat.le_of_ble_eq_true rfl) dX12_exchange_15 ⟨Nat.le_of_ble_eq_true rfl, Nat.le_of_ble_eq_true rfl⟩ (fun v u H locs hp hW => ?_)
    obtain ⟨rfl, rfl⟩ := hp
    refine W.eq (g2 := F0 m 18 ls [.int (bI (vB u1 n))]) rfl ?_
    refine jb_if_ne (tgt := 27) S dX12_exchange_18 (by decide) (fun c_18 => ?_) (fun c_18 => ?_)
    · exact (by rcases hv with q | q; rw [c_10] at q; cases q; rw [c_18] at q; cases q)
    · refine lv_aload_n S.1 S.2.1 dX12_exchange_21 rfl (lv_at hl 0 rfl) ?_
      refine lv_iconst (v := nI 1) S.1 S.2.1 dX12_exchange_22 (by decide) ?_
      refine j_callV (k := 55) (ci := 11) (q := (RX12, TX12, 17)) (As := [.int (nI 1)]) (rest := []) S hK hA hW (c_X12_fails l D cy ad 0 n nc 1 gO_   ) (jgo wm_X12_71) yk_X12_fails gO_ rfl rfl ⟨⟨rfl, rfl⟩, by decide, by decide⟩ rfl hl.1 rfl (Nat.le_of_ble_eq_true rfl) dX12_exchange_23 ⟨Nat.le_of_ble_eq_true rfl, Nat.le_of_ble_eq_true rfl⟩ (fun v w_ H locs hp hW => ?_)
      obtain ⟨rfl, hU1, hN1⟩ := hp
      have hU := hU.then hU1 (by decide)
      have gO_ : w_[55]? = some (ad 55, .inr (11, [.int (nI 1), .ref (ad 56), .ref (ad 57), .ref (ad 58), .ref (ad 59), .ref (ad 60), .ref (ad 61), .ref (ad 62), .ref (ad 63), .ref (ad 64), .ref (ad 65), .int (nI n), .int (nI nc), .ref (ad 66), .ref (ad 71), .ref (ad 72), .ref (ad 73)])) := hN1
      clear hU1 hN1
      refine W.eq (g2 := F0 m 26 ls [.int (nI 0)]) rfl ?_
      subst hQ
      exact j_iret (u := w_) S hr (rfl) hK hW dX12_exchange_26 ⟨by decide, by decide⟩ (⟨rfl, hU, gO_⟩)
