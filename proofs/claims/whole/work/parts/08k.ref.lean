/-! THE REFERENCE: ways (laid by wip/whole/tools, from the specs there) -/
/-! THE REFERENCE: ways -/
theorem like_at {tu : Nat → Bool} {fr1 H cb : Nat} (h : fr1 = 2 * cb * H) : allB (fun i => tu (fr1 + i) == tu (fr1 + H + i)) H = sameB tu H (2 * cb) (2 * cb + 1) := by
  subst h
  unfold sameB
  exact allB_congr (fun i _ => by rw [Nat.add_mul (2 * cb) 1 H, Nat.one_mul])
theorem wH_1 {T : Nat → Bool} {c : Nat} (h : T c = true) : 1 = waysH T 0 c := by simp [waysH, h]
theorem wH_0 {T : Nat → Bool} {c : Nat} (h : T c = false) : 0 = waysH T 0 c := by simp [waysH, h]
theorem wH_t {T : Nat → Bool} {h c : Nat} (e : sameB T (2 ^ h) (2 * c) (2 * c + 1) = true) : waysH T h (2 * c) = waysH T (h + 1) c := (if_pos e).symm
theorem wH_f {T : Nat → Bool} {h c : Nat} (e : sameB T (2 ^ h) (2 * c) (2 * c + 1) = false) : waysH T h (2 * c) + waysH T h (2 * c + 1) = waysH T (h + 1) c := (if_neg (by rw [e]; decide)).symm
theorem waysH_congr {T U : Nat → Bool} {N : Nat} (h : ∀ j, j < N → T j = U j) : ∀ k c, (c + 1) * 2 ^ k ≤ N → waysH T k c = waysH U k c := by
  intro k
  induction k with
  | zero => intro c hc; simp only [waysH]; rw [h c (by omega)]
  | succ k ih =>
    intro c hc
    have e1 : (c + 1) * 2 ^ (k + 1) = (2 * c + 1 + 1) * 2 ^ k := by rw [Nat.pow_succ, Nat.mul_comm (2 ^ k) 2, ← Nat.mul_assoc]; congr 1; omega
    have h2 : (2 * c + 1 + 1) * 2 ^ k ≤ N := by rw [← e1]; exact hc
    have h1 : (2 * c + 1) * 2 ^ k ≤ N := Nat.le_trans (Nat.mul_le_mul_right _ (by omega)) h2
    have es : sameB T (2 ^ k) (2 * c) (2 * c + 1) = sameB U (2 ^ k) (2 * c) (2 * c + 1) := allB_congr (fun i hi => by
      have z1 : (2 * c + 1) * 2 ^ k = 2 * c * 2 ^ k + 2 ^ k := Nat.succ_mul _ _
      have z2 : (2 * c + 1 + 1) * 2 ^ k = (2 * c + 1) * 2 ^ k + 2 ^ k := Nat.succ_mul _ _
      rw [h _ (by omega), h _ (by omega)])
    simp only [waysH]
    rw [es, ih (2 * c) h1, ih (2 * c + 1) h2]
/-- waysFrom, 1 answers -/
theorem c_X12_waysFrom_0 (l : Launch) (D : va_G) (cy : Nat → ClassId) {w : va_W} (ad : Nat → Nat) (th n nc : Nat) (tu : Nat → Bool) (cb fr1 ln : Nat) (gO : w[55]? = some (ad 55, .inr (11, [.int (nI th), .ref (ad 56), .ref (ad 57), .ref (ad 58), .ref (ad 59), .ref (ad 60), .ref (ad 61), .ref (ad 62), .ref (ad 63), .ref (ad 64), .ref (ad 65), .int (nI n), .int (nI nc), .ref (ad 66), .ref (ad 71), .ref (ad 72), .ref (ad 73)]))) (gU : w[73]? = some (ad 73, .inl (cy 3, 1024, .inl (bf tu)))) (hln : ln = 1) (hfr : fr1 = cb * 1) (hle : fr1 + 1 ≤ 1024) : jM l yX12_waysFrom (jws yX12_waysFrom cX12_waysFrom 6 (some .long)) (jR 1 0 0) D cy w [.ref (ad 55), .int (nI fr1), .int (nI ln)] 0 0 (fun vv uu => vv = some (.long (lN (waysH tu 0 cb))) ∧ w = uu) := by
  refine j_of (by decide) rfl (Nat.le_of_ble_eq_true rfl) ?_
  intro p e s m args below meth c A ls Q hQ S hr hK hA H locs hW hl
  have hl : lv_has ls 6 [(0, .ref (ad 55)), (1, .int (nI fr1)), (2, .int (nI ln))] := hl
  refine lv_iload_n S.1 S.2.1 dX12_waysFrom_0 rfl (lv_at hl 2 rfl) ?_
  refine lv_iconst (v := nI 1) S.1 S.2.1 dX12_waysFrom_1 (by decide) ?_
  refine jn_cmp_ne (tgt := 20) S (by omega) (by omega) dX12_waysFrom_2 (by decide) (fun c_2 => ?_) (fun c_2 => ?_)
  · exact absurd hln c_2
  · refine lv_aload_n S.1 S.2.1 dX12_waysFrom_5 rfl (lv_at hl 0 rfl) ?_
    refine j_get (ci := 11) (C := RX12) (T := TX12) (N := 17) (v := .ref (ad 73)) S (fun w h => List.mem_cons_of_mem _ (inG12 w h)) hK hW gO rfl 16 (by decide) (List.mem_cons_of_mem _ wfl_X12_61) (fun _ h9 => h9) rfl dX12_waysFrom_6 ?_
    refine lv_iload_n S.1 S.2.1 dX12_waysFrom_9 rfl (lv_at hl 1 rfl) ?_
    refine j_zald (x := bI (tu fr1)) S hK hW gU (vp_in_nI (by omega) (by omega)) (nI_clamp (by omega)) (rfl) dX12_waysFrom_10 ?_
    refine jb_if_eq (tgt := 18) S dX12_waysFrom_11 (by decide) (fun c_11 => ?_) (fun c_11 => ?_)
    · refine lv_lconst (v := lN 0) S.1 S.2.1 dX12_waysFrom_18 (by decide) ?_
      subst hQ
      exact j_lret (u := w) S hr hK hW dX12_waysFrom_19 ⟨by decide, by decide⟩ (⟨by rw [show fr1 = cb by omega] at c_11; first | exact congrArg (fun z => some (Value.long (lN z))) (wH_1 c_11) | exact congrArg (fun z => some (Value.long (lN z))) (wH_0 c_11), rfl⟩)
    · refine lv_lconst (v := lN 1) S.1 S.2.1 dX12_waysFrom_14 (by decide) ?_
      refine lv_goto (tgt := 19) S.1 S.2.1 dX12_waysFrom_15 (by decide) ?_
      subst hQ
      exact j_lret (u := w) S hr hK hW dX12_waysFrom_19 ⟨by decide, by decide⟩ (⟨by rw [show fr1 = cb by omega] at c_11; first | exact congrArg (fun z => some (Value.long (lN z))) (wH_1 c_11) | exact congrArg (fun z => some (Value.long (lN z))) (wH_0 c_11), rfl⟩)
/-- waysFrom, 2 answers -/
theorem c_X12_waysFrom_1 (l : Launch) (D : va_G) (cy : Nat → ClassId) {w : va_W} (ad : Nat → Nat) (th n nc : Nat) (tu : Nat → Bool) (cb fr1 ln : Nat) (gO : w[55]? = some (ad 55, .inr (11, [.int (nI th), .ref (ad 56), .ref (ad 57), .ref (ad 58), .ref (ad 59), .ref (ad 60), .ref (ad 61), .ref (ad 62), .ref (ad 63), .ref (ad 64), .ref (ad 65), .int (nI n), .int (nI nc), .ref (ad 66), .ref (ad 71), .ref (ad 72), .ref (ad 73)]))) (gU : w[73]? = some (ad 73, .inl (cy 3, 1024, .inl (bf tu)))) (hln : ln = 2) (hfr : fr1 = cb * 2) (hle : fr1 + 2 ≤ 1024) : jM l yX12_waysFrom (jws yX12_waysFrom cX12_waysFrom 6 (some .long)) (jR 2 0 0) D cy w [.ref (ad 55), .int (nI fr1), .int (nI ln)] 0 0 (fun vv uu => vv = some (.long (lN (waysH tu 1 cb))) ∧ w = uu) := by
  refine j_of (by decide) rfl (Nat.le_of_ble_eq_true rfl) ?_
  intro p e s m args below meth c A ls Q hQ S hr hK hA H locs hW hl
  have hl : lv_has ls 6 [(0, .ref (ad 55)), (1, .int (nI fr1)), (2, .int (nI ln))] := hl
  refine lv_iload_n S.1 S.2.1 dX12_waysFrom_0 rfl (lv_at hl 2 rfl) ?_
  refine lv_iconst (v := nI 1) S.1 S.2.1 dX12_waysFrom_1 (by decide) ?_
  refine jn_cmp_ne (tgt := 20) S (by omega) (by omega) dX12_waysFrom_2 (by decide) (fun c_2 => ?_) (fun c_2 => ?_)
  · refine lv_iload_n S.1 S.2.1 dX12_waysFrom_20 rfl (lv_at hl 2 rfl) ?_
    refine lv_iconst (v := nI 2) S.1 S.2.1 dX12_waysFrom_21 (by decide) ?_
    refine jn_div S (by omega) (by omega) (by omega) dX12_waysFrom_22 ?_
    refine lv_topi_to (y := nI 1) (congrArg nI (by omega)) ?_
    refine lv_istore_n (lv' := [(3, .int (nI 1)), (0, .ref (ad 55)), (1, .int (nI fr1)), (2, .int (nI ln))]) S.1 S.2.1 dX12_waysFrom_23 rfl hl (by decide) rfl (fun ls hl => ?_)
    refine lv_aload_n S.1 S.2.1 dX12_waysFrom_24 rfl (lv_at hl 1 rfl) ?_
    refine lv_iload_n S.1 S.2.1 dX12_waysFrom_25 rfl (lv_at hl 2 rfl) ?_
    refine lv_iload_n S.1 S.2.1 dX12_waysFrom_26 rfl (lv_at hl 0 rfl) ?_
    refine j_callV (k := 55) (ci := 11) (q := (RX12, TX12, 17)) (As := [.int (nI fr1), .int (nI 1)]) (rest := []) S hK hA hW (c_X12_waysFrom_0 l D cy ad th n nc tu (2 * cb) fr1 1 gO gU   (rfl) (by omega) (by omega)) (jgo wm_X12_156) yk_X12_waysFrom gO rfl rfl ⟨⟨rfl, rfl⟩, by decide, by decide⟩ rfl hl.1 rfl (Nat.le_of_ble_eq_true rfl) dX12_waysFrom_27 ⟨Nat.le_of_ble_eq_true rfl, Nat.le_of_ble_eq_true rfl⟩ (fun v u H locs hp hW => ?_)
    obtain ⟨rfl, rfl⟩ := hp
    refine W.eq (g2 := F0 m 30 ls [.long (lN (waysH tu 0 (2 * cb)))]) rfl ?_
    refine lv_lstore (lv' := [(4, .long (lN (waysH tu 0 (2 * cb)))), (3, .int (nI 1)), (0, .ref (ad 55)), (1, .int (nI fr1)), (2, .int (nI ln))]) S.1 S.2.1 dX12_waysFrom_30 hl (by decide) rfl (fun ls hl => ?_)
    refine lv_aload_n S.1 S.2.1 dX12_waysFrom_32 rfl (lv_at hl 2 rfl) ?_
    refine lv_iload_n S.1 S.2.1 dX12_waysFrom_33 rfl (lv_at hl 3 rfl) ?_
    refine lv_iload_n S.1 S.2.1 dX12_waysFrom_34 rfl (lv_at hl 3 rfl) ?_
    refine lv_iload_n S.1 S.2.1 dX12_waysFrom_35 rfl (lv_at hl 1 rfl) ?_
    refine jn_add S dX12_waysFrom_36 ?_
    refine lv_iload_n S.1 S.2.1 dX12_waysFrom_37 rfl (lv_at hl 1 rfl) ?_
    refine j_callV (k := 55) (ci := 11) (q := (RX12, TX12, 17)) (As := [.int (nI fr1), .int (nI (fr1 + 1)), .int (nI 1)]) (rest := []) S hK hA hW (c_X12_areLike l D cy ad th n nc tu fr1 (fr1 + 1) 1 gO gU   (by omega) (by omega)) (jgo wm_X12_141) yk_X12_areLike gO rfl rfl ⟨⟨rfl, rfl⟩, by decide, by decide⟩ rfl hl.1 rfl (Nat.le_of_ble_eq_true rfl) dX12_waysFrom_38 ⟨Nat.le_of_ble_eq_true rfl, Nat.le_of_ble_eq_true rfl⟩ (fun v u H locs hp hW => ?_)
    obtain ⟨rfl, rfl⟩ := hp
    refine W.eq (g2 := F0 m 41 ls [.int (bI (allB (fun i => tu (fr1 + i) == tu ((fr1 + 1) + i)) 1))]) rfl ?_
    refine lv_topi_to (y := bI (sameB tu 1 (2 * cb) (2 * cb + 1))) (congrArg bI (like_at (by omega))) ?_
    refine jb_if_eq (tgt := 49) S dX12_waysFrom_41 (by decide) (fun c_41 => ?_) (fun c_41 => ?_)
    · refine lv_lload S.1 S.2.1 dX12_waysFrom_49 (lv_at hl 0 rfl) ?_
      refine lv_aload_n S.1 S.2.1 dX12_waysFrom_51 rfl (lv_at hl 2 rfl) ?_
      refine lv_iload_n S.1 S.2.1 dX12_waysFrom_52 rfl (lv_at hl 3 rfl) ?_
      refine lv_iload_n S.1 S.2.1 dX12_waysFrom_53 rfl (lv_at hl 1 rfl) ?_
      refine jn_add S dX12_waysFrom_54 ?_
      refine lv_iload_n S.1 S.2.1 dX12_waysFrom_55 rfl (lv_at hl 1 rfl) ?_
      refine j_callV (k := 55) (ci := 11) (q := (RX12, TX12, 17)) (As := [.int (nI (fr1 + 1)), .int (nI 1)]) (rest := [.long (lN (waysH tu 0 (2 * cb)))]) S hK hA hW (c_X12_waysFrom_0 l D cy ad th n nc tu (2 * cb + 1) (fr1 + 1) 1 gO gU   (rfl) (by omega) (by omega)) (jgo wm_X12_156) yk_X12_waysFrom gO rfl rfl ⟨⟨rfl, rfl⟩, by decide, by decide⟩ rfl hl.1 rfl (Nat.le_of_ble_eq_true rfl) dX12_waysFrom_56 ⟨Nat.le_of_ble_eq_true rfl, Nat.le_of_ble_eq_true rfl⟩ (fun v u H locs hp hW => ?_)
      obtain ⟨rfl, rfl⟩ := hp
      refine W.eq (g2 := F0 m 59 ls [.long (lN (waysH tu 0 (2 * cb + 1))), .long (lN (waysH tu 0 (2 * cb)))]) rfl ?_
      have hw1 : waysH tu 0 (2 * cb) ≤ 1 := waysH_le tu 0 (2 * cb)
      have hw2 : waysH tu 0 (2 * cb + 1) ≤ 1 := waysH_le tu 0 (2 * cb + 1)
      refine jnl_add S dX12_waysFrom_59 ?_
      subst hQ
      exact j_lret (u := w) S hr hK hW dX12_waysFrom_60 ⟨by decide, by decide⟩ (⟨by first | exact congrArg (fun z => some (Value.long (lN z))) (wH_t (h := 0) c_41) | exact congrArg (fun z => some (Value.long (lN z))) (wH_f (h := 0) c_41), rfl⟩)
    · refine lv_lload S.1 S.2.1 dX12_waysFrom_44 (lv_at hl 0 rfl) ?_
      refine lv_goto (tgt := 60) S.1 S.2.1 dX12_waysFrom_46 (by decide) ?_
      subst hQ
      exact j_lret (u := w) S hr hK hW dX12_waysFrom_60 ⟨by decide, by decide⟩ (⟨by first | exact congrArg (fun z => some (Value.long (lN z))) (wH_t (h := 0) c_41) | exact congrArg (fun z => some (Value.long (lN z))) (wH_f (h := 0) c_41), rfl⟩)
  · exact absurd c_2 (by omega)
/-- waysFrom, 4 answers -/
theorem c_X12_waysFrom_2 (l : Launch) (D : va_G) (cy : Nat → ClassId) {w : va_W} (ad : Nat → Nat) (th n nc : Nat) (tu : Nat → Bool) (cb fr1 ln : Nat) (gO : w[55]? = some (ad 55, .inr (11, [.int (nI th), .ref (ad 56), .ref (ad 57), .ref (ad 58), .ref (ad 59), .ref (ad 60), .ref (ad 61), .ref (ad 62), .ref (ad 63), .ref (ad 64), .ref (ad 65), .int (nI n), .int (nI nc), .ref (ad 66), .ref (ad 71), .ref (ad 72), .ref (ad 73)]))) (gU : w[73]? = some (ad 73, .inl (cy 3, 1024, .inl (bf tu)))) (hln : ln = 4) (hfr : fr1 = cb * 4) (hle : fr1 + 4 ≤ 1024) : jM l yX12_waysFrom (jws yX12_waysFrom cX12_waysFrom 6 (some .long)) (jR 3 0 0) D cy w [.ref (ad 55), .int (nI fr1), .int (nI ln)] 0 0 (fun vv uu => vv = some (.long (lN (waysH tu 2 cb))) ∧ w = uu) := by
  refine j_of (by decide) rfl (Nat.le_of_ble_eq_true rfl) ?_
  intro p e s m args below meth c A ls Q hQ S hr hK hA H locs hW hl
  have hl : lv_has ls 6 [(0, .ref (ad 55)), (1, .int (nI fr1)), (2, .int (nI ln))] := hl
  refine lv_iload_n S.1 S.2.1 dX12_waysFrom_0 rfl (lv_at hl 2 rfl) ?_
  refine lv_iconst (v := nI 1) S.1 S.2.1 dX12_waysFrom_1 (by decide) ?_
  refine jn_cmp_ne (tgt := 20) S (by omega) (by omega) dX12_waysFrom_2 (by decide) (fun c_2 => ?_) (fun c_2 => ?_)
  · refine lv_iload_n S.1 S.2.1 dX12_waysFrom_20 rfl (lv_at hl 2 rfl) ?_
    refine lv_iconst (v := nI 2) S.1 S.2.1 dX12_waysFrom_21 (by decide) ?_
    refine jn_div S (by omega) (by omega) (by omega) dX12_waysFrom_22 ?_
    refine lv_topi_to (y := nI 2) (congrArg nI (by omega)) ?_
    refine lv_istore_n (lv' := [(3, .int (nI 2)), (0, .ref (ad 55)), (1, .int (nI fr1)), (2, .int (nI ln))]) S.1 S.2.1 dX12_waysFrom_23 rfl hl (by decide) rfl (fun ls hl => ?_)
    refine lv_aload_n S.1 S.2.1 dX12_waysFrom_24 rfl (lv_at hl 1 rfl) ?_
    refine lv_iload_n S.1 S.2.1 dX12_waysFrom_25 rfl (lv_at hl 2 rfl) ?_
    refine lv_iload_n S.1 S.2.1 dX12_waysFrom_26 rfl (lv_at hl 0 rfl) ?_
    refine j_callV (k := 55) (ci := 11) (q := (RX12, TX12, 17)) (As := [.int (nI fr1), .int (nI 2)]) (rest := []) S hK hA hW (c_X12_waysFrom_1 l D cy ad th n nc tu (2 * cb) fr1 2 gO gU   (rfl) (by omega) (by omega)) (jgo wm_X12_156) yk_X12_waysFrom gO rfl rfl ⟨⟨rfl, rfl⟩, by decide, by decide⟩ rfl hl.1 rfl (Nat.le_of_ble_eq_true rfl) dX12_waysFrom_27 ⟨Nat.le_of_ble_eq_true rfl, Nat.le_of_ble_eq_true rfl⟩ (fun v u H locs hp hW => ?_)
    obtain ⟨rfl, rfl⟩ := hp
    refine W.eq (g2 := F0 m 30 ls [.long (lN (waysH tu 1 (2 * cb)))]) rfl ?_
    refine lv_lstore (lv' := [(4, .long (lN (waysH tu 1 (2 * cb)))), (3, .int (nI 2)), (0, .ref (ad 55)), (1, .int (nI fr1)), (2, .int (nI ln))]) S.1 S.2.1 dX12_waysFrom_30 hl (by decide) rfl (fun ls hl => ?_)
    refine lv_aload_n S.1 S.2.1 dX12_waysFrom_32 rfl (lv_at hl 2 rfl) ?_
    refine lv_iload_n S.1 S.2.1 dX12_waysFrom_33 rfl (lv_at hl 3 rfl) ?_
    refine lv_iload_n S.1 S.2.1 dX12_waysFrom_34 rfl (lv_at hl 3 rfl) ?_
    refine lv_iload_n S.1 S.2.1 dX12_waysFrom_35 rfl (lv_at hl 1 rfl) ?_
    refine jn_add S dX12_waysFrom_36 ?_
    refine lv_iload_n S.1 S.2.1 dX12_waysFrom_37 rfl (lv_at hl 1 rfl) ?_
    refine j_callV (k := 55) (ci := 11) (q := (RX12, TX12, 17)) (As := [.int (nI fr1), .int (nI (fr1 + 2)), .int (nI 2)]) (rest := []) S hK hA hW (c_X12_areLike l D cy ad th n nc tu fr1 (fr1 + 2) 2 gO gU   (by omega) (by omega)) (jgo wm_X12_141) yk_X12_areLike gO rfl rfl ⟨⟨rfl, rfl⟩, by decide, by decide⟩ rfl hl.1 rfl (Nat.le_of_ble_eq_true rfl) dX12_waysFrom_38 ⟨Nat.le_of_ble_eq_true rfl, Nat.le_of_ble_eq_true rfl⟩ (fun v u H locs hp hW => ?_)
    obtain ⟨rfl, rfl⟩ := hp
    refine W.eq (g2 := F0 m 41 ls [.int (bI (allB (fun i => tu (fr1 + i) == tu ((fr1 + 2) + i)) 2))]) rfl ?_
    refine lv_topi_to (y := bI (sameB tu 2 (2 * cb) (2 * cb + 1))) (congrArg bI (like_at (by omega))) ?_
    refine jb_if_eq (tgt := 49) S dX12_waysFrom_41 (by decide) (fun c_41 => ?_) (fun c_41 => ?_)
    · refine lv_lload S.1 S.2.1 dX12_waysFrom_49 (lv_at hl 0 rfl) ?_
      refine lv_aload_n S.1 S.2.1 dX12_waysFrom_51 rfl (lv_at hl 2 rfl) ?_
      refine lv_iload_n S.1 S.2.1 dX12_waysFrom_52 rfl (lv_at hl 3 rfl) ?_
      refine lv_iload_n S.1 S.2.1 dX12_waysFrom_53 rfl (lv_at hl 1 rfl) ?_
      refine jn_add S dX12_waysFrom_54 ?_
      refine lv_iload_n S.1 S.2.1 dX12_waysFrom_55 rfl (lv_at hl 1 rfl) ?_
      refine j_callV (k := 55) (ci := 11) (q := (RX12, TX12, 17)) (As := [.int (nI (fr1 + 2)), .int (nI 2)]) (rest := [.long (lN (waysH tu 1 (2 * cb)))]) S hK hA hW (c_X12_waysFrom_1 l D cy ad th n nc tu (2 * cb + 1) (fr1 + 2) 2 gO gU   (rfl) (by omega) (by omega)) (jgo wm_X12_156) yk_X12_waysFrom gO rfl rfl ⟨⟨rfl, rfl⟩, by decide, by decide⟩ rfl hl.1 rfl (Nat.le_of_ble_eq_true rfl) dX12_waysFrom_56 ⟨Nat.le_of_ble_eq_true rfl, Nat.le_of_ble_eq_true rfl⟩ (fun v u H locs hp hW => ?_)
      obtain ⟨rfl, rfl⟩ := hp
      refine W.eq (g2 := F0 m 59 ls [.long (lN (waysH tu 1 (2 * cb + 1))), .long (lN (waysH tu 1 (2 * cb)))]) rfl ?_
      have hw1 : waysH tu 1 (2 * cb) ≤ 2 := waysH_le tu 1 (2 * cb)
      have hw2 : waysH tu 1 (2 * cb + 1) ≤ 2 := waysH_le tu 1 (2 * cb + 1)
      refine jnl_add S dX12_waysFrom_59 ?_
      subst hQ
      exact j_lret (u := w) S hr hK hW dX12_waysFrom_60 ⟨by decide, by decide⟩ (⟨by first | exact congrArg (fun z => some (Value.long (lN z))) (wH_t (h := 1) c_41) | exact congrArg (fun z => some (Value.long (lN z))) (wH_f (h := 1) c_41), rfl⟩)
    · refine lv_lload S.1 S.2.1 dX12_waysFrom_44 (lv_at hl 0 rfl) ?_
      refine lv_goto (tgt := 60) S.1 S.2.1 dX12_waysFrom_46 (by decide) ?_
      subst hQ
      exact j_lret (u := w) S hr hK hW dX12_waysFrom_60 ⟨by decide, by decide⟩ (⟨by first | exact congrArg (fun z => some (Value.long (lN z))) (wH_t (h := 1) c_41) | exact congrArg (fun z => some (Value.long (lN z))) (wH_f (h := 1) c_41), rfl⟩)
  · exact absurd c_2 (by omega)
/-- waysFrom, 8 answers -/
theorem c_X12_waysFrom_3 (l : Launch) (D : va_G) (cy : Nat → ClassId) {w : va_W} (ad : Nat → Nat) (th n nc : Nat) (tu : Nat → Bool) (cb fr1 ln : Nat) (gO : w[55]? = some (ad 55, .inr (11, [.int (nI th), .ref (ad 56), .ref (ad 57), .ref (ad 58), .ref (ad 59), .ref (ad 60), .ref (ad 61), .ref (ad 62), .ref (ad 63), .ref (ad 64), .ref (ad 65), .int (nI n), .int (nI nc), .ref (ad 66), .ref (ad 71), .ref (ad 72), .ref (ad 73)]))) (gU : w[73]? = some (ad 73, .inl (cy 3, 1024, .inl (bf tu)))) (hln : ln = 8) (hfr : fr1 = cb * 8) (hle : fr1 + 8 ≤ 1024) : jM l yX12_waysFrom (jws yX12_waysFrom cX12_waysFrom 6 (some .long)) (jR 4 0 0) D cy w [.ref (ad 55), .int (nI fr1), .int (nI ln)] 0 0 (fun vv uu => vv = some (.long (lN (waysH tu 3 cb))) ∧ w = uu) := by
  refine j_of (by decide) rfl (Nat.le_of_ble_eq_true rfl) ?_
  intro p e s m args below meth c A ls Q hQ S hr hK hA H locs hW hl
  have hl : lv_has ls 6 [(0, .ref (ad 55)), (1, .int (nI fr1)), (2, .int (nI ln))] := hl
  refine lv_iload_n S.1 S.2.1 dX12_waysFrom_0 rfl (lv_at hl 2 rfl) ?_
  refine lv_iconst (v := nI 1) S.1 S.2.1 dX12_waysFrom_1 (by decide) ?_
  refine jn_cmp_ne (tgt := 20) S (by omega) (by omega) dX12_waysFrom_2 (by decide) (fun c_2 => ?_) (fun c_2 => ?_)
  · refine lv_iload_n S.1 S.2.1 dX12_waysFrom_20 rfl (lv_at hl 2 rfl) ?_
    refine lv_iconst (v := nI 2) S.1 S.2.1 dX12_waysFrom_21 (by decide) ?_
    refine jn_div S (by omega) (by omega) (by omega) dX12_waysFrom_22 ?_
    refine lv_topi_to (y := nI 4) (congrArg nI (by omega)) ?_
    refine lv_istore_n (lv' := [(3, .int (nI 4)), (0, .ref (ad 55)), (1, .int (nI fr1)), (2, .int (nI ln))]) S.1 S.2.1 dX12_waysFrom_23 rfl hl (by decide) rfl (fun ls hl => ?_)
    refine lv_aload_n S.1 S.2.1 dX12_waysFrom_24 rfl (lv_at hl 1 rfl) ?_
    refine lv_iload_n S.1 S.2.1 dX12_waysFrom_25 rfl (lv_at hl 2 rfl) ?_
    refine lv_iload_n S.1 S.2.1 dX12_waysFrom_26 rfl (lv_at hl 0 rfl) ?_
    refine j_callV (k := 55) (ci := 11) (q := (RX12, TX12, 17)) (As := [.int (nI fr1), .int (nI 4)]) (rest := []) S hK hA hW (c_X12_waysFrom_2 l D cy ad th n nc tu (2 * cb) fr1 4 gO gU   (rfl) (by omega) (by omega)) (jgo wm_X12_156) yk_X12_waysFrom gO rfl rfl ⟨⟨rfl, rfl⟩, by decide, by decide⟩ rfl hl.1 rfl (Nat.le_of_ble_eq_true rfl) dX12_waysFrom_27 ⟨Nat.le_of_ble_eq_true rfl, Nat.le_of_ble_eq_true rfl⟩ (fun v u H locs hp hW => ?_)
    obtain ⟨rfl, rfl⟩ := hp
    refine W.eq (g2 := F0 m 30 ls [.long (lN (waysH tu 2 (2 * cb)))]) rfl ?_
    refine lv_lstore (lv' := [(4, .long (lN (waysH tu 2 (2 * cb)))), (3, .int (nI 4)), (0, .ref (ad 55)), (1, .int (nI fr1)), (2, .int (nI ln))]) S.1 S.2.1 dX12_waysFrom_30 hl (by decide) rfl (fun ls hl => ?_)
    refine lv_aload_n S.1 S.2.1 dX12_waysFrom_32 rfl (lv_at hl 2 rfl) ?_
    refine lv_iload_n S.1 S.2.1 dX12_waysFrom_33 rfl (lv_at hl 3 rfl) ?_
    refine lv_iload_n S.1 S.2.1 dX12_waysFrom_34 rfl (lv_at hl 3 rfl) ?_
    refine lv_iload_n S.1 S.2.1 dX12_waysFrom_35 rfl (lv_at hl 1 rfl) ?_
    refine jn_add S dX12_waysFrom_36 ?_
    refine lv_iload_n S.1 S.2.1 dX12_waysFrom_37 rfl (lv_at hl 1 rfl) ?_
    refine j_callV (k := 55) (ci := 11) (q := (RX12, TX12, 17)) (As := [.int (nI fr1), .int (nI (fr1 + 4)), .int (nI 4)]) (rest := []) S hK hA hW (c_X12_areLike l D cy ad th n nc tu fr1 (fr1 + 4) 4 gO gU   (by omega) (by omega)) (jgo wm_X12_141) yk_X12_areLike gO rfl rfl ⟨⟨rfl, rfl⟩, by decide, by decide⟩ rfl hl.1 rfl (Nat.le_of_ble_eq_true rfl) dX12_waysFrom_38 ⟨Nat.le_of_ble_eq_true rfl, Nat.le_of_ble_eq_true rfl⟩ (fun v u H locs hp hW => ?_)
    obtain ⟨rfl, rfl⟩ := hp
    refine W.eq (g2 := F0 m 41 ls [.int (bI (allB (fun i => tu (fr1 + i) == tu ((fr1 + 4) + i)) 4))]) rfl ?_
    refine lv_topi_to (y := bI (sameB tu 4 (2 * cb) (2 * cb + 1))) (congrArg bI (like_at (by omega))) ?_
    refine jb_if_eq (tgt := 49) S dX12_waysFrom_41 (by decide) (fun c_41 => ?_) (fun c_41 => ?_)
    · refine lv_lload S.1 S.2.1 dX12_waysFrom_49 (lv_at hl 0 rfl) ?_
      refine lv_aload_n S.1 S.2.1 dX12_waysFrom_51 rfl (lv_at hl 2 rfl) ?_
      refine lv_iload_n S.1 S.2.1 dX12_waysFrom_52 rfl (lv_at hl 3 rfl) ?_
      refine lv_iload_n S.1 S.2.1 dX12_waysFrom_53 rfl (lv_at hl 1 rfl) ?_
      refine jn_add S dX12_waysFrom_54 ?_
      refine lv_iload_n S.1 S.2.1 dX12_waysFrom_55 rfl (lv_at hl 1 rfl) ?_
      refine j_callV (k := 55) (ci := 11) (q := (RX12, TX12, 17)) (As := [.int (nI (fr1 + 4)), .int (nI 4)]) (rest := [.long (lN (waysH tu 2 (2 * cb)))]) S hK hA hW (c_X12_waysFrom_2 l D cy ad th n nc tu (2 * cb + 1) (fr1 + 4) 4 gO gU   (rfl) (by omega) (by omega)) (jgo wm_X12_156) yk_X12_waysFrom gO rfl rfl ⟨⟨rfl, rfl⟩, by decide, by decide⟩ rfl hl.1 rfl (Nat.le_of_ble_eq_true rfl) dX12_waysFrom_56 ⟨Nat.le_of_ble_eq_true rfl, Nat.le_of_ble_eq_true rfl⟩ (fun v u H locs hp hW => ?_)
      obtain ⟨rfl, rfl⟩ := hp
      refine W.eq (g2 := F0 m 59 ls [.long (lN (waysH tu 2 (2 * cb + 1))), .long (lN (waysH tu 2 (2 * cb)))]) rfl ?_
      have hw1 : waysH tu 2 (2 * cb) ≤ 4 := waysH_le tu 2 (2 * cb)
      have hw2 : waysH tu 2 (2 * cb + 1) ≤ 4 := waysH_le tu 2 (2 * cb + 1)
      refine jnl_add S dX12_waysFrom_59 ?_
      subst hQ
      exact j_lret (u := w) S hr hK hW dX12_waysFrom_60 ⟨by decide, by decide⟩ (⟨by first | exact congrArg (fun z => some (Value.long (lN z))) (wH_t (h := 2) c_41) | exact congrArg (fun z => some (Value.long (lN z))) (wH_f (h := 2) c_41), rfl⟩)
    · refine lv_lload S.1 S.2.1 dX12_waysFrom_44 (lv_at hl 0 rfl) ?_
      refine lv_goto (tgt := 60) S.1 S.2.1 dX12_waysFrom_46 (by decide) ?_
      subst hQ
      exact j_lret (u := w) S hr hK hW dX12_waysFrom_60 ⟨by decide, by decide⟩ (⟨by first | exact congrArg (fun z => some (Value.long (lN z))) (wH_t (h := 2) c_41) | exact congrArg (fun z => some (Value.long (lN z))) (wH_f (h := 2) c_41), rfl⟩)
  · exact absurd c_2 (by omega)
/-- waysFrom, 16 answers -/
theorem c_X12_waysFrom_4 (l : Launch) (D : va_G) (cy : Nat → ClassId) {w : va_W} (ad : Nat → Nat) (th n nc : Nat) (tu : Nat → Bool) (cb fr1 ln : Nat) (gO : w[55]? = some (ad 55, .inr (11, [.int (nI th), .ref (ad 56), .ref (ad 57), .ref (ad 58), .ref (ad 59), .ref (ad 60), .ref (ad 61), .ref (ad 62), .ref (ad 63), .ref (ad 64), .ref (ad 65), .int (nI n), .int (nI nc), .ref (ad 66), .ref (ad 71), .ref (ad 72), .ref (ad 73)]))) (gU : w[73]? = some (ad 73, .inl (cy 3, 1024, .inl (bf tu)))) (hln : ln = 16) (hfr : fr1 = cb * 16) (hle : fr1 + 16 ≤ 1024) : jM l yX12_waysFrom (jws yX12_waysFrom cX12_waysFrom 6 (some .long)) (jR 5 0 0) D cy w [.ref (ad 55), .int (nI fr1), .int (nI ln)] 0 0 (fun vv uu => vv = some (.long (lN (waysH tu 4 cb))) ∧ w = uu) := by
  refine j_of (by decide) rfl (Nat.le_of_ble_eq_true rfl) ?_
  intro p e s m args below meth c A ls Q hQ S hr hK hA H locs hW hl
  have hl : lv_has ls 6 [(0, .ref (ad 55)), (1, .int (nI fr1)), (2, .int (nI ln))] := hl
  refine lv_iload_n S.1 S.2.1 dX12_waysFrom_0 rfl (lv_at hl 2 rfl) ?_
  refine lv_iconst (v := nI 1) S.1 S.2.1 dX12_waysFrom_1 (by decide) ?_
  refine jn_cmp_ne (tgt := 20) S (by omega) (by omega) dX12_waysFrom_2 (by decide) (fun c_2 => ?_) (fun c_2 => ?_)
  · refine lv_iload_n S.1 S.2.1 dX12_waysFrom_20 rfl (lv_at hl 2 rfl) ?_
    refine lv_iconst (v := nI 2) S.1 S.2.1 dX12_waysFrom_21 (by decide) ?_
    refine jn_div S (by omega) (by omega) (by omega) dX12_waysFrom_22 ?_
    refine lv_topi_to (y := nI 8) (congrArg nI (by omega)) ?_
    refine lv_istore_n (lv' := [(3, .int (nI 8)), (0, .ref (ad 55)), (1, .int (nI fr1)), (2, .int (nI ln))]) S.1 S.2.1 dX12_waysFrom_23 rfl hl (by decide) rfl (fun ls hl => ?_)
    refine lv_aload_n S.1 S.2.1 dX12_waysFrom_24 rfl (lv_at hl 1 rfl) ?_
    refine lv_iload_n S.1 S.2.1 dX12_waysFrom_25 rfl (lv_at hl 2 rfl) ?_
    refine lv_iload_n S.1 S.2.1 dX12_waysFrom_26 rfl (lv_at hl 0 rfl) ?_
    refine j_callV (k := 55) (ci := 11) (q := (RX12, TX12, 17)) (As := [.int (nI fr1), .int (nI 8)]) (rest := []) S hK hA hW (c_X12_waysFrom_3 l D cy ad th n nc tu (2 * cb) fr1 8 gO gU   (rfl) (by omega) (by omega)) (jgo wm_X12_156) yk_X12_waysFrom gO rfl rfl ⟨⟨rfl, rfl⟩, by decide, by decide⟩ rfl hl.1 rfl (Nat.le_of_ble_eq_true rfl) dX12_waysFrom_27 ⟨Nat.le_of_ble_eq_true rfl, Nat.le_of_ble_eq_true rfl⟩ (fun v u H locs hp hW => ?_)
    obtain ⟨rfl, rfl⟩ := hp
    refine W.eq (g2 := F0 m 30 ls [.long (lN (waysH tu 3 (2 * cb)))]) rfl ?_
    refine lv_lstore (lv' := [(4, .long (lN (waysH tu 3 (2 * cb)))), (3, .int (nI 8)), (0, .ref (ad 55)), (1, .int (nI fr1)), (2, .int (nI ln))]) S.1 S.2.1 dX12_waysFrom_30 hl (by decide) rfl (fun ls hl => ?_)
    refine lv_aload_n S.1 S.2.1 dX12_waysFrom_32 rfl (lv_at hl 2 rfl) ?_
    refine lv_iload_n S.1 S.2.1 dX12_waysFrom_33 rfl (lv_at hl 3 rfl) ?_
    refine lv_iload_n S.1 S.2.1 dX12_waysFrom_34 rfl (lv_at hl 3 rfl) ?_
    refine lv_iload_n S.1 S.2.1 dX12_waysFrom_35 rfl (lv_at hl 1 rfl) ?_
    refine jn_add S dX12_waysFrom_36 ?_
    refine lv_iload_n S.1 S.2.1 dX12_waysFrom_37 rfl (lv_at hl 1 rfl) ?_
    refine j_callV (k := 55) (ci := 11) (q := (RX12, TX12, 17)) (As := [.int (nI fr1), .int (nI (fr1 + 8)), .int (nI 8)]) (rest := []) S hK hA hW (c_X12_areLike l D cy ad th n nc tu fr1 (fr1 + 8) 8 gO gU   (by omega) (by omega)) (jgo wm_X12_141) yk_X12_areLike gO rfl rfl ⟨⟨rfl, rfl⟩, by decide, by decide⟩ rfl hl.1 rfl (Nat.le_of_ble_eq_true rfl) dX12_waysFrom_38 ⟨Nat.le_of_ble_eq_true rfl, Nat.le_of_ble_eq_true rfl⟩ (fun v u H locs hp hW => ?_)
    obtain ⟨rfl, rfl⟩ := hp
    refine W.eq (g2 := F0 m 41 ls [.int (bI (allB (fun i => tu (fr1 + i) == tu ((fr1 + 8) + i)) 8))]) rfl ?_
    refine lv_topi_to (y := bI (sameB tu 8 (2 * cb) (2 * cb + 1))) (congrArg bI (like_at (by omega))) ?_
    refine jb_if_eq (tgt := 49) S dX12_waysFrom_41 (by decide) (fun c_41 => ?_) (fun c_41 => ?_)
    · refine lv_lload S.1 S.2.1 dX12_waysFrom_49 (lv_at hl 0 rfl) ?_
      refine lv_aload_n S.1 S.2.1 dX12_waysFrom_51 rfl (lv_at hl 2 rfl) ?_
      refine lv_iload_n S.1 S.2.1 dX12_waysFrom_52 rfl (lv_at hl 3 rfl) ?_
      refine lv_iload_n S.1 S.2.1 dX12_waysFrom_53 rfl (lv_at hl 1 rfl) ?_
      refine jn_add S dX12_waysFrom_54 ?_
      refine lv_iload_n S.1 S.2.1 dX12_waysFrom_55 rfl (lv_at hl 1 rfl) ?_
      refine j_callV (k := 55) (ci := 11) (q := (RX12, TX12, 17)) (As := [.int (nI (fr1 + 8)), .int (nI 8)]) (rest := [.long (lN (waysH tu 3 (2 * cb)))]) S hK hA hW (c_X12_waysFrom_3 l D cy ad th n nc tu (2 * cb + 1) (fr1 + 8) 8 gO gU   (rfl) (by omega) (by omega)) (jgo wm_X12_156) yk_X12_waysFrom gO rfl rfl ⟨⟨rfl, rfl⟩, by decide, by decide⟩ rfl hl.1 rfl (Nat.le_of_ble_eq_true rfl) dX12_waysFrom_56 ⟨Nat.le_of_ble_eq_true rfl, Nat.le_of_ble_eq_true rfl⟩ (fun v u H locs hp hW => ?_)
      obtain ⟨rfl, rfl⟩ := hp
      refine W.eq (g2 := F0 m 59 ls [.long (lN (waysH tu 3 (2 * cb + 1))), .long (lN (waysH tu 3 (2 * cb)))]) rfl ?_
      have hw1 : waysH tu 3 (2 * cb) ≤ 8 := waysH_le tu 3 (2 * cb)
      have hw2 : waysH tu 3 (2 * cb + 1) ≤ 8 := waysH_le tu 3 (2 * cb + 1)
      refine jnl_add S dX12_waysFrom_59 ?_
      subst hQ
      exact j_lret (u := w) S hr hK hW dX12_waysFrom_60 ⟨by decide, by decide⟩ (⟨by first | exact congrArg (fun z => some (Value.long (lN z))) (wH_t (h := 3) c_41) | exact congrArg (fun z => some (Value.long (lN z))) (wH_f (h := 3) c_41), rfl⟩)
    · refine lv_lload S.1 S.2.1 dX12_waysFrom_44 (lv_at hl 0 rfl) ?_
      refine lv_goto (tgt := 60) S.1 S.2.1 dX12_waysFrom_46 (by decide) ?_
      subst hQ
      exact j_lret (u := w) S hr hK hW dX12_waysFrom_60 ⟨by decide, by decide⟩ (⟨by first | exact congrArg (fun z => some (Value.long (lN z))) (wH_t (h := 3) c_41) | exact congrArg (fun z => some (Value.long (lN z))) (wH_f (h := 3) c_41), rfl⟩)
  · exact absurd c_2 (by omega)
/-- waysFrom, 32 answers -/
theorem c_X12_waysFrom_5 (l : Launch) (D : va_G) (cy : Nat → ClassId) {w : va_W} (ad : Nat → Nat) (th n nc : Nat) (tu : Nat → Bool) (cb fr1 ln : Nat) (gO : w[55]? = some (ad 55, .inr (11, [.int (nI th), .ref (ad 56), .ref (ad 57), .ref (ad 58), .ref (ad 59), .ref (ad 60), .ref (ad 61), .ref (ad 62), .ref (ad 63), .ref (ad 64), .ref (ad 65), .int (nI n), .int (nI nc), .ref (ad 66), .ref (ad 71), .ref (ad 72), .ref (ad 73)]))) (gU : w[73]? = some (ad 73, .inl (cy 3, 1024, .inl (bf tu)))) (hln : ln = 32) (hfr : fr1 = cb * 32) (hle : fr1 + 32 ≤ 1024) : jM l yX12_waysFrom (jws yX12_waysFrom cX12_waysFrom 6 (some .long)) (jR 6 0 0) D cy w [.ref (ad 55), .int (nI fr1), .int (nI ln)] 0 0 (fun vv uu => vv = some (.long (lN (waysH tu 5 cb))) ∧ w = uu) := by
  refine j_of (by decide) rfl (Nat.le_of_ble_eq_true rfl) ?_
  intro p e s m args below meth c A ls Q hQ S hr hK hA H locs hW hl
  have hl : lv_has ls 6 [(0, .ref (ad 55)), (1, .int (nI fr1)), (2, .int (nI ln))] := hl
  refine lv_iload_n S.1 S.2.1 dX12_waysFrom_0 rfl (lv_at hl 2 rfl) ?_
  refine lv_iconst (v := nI 1) S.1 S.2.1 dX12_waysFrom_1 (by decide) ?_
  refine jn_cmp_ne (tgt := 20) S (by omega) (by omega) dX12_waysFrom_2 (by decide) (fun c_2 => ?_) (fun c_2 => ?_)
  · refine lv_iload_n S.1 S.2.1 dX12_waysFrom_20 rfl (lv_at hl 2 rfl) ?_
    refine lv_iconst (v := nI 2) S.1 S.2.1 dX12_waysFrom_21 (by decide) ?_
    refine jn_div S (by omega) (by omega) (by omega) dX12_waysFrom_22 ?_
    refine lv_topi_to (y := nI 16) (congrArg nI (by omega)) ?_
    refine lv_istore_n (lv' := [(3, .int (nI 16)), (0, .ref (ad 55)), (1, .int (nI fr1)), (2, .int (nI ln))]) S.1 S.2.1 dX12_waysFrom_23 rfl hl (by decide) rfl (fun ls hl => ?_)
    refine lv_aload_n S.1 S.2.1 dX12_waysFrom_24 rfl (lv_at hl 1 rfl) ?_
    refine lv_iload_n S.1 S.2.1 dX12_waysFrom_25 rfl (lv_at hl 2 rfl) ?_
    refine lv_iload_n S.1 S.2.1 dX12_waysFrom_26 rfl (lv_at hl 0 rfl) ?_
    refine j_callV (k := 55) (ci := 11) (q := (RX12, TX12, 17)) (As := [.int (nI fr1), .int (nI 16)]) (rest := []) S hK hA hW (c_X12_waysFrom_4 l D cy ad th n nc tu (2 * cb) fr1 16 gO gU   (rfl) (by omega) (by omega)) (jgo wm_X12_156) yk_X12_waysFrom gO rfl rfl ⟨⟨rfl, rfl⟩, by decide, by decide⟩ rfl hl.1 rfl (Nat.le_of_ble_eq_true rfl) dX12_waysFrom_27 ⟨Nat.le_of_ble_eq_true rfl, Nat.le_of_ble_eq_true rfl⟩ (fun v u H locs hp hW => ?_)
    obtain ⟨rfl, rfl⟩ := hp
    refine W.eq (g2 := F0 m 30 ls [.long (lN (waysH tu 4 (2 * cb)))]) rfl ?_
    refine lv_lstore (lv' := [(4, .long (lN (waysH tu 4 (2 * cb)))), (3, .int (nI 16)), (0, .ref (ad 55)), (1, .int (nI fr1)), (2, .int (nI ln))]) S.1 S.2.1 dX12_waysFrom_30 hl (by decide) rfl (fun ls hl => ?_)
    refine lv_aload_n S.1 S.2.1 dX12_waysFrom_32 rfl (lv_at hl 2 rfl) ?_
    refine lv_iload_n S.1 S.2.1 dX12_waysFrom_33 rfl (lv_at hl 3 rfl) ?_
    refine lv_iload_n S.1 S.2.1 dX12_waysFrom_34 rfl (lv_at hl 3 rfl) ?_
    refine lv_iload_n S.1 S.2.1 dX12_waysFrom_35 rfl (lv_at hl 1 rfl) ?_
    refine jn_add S dX12_waysFrom_36 ?_
    refine lv_iload_n S.1 S.2.1 dX12_waysFrom_37 rfl (lv_at hl 1 rfl) ?_
    refine j_callV (k := 55) (ci := 11) (q := (RX12, TX12, 17)) (As := [.int (nI fr1), .int (nI (fr1 + 16)), .int (nI 16)]) (rest := []) S hK hA hW (c_X12_areLike l D cy ad th n nc tu fr1 (fr1 + 16) 16 gO gU   (by omega) (by omega)) (jgo wm_X12_141) yk_X12_areLike gO rfl rfl ⟨⟨rfl, rfl⟩, by decide, by decide⟩ rfl hl.1 rfl (Nat.le_of_ble_eq_true rfl) dX12_waysFrom_38 ⟨Nat.le_of_ble_eq_true rfl, Nat.le_of_ble_eq_true rfl⟩ (fun v u H locs hp hW => ?_)
    obtain ⟨rfl, rfl⟩ := hp
    refine W.eq (g2 := F0 m 41 ls [.int (bI (allB (fun i => tu (fr1 + i) == tu ((fr1 + 16) + i)) 16))]) rfl ?_
    refine lv_topi_to (y := bI (sameB tu 16 (2 * cb) (2 * cb + 1))) (congrArg bI (like_at (by omega))) ?_
    refine jb_if_eq (tgt := 49) S dX12_waysFrom_41 (by decide) (fun c_41 => ?_) (fun c_41 => ?_)
    · refine lv_lload S.1 S.2.1 dX12_waysFrom_49 (lv_at hl 0 rfl) ?_
      refine lv_aload_n S.1 S.2.1 dX12_waysFrom_51 rfl (lv_at hl 2 rfl) ?_
      refine lv_iload_n S.1 S.2.1 dX12_waysFrom_52 rfl (lv_at hl 3 rfl) ?_
      refine lv_iload_n S.1 S.2.1 dX12_waysFrom_53 rfl (lv_at hl 1 rfl) ?_
      refine jn_add S dX12_waysFrom_54 ?_
      refine lv_iload_n S.1 S.2.1 dX12_waysFrom_55 rfl (lv_at hl 1 rfl) ?_
      refine j_callV (k := 55) (ci := 11) (q := (RX12, TX12, 17)) (As := [.int (nI (fr1 + 16)), .int (nI 16)]) (rest := [.long (lN (waysH tu 4 (2 * cb)))]) S hK hA hW (c_X12_waysFrom_4 l D cy ad th n nc tu (2 * cb + 1) (fr1 + 16) 16 gO gU   (rfl) (by omega) (by omega)) (jgo wm_X12_156) yk_X12_waysFrom gO rfl rfl ⟨⟨rfl, rfl⟩, by decide, by decide⟩ rfl hl.1 rfl (Nat.le_of_ble_eq_true rfl) dX12_waysFrom_56 ⟨Nat.le_of_ble_eq_true rfl, Nat.le_of_ble_eq_true rfl⟩ (fun v u H locs hp hW => ?_)
      obtain ⟨rfl, rfl⟩ := hp
      refine W.eq (g2 := F0 m 59 ls [.long (lN (waysH tu 4 (2 * cb + 1))), .long (lN (waysH tu 4 (2 * cb)))]) rfl ?_
      have hw1 : waysH tu 4 (2 * cb) ≤ 16 := waysH_le tu 4 (2 * cb)
      have hw2 : waysH tu 4 (2 * cb + 1) ≤ 16 := waysH_le tu 4 (2 * cb + 1)
      refine jnl_add S dX12_waysFrom_59 ?_
      subst hQ
      exact j_lret (u := w) S hr hK hW dX12_waysFrom_60 ⟨by decide, by decide⟩ (⟨by first | exact congrArg (fun z => some (Value.long (lN z))) (wH_t (h := 4) c_41) | exact congrArg (fun z => some (Value.long (lN z))) (wH_f (h := 4) c_41), rfl⟩)
    · refine lv_lload S.1 S.2.1 dX12_waysFrom_44 (lv_at hl 0 rfl) ?_
      refine lv_goto (tgt := 60) S.1 S.2.1 dX12_waysFrom_46 (by decide) ?_
      subst hQ
      exact j_lret (u := w) S hr hK hW dX12_waysFrom_60 ⟨by decide, by decide⟩ (⟨by first | exact congrArg (fun z => some (Value.long (lN z))) (wH_t (h := 4) c_41) | exact congrArg (fun z => some (Value.long (lN z))) (wH_f (h := 4) c_41), rfl⟩)
  · exact absurd c_2 (by omega)
/-- waysFrom, 64 answers -/
theorem c_X12_waysFrom_6 (l : Launch) (D : va_G) (cy : Nat → ClassId) {w : va_W} (ad : Nat → Nat) (th n nc : Nat) (tu : Nat → Bool) (cb fr1 ln : Nat) (gO : w[55]? = some (ad 55, .inr (11, [.int (nI th), .ref (ad 56), .ref (ad 57), .ref (ad 58), .ref (ad 59), .ref (ad 60), .ref (ad 61), .ref (ad 62), .ref (ad 63), .ref (ad 64), .ref (ad 65), .int (nI n), .int (nI nc), .ref (ad 66), .ref (ad 71), .ref (ad 72), .ref (ad 73)]))) (gU : w[73]? = some (ad 73, .inl (cy 3, 1024, .inl (bf tu)))) (hln : ln = 64) (hfr : fr1 = cb * 64) (hle : fr1 + 64 ≤ 1024) : jM l yX12_waysFrom (jws yX12_waysFrom cX12_waysFrom 6 (some .long)) (jR 7 0 0) D cy w [.ref (ad 55), .int (nI fr1), .int (nI ln)] 0 0 (fun vv uu => vv = some (.long (lN (waysH tu 6 cb))) ∧ w = uu) := by
  refine j_of (by decide) rfl (Nat.le_of_ble_eq_true rfl) ?_
  intro p e s m args below meth c A ls Q hQ S hr hK hA H locs hW hl
  have hl : lv_has ls 6 [(0, .ref (ad 55)), (1, .int (nI fr1)), (2, .int (nI ln))] := hl
  refine lv_iload_n S.1 S.2.1 dX12_waysFrom_0 rfl (lv_at hl 2 rfl) ?_
  refine lv_iconst (v := nI 1) S.1 S.2.1 dX12_waysFrom_1 (by decide) ?_
  refine jn_cmp_ne (tgt := 20) S (by omega) (by omega) dX12_waysFrom_2 (by decide) (fun c_2 => ?_) (fun c_2 => ?_)
  · refine lv_iload_n S.1 S.2.1 dX12_waysFrom_20 rfl (lv_at hl 2 rfl) ?_
    refine lv_iconst (v := nI 2) S.1 S.2.1 dX12_waysFrom_21 (by decide) ?_
    refine jn_div S (by omega) (by omega) (by omega) dX12_waysFrom_22 ?_
    refine lv_topi_to (y := nI 32) (congrArg nI (by omega)) ?_
    refine lv_istore_n (lv' := [(3, .int (nI 32)), (0, .ref (ad 55)), (1, .int (nI fr1)), (2, .int (nI ln))]) S.1 S.2.1 dX12_waysFrom_23 rfl hl (by decide) rfl (fun ls hl => ?_)
    refine lv_aload_n S.1 S.2.1 dX12_waysFrom_24 rfl (lv_at hl 1 rfl) ?_
    refine lv_iload_n S.1 S.2.1 dX12_waysFrom_25 rfl (lv_at hl 2 rfl) ?_
    refine lv_iload_n S.1 S.2.1 dX12_waysFrom_26 rfl (lv_at hl 0 rfl) ?_
    refine j_callV (k := 55) (ci := 11) (q := (RX12, TX12, 17)) (As := [.int (nI fr1), .int (nI 32)]) (rest := []) S hK hA hW (c_X12_waysFrom_5 l D cy ad th n nc tu (2 * cb) fr1 32 gO gU   (rfl) (by omega) (by omega)) (jgo wm_X12_156) yk_X12_waysFrom gO rfl rfl ⟨⟨rfl, rfl⟩, by decide, by decide⟩ rfl hl.1 rfl (Nat.le_of_ble_eq_true rfl) dX12_waysFrom_27 ⟨Nat.le_of_ble_eq_true rfl, Nat.le_of_ble_eq_true rfl⟩ (fun v u H locs hp hW => ?_)
    obtain ⟨rfl, rfl⟩ := hp
    refine W.eq (g2 := F0 m 30 ls [.long (lN (waysH tu 5 (2 * cb)))]) rfl ?_
    refine lv_lstore (lv' := [(4, .long (lN (waysH tu 5 (2 * cb)))), (3, .int (nI 32)), (0, .ref (ad 55)), (1, .int (nI fr1)), (2, .int (nI ln))]) S.1 S.2.1 dX12_waysFrom_30 hl (by decide) rfl (fun ls hl => ?_)
    refine lv_aload_n S.1 S.2.1 dX12_waysFrom_32 rfl (lv_at hl 2 rfl) ?_
    refine lv_iload_n S.1 S.2.1 dX12_waysFrom_33 rfl (lv_at hl 3 rfl) ?_
    refine lv_iload_n S.1 S.2.1 dX12_waysFrom_34 rfl (lv_at hl 3 rfl) ?_
    refine lv_iload_n S.1 S.2.1 dX12_waysFrom_35 rfl (lv_at hl 1 rfl) ?_
    refine jn_add S dX12_waysFrom_36 ?_
    refine lv_iload_n S.1 S.2.1 dX12_waysFrom_37 rfl (lv_at hl 1 rfl) ?_
    refine j_callV (k := 55) (ci := 11) (q := (RX12, TX12, 17)) (As := [.int (nI fr1), .int (nI (fr1 + 32)), .int (nI 32)]) (rest := []) S hK hA hW (c_X12_areLike l D cy ad th n nc tu fr1 (fr1 + 32) 32 gO gU   (by omega) (by omega)) (jgo wm_X12_141) yk_X12_areLike gO rfl rfl ⟨⟨rfl, rfl⟩, by decide, by decide⟩ rfl hl.1 rfl (Nat.le_of_ble_eq_true rfl) dX12_waysFrom_38 ⟨Nat.le_of_ble_eq_true rfl, Nat.le_of_ble_eq_true rfl⟩ (fun v u H locs hp hW => ?_)
    obtain ⟨rfl, rfl⟩ := hp
    refine W.eq (g2 := F0 m 41 ls [.int (bI (allB (fun i => tu (fr1 + i) == tu ((fr1 + 32) + i)) 32))]) rfl ?_
    refine lv_topi_to (y := bI (sameB tu 32 (2 * cb) (2 * cb + 1))) (congrArg bI (like_at (by omega))) ?_
    refine jb_if_eq (tgt := 49) S dX12_waysFrom_41 (by decide) (fun c_41 => ?_) (fun c_41 => ?_)
    · refine lv_lload S.1 S.2.1 dX12_waysFrom_49 (lv_at hl 0 rfl) ?_
      refine lv_aload_n S.1 S.2.1 dX12_waysFrom_51 rfl (lv_at hl 2 rfl) ?_
      refine lv_iload_n S.1 S.2.1 dX12_waysFrom_52 rfl (lv_at hl 3 rfl) ?_
      refine lv_iload_n S.1 S.2.1 dX12_waysFrom_53 rfl (lv_at hl 1 rfl) ?_
      refine jn_add S dX12_waysFrom_54 ?_
      refine lv_iload_n S.1 S.2.1 dX12_waysFrom_55 rfl (lv_at hl 1 rfl) ?_
      refine j_callV (k := 55) (ci := 11) (q := (RX12, TX12, 17)) (As := [.int (nI (fr1 + 32)), .int (nI 32)]) (rest := [.long (lN (waysH tu 5 (2 * cb)))]) S hK hA hW (c_X12_waysFrom_5 l D cy ad th n nc tu (2 * cb + 1) (fr1 + 32) 32 gO gU   (rfl) (by omega) (by omega)) (jgo wm_X12_156) yk_X12_waysFrom gO rfl rfl ⟨⟨rfl, rfl⟩, by decide, by decide⟩ rfl hl.1 rfl (Nat.le_of_ble_eq_true rfl) dX12_waysFrom_56 ⟨Nat.le_of_ble_eq_true rfl, Nat.le_of_ble_eq_true rfl⟩ (fun v u H locs hp hW => ?_)
      obtain ⟨rfl, rfl⟩ := hp
      refine W.eq (g2 := F0 m 59 ls [.long (lN (waysH tu 5 (2 * cb + 1))), .long (lN (waysH tu 5 (2 * cb)))]) rfl ?_
      have hw1 : waysH tu 5 (2 * cb) ≤ 32 := waysH_le tu 5 (2 * cb)
      have hw2 : waysH tu 5 (2 * cb + 1) ≤ 32 := waysH_le tu 5 (2 * cb + 1)
      refine jnl_add S dX12_waysFrom_59 ?_
      subst hQ
      exact j_lret (u := w) S hr hK hW dX12_waysFrom_60 ⟨by decide, by decide⟩ (⟨by first | exact congrArg (fun z => some (Value.long (lN z))) (wH_t (h := 5) c_41) | exact congrArg (fun z => some (Value.long (lN z))) (wH_f (h := 5) c_41), rfl⟩)
    · refine lv_lload S.1 S.2.1 dX12_waysFrom_44 (lv_at hl 0 rfl) ?_
      refine lv_goto (tgt := 60) S.1 S.2.1 dX12_waysFrom_46 (by decide) ?_
      subst hQ
      exact j_lret (u := w) S hr hK hW dX12_waysFrom_60 ⟨by decide, by decide⟩ (⟨by first | exact congrArg (fun z => some (Value.long (lN z))) (wH_t (h := 5) c_41) | exact congrArg (fun z => some (Value.long (lN z))) (wH_f (h := 5) c_41), rfl⟩)
  · exact absurd c_2 (by omega)
/-- waysFrom, 128 answers -/
theorem c_X12_waysFrom_7 (l : Launch) (D : va_G) (cy : Nat → ClassId) {w : va_W} (ad : Nat → Nat) (th n nc : Nat) (tu : Nat → Bool) (cb fr1 ln : Nat) (gO : w[55]? = some (ad 55, .inr (11, [.int (nI th), .ref (ad 56), .ref (ad 57), .ref (ad 58), .ref (ad 59), .ref (ad 60), .ref (ad 61), .ref (ad 62), .ref (ad 63), .ref (ad 64), .ref (ad 65), .int (nI n), .int (nI nc), .ref (ad 66), .ref (ad 71), .ref (ad 72), .ref (ad 73)]))) (gU : w[73]? = some (ad 73, .inl (cy 3, 1024, .inl (bf tu)))) (hln : ln = 128) (hfr : fr1 = cb * 128) (hle : fr1 + 128 ≤ 1024) : jM l yX12_waysFrom (jws yX12_waysFrom cX12_waysFrom 6 (some .long)) (jR 8 0 0) D cy w [.ref (ad 55), .int (nI fr1), .int (nI ln)] 0 0 (fun vv uu => vv = some (.long (lN (waysH tu 7 cb))) ∧ w = uu) := by
  refine j_of (by decide) rfl (Nat.le_of_ble_eq_true rfl) ?_
  intro p e s m args below meth c A ls Q hQ S hr hK hA H locs hW hl
  have hl : lv_has ls 6 [(0, .ref (ad 55)), (1, .int (nI fr1)), (2, .int (nI ln))] := hl
  refine lv_iload_n S.1 S.2.1 dX12_waysFrom_0 rfl (lv_at hl 2 rfl) ?_
  refine lv_iconst (v := nI 1) S.1 S.2.1 dX12_waysFrom_1 (by decide) ?_
  refine jn_cmp_ne (tgt := 20) S (by omega) (by omega) dX12_waysFrom_2 (by decide) (fun c_2 => ?_) (fun c_2 => ?_)
  · refine lv_iload_n S.1 S.2.1 dX12_waysFrom_20 rfl (lv_at hl 2 rfl) ?_
    refine lv_iconst (v := nI 2) S.1 S.2.1 dX12_waysFrom_21 (by decide) ?_
    refine jn_div S (by omega) (by omega) (by omega) dX12_waysFrom_22 ?_
    refine lv_topi_to (y := nI 64) (congrArg nI (by omega)) ?_
    refine lv_istore_n (lv' := [(3, .int (nI 64)), (0, .ref (ad 55)), (1, .int (nI fr1)), (2, .int (nI ln))]) S.1 S.2.1 dX12_waysFrom_23 rfl hl (by decide) rfl (fun ls hl => ?_)
    refine lv_aload_n S.1 S.2.1 dX12_waysFrom_24 rfl (lv_at hl 1 rfl) ?_
    refine lv_iload_n S.1 S.2.1 dX12_waysFrom_25 rfl (lv_at hl 2 rfl) ?_
    refine lv_iload_n S.1 S.2.1 dX12_waysFrom_26 rfl (lv_at hl 0 rfl) ?_
    refine j_callV (k := 55) (ci := 11) (q := (RX12, TX12, 17)) (As := [.int (nI fr1), .int (nI 64)]) (rest := []) S hK hA hW (c_X12_waysFrom_6 l D cy ad th n nc tu (2 * cb) fr1 64 gO gU   (rfl) (by omega) (by omega)) (jgo wm_X12_156) yk_X12_waysFrom gO rfl rfl ⟨⟨rfl, rfl⟩, by decide, by decide⟩ rfl hl.1 rfl (Nat.le_of_ble_eq_true rfl) dX12_waysFrom_27 ⟨Nat.le_of_ble_eq_true rfl, Nat.le_of_ble_eq_true rfl⟩ (fun v u H locs hp hW => ?_)
    obtain ⟨rfl, rfl⟩ := hp
    refine W.eq (g2 := F0 m 30 ls [.long (lN (waysH tu 6 (2 * cb)))]) rfl ?_
    refine lv_lstore (lv' := [(4, .long (lN (waysH tu 6 (2 * cb)))), (3, .int (nI 64)), (0, .ref (ad 55)), (1, .int (nI fr1)), (2, .int (nI ln))]) S.1 S.2.1 dX12_waysFrom_30 hl (by decide) rfl (fun ls hl => ?_)
    refine lv_aload_n S.1 S.2.1 dX12_waysFrom_32 rfl (lv_at hl 2 rfl) ?_
    refine lv_iload_n S.1 S.2.1 dX12_waysFrom_33 rfl (lv_at hl 3 rfl) ?_
    refine lv_iload_n S.1 S.2.1 dX12_waysFrom_34 rfl (lv_at hl 3 rfl) ?_
    refine lv_iload_n S.1 S.2.1 dX12_waysFrom_35 rfl (lv_at hl 1 rfl) ?_
    refine jn_add S dX12_waysFrom_36 ?_
    refine lv_iload_n S.1 S.2.1 dX12_waysFrom_37 rfl (lv_at hl 1 rfl) ?_
    refine j_callV (k := 55) (ci := 11) (q := (RX12, TX12, 17)) (As := [.int (nI fr1), .int (nI (fr1 + 64)), .int (nI 64)]) (rest := []) S hK hA hW (c_X12_areLike l D cy ad th n nc tu fr1 (fr1 + 64) 64 gO gU   (by omega) (by omega)) (jgo wm_X12_141) yk_X12_areLike gO rfl rfl ⟨⟨rfl, rfl⟩, by decide, by decide⟩ rfl hl.1 rfl (Nat.le_of_ble_eq_true rfl) dX12_waysFrom_38 ⟨Nat.le_of_ble_eq_true rfl, Nat.le_of_ble_eq_true rfl⟩ (fun v u H locs hp hW => ?_)
    obtain ⟨rfl, rfl⟩ := hp
    refine W.eq (g2 := F0 m 41 ls [.int (bI (allB (fun i => tu (fr1 + i) == tu ((fr1 + 64) + i)) 64))]) rfl ?_
    refine lv_topi_to (y := bI (sameB tu 64 (2 * cb) (2 * cb + 1))) (congrArg bI (like_at (by omega))) ?_
    refine jb_if_eq (tgt := 49) S dX12_waysFrom_41 (by decide) (fun c_41 => ?_) (fun c_41 => ?_)
    · refine lv_lload S.1 S.2.1 dX12_waysFrom_49 (lv_at hl 0 rfl) ?_
      refine lv_aload_n S.1 S.2.1 dX12_waysFrom_51 rfl (lv_at hl 2 rfl) ?_
      refine lv_iload_n S.1 S.2.1 dX12_waysFrom_52 rfl (lv_at hl 3 rfl) ?_
      refine lv_iload_n S.1 S.2.1 dX12_waysFrom_53 rfl (lv_at hl 1 rfl) ?_
      refine jn_add S dX12_waysFrom_54 ?_
      refine lv_iload_n S.1 S.2.1 dX12_waysFrom_55 rfl (lv_at hl 1 rfl) ?_
      refine j_callV (k := 55) (ci := 11) (q := (RX12, TX12, 17)) (As := [.int (nI (fr1 + 64)), .int (nI 64)]) (rest := [.long (lN (waysH tu 6 (2 * cb)))]) S hK hA hW (c_X12_waysFrom_6 l D cy ad th n nc tu (2 * cb + 1) (fr1 + 64) 64 gO gU   (rfl) (by omega) (by omega)) (jgo wm_X12_156) yk_X12_waysFrom gO rfl rfl ⟨⟨rfl, rfl⟩, by decide, by decide⟩ rfl hl.1 rfl (Nat.le_of_ble_eq_true rfl) dX12_waysFrom_56 ⟨Nat.le_of_ble_eq_true rfl, Nat.le_of_ble_eq_true rfl⟩ (fun v u H locs hp hW => ?_)
      obtain ⟨rfl, rfl⟩ := hp
      refine W.eq (g2 := F0 m 59 ls [.long (lN (waysH tu 6 (2 * cb + 1))), .long (lN (waysH tu 6 (2 * cb)))]) rfl ?_
      have hw1 : waysH tu 6 (2 * cb) ≤ 64 := waysH_le tu 6 (2 * cb)
      have hw2 : waysH tu 6 (2 * cb + 1) ≤ 64 := waysH_le tu 6 (2 * cb + 1)
      refine jnl_add S dX12_waysFrom_59 ?_
      subst hQ
      exact j_lret (u := w) S hr hK hW dX12_waysFrom_60 ⟨by decide, by decide⟩ (⟨by first | exact congrArg (fun z => some (Value.long (lN z))) (wH_t (h := 6) c_41) | exact congrArg (fun z => some (Value.long (lN z))) (wH_f (h := 6) c_41), rfl⟩)
    · refine lv_lload S.1 S.2.1 dX12_waysFrom_44 (lv_at hl 0 rfl) ?_
      refine lv_goto (tgt := 60) S.1 S.2.1 dX12_waysFrom_46 (by decide) ?_
      subst hQ
      exact j_lret (u := w) S hr hK hW dX12_waysFrom_60 ⟨by decide, by decide⟩ (⟨by first | exact congrArg (fun z => some (Value.long (lN z))) (wH_t (h := 6) c_41) | exact congrArg (fun z => some (Value.long (lN z))) (wH_f (h := 6) c_41), rfl⟩)
  · exact absurd c_2 (by omega)
/-- waysFrom, 256 answers -/
theorem c_X12_waysFrom_8 (l : Launch) (D : va_G) (cy : Nat → ClassId) {w : va_W} (ad : Nat → Nat) (th n nc : Nat) (tu : Nat → Bool) (cb fr1 ln : Nat) (gO : w[55]? = some (ad 55, .inr (11, [.int (nI th), .ref (ad 56), .ref (ad 57), .ref (ad 58), .ref (ad 59), .ref (ad 60), .ref (ad 61), .ref (ad 62), .ref (ad 63), .ref (ad 64), .ref (ad 65), .int (nI n), .int (nI nc), .ref (ad 66), .ref (ad 71), .ref (ad 72), .ref (ad 73)]))) (gU : w[73]? = some (ad 73, .inl (cy 3, 1024, .inl (bf tu)))) (hln : ln = 256) (hfr : fr1 = cb * 256) (hle : fr1 + 256 ≤ 1024) : jM l yX12_waysFrom (jws yX12_waysFrom cX12_waysFrom 6 (some .long)) (jR 9 0 0) D cy w [.ref (ad 55), .int (nI fr1), .int (nI ln)] 0 0 (fun vv uu => vv = some (.long (lN (waysH tu 8 cb))) ∧ w = uu) := by
  refine j_of (by decide) rfl (Nat.le_of_ble_eq_true rfl) ?_
  intro p e s m args below meth c A ls Q hQ S hr hK hA H locs hW hl
  have hl : lv_has ls 6 [(0, .ref (ad 55)), (1, .int (nI fr1)), (2, .int (nI ln))] := hl
  refine lv_iload_n S.1 S.2.1 dX12_waysFrom_0 rfl (lv_at hl 2 rfl) ?_
  refine lv_iconst (v := nI 1) S.1 S.2.1 dX12_waysFrom_1 (by decide) ?_
  refine jn_cmp_ne (tgt := 20) S (by omega) (by omega) dX12_waysFrom_2 (by decide) (fun c_2 => ?_) (fun c_2 => ?_)
  · refine lv_iload_n S.1 S.2.1 dX12_waysFrom_20 rfl (lv_at hl 2 rfl) ?_
    refine lv_iconst (v := nI 2) S.1 S.2.1 dX12_waysFrom_21 (by decide) ?_
    refine jn_div S (by omega) (by omega) (by omega) dX12_waysFrom_22 ?_
    refine lv_topi_to (y := nI 128) (congrArg nI (by omega)) ?_
    refine lv_istore_n (lv' := [(3, .int (nI 128)), (0, .ref (ad 55)), (1, .int (nI fr1)), (2, .int (nI ln))]) S.1 S.2.1 dX12_waysFrom_23 rfl hl (by decide) rfl (fun ls hl => ?_)
    refine lv_aload_n S.1 S.2.1 dX12_waysFrom_24 rfl (lv_at hl 1 rfl) ?_
    refine lv_iload_n S.1 S.2.1 dX12_waysFrom_25 rfl (lv_at hl 2 rfl) ?_
    refine lv_iload_n S.1 S.2.1 dX12_waysFrom_26 rfl (lv_at hl 0 rfl) ?_
    refine j_callV (k := 55) (ci := 11) (q := (RX12, TX12, 17)) (As := [.int (nI fr1), .int (nI 128)]) (rest := []) S hK hA hW (c_X12_waysFrom_7 l D cy ad th n nc tu (2 * cb) fr1 128 gO gU   (rfl) (by omega) (by omega)) (jgo wm_X12_156) yk_X12_waysFrom gO rfl rfl ⟨⟨rfl, rfl⟩, by decide, by decide⟩ rfl hl.1 rfl (Nat.le_of_ble_eq_true rfl) dX12_waysFrom_27 ⟨Nat.le_of_ble_eq_true rfl, Nat.le_of_ble_eq_true rfl⟩ (fun v u H locs hp hW => ?_)
    obtain ⟨rfl, rfl⟩ := hp
    refine W.eq (g2 := F0 m 30 ls [.long (lN (waysH tu 7 (2 * cb)))]) rfl ?_
    refine lv_lstore (lv' := [(4, .long (lN (waysH tu 7 (2 * cb)))), (3, .int (nI 128)), (0, .ref (ad 55)), (1, .int (nI fr1)), (2, .int (nI ln))]) S.1 S.2.1 dX12_waysFrom_30 hl (by decide) rfl (fun ls hl => ?_)
    refine lv_aload_n S.1 S.2.1 dX12_waysFrom_32 rfl (lv_at hl 2 rfl) ?_
    refine lv_iload_n S.1 S.2.1 dX12_waysFrom_33 rfl (lv_at hl 3 rfl) ?_
    refine lv_iload_n S.1 S.2.1 dX12_waysFrom_34 rfl (lv_at hl 3 rfl) ?_
    refine lv_iload_n S.1 S.2.1 dX12_waysFrom_35 rfl (lv_at hl 1 rfl) ?_
    refine jn_add S dX12_waysFrom_36 ?_
    refine lv_iload_n S.1 S.2.1 dX12_waysFrom_37 rfl (lv_at hl 1 rfl) ?_
    refine j_callV (k := 55) (ci := 11) (q := (RX12, TX12, 17)) (As := [.int (nI fr1), .int (nI (fr1 + 128)), .int (nI 128)]) (rest := []) S hK hA hW (c_X12_areLike l D cy ad th n nc tu fr1 (fr1 + 128) 128 gO gU   (by omega) (by omega)) (jgo wm_X12_141) yk_X12_areLike gO rfl rfl ⟨⟨rfl, rfl⟩, by decide, by decide⟩ rfl hl.1 rfl (Nat.le_of_ble_eq_true rfl) dX12_waysFrom_38 ⟨Nat.le_of_ble_eq_true rfl, Nat.le_of_ble_eq_true rfl⟩ (fun v u H locs hp hW => ?_)
    obtain ⟨rfl, rfl⟩ := hp
    refine W.eq (g2 := F0 m 41 ls [.int (bI (allB (fun i => tu (fr1 + i) == tu ((fr1 + 128) + i)) 128))]) rfl ?_
    refine lv_topi_to (y := bI (sameB tu 128 (2 * cb) (2 * cb + 1))) (congrArg bI (like_at (by omega))) ?_
    refine jb_if_eq (tgt := 49) S dX12_waysFrom_41 (by decide) (fun c_41 => ?_) (fun c_41 => ?_)
    · refine lv_lload S.1 S.2.1 dX12_waysFrom_49 (lv_at hl 0 rfl) ?_
      refine lv_aload_n S.1 S.2.1 dX12_waysFrom_51 rfl (lv_at hl 2 rfl) ?_
      refine lv_iload_n S.1 S.2.1 dX12_waysFrom_52 rfl (lv_at hl 3 rfl) ?_
      refine lv_iload_n S.1 S.2.1 dX12_waysFrom_53 rfl (lv_at hl 1 rfl) ?_
      refine jn_add S dX12_waysFrom_54 ?_
      refine lv_iload_n S.1 S.2.1 dX12_waysFrom_55 rfl (lv_at hl 1 rfl) ?_
      refine j_callV (k := 55) (ci := 11) (q := (RX12, TX12, 17)) (As := [.int (nI (fr1 + 128)), .int (nI 128)]) (rest := [.long (lN (waysH tu 7 (2 * cb)))]) S hK hA hW (c_X12_waysFrom_7 l D cy ad th n nc tu (2 * cb + 1) (fr1 + 128) 128 gO gU   (rfl) (by omega) (by omega)) (jgo wm_X12_156) yk_X12_waysFrom gO rfl rfl ⟨⟨rfl, rfl⟩, by decide, by decide⟩ rfl hl.1 rfl (Nat.le_of_ble_eq_true rfl) dX12_waysFrom_56 ⟨Nat.le_of_ble_eq_true rfl, Nat.le_of_ble_eq_true rfl⟩ (fun v u H locs hp hW => ?_)
      obtain ⟨rfl, rfl⟩ := hp
      refine W.eq (g2 := F0 m 59 ls [.long (lN (waysH tu 7 (2 * cb + 1))), .long (lN (waysH tu 7 (2 * cb)))]) rfl ?_
      have hw1 : waysH tu 7 (2 * cb) ≤ 128 := waysH_le tu 7 (2 * cb)
      have hw2 : waysH tu 7 (2 * cb + 1) ≤ 128 := waysH_le tu 7 (2 * cb + 1)
      refine jnl_add S dX12_waysFrom_59 ?_
      subst hQ
      exact j_lret (u := w) S hr hK hW dX12_waysFrom_60 ⟨by decide, by decide⟩ (⟨by first | exact congrArg (fun z => some (Value.long (lN z))) (wH_t (h := 7) c_41) | exact congrArg (fun z => some (Value.long (lN z))) (wH_f (h := 7) c_41), rfl⟩)
    · refine lv_lload S.1 S.2.1 dX12_waysFrom_44 (lv_at hl 0 rfl) ?_
      refine lv_goto (tgt := 60) S.1 S.2.1 dX12_waysFrom_46 (by decide) ?_
      subst hQ
      exact j_lret (u := w) S hr hK hW dX12_waysFrom_60 ⟨by decide, by decide⟩ (⟨by first | exact congrArg (fun z => some (Value.long (lN z))) (wH_t (h := 7) c_41) | exact congrArg (fun z => some (Value.long (lN z))) (wH_f (h := 7) c_41), rfl⟩)
  · exact absurd c_2 (by omega)
set_option maxRecDepth 20000 in
/-- waysFrom, 512 answers -/
theorem c_X12_waysFrom_9 (l : Launch) (D : va_G) (cy : Nat → ClassId) {w : va_W} (ad : Nat → Nat) (th n nc : Nat) (tu : Nat → Bool) (cb fr1 ln : Nat) (gO : w[55]? = some (ad 55, .inr (11, [.int (nI th), .ref (ad 56), .ref (ad 57), .ref (ad 58), .ref (ad 59), .ref (ad 60), .ref (ad 61), .ref (ad 62), .ref (ad 63), .ref (ad 64), .ref (ad 65), .int (nI n), .int (nI nc), .ref (ad 66), .ref (ad 71), .ref (ad 72), .ref (ad 73)]))) (gU : w[73]? = some (ad 73, .inl (cy 3, 1024, .inl (bf tu)))) (hln : ln = 512) (hfr : fr1 = cb * 512) (hle : fr1 + 512 ≤ 1024) : jM l yX12_waysFrom (jws yX12_waysFrom cX12_waysFrom 6 (some .long)) (jR 10 0 0) D cy w [.ref (ad 55), .int (nI fr1), .int (nI ln)] 0 0 (fun vv uu => vv = some (.long (lN (waysH tu 9 cb))) ∧ w = uu) := by
  refine j_of (by decide) rfl (Nat.le_of_ble_eq_true rfl) ?_
  intro p e s m args below meth c A ls Q hQ S hr hK hA H locs hW hl
  have hl : lv_has ls 6 [(0, .ref (ad 55)), (1, .int (nI fr1)), (2, .int (nI ln))] := hl
  refine lv_iload_n S.1 S.2.1 dX12_waysFrom_0 rfl (lv_at hl 2 rfl) ?_
  refine lv_iconst (v := nI 1) S.1 S.2.1 dX12_waysFrom_1 (by decide) ?_
  refine jn_cmp_ne (tgt := 20) S (by omega) (by omega) dX12_waysFrom_2 (by decide) (fun c_2 => ?_) (fun c_2 => ?_)
  · refine lv_iload_n S.1 S.2.1 dX12_waysFrom_20 rfl (lv_at hl 2 rfl) ?_
    refine lv_iconst (v := nI 2) S.1 S.2.1 dX12_waysFrom_21 (by decide) ?_
    refine jn_div S (by omega) (by omega) (by omega) dX12_waysFrom_22 ?_
    refine lv_topi_to (y := nI 256) (congrArg nI (by omega)) ?_
    refine lv_istore_n (lv' := [(3, .int (nI 256)), (0, .ref (ad 55)), (1, .int (nI fr1)), (2, .int (nI ln))]) S.1 S.2.1 dX12_waysFrom_23 rfl hl (by decide) rfl (fun ls hl => ?_)
    refine lv_aload_n S.1 S.2.1 dX12_waysFrom_24 rfl (lv_at hl 1 rfl) ?_
    refine lv_iload_n S.1 S.2.1 dX12_waysFrom_25 rfl (lv_at hl 2 rfl) ?_
    refine lv_iload_n S.1 S.2.1 dX12_waysFrom_26 rfl (lv_at hl 0 rfl) ?_
    refine j_callV (k := 55) (ci := 11) (q := (RX12, TX12, 17)) (As := [.int (nI fr1), .int (nI 256)]) (rest := []) S hK hA hW (c_X12_waysFrom_8 l D cy ad th n nc tu (2 * cb) fr1 256 gO gU   (rfl) (by omega) (by omega)) (jgo wm_X12_156) yk_X12_waysFrom gO rfl rfl ⟨⟨rfl, rfl⟩, by decide, by decide⟩ rfl hl.1 rfl (Nat.le_of_ble_eq_true rfl) dX12_waysFrom_27 ⟨Nat.le_of_ble_eq_true rfl, Nat.le_of_ble_eq_true rfl⟩ (fun v u H locs hp hW => ?_)
    obtain ⟨rfl, rfl⟩ := hp
    refine W.eq (g2 := F0 m 30 ls [.long (lN (waysH tu 8 (2 * cb)))]) rfl ?_
    refine lv_lstore (lv' := [(4, .long (lN (waysH tu 8 (2 * cb)))), (3, .int (nI 256)), (0, .ref (ad 55)), (1, .int (nI fr1)), (2, .int (nI ln))]) S.1 S.2.1 dX12_waysFrom_30 hl (by decide) rfl (fun ls hl => ?_)
    refine lv_aload_n S.1 S.2.1 dX12_waysFrom_32 rfl (lv_at hl 2 rfl) ?_
    refine lv_iload_n S.1 S.2.1 dX12_waysFrom_33 rfl (lv_at hl 3 rfl) ?_
    refine lv_iload_n S.1 S.2.1 dX12_waysFrom_34 rfl (lv_at hl 3 rfl) ?_
    refine lv_iload_n S.1 S.2.1 dX12_waysFrom_35 rfl (lv_at hl 1 rfl) ?_
    refine jn_add S dX12_waysFrom_36 ?_
    refine lv_iload_n S.1 S.2.1 dX12_waysFrom_37 rfl (lv_at hl 1 rfl) ?_
    refine j_callV (k := 55) (ci := 11) (q := (RX12, TX12, 17)) (As := [.int (nI fr1), .int (nI (fr1 + 256)), .int (nI 256)]) (rest := []) S hK hA hW (c_X12_areLike l D cy ad th n nc tu fr1 (fr1 + 256) 256 gO gU   (by omega) (by omega)) (jgo wm_X12_141) yk_X12_areLike gO rfl rfl ⟨⟨rfl, rfl⟩, by decide, by decide⟩ rfl hl.1 rfl (Nat.le_of_ble_eq_true rfl) dX12_waysFrom_38 ⟨Nat.le_of_ble_eq_true rfl, Nat.le_of_ble_eq_true rfl⟩ (fun v u H locs hp hW => ?_)
    obtain ⟨rfl, rfl⟩ := hp
    refine W.eq (g2 := F0 m 41 ls [.int (bI (allB (fun i => tu (fr1 + i) == tu ((fr1 + 256) + i)) 256))]) rfl ?_
    refine lv_topi_to (y := bI (sameB tu 256 (2 * cb) (2 * cb + 1))) (congrArg bI (like_at (by omega))) ?_
    refine jb_if_eq (tgt := 49) S dX12_waysFrom_41 (by decide) (fun c_41 => ?_) (fun c_41 => ?_)
    · refine lv_lload S.1 S.2.1 dX12_waysFrom_49 (lv_at hl 0 rfl) ?_
      refine lv_aload_n S.1 S.2.1 dX12_waysFrom_51 rfl (lv_at hl 2 rfl) ?_
      refine lv_iload_n S.1 S.2.1 dX12_waysFrom_52 rfl (lv_at hl 3 rfl) ?_
      refine lv_iload_n S.1 S.2.1 dX12_waysFrom_53 rfl (lv_at hl 1 rfl) ?_
      refine jn_add S dX12_waysFrom_54 ?_
      refine lv_iload_n S.1 S.2.1 dX12_waysFrom_55 rfl (lv_at hl 1 rfl) ?_
      refine j_callV (k := 55) (ci := 11) (q := (RX12, TX12, 17)) (As := [.int (nI (fr1 + 256)), .int (nI 256)]) (rest := [.long (lN (waysH tu 8 (2 * cb)))]) S hK hA hW (c_X12_waysFrom_8 l D cy ad th n nc tu (2 * cb + 1) (fr1 + 256) 256 gO gU   (rfl) (by omega) (by omega)) (jgo wm_X12_156) yk_X12_waysFrom gO rfl rfl ⟨⟨rfl, rfl⟩, by decide, by decide⟩ rfl hl.1 rfl (Nat.le_of_ble_eq_true rfl) dX12_waysFrom_56 ⟨Nat.le_of_ble_eq_true rfl, Nat.le_of_ble_eq_true rfl⟩ (fun v u H locs hp hW => ?_)
      obtain ⟨rfl, rfl⟩ := hp
      refine W.eq (g2 := F0 m 59 ls [.long (lN (waysH tu 8 (2 * cb + 1))), .long (lN (waysH tu 8 (2 * cb)))]) rfl ?_
      have hw1 : waysH tu 8 (2 * cb) ≤ 256 := waysH_le tu 8 (2 * cb)
      have hw2 : waysH tu 8 (2 * cb + 1) ≤ 256 := waysH_le tu 8 (2 * cb + 1)
      refine jnl_add S dX12_waysFrom_59 ?_
      subst hQ
      exact j_lret (u := w) S hr hK hW dX12_waysFrom_60 ⟨by decide, by decide⟩ (⟨by first | exact congrArg (fun z => some (Value.long (lN z))) (wH_t (h := 8) c_41) | exact congrArg (fun z => some (Value.long (lN z))) (wH_f (h := 8) c_41), rfl⟩)
    · refine lv_lload S.1 S.2.1 dX12_waysFrom_44 (lv_at hl 0 rfl) ?_
      refine lv_goto (tgt := 60) S.1 S.2.1 dX12_waysFrom_46 (by decide) ?_
      subst hQ
      exact j_lret (u := w) S hr hK hW dX12_waysFrom_60 ⟨by decide, by decide⟩ (⟨by first | exact congrArg (fun z => some (Value.long (lN z))) (wH_t (h := 8) c_41) | exact congrArg (fun z => some (Value.long (lN z))) (wH_f (h := 8) c_41), rfl⟩)
  · exact absurd c_2 (by omega)
set_option maxRecDepth 20000 in
/-- waysFrom, 1024 answers -/
theorem c_X12_waysFrom_10 (l : Launch) (D : va_G) (cy : Nat → ClassId) {w : va_W} (ad : Nat → Nat) (th n nc : Nat) (tu : Nat → Bool) (cb fr1 ln : Nat) (gO : w[55]? = some (ad 55, .inr (11, [.int (nI th), .ref (ad 56), .ref (ad 57), .ref (ad 58), .ref (ad 59), .ref (ad 60), .ref (ad 61), .ref (ad 62), .ref (ad 63), .ref (ad 64), .ref (ad 65), .int (nI n), .int (nI nc), .ref (ad 66), .ref (ad 71), .ref (ad 72), .ref (ad 73)]))) (gU : w[73]? = some (ad 73, .inl (cy 3, 1024, .inl (bf tu)))) (hln : ln = 1024) (hfr : fr1 = cb * 1024) (hle : fr1 + 1024 ≤ 1024) : jM l yX12_waysFrom (jws yX12_waysFrom cX12_waysFrom 6 (some .long)) (jR 11 0 0) D cy w [.ref (ad 55), .int (nI fr1), .int (nI ln)] 0 0 (fun vv uu => vv = some (.long (lN (waysH tu 10 cb))) ∧ w = uu) := by
  refine j_of (by decide) rfl (Nat.le_of_ble_eq_true rfl) ?_
  intro p e s m args below meth c A ls Q hQ S hr hK hA H locs hW hl
  have hl : lv_has ls 6 [(0, .ref (ad 55)), (1, .int (nI fr1)), (2, .int (nI ln))] := hl
  refine lv_iload_n S.1 S.2.1 dX12_waysFrom_0 rfl (lv_at hl 2 rfl) ?_
  refine lv_iconst (v := nI 1) S.1 S.2.1 dX12_waysFrom_1 (by decide) ?_
  refine jn_cmp_ne (tgt := 20) S (by omega) (by omega) dX12_waysFrom_2 (by decide) (fun c_2 => ?_) (fun c_2 => ?_)
  · refine lv_iload_n S.1 S.2.1 dX12_waysFrom_20 rfl (lv_at hl 2 rfl) ?_
    refine lv_iconst (v := nI 2) S.1 S.2.1 dX12_waysFrom_21 (by decide) ?_
    refine jn_div S (by omega) (by omega) (by omega) dX12_waysFrom_22 ?_
    refine lv_topi_to (y := nI 512) (congrArg nI (by omega)) ?_
    refine lv_istore_n (lv' := [(3, .int (nI 512)), (0, .ref (ad 55)), (1, .int (nI fr1)), (2, .int (nI ln))]) S.1 S.2.1 dX12_waysFrom_23 rfl hl (by decide) rfl (fun ls hl => ?_)
    refine lv_aload_n S.1 S.2.1 dX12_waysFrom_24 rfl (lv_at hl 1 rfl) ?_
    refine lv_iload_n S.1 S.2.1 dX12_waysFrom_25 rfl (lv_at hl 2 rfl) ?_
    refine lv_iload_n S.1 S.2.1 dX12_waysFrom_26 rfl (lv_at hl 0 rfl) ?_
    refine j_callV (k := 55) (ci := 11) (q := (RX12, TX12, 17)) (As := [.int (nI fr1), .int (nI 512)]) (rest := []) S hK hA hW (c_X12_waysFrom_9 l D cy ad th n nc tu (2 * cb) fr1 512 gO gU   (rfl) (by omega) (by omega)) (jgo wm_X12_156) yk_X12_waysFrom gO rfl rfl ⟨⟨rfl, rfl⟩, by decide, by decide⟩ rfl hl.1 rfl (Nat.le_of_ble_eq_true rfl) dX12_waysFrom_27 ⟨Nat.le_of_ble_eq_true rfl, Nat.le_of_ble_eq_true rfl⟩ (fun v u H locs hp hW => ?_)
    obtain ⟨rfl, rfl⟩ := hp
    refine W.eq (g2 := F0 m 30 ls [.long (lN (waysH tu 9 (2 * cb)))]) rfl ?_
    refine lv_lstore (lv' := [(4, .long (lN (waysH tu 9 (2 * cb)))), (3, .int (nI 512)), (0, .ref (ad 55)), (1, .int (nI fr1)), (2, .int (nI ln))]) S.1 S.2.1 dX12_waysFrom_30 hl (by decide) rfl (fun ls hl => ?_)
    refine lv_aload_n S.1 S.2.1 dX12_waysFrom_32 rfl (lv_at hl 2 rfl) ?_
    refine lv_iload_n S.1 S.2.1 dX12_waysFrom_33 rfl (lv_at hl 3 rfl) ?_
    refine lv_iload_n S.1 S.2.1 dX12_waysFrom_34 rfl (lv_at hl 3 rfl) ?_
    refine lv_iload_n S.1 S.2.1 dX12_waysFrom_35 rfl (lv_at hl 1 rfl) ?_
    refine jn_add S dX12_waysFrom_36 ?_
    refine lv_iload_n S.1 S.2.1 dX12_waysFrom_37 rfl (lv_at hl 1 rfl) ?_
    refine j_callV (k := 55) (ci := 11) (q := (RX12, TX12, 17)) (As := [.int (nI fr1), .int (nI (fr1 + 512)), .int (nI 512)]) (rest := []) S hK hA hW (c_X12_areLike l D cy ad th n nc tu fr1 (fr1 + 512) 512 gO gU   (by omega) (by omega)) (jgo wm_X12_141) yk_X12_areLike gO rfl rfl ⟨⟨rfl, rfl⟩, by decide, by decide⟩ rfl hl.1 rfl (Nat.le_of_ble_eq_true rfl) dX12_waysFrom_38 ⟨Nat.le_of_ble_eq_true rfl, Nat.le_of_ble_eq_true rfl⟩ (fun v u H locs hp hW => ?_)
    obtain ⟨rfl, rfl⟩ := hp
    refine W.eq (g2 := F0 m 41 ls [.int (bI (allB (fun i => tu (fr1 + i) == tu ((fr1 + 512) + i)) 512))]) rfl ?_
    refine lv_topi_to (y := bI (sameB tu 512 (2 * cb) (2 * cb + 1))) (congrArg bI (like_at (by omega))) ?_
    refine jb_if_eq (tgt := 49) S dX12_waysFrom_41 (by decide) (fun c_41 => ?_) (fun c_41 => ?_)
    · refine lv_lload S.1 S.2.1 dX12_waysFrom_49 (lv_at hl 0 rfl) ?_
      refine lv_aload_n S.1 S.2.1 dX12_waysFrom_51 rfl (lv_at hl 2 rfl) ?_
      refine lv_iload_n S.1 S.2.1 dX12_waysFrom_52 rfl (lv_at hl 3 rfl) ?_
      refine lv_iload_n S.1 S.2.1 dX12_waysFrom_53 rfl (lv_at hl 1 rfl) ?_
      refine jn_add S dX12_waysFrom_54 ?_
      refine lv_iload_n S.1 S.2.1 dX12_waysFrom_55 rfl (lv_at hl 1 rfl) ?_
      refine j_callV (k := 55) (ci := 11) (q := (RX12, TX12, 17)) (As := [.int (nI (fr1 + 512)), .int (nI 512)]) (rest := [.long (lN (waysH tu 9 (2 * cb)))]) S hK hA hW (c_X12_waysFrom_9 l D cy ad th n nc tu (2 * cb + 1) (fr1 + 512) 512 gO gU   (rfl) (by omega) (by omega)) (jgo wm_X12_156) yk_X12_waysFrom gO rfl rfl ⟨⟨rfl, rfl⟩, by decide, by decide⟩ rfl hl.1 rfl (Nat.le_of_ble_eq_true rfl) dX12_waysFrom_56 ⟨Nat.le_of_ble_eq_true rfl, Nat.le_of_ble_eq_true rfl⟩ (fun v u H locs hp hW => ?_)
      obtain ⟨rfl, rfl⟩ := hp
      refine W.eq (g2 := F0 m 59 ls [.long (lN (waysH tu 9 (2 * cb + 1))), .long (lN (waysH tu 9 (2 * cb)))]) rfl ?_
      have hw1 : waysH tu 9 (2 * cb) ≤ 512 := waysH_le tu 9 (2 * cb)
      have hw2 : waysH tu 9 (2 * cb + 1) ≤ 512 := waysH_le tu 9 (2 * cb + 1)
      refine jnl_add S dX12_waysFrom_59 ?_
      subst hQ
      exact j_lret (u := w) S hr hK hW dX12_waysFrom_60 ⟨by decide, by decide⟩ (⟨by first | exact congrArg (fun z => some (Value.long (lN z))) (wH_t (h := 9) c_41) | exact congrArg (fun z => some (Value.long (lN z))) (wH_f (h := 9) c_41), rfl⟩)
    · refine lv_lload S.1 S.2.1 dX12_waysFrom_44 (lv_at hl 0 rfl) ?_
      refine lv_goto (tgt := 60) S.1 S.2.1 dX12_waysFrom_46 (by decide) ?_
      subst hQ
      exact j_lret (u := w) S hr hK hW dX12_waysFrom_60 ⟨by decide, by decide⟩ (⟨by first | exact congrArg (fun z => some (Value.long (lN z))) (wH_t (h := 9) c_41) | exact congrArg (fun z => some (Value.long (lN z))) (wH_f (h := 9) c_41), rfl⟩)
  · exact absurd c_2 (by omega)
/-- ways -/
theorem c_X12_ways (l : Launch) (D : va_G) (cy : Nat → ClassId) {w : va_W} (ad : Nat → Nat) (th n nc : Nat) (sd se lv : Nat) (cs : Nat → CN) (od : Nat → Nat) (rb tu : Nat → Bool) (gO : w[55]? = some (ad 55, .inr (11, [.int (nI th), .ref (ad 56), .ref (ad 57), .ref (ad 58), .ref (ad 59), .ref (ad 60), .ref (ad 61), .ref (ad 62), .ref (ad 63), .ref (ad 64), .ref (ad 65), .int (nI n), .int (nI nc), .ref (ad 66), .ref (ad 71), .ref (ad 72), .ref (ad 73)]))) (gE : w[58]? = some (ad 58, .inl (cy 0, 10, .inl (evA n sd se)))) (gP : w[65]? = some (ad 65, .inl (cy 3, 20, .inl (bf (dpB nc lv))))) (gC0 : w[60]? = some (ad 60, .inl (cy 2, 20, .inl (nf (ckd cs))))) (gC1 : w[61]? = some (ad 61, .inl (cy 0, 20, .inl (nf (cst cs))))) (gC2 : w[62]? = some (ad 62, .inl (cy 0, 20, .inl (nf (cot cs))))) (gC3 : w[63]? = some (ad 63, .inl (cy 0, 20, .inl (nf (cle cs))))) (gC4 : w[64]? = some (ad 64, .inl (cy 0, 20, .inl (nf (cgr cs))))) (gD : w[59]? = some (ad 59, .inl (cy 0, 10, .inl (nf od)))) (gR : w[72]? = some (ad 72, .inl (cy 3, 1024, .inl (bf rb)))) (gU : w[73]? = some (ad 73, .inl (cy 3, 1024, .inl (bf tu)))) (hn : n ≤ 10) (hsd : sd < 2 ^ n) (hse : se &&& sd = se) (hnc : nc ≤ 20) (hcs : csI nc cs) (hod : ∀ j, od j < 10) : jM l yX12_ways (jws yX12_ways cX12_ways 1 (some .long)) (jR 13 0 0) D cy w [.ref (ad 55)] 0 0 (fun vv uu => ∃ (rb1 : Nat → Bool), ∃ (tu1 : Nat → Bool), vv = some (.long (lN (waysH (fun d => (mdl n sd se nc cs lv) (layP n od d n)) n 0))) ∧ jU w uu [55, 72, 73] ∧ uu[55]? = some (ad 55, .inr (11, [.int (nI 0), .ref (ad 56), .ref (ad 57), .ref (ad 58), .ref (ad 59), .ref (ad 60), .ref (ad 61), .ref (ad 62), .ref (ad 63), .ref (ad 64), .ref (ad 65), .int (nI n), .int (nI nc), .ref (ad 66), .ref (ad 71), .ref (ad 72), .ref (ad 73)])) ∧ uu[72]? = some (ad 72, .inl (cy 3, 1024, .inl (bf rb1))) ∧ uu[73]? = some (ad 73, .inl (cy 3, 1024, .inl (bf tu1)))) := by
  have hp2 := two_pow10 hn
  refine j_of (by decide) rfl (Nat.le_of_ble_eq_true rfl) ?_
  intro p e s m args below meth c A ls Q hQ S hr hK hA H locs hW hl
  have hl : lv_has ls 1 [(0, .ref (ad 55))] := hl
  refine lv_aload_n S.1 S.2.1 dX12_ways_0 rfl (lv_at hl 0 rfl) ?_
  refine lv_iconst (v := nI 0) S.1 S.2.1 dX12_ways_1 (by decide) ?_
  refine j_put (ci := 11) (C := RX12) (T := TX12) (N := 17) (ty := .int) S (fun w h => List.mem_cons_of_mem _ (inG12 w h)) tyX12 tyX12_ok nmX12 hK hW gO rfl 0 (by decide) (List.mem_cons_of_mem _ wfl_X12_1) (fun _ h9 => h9) rfl (by decide +kernel) (rfl) (rfl) (Nat.le_of_ble_eq_true rfl) dX12_ways_2 (fun H locs w_ hU1 hN1 hW => ?_)
  have hU : jU w w_ [55, 72, 73] := jU.mono hU1 (by decide)
  have gR_ := hU1.get gR (by decide)
  have gU_ := hU1.get gU (by decide)
  have gO_ : w_[55]? = some (ad 55, .inr (11, [.int (nI 0), .ref (ad 56), .ref (ad 57), .ref (ad 58), .ref (ad 59), .ref (ad 60), .ref (ad 61), .ref (ad 62), .ref (ad 63), .ref (ad 64), .ref (ad 65), .int (nI n), .int (nI nc), .ref (ad 66), .ref (ad 71), .ref (ad 72), .ref (ad 73)])) := hN1
  clear hU1 hN1
  refine lv_aload_n S.1 S.2.1 dX12_ways_5 rfl (lv_at hl 0 rfl) ?_
  refine j_callV (k := 55) (ci := 11) (q := (RX12, TX12, 17)) (As := []) (rest := []) S hK hA hW (c_X12_readsModels l D cy ad 0 n nc sd se lv cs rb gO_ (hU.get gE (by decide)) (hU.get gP (by decide)) (hU.get gC0 (by decide)) (hU.get gC1 (by decide)) (hU.get gC2 (by decide)) (hU.get gC3 (by decide)) (hU.get gC4 (by decide)) gR_   (by omega) (hsd) (hse) (by omega) (hcs)) (jgo wm_X12_150) yk_X12_readsModels gO_ rfl rfl ⟨⟨rfl, rfl⟩, by decide, by decide⟩ rfl hl.1 rfl (Nat.le_of_ble_eq_true rfl) dX12_ways_6 ⟨Nat.le_of_ble_eq_true rfl, Nat.le_of_ble_eq_true rfl⟩ (fun v w_ H locs hp hW => ?_)
  obtain ⟨rfl, hU1, hN1⟩ := hp
  have hU := hU.then hU1 (by decide)
  have gU_ := hU1.get gU_ (by decide)
  have gO_ := hU1.get gO_ (by decide)
  have gR_ : w_[72]? = some (ad 72, .inl (cy 3, 1024, .inl (bf (rowM (mdl n sd se nc cs lv) rb)))) := hN1
  clear hU1 hN1
  refine W.eq (g2 := F0 m 9 ls []) rfl ?_
  refine lv_aload_n S.1 S.2.1 dX12_ways_9 rfl (lv_at hl 0 rfl) ?_
  refine j_callV (k := 55) (ci := 11) (q := (RX12, TX12, 17)) (As := []) (rest := []) S hK hA hW (c_X12_turns l D cy ad 0 n nc od (rowM (mdl n sd se nc cs lv) rb) tu gO_ (hU.get gD (by decide)) gR_ gU_   (by omega) (hod)) (jgo wm_X12_144) yk_X12_turns gO_ rfl rfl ⟨⟨rfl, rfl⟩, by decide, by decide⟩ rfl hl.1 rfl (Nat.le_of_ble_eq_true rfl) dX12_ways_10 ⟨Nat.le_of_ble_eq_true rfl, Nat.le_of_ble_eq_true rfl⟩ (fun v w_ H locs hp hW => ?_)
  obtain ⟨rfl, hU1, hN1⟩ := hp
  have hU := hU.then hU1 (by decide)
  have gR_ := hU1.get gR_ (by decide)
  have gO_ := hU1.get gO_ (by decide)
  have gU_ : w_[73]? = some (ad 73, .inl (cy 3, 1024, .inl (bf (mixF (fun d => (rowM (mdl n sd se nc cs lv) rb) (layP n od d n)) tu (2 ^ n))))) := hN1
  clear hU1 hN1
  refine W.eq (g2 := F0 m 13 ls []) rfl ?_
  refine lv_aload_n S.1 S.2.1 dX12_ways_13 rfl (lv_at hl 0 rfl) ?_
  refine lv_iconst (v := nI 0) S.1 S.2.1 dX12_ways_14 (by decide) ?_
  refine lv_aload_n S.1 S.2.1 dX12_ways_15 rfl (lv_at hl 0 rfl) ?_
  refine j_callV (k := 55) (ci := 11) (q := (RX12, TX12, 17)) (As := []) (rest := [.int (nI 0), .ref (ad 55)]) S hK hA hW (c_X12_all l D cy ad 0 n nc gO_   (by omega)) (jgo wm_X12_98) yk_X12_all gO_ rfl rfl ⟨⟨rfl, rfl⟩, by decide, by decide⟩ rfl hl.1 rfl (Nat.le_of_ble_eq_true rfl) dX12_ways_16 ⟨Nat.le_of_ble_eq_true rfl, Nat.le_of_ble_eq_true rfl⟩ (fun v u H locs hp hW => ?_)
  obtain ⟨rfl, rfl⟩ := hp
  refine W.eq (g2 := F0 m 19 ls [.int (nI (2 ^ n)), .int (nI 0), .ref (ad 55)]) rfl ?_
  rcases (show n = 0 ∨ n = 1 ∨ n = 2 ∨ n = 3 ∨ n = 4 ∨ n = 5 ∨ n = 6 ∨ n = 7 ∨ n = 8 ∨ n = 9 ∨ n = 10 by omega) with hnk | hnk | hnk | hnk | hnk | hnk | hnk | hnk | hnk | hnk | hnk
  · refine j_callV (k := 55) (ci := 11) (q := (RX12, TX12, 17)) (As := [.int (nI 0), .int (nI (2 ^ n))]) (rest := []) S hK hA hW (c_X12_waysFrom_0 l D cy ad 0 n nc (mixF (fun d => (rowM (mdl n sd se nc cs lv) rb) (layP n od d n)) tu (2 ^ n)) 0 0 (2 ^ n) gO_ gU_   (by subst hnk; decide) (rfl) (by decide)) (jgo wm_X12_156) yk_X12_waysFrom gO_ rfl rfl ⟨⟨rfl, rfl⟩, by decide, by decide⟩ rfl hl.1 rfl (Nat.le_of_ble_eq_true rfl) dX12_ways_19 ⟨Nat.le_of_ble_eq_true rfl, Nat.le_of_ble_eq_true rfl⟩ (fun v u H locs hp hW => ?_)
    obtain ⟨rfl, rfl⟩ := hp
    refine W.eq (g2 := F0 m 22 ls [.long (lN (waysH (mixF (fun d => (rowM (mdl n sd se nc cs lv) rb) (layP n od d n)) tu (2 ^ n)) 0 0))]) rfl ?_
    refine lv_topl_to (y := lN (waysH (fun d => (mdl n sd se nc cs lv) (layP n od d n)) n 0)) (congrArg lN ((waysH_congr (T := (mixF (fun d => (rowM (mdl n sd se nc cs lv) rb) (layP n od d n)) tu (2 ^ n))) (U := (fun d => (mdl n sd se nc cs lv) (layP n od d n))) (N := 2 ^ n) (fun j hj => (mixF_lo hj).trans (row_at (layP_lt hod))) 0 0 (by subst hnk; decide)).trans (by rw [hnk]))) ?_
    subst hQ
    exact j_lret (u := w_) S hr hK hW dX12_ways_22 ⟨by decide, by decide⟩ (⟨_, _, rfl, hU, gO_, gR_, gU_⟩)
  · refine j_callV (k := 55) (ci := 11) (q := (RX12, TX12, 17)) (As := [.int (nI 0), .int (nI (2 ^ n))]) (rest := []) S hK hA hW (c_X12_waysFrom_1 l D cy ad 0 n nc (mixF (fun d => (rowM (mdl n sd se nc cs lv) rb) (layP n od d n)) tu (2 ^ n)) 0 0 (2 ^ n) gO_ gU_   (by subst hnk; decide) (rfl) (by decide)) (jgo wm_X12_156) yk_X12_waysFrom gO_ rfl rfl ⟨⟨rfl, rfl⟩, by decide, by decide⟩ rfl hl.1 rfl (Nat.le_of_ble_eq_true rfl) dX12_ways_19 ⟨Nat.le_of_ble_eq_true rfl, Nat.le_of_ble_eq_true rfl⟩ (fun v u H locs hp hW => ?_)
    obtain ⟨rfl, rfl⟩ := hp
    refine W.eq (g2 := F0 m 22 ls [.long (lN (waysH (mixF (fun d => (rowM (mdl n sd se nc cs lv) rb) (layP n od d n)) tu (2 ^ n)) 1 0))]) rfl ?_
    refine lv_topl_to (y := lN (waysH (fun d => (mdl n sd se nc cs lv) (layP n od d n)) n 0)) (congrArg lN ((waysH_congr (T := (mixF (fun d => (rowM (mdl n sd se nc cs lv) rb) (layP n od d n)) tu (2 ^ n))) (U := (fun d => (mdl n sd se nc cs lv) (layP n od d n))) (N := 2 ^ n) (fun j hj => (mixF_lo hj).trans (row_at (layP_lt hod))) 1 0 (by subst hnk; decide)).trans (by rw [hnk]))) ?_
    subst hQ
    exact j_lret (u := w_) S hr hK hW dX12_ways_22 ⟨by decide, by decide⟩ (⟨_, _, rfl, hU, gO_, gR_, gU_⟩)
  · refine j_callV (k := 55) (ci := 11) (q := (RX12, TX12, 17)) (As := [.int (nI 0), .int (nI (2 ^ n))]) (rest := []) S hK hA hW (c_X12_waysFrom_2 l D cy ad 0 n nc (mixF (fun d => (rowM (mdl n sd se nc cs lv) rb) (layP n od d n)) tu (2 ^ n)) 0 0 (2 ^ n) gO_ gU_   (by subst hnk; decide) (rfl) (by decide)) (jgo wm_X12_156) yk_X12_waysFrom gO_ rfl rfl ⟨⟨rfl, rfl⟩, by decide, by decide⟩ rfl hl.1 rfl (Nat.le_of_ble_eq_true rfl) dX12_ways_19 ⟨Nat.le_of_ble_eq_true rfl, Nat.le_of_ble_eq_true rfl⟩ (fun v u H locs hp hW => ?_)
    obtain ⟨rfl, rfl⟩ := hp
    refine W.eq (g2 := F0 m 22 ls [.long (lN (waysH (mixF (fun d => (rowM (mdl n sd se nc cs lv) rb) (layP n od d n)) tu (2 ^ n)) 2 0))]) rfl ?_
    refine lv_topl_to (y := lN (waysH (fun d => (mdl n sd se nc cs lv) (layP n od d n)) n 0)) (congrArg lN ((waysH_congr (T := (mixF (fun d => (rowM (mdl n sd se nc cs lv) rb) (layP n od d n)) tu (2 ^ n))) (U := (fun d => (mdl n sd se nc cs lv) (layP n od d n))) (N := 2 ^ n) (fun j hj => (mixF_lo hj).trans (row_at (layP_lt hod))) 2 0 (by subst hnk; decide)).trans (by rw [hnk]))) ?_
    subst hQ
    exact j_lret (u := w_) S hr hK hW dX12_ways_22 ⟨by decide, by decide⟩ (⟨_, _, rfl, hU, gO_, gR_, gU_⟩)
  · refine j_callV (k := 55) (ci := 11) (q := (RX12, TX12, 17)) (As := [.int (nI 0), .int (nI (2 ^ n))]) (rest := []) S hK hA hW (c_X12_waysFrom_3 l D cy ad 0 n nc (mixF (fun d => (rowM (mdl n sd se nc cs lv) rb) (layP n od d n)) tu (2 ^ n)) 0 0 (2 ^ n) gO_ gU_   (by subst hnk; decide) (rfl) (by decide)) (jgo wm_X12_156) yk_X12_waysFrom gO_ rfl rfl ⟨⟨rfl, rfl⟩, by decide, by decide⟩ rfl hl.1 rfl (Nat.le_of_ble_eq_true rfl) dX12_ways_19 ⟨Nat.le_of_ble_eq_true rfl, Nat.le_of_ble_eq_true rfl⟩ (fun v u H locs hp hW => ?_)
    obtain ⟨rfl, rfl⟩ := hp
    refine W.eq (g2 := F0 m 22 ls [.long (lN (waysH (mixF (fun d => (rowM (mdl n sd se nc cs lv) rb) (layP n od d n)) tu (2 ^ n)) 3 0))]) rfl ?_
    refine lv_topl_to (y := lN (waysH (fun d => (mdl n sd se nc cs lv) (layP n od d n)) n 0)) (congrArg lN ((waysH_congr (T := (mixF (fun d => (rowM (mdl n sd se nc cs lv) rb) (layP n od d n)) tu (2 ^ n))) (U := (fun d => (mdl n sd se nc cs lv) (layP n od d n))) (N := 2 ^ n) (fun j hj => (mixF_lo hj).trans (row_at (layP_lt hod))) 3 0 (by subst hnk; decide)).trans (by rw [hnk]))) ?_
    subst hQ
    exact j_lret (u := w_) S hr hK hW dX12_ways_22 ⟨by decide, by decide⟩ (⟨_, _, rfl, hU, gO_, gR_, gU_⟩)
  · refine j_callV (k := 55) (ci := 11) (q := (RX12, TX12, 17)) (As := [.int (nI 0), .int (nI (2 ^ n))]) (rest := []) S hK hA hW (c_X12_waysFrom_4 l D cy ad 0 n nc (mixF (fun d => (rowM (mdl n sd se nc cs lv) rb) (layP n od d n)) tu (2 ^ n)) 0 0 (2 ^ n) gO_ gU_   (by subst hnk; decide) (rfl) (by decide)) (jgo wm_X12_156) yk_X12_waysFrom gO_ rfl rfl ⟨⟨rfl, rfl⟩, by decide, by decide⟩ rfl hl.1 rfl (Nat.le_of_ble_eq_true rfl) dX12_ways_19 ⟨Nat.le_of_ble_eq_true rfl, Nat.le_of_ble_eq_true rfl⟩ (fun v u H locs hp hW => ?_)
    obtain ⟨rfl, rfl⟩ := hp
    refine W.eq (g2 := F0 m 22 ls [.long (lN (waysH (mixF (fun d => (rowM (mdl n sd se nc cs lv) rb) (layP n od d n)) tu (2 ^ n)) 4 0))]) rfl ?_
    refine lv_topl_to (y := lN (waysH (fun d => (mdl n sd se nc cs lv) (layP n od d n)) n 0)) (congrArg lN ((waysH_congr (T := (mixF (fun d => (rowM (mdl n sd se nc cs lv) rb) (layP n od d n)) tu (2 ^ n))) (U := (fun d => (mdl n sd se nc cs lv) (layP n od d n))) (N := 2 ^ n) (fun j hj => (mixF_lo hj).trans (row_at (layP_lt hod))) 4 0 (by subst hnk; decide)).trans (by rw [hnk]))) ?_
    subst hQ
    exact j_lret (u := w_) S hr hK hW dX12_ways_22 ⟨by decide, by decide⟩ (⟨_, _, rfl, hU, gO_, gR_, gU_⟩)
  · refine j_callV (k := 55) (ci := 11) (q := (RX12, TX12, 17)) (As := [.int (nI 0), .int (nI (2 ^ n))]) (rest := []) S hK hA hW (c_X12_waysFrom_5 l D cy ad 0 n nc (mixF (fun d => (rowM (mdl n sd se nc cs lv) rb) (layP n od d n)) tu (2 ^ n)) 0 0 (2 ^ n) gO_ gU_   (by subst hnk; decide) (rfl) (by decide)) (jgo wm_X12_156) yk_X12_waysFrom gO_ rfl rfl ⟨⟨rfl, rfl⟩, by decide, by decide⟩ rfl hl.1 rfl (Nat.le_of_ble_eq_true rfl) dX12_ways_19 ⟨Nat.le_of_ble_eq_true rfl, Nat.le_of_ble_eq_true rfl⟩ (fun v u H locs hp hW => ?_)
    obtain ⟨rfl, rfl⟩ := hp
    refine W.eq (g2 := F0 m 22 ls [.long (lN (waysH (mixF (fun d => (rowM (mdl n sd se nc cs lv) rb) (layP n od d n)) tu (2 ^ n)) 5 0))]) rfl ?_
    refine lv_topl_to (y := lN (waysH (fun d => (mdl n sd se nc cs lv) (layP n od d n)) n 0)) (congrArg lN ((waysH_congr (T := (mixF (fun d => (rowM (mdl n sd se nc cs lv) rb) (layP n od d n)) tu (2 ^ n))) (U := (fun d => (mdl n sd se nc cs lv) (layP n od d n))) (N := 2 ^ n) (fun j hj => (mixF_lo hj).trans (row_at (layP_lt hod))) 5 0 (by subst hnk; decide)).trans (by rw [hnk]))) ?_
    subst hQ
    exact j_lret (u := w_) S hr hK hW dX12_ways_22 ⟨by decide, by decide⟩ (⟨_, _, rfl, hU, gO_, gR_, gU_⟩)
  · refine j_callV (k := 55) (ci := 11) (q := (RX12, TX12, 17)) (As := [.int (nI 0), .int (nI (2 ^ n))]) (rest := []) S hK hA hW (c_X12_waysFrom_6 l D cy ad 0 n nc (mixF (fun d => (rowM (mdl n sd se nc cs lv) rb) (layP n od d n)) tu (2 ^ n)) 0 0 (2 ^ n) gO_ gU_   (by subst hnk; decide) (rfl) (by decide)) (jgo wm_X12_156) yk_X12_waysFrom gO_ rfl rfl ⟨⟨rfl, rfl⟩, by decide, by decide⟩ rfl hl.1 rfl (Nat.le_of_ble_eq_true rfl) dX12_ways_19 ⟨Nat.le_of_ble_eq_true rfl, Nat.le_of_ble_eq_true rfl⟩ (fun v u H locs hp hW => ?_)
    obtain ⟨rfl, rfl⟩ := hp
    refine W.eq (g2 := F0 m 22 ls [.long (lN (waysH (mixF (fun d => (rowM (mdl n sd se nc cs lv) rb) (layP n od d n)) tu (2 ^ n)) 6 0))]) rfl ?_
    refine lv_topl_to (y := lN (waysH (fun d => (mdl n sd se nc cs lv) (layP n od d n)) n 0)) (congrArg lN ((waysH_congr (T := (mixF (fun d => (rowM (mdl n sd se nc cs lv) rb) (layP n od d n)) tu (2 ^ n))) (U := (fun d => (mdl n sd se nc cs lv) (layP n od d n))) (N := 2 ^ n) (fun j hj => (mixF_lo hj).trans (row_at (layP_lt hod))) 6 0 (by subst hnk; decide)).trans (by rw [hnk]))) ?_
    subst hQ
    exact j_lret (u := w_) S hr hK hW dX12_ways_22 ⟨by decide, by decide⟩ (⟨_, _, rfl, hU, gO_, gR_, gU_⟩)
  · refine j_callV (k := 55) (ci := 11) (q := (RX12, TX12, 17)) (As := [.int (nI 0), .int (nI (2 ^ n))]) (rest := []) S hK hA hW (c_X12_waysFrom_7 l D cy ad 0 n nc (mixF (fun d => (rowM (mdl n sd se nc cs lv) rb) (layP n od d n)) tu (2 ^ n)) 0 0 (2 ^ n) gO_ gU_   (by subst hnk; decide) (rfl) (by decide)) (jgo wm_X12_156) yk_X12_waysFrom gO_ rfl rfl ⟨⟨rfl, rfl⟩, by decide, by decide⟩ rfl hl.1 rfl (Nat.le_of_ble_eq_true rfl) dX12_ways_19 ⟨Nat.le_of_ble_eq_true rfl, Nat.le_of_ble_eq_true rfl⟩ (fun v u H locs hp hW => ?_)
    obtain ⟨rfl, rfl⟩ := hp
    refine W.eq (g2 := F0 m 22 ls [.long (lN (waysH (mixF (fun d => (rowM (mdl n sd se nc cs lv) rb) (layP n od d n)) tu (2 ^ n)) 7 0))]) rfl ?_
    refine lv_topl_to (y := lN (waysH (fun d => (mdl n sd se nc cs lv) (layP n od d n)) n 0)) (congrArg lN ((waysH_congr (T := (mixF (fun d => (rowM (mdl n sd se nc cs lv) rb) (layP n od d n)) tu (2 ^ n))) (U := (fun d => (mdl n sd se nc cs lv) (layP n od d n))) (N := 2 ^ n) (fun j hj => (mixF_lo hj).trans (row_at (layP_lt hod))) 7 0 (by subst hnk; decide)).trans (by rw [hnk]))) ?_
    subst hQ
    exact j_lret (u := w_) S hr hK hW dX12_ways_22 ⟨by decide, by decide⟩ (⟨_, _, rfl, hU, gO_, gR_, gU_⟩)
  · refine j_callV (k := 55) (ci := 11) (q := (RX12, TX12, 17)) (As := [.int (nI 0), .int (nI (2 ^ n))]) (rest := []) S hK hA hW (c_X12_waysFrom_8 l D cy ad 0 n nc (mixF (fun d => (rowM (mdl n sd se nc cs lv) rb) (layP n od d n)) tu (2 ^ n)) 0 0 (2 ^ n) gO_ gU_   (by subst hnk; decide) (rfl) (by decide)) (jgo wm_X12_156) yk_X12_waysFrom gO_ rfl rfl ⟨⟨rfl, rfl⟩, by decide, by decide⟩ rfl hl.1 rfl (Nat.le_of_ble_eq_true rfl) dX12_ways_19 ⟨Nat.le_of_ble_eq_true rfl, Nat.le_of_ble_eq_true rfl⟩ (fun v u H locs hp hW => ?_)
    obtain ⟨rfl, rfl⟩ := hp
    refine W.eq (g2 := F0 m 22 ls [.long (lN (waysH (mixF (fun d => (rowM (mdl n sd se nc cs lv) rb) (layP n od d n)) tu (2 ^ n)) 8 0))]) rfl ?_
    refine lv_topl_to (y := lN (waysH (fun d => (mdl n sd se nc cs lv) (layP n od d n)) n 0)) (congrArg lN ((waysH_congr (T := (mixF (fun d => (rowM (mdl n sd se nc cs lv) rb) (layP n od d n)) tu (2 ^ n))) (U := (fun d => (mdl n sd se nc cs lv) (layP n od d n))) (N := 2 ^ n) (fun j hj => (mixF_lo hj).trans (row_at (layP_lt hod))) 8 0 (by subst hnk; decide)).trans (by rw [hnk]))) ?_
    subst hQ
    exact j_lret (u := w_) S hr hK hW dX12_ways_22 ⟨by decide, by decide⟩ (⟨_, _, rfl, hU, gO_, gR_, gU_⟩)
  · refine j_callV (k := 55) (ci := 11) (q := (RX12, TX12, 17)) (As := [.int (nI 0), .int (nI (2 ^ n))]) (rest := []) S hK hA hW (c_X12_waysFrom_9 l D cy ad 0 n nc (mixF (fun d => (rowM (mdl n sd se nc cs lv) rb) (layP n od d n)) tu (2 ^ n)) 0 0 (2 ^ n) gO_ gU_   (by subst hnk; decide) (rfl) (by decide)) (jgo wm_X12_156) yk_X12_waysFrom gO_ rfl rfl ⟨⟨rfl, rfl⟩, by decide, by decide⟩ rfl hl.1 rfl (Nat.le_of_ble_eq_true rfl) dX12_ways_19 ⟨Nat.le_of_ble_eq_true rfl, Nat.le_of_ble_eq_true rfl⟩ (fun v u H locs hp hW => ?_)
    obtain ⟨rfl, rfl⟩ := hp
    refine W.eq (g2 := F0 m 22 ls [.long (lN (waysH (mixF (fun d => (rowM (mdl n sd se nc cs lv) rb) (layP n od d n)) tu (2 ^ n)) 9 0))]) rfl ?_
    refine lv_topl_to (y := lN (waysH (fun d => (mdl n sd se nc cs lv) (layP n od d n)) n 0)) (congrArg lN ((waysH_congr (T := (mixF (fun d => (rowM (mdl n sd se nc cs lv) rb) (layP n od d n)) tu (2 ^ n))) (U := (fun d => (mdl n sd se nc cs lv) (layP n od d n))) (N := 2 ^ n) (fun j hj => (mixF_lo hj).trans (row_at (layP_lt hod))) 9 0 (by subst hnk; decide)).trans (by rw [hnk]))) ?_
    subst hQ
    exact j_lret (u := w_) S hr hK hW dX12_ways_22 ⟨by decide, by decide⟩ (⟨_, _, rfl, hU, gO_, gR_, gU_⟩)
  · refine j_callV (k := 55) (ci := 11) (q := (RX12, TX12, 17)) (As := [.int (nI 0), .int (nI (2 ^ n))]) (rest := []) S hK hA hW (c_X12_waysFrom_10 l D cy ad 0 n nc (mixF (fun d => (rowM (mdl n sd se nc cs lv) rb) (layP n od d n)) tu (2 ^ n)) 0 0 (2 ^ n) gO_ gU_   (by subst hnk; decide) (rfl) (by decide)) (jgo wm_X12_156) yk_X12_waysFrom gO_ rfl rfl ⟨⟨rfl, rfl⟩, by decide, by decide⟩ rfl hl.1 rfl (Nat.le_of_ble_eq_true rfl) dX12_ways_19 ⟨Nat.le_of_ble_eq_true rfl, Nat.le_of_ble_eq_true rfl⟩ (fun v u H locs hp hW => ?_)
    obtain ⟨rfl, rfl⟩ := hp
    refine W.eq (g2 := F0 m 22 ls [.long (lN (waysH (mixF (fun d => (rowM (mdl n sd se nc cs lv) rb) (layP n od d n)) tu (2 ^ n)) 10 0))]) rfl ?_
    refine lv_topl_to (y := lN (waysH (fun d => (mdl n sd se nc cs lv) (layP n od d n)) n 0)) (congrArg lN ((waysH_congr (T := (mixF (fun d => (rowM (mdl n sd se nc cs lv) rb) (layP n od d n)) tu (2 ^ n))) (U := (fun d => (mdl n sd se nc cs lv) (layP n od d n))) (N := 2 ^ n) (fun j hj => (mixF_lo hj).trans (row_at (layP_lt hod))) 10 0 (by subst hnk; decide)).trans (by rw [hnk]))) ?_
    subst hQ
    exact j_lret (u := w_) S hr hK hW dX12_ways_22 ⟨by decide, by decide⟩ (⟨_, _, rfl, hU, gO_, gR_, gU_⟩)
