/-! THE CONSTRUCTORS OF CONSTRAINTS (laid by wip/whole/tools, from the specs there) -/
/-- Constraint() of a X3 -/
theorem c_X4_init_X3 (l : Launch) (D : va_G) (cy : Nat → ClassId) {w : va_W} (k h sg mb : Nat) (hk : w[k]? = some (h, .inr (3, [.int (nI 0), .int (nI 0), .int (nI 0), .int (nI 0)]))) (hsg : sg < 65536) : jM l yX4_init (jws yX4_init cX4_init 3 none) (jR 1 0 0) D cy w [.ref h, .int (nI sg), .int (nI mb)] 0 0 (fun vv uu => vv = none ∧ jU w uu [k] ∧ uu[k]? = some (h, .inr (3, [.int (nI sg), .int (nI mb), .int (nI 0), .int (nI 0)]))) := by
  refine j_of (by decide) rfl (Nat.le_of_ble_eq_true rfl) ?_
  intro p e s m args below meth c A ls Q hQ S hr hK hA H locs hW hl
  have hl : lv_has ls 3 [(0, .ref h), (1, .int (nI sg)), (2, .int (nI mb))] := hl
  refine lv_aload_n S.1 S.2.1 dX4_init_0 rfl (lv_at hl 0 rfl) ?_
  refine W.objInit S.1 S.2.1 S.2.2.2.1 (S.2.2.2.2 _ (List.mem_cons_of_mem _ woi_X4)) (S.2.2.2.2 _ (List.mem_cons_of_mem _ woi_i)) (S.2.2.2.2 _ (List.mem_cons_of_mem _ woi_c)) rfl (by rw [S.2.2.1]; exact hl.1) rfl dX4_init_1 (Nat.le_of_ble_eq_true rfl) (Nat.le_of_ble_eq_true rfl) ?_
  refine W.eq (g2 := F0 m 4 ls []) rfl ?_
  refine lv_aload_n S.1 S.2.1 dX4_init_4 rfl (lv_at hl 0 rfl) ?_
  refine lv_iload_n S.1 S.2.1 dX4_init_5 rfl (lv_at hl 1 rfl) ?_
  refine j_putF (ci := 3) (C := RX3) (T := TX3) (N := 4) (ty := .char) S (fun w h => List.mem_cons_of_mem _ (inG3 w h)) tyX3 tyX3_ok nmX3 hK hW hk rfl 0 (by decide) (List.mem_cons_of_mem _ wfl_X4_7) (fun _ h9 => h9) rfl hr.2.2 rfl (by decide +kernel) ((pk_charN hsg).1) ((pk_charN hsg).2) (Nat.le_of_ble_eq_true rfl) dX4_init_6 (fun H locs w_ hU1 hN1 hW => ?_)
  have hU : jU w w_ [k] := jU.mono hU1 (fun _ h => h)
  have hk_ : w_[k]? = some (h, .inr (3, [.int (nI sg), .int (nI 0), .int (nI 0), .int (nI 0)])) := hN1
  clear hU1 hN1
  refine lv_aload_n S.1 S.2.1 dX4_init_9 rfl (lv_at hl 0 rfl) ?_
  refine lv_iload_n S.1 S.2.1 dX4_init_10 rfl (lv_at hl 2 rfl) ?_
  refine j_putF (ci := 3) (C := RX3) (T := TX3) (N := 4) (ty := .int) S (fun w h => List.mem_cons_of_mem _ (inG3 w h)) tyX3 tyX3_ok nmX3 hK hW hk_ rfl 1 (by decide) (List.mem_cons_of_mem _ wfl_X4_13) (fun _ h9 => h9) rfl hr.2.2 rfl (by decide +kernel) (rfl) (rfl) (Nat.le_of_ble_eq_true rfl) dX4_init_11 (fun H locs w_ hU1 hN1 hW => ?_)
  have hU := hU.then hU1 (fun _ h => h)
  have hk_ : w_[k]? = some (h, .inr (3, [.int (nI sg), .int (nI mb), .int (nI 0), .int (nI 0)])) := hN1
  clear hU1 hN1
  subst hQ
  exact j_vret (u := w_) S hr hK hW dX4_init_14 ⟨by decide, by decide⟩ (⟨rfl, hU, hk_⟩)
/-- Constraint() of a X8 -/
theorem c_X4_init_X8 (l : Launch) (D : va_G) (cy : Nat → ClassId) {w : va_W} (k h sg mb : Nat) (hk : w[k]? = some (h, .inr (7, [.int (nI 0), .int (nI 0), .int (nI 0)]))) (hsg : sg < 65536) : jM l yX4_init (jws yX4_init cX4_init 3 none) (jR 1 0 0) D cy w [.ref h, .int (nI sg), .int (nI mb)] 0 0 (fun vv uu => vv = none ∧ jU w uu [k] ∧ uu[k]? = some (h, .inr (7, [.int (nI sg), .int (nI mb), .int (nI 0)]))) := by
  refine j_of (by decide) rfl (Nat.le_of_ble_eq_true rfl) ?_
  intro p e s m args below meth c A ls Q hQ S hr hK hA H locs hW hl
  have hl : lv_has ls 3 [(0, .ref h), (1, .int (nI sg)), (2, .int (nI mb))] := hl
  refine lv_aload_n S.1 S.2.1 dX4_init_0 rfl (lv_at hl 0 rfl) ?_
  refine W.objInit S.1 S.2.1 S.2.2.2.1 (S.2.2.2.2 _ (List.mem_cons_of_mem _ woi_X4)) (S.2.2.2.2 _ (List.mem_cons_of_mem _ woi_i)) (S.2.2.2.2 _ (List.mem_cons_of_mem _ woi_c)) rfl (by rw [S.2.2.1]; exact hl.1) rfl dX4_init_1 (Nat.le_of_ble_eq_true rfl) (Nat.le_of_ble_eq_true rfl) ?_
  refine W.eq (g2 := F0 m 4 ls []) rfl ?_
  refine lv_aload_n S.1 S.2.1 dX4_init_4 rfl (lv_at hl 0 rfl) ?_
  refine lv_iload_n S.1 S.2.1 dX4_init_5 rfl (lv_at hl 1 rfl) ?_
  refine j_putF (ci := 7) (C := RX8) (T := TX8) (N := 3) (ty := .char) S (fun w h => List.mem_cons_of_mem _ (inG8 w h)) tyX8 tyX8_ok nmX8 hK hW hk rfl 0 (by decide) (List.mem_cons_of_mem _ wfl_X4_7) (fun _ h9 => h9) rfl hr.2.2 rfl (by decide +kernel) ((pk_charN hsg).1) ((pk_charN hsg).2) (Nat.le_of_ble_eq_true rfl) dX4_init_6 (fun H locs w_ hU1 hN1 hW => ?_)
  have hU : jU w w_ [k] := jU.mono hU1 (fun _ h => h)
  have hk_ : w_[k]? = some (h, .inr (7, [.int (nI sg), .int (nI 0), .int (nI 0)])) := hN1
  clear hU1 hN1
  refine lv_aload_n S.1 S.2.1 dX4_init_9 rfl (lv_at hl 0 rfl) ?_
  refine lv_iload_n S.1 S.2.1 dX4_init_10 rfl (lv_at hl 2 rfl) ?_
  refine j_putF (ci := 7) (C := RX8) (T := TX8) (N := 3) (ty := .int) S (fun w h => List.mem_cons_of_mem _ (inG8 w h)) tyX8 tyX8_ok nmX8 hK hW hk_ rfl 1 (by decide) (List.mem_cons_of_mem _ wfl_X4_13) (fun _ h9 => h9) rfl hr.2.2 rfl (by decide +kernel) (rfl) (rfl) (Nat.le_of_ble_eq_true rfl) dX4_init_11 (fun H locs w_ hU1 hN1 hW => ?_)
  have hU := hU.then hU1 (fun _ h => h)
  have hk_ : w_[k]? = some (h, .inr (7, [.int (nI sg), .int (nI mb), .int (nI 0)])) := hN1
  clear hU1 hN1
  subst hQ
  exact j_vret (u := w_) S hr hK hW dX4_init_14 ⟨by decide, by decide⟩ (⟨rfl, hU, hk_⟩)
/-- Constraint() of a X1 -/
theorem c_X4_init_X1 (l : Launch) (D : va_G) (cy : Nat → ClassId) {w : va_W} (k h sg mb : Nat) (hk : w[k]? = some (h, .inr (1, [.int (nI 0), .int (nI 0), .int (nI 0), .int (nI 0)]))) (hsg : sg < 65536) : jM l yX4_init (jws yX4_init cX4_init 3 none) (jR 1 0 0) D cy w [.ref h, .int (nI sg), .int (nI mb)] 0 0 (fun vv uu => vv = none ∧ jU w uu [k] ∧ uu[k]? = some (h, .inr (1, [.int (nI sg), .int (nI mb), .int (nI 0), .int (nI 0)]))) := by
  refine j_of (by decide) rfl (Nat.le_of_ble_eq_true rfl) ?_
  intro p e s m args below meth c A ls Q hQ S hr hK hA H locs hW hl
  have hl : lv_has ls 3 [(0, .ref h), (1, .int (nI sg)), (2, .int (nI mb))] := hl
  refine lv_aload_n S.1 S.2.1 dX4_init_0 rfl (lv_at hl 0 rfl) ?_
  refine W.objInit S.1 S.2.1 S.2.2.2.1 (S.2.2.2.2 _ (List.mem_cons_of_mem _ woi_X4)) (S.2.2.2.2 _ (List.mem_cons_of_mem _ woi_i)) (S.2.2.2.2 _ (List.mem_cons_of_mem _ woi_c)) rfl (by rw [S.2.2.1]; exact hl.1) rfl dX4_init_1 (Nat.le_of_ble_eq_true rfl) (Nat.le_of_ble_eq_true rfl) ?_
  refine W.eq (g2 := F0 m 4 ls []) rfl ?_
  refine lv_aload_n S.1 S.2.1 dX4_init_4 rfl (lv_at hl 0 rfl) ?_
  refine lv_iload_n S.1 S.2.1 dX4_init_5 rfl (lv_at hl 1 rfl) ?_
  refine j_putF (ci := 1) (C := RX1) (T := TX1) (N := 4) (ty := .char) S (fun w h => List.mem_cons_of_mem _ (inG1 w h)) tyX1 tyX1_ok nmX1 hK hW hk rfl 0 (by decide) (List.mem_cons_of_mem _ wfl_X4_7) (fun _ h9 => h9) rfl hr.2.2 rfl (by decide +kernel) ((pk_charN hsg).1) ((pk_charN hsg).2) (Nat.le_of_ble_eq_true rfl) dX4_init_6 (fun H locs w_ hU1 hN1 hW => ?_)
  have hU : jU w w_ [k] := jU.mono hU1 (fun _ h => h)
  have hk_ : w_[k]? = some (h, .inr (1, [.int (nI sg), .int (nI 0), .int (nI 0), .int (nI 0)])) := hN1
  clear hU1 hN1
  refine lv_aload_n S.1 S.2.1 dX4_init_9 rfl (lv_at hl 0 rfl) ?_
  refine lv_iload_n S.1 S.2.1 dX4_init_10 rfl (lv_at hl 2 rfl) ?_
  refine j_putF (ci := 1) (C := RX1) (T := TX1) (N := 4) (ty := .int) S (fun w h => List.mem_cons_of_mem _ (inG1 w h)) tyX1 tyX1_ok nmX1 hK hW hk_ rfl 1 (by decide) (List.mem_cons_of_mem _ wfl_X4_13) (fun _ h9 => h9) rfl hr.2.2 rfl (by decide +kernel) (rfl) (rfl) (Nat.le_of_ble_eq_true rfl) dX4_init_11 (fun H locs w_ hU1 hN1 hW => ?_)
  have hU := hU.then hU1 (fun _ h => h)
  have hk_ : w_[k]? = some (h, .inr (1, [.int (nI sg), .int (nI mb), .int (nI 0), .int (nI 0)])) := hN1
  clear hU1 hN1
  subst hQ
  exact j_vret (u := w_) S hr hK hW dX4_init_14 ⟨by decide, by decide⟩ (⟨rfl, hU, hk_⟩)
/-- constructor of a X3 -/
theorem c_X3_init (l : Launch) (D : va_G) (cy : Nat → ClassId) {w : va_W} (k h ys no : Nat) (hk : w[k]? = some (h, .inr (3, [.int (nI 0), .int (nI 0), .int (nI 0), .int (nI 0)]))) : jM l yX3_init (jws yX3_init cX3_init 3 none) (jR 2 0 0) D cy w [.ref h, .int (nI ys), .int (nI no)] 0 0 (fun vv uu => vv = none ∧ jU w uu [k] ∧ uu[k]? = some (h, .inr (3, [.int (nI 111), .int (nI (ys ||| no)), .int (nI ys), .int (nI no)]))) := by
  refine j_of (by decide) rfl (Nat.le_of_ble_eq_true rfl) ?_
  intro p e s m args below meth c A ls Q hQ S hr hK hA H locs hW hl
  have hl : lv_has ls 3 [(0, .ref h), (1, .int (nI ys)), (2, .int (nI no))] := hl
  refine lv_aload_n S.1 S.2.1 dX3_init_0 rfl (lv_at hl 0 rfl) ?_
  refine lv_bipush (v := nI 111) S.1 S.2.1 dX3_init_1 (by decide) ?_
  refine lv_iload_n S.1 S.2.1 dX3_init_3 rfl (lv_at hl 1 rfl) ?_
  refine lv_iload_n S.1 S.2.1 dX3_init_4 rfl (lv_at hl 2 rfl) ?_
  refine jn_or S dX3_init_5 ?_
  refine j_callI (As := [.int (nI 111), .int (nI (ys ||| no))]) (rest := []) S hK hA hW (c_X4_init_X3 l D cy k h 111 (ys ||| no) hk   (by decide)) wm_X3_1 yk_X4_init ⟨⟨rfl, rfl⟩, by decide, by decide⟩ rfl hl.1 rfl (Nat.le_of_ble_eq_true rfl) dX3_init_6 ⟨Nat.le_of_ble_eq_true rfl, Nat.le_of_ble_eq_true rfl⟩ (fun v w_ H locs hp hW => ?_)
  obtain ⟨rfl, hU1, hN1⟩ := hp
  have hU : jU w w_ [k] := jU.mono hU1 (fun _ h => h)
  have hk_ : w_[k]? = some (h, .inr (3, [.int (nI 111), .int (nI (ys ||| no)), .int (nI 0), .int (nI 0)])) := hN1
  clear hU1 hN1
  refine W.eq (g2 := F0 m 9 ls []) rfl ?_
  refine lv_aload_n S.1 S.2.1 dX3_init_9 rfl (lv_at hl 0 rfl) ?_
  refine lv_iload_n S.1 S.2.1 dX3_init_10 rfl (lv_at hl 1 rfl) ?_
  refine j_putF (ci := 3) (C := RX3) (T := TX3) (N := 4) (ty := .int) S (fun w h => List.mem_cons_of_mem _ (inG3 w h)) tyX3 tyX3_ok nmX3 hK hW hk_ rfl 2 (by decide) (List.mem_cons_of_mem _ wfl_X3_7) (fun _ h9 => h9) rfl hr.2.2 rfl (by decide +kernel) (rfl) (rfl) (Nat.le_of_ble_eq_true rfl) dX3_init_11 (fun H locs w_ hU1 hN1 hW => ?_)
  have hU := hU.then hU1 (fun _ h => h)
  have hk_ : w_[k]? = some (h, .inr (3, [.int (nI 111), .int (nI (ys ||| no)), .int (nI ys), .int (nI 0)])) := hN1
  clear hU1 hN1
  refine lv_aload_n S.1 S.2.1 dX3_init_14 rfl (lv_at hl 0 rfl) ?_
  refine lv_iload_n S.1 S.2.1 dX3_init_15 rfl (lv_at hl 2 rfl) ?_
  refine j_putF (ci := 3) (C := RX3) (T := TX3) (N := 4) (ty := .int) S (fun w h => List.mem_cons_of_mem _ (inG3 w h)) tyX3 tyX3_ok nmX3 hK hW hk_ rfl 3 (by decide) (List.mem_cons_of_mem _ wfl_X3_13) (fun _ h9 => h9) rfl hr.2.2 rfl (by decide +kernel) (rfl) (rfl) (Nat.le_of_ble_eq_true rfl) dX3_init_16 (fun H locs w_ hU1 hN1 hW => ?_)
  have hU := hU.then hU1 (fun _ h => h)
  have hk_ : w_[k]? = some (h, .inr (3, [.int (nI 111), .int (nI (ys ||| no)), .int (nI ys), .int (nI no)])) := hN1
  clear hU1 hN1
  subst hQ
  exact j_vret (u := w_) S hr hK hW dX3_init_19 ⟨by decide, by decide⟩ (⟨rfl, hU, hk_⟩)
/-- constructor of a X8 -/
theorem c_X8_init (l : Launch) (D : va_G) (cy : Nat → ClassId) {w : va_W} (k h st rs : Nat) (hk : w[k]? = some (h, .inr (7, [.int (nI 0), .int (nI 0), .int (nI 0)]))) : jM l yX8_init (jws yX8_init cX8_init 3 none) (jR 2 0 0) D cy w [.ref h, .int (nI st), .int (nI rs)] 0 0 (fun vv uu => vv = none ∧ jU w uu [k] ∧ uu[k]? = some (h, .inr (7, [.int (nI 120), .int (nI st), .int (nI rs)]))) := by
  refine j_of (by decide) rfl (Nat.le_of_ble_eq_true rfl) ?_
  intro p e s m args below meth c A ls Q hQ S hr hK hA H locs hW hl
  have hl : lv_has ls 3 [(0, .ref h), (1, .int (nI st)), (2, .int (nI rs))] := hl
  refine lv_aload_n S.1 S.2.1 dX8_init_0 rfl (lv_at hl 0 rfl) ?_
  refine lv_bipush (v := nI 120) S.1 S.2.1 dX8_init_1 (by decide) ?_
  refine lv_iload_n S.1 S.2.1 dX8_init_3 rfl (lv_at hl 1 rfl) ?_
  refine j_callI (As := [.int (nI 120), .int (nI st)]) (rest := []) S hK hA hW (c_X4_init_X8 l D cy k h 120 st hk   (by decide)) wm_X8_1 yk_X4_init ⟨⟨rfl, rfl⟩, by decide, by decide⟩ rfl hl.1 rfl (Nat.le_of_ble_eq_true rfl) dX8_init_4 ⟨Nat.le_of_ble_eq_true rfl, Nat.le_of_ble_eq_true rfl⟩ (fun v w_ H locs hp hW => ?_)
  obtain ⟨rfl, hU1, hN1⟩ := hp
  have hU : jU w w_ [k] := jU.mono hU1 (fun _ h => h)
  have hk_ : w_[k]? = some (h, .inr (7, [.int (nI 120), .int (nI st), .int (nI 0)])) := hN1
  clear hU1 hN1
  refine W.eq (g2 := F0 m 7 ls []) rfl ?_
  refine lv_aload_n S.1 S.2.1 dX8_init_7 rfl (lv_at hl 0 rfl) ?_
  refine lv_iload_n S.1 S.2.1 dX8_init_8 rfl (lv_at hl 2 rfl) ?_
  refine j_putF (ci := 7) (C := RX8) (T := TX8) (N := 3) (ty := .int) S (fun w h => List.mem_cons_of_mem _ (inG8 w h)) tyX8 tyX8_ok nmX8 hK hW hk_ rfl 2 (by decide) (List.mem_cons_of_mem _ wfl_X8_7) (fun _ h9 => h9) rfl hr.2.2 rfl (by decide +kernel) (rfl) (rfl) (Nat.le_of_ble_eq_true rfl) dX8_init_9 (fun H locs w_ hU1 hN1 hW => ?_)
  have hU := hU.then hU1 (fun _ h => h)
  have hk_ : w_[k]? = some (h, .inr (7, [.int (nI 120), .int (nI st), .int (nI rs)])) := hN1
  clear hU1 hN1
  subst hQ
  exact j_vret (u := w_) S hr hK hW dX8_init_12 ⟨by decide, by decide⟩ (⟨rfl, hU, hk_⟩)
/-- constructor of a X1 -/
theorem c_X1_init (l : Launch) (D : va_G) (cy : Nat → ClassId) {w : va_W} (k h st lo hi : Nat) (hk : w[k]? = some (h, .inr (1, [.int (nI 0), .int (nI 0), .int (nI 0), .int (nI 0)]))) : jM l yX1_init (jws yX1_init cX1_init 4 none) (jR 2 0 0) D cy w [.ref h, .int (nI st), .int (nI lo), .int (nI hi)] 0 0 (fun vv uu => vv = none ∧ jU w uu [k] ∧ uu[k]? = some (h, .inr (1, [.int (nI 107), .int (nI st), .int (nI lo), .int (nI hi)]))) := by
  refine j_of (by decide) rfl (Nat.le_of_ble_eq_true rfl) ?_
  intro p e s m args below meth c A ls Q hQ S hr hK hA H locs hW hl
  have hl : lv_has ls 4 [(0, .ref h), (1, .int (nI st)), (2, .int (nI lo)), (3, .int (nI hi))] := hl
  refine lv_aload_n S.1 S.2.1 dX1_init_0 rfl (lv_at hl 0 rfl) ?_
  refine lv_bipush (v := nI 107) S.1 S.2.1 dX1_init_1 (by decide) ?_
  refine lv_iload_n S.1 S.2.1 dX1_init_3 rfl (lv_at hl 1 rfl) ?_
  refine j_callI (As := [.int (nI 107), .int (nI st)]) (rest := []) S hK hA hW (c_X4_init_X1 l D cy k h 107 st hk   (by decide)) wm_X1_1 yk_X4_init ⟨⟨rfl, rfl⟩, by decide, by decide⟩ rfl hl.1 rfl (Nat.le_of_ble_eq_true rfl) dX1_init_4 ⟨Nat.le_of_ble_eq_true rfl, Nat.le_of_ble_eq_true rfl⟩ (fun v w_ H locs hp hW => ?_)
  obtain ⟨rfl, hU1, hN1⟩ := hp
  have hU : jU w w_ [k] := jU.mono hU1 (fun _ h => h)
  have hk_ : w_[k]? = some (h, .inr (1, [.int (nI 107), .int (nI st), .int (nI 0), .int (nI 0)])) := hN1
  clear hU1 hN1
  refine W.eq (g2 := F0 m 7 ls []) rfl ?_
  refine lv_aload_n S.1 S.2.1 dX1_init_7 rfl (lv_at hl 0 rfl) ?_
  refine lv_iload_n S.1 S.2.1 dX1_init_8 rfl (lv_at hl 2 rfl) ?_
  refine j_putF (ci := 1) (C := RX1) (T := TX1) (N := 4) (ty := .int) S (fun w h => List.mem_cons_of_mem _ (inG1 w h)) tyX1 tyX1_ok nmX1 hK hW hk_ rfl 2 (by decide) (List.mem_cons_of_mem _ wfl_X1_7) (fun _ h9 => h9) rfl hr.2.2 rfl (by decide +kernel) (rfl) (rfl) (Nat.le_of_ble_eq_true rfl) dX1_init_9 (fun H locs w_ hU1 hN1 hW => ?_)
  have hU := hU.then hU1 (fun _ h => h)
  have hk_ : w_[k]? = some (h, .inr (1, [.int (nI 107), .int (nI st), .int (nI lo), .int (nI 0)])) := hN1
  clear hU1 hN1
  refine lv_aload_n S.1 S.2.1 dX1_init_12 rfl (lv_at hl 0 rfl) ?_
  refine lv_iload_n S.1 S.2.1 dX1_init_13 rfl (lv_at hl 3 rfl) ?_
  refine j_putF (ci := 1) (C := RX1) (T := TX1) (N := 4) (ty := .int) S (fun w h => List.mem_cons_of_mem _ (inG1 w h)) tyX1 tyX1_ok nmX1 hK hW hk_ rfl 3 (by decide) (List.mem_cons_of_mem _ wfl_X1_13) (fun _ h9 => h9) rfl hr.2.2 rfl (by decide +kernel) (rfl) (rfl) (Nat.le_of_ble_eq_true rfl) dX1_init_14 (fun H locs w_ hU1 hN1 hW => ?_)
  have hU := hU.then hU1 (fun _ h => h)
  have hk_ : w_[k]? = some (h, .inr (1, [.int (nI 107), .int (nI st), .int (nI lo), .int (nI hi)])) := hN1
  clear hU1 hN1
  subst hQ
  exact j_vret (u := w_) S hr hK hW dX1_init_17 ⟨by decide, by decide⟩ (⟨rfl, hU, hk_⟩)
