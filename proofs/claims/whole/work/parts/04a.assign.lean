/-! Assignments: reads and single writes (laid by wip/whole/tools, from the specs there) -/
/-- isMade -/
theorem c_X0_isMade (l : Launch) (D : va_G) (cy : Nat → ClassId) {w : va_W} (ka kl kw ao al aw : Nat) (vs : Int32) (X : Nat → Bool) (hA1 : w[ka]? = some (ao, .inr (0, [.ref al, .int vs]))) (hA2 : w[kl]? = some (al, .inr (6, [.ref aw]))) (hA3 : w[kw]? = some (aw, .inl (cy 1, 16, .inr (.inl (wd X))))) : jM l yX0_isMade (jws yX0_isMade cX0_isMade 1 (some .boolean)) (jR 0 0 0) D cy w [.ref ao] 0 0 (fun vv uu => vv = some (.int (bI (decide ¬ vs = (-1)))) ∧ w = uu) := by
  refine j_of (by decide) rfl (Nat.le_of_ble_eq_true rfl) ?_
  intro p e s m args below meth c A ls Q hQ S hr hK hA H locs hW hl
  have hl : lv_has ls 1 [(0, .ref ao)] := hl
  refine lv_aload_n S.1 S.2.1 dX0_isMade_0 rfl (lv_at hl 0 rfl) ?_
  refine j_get (ci := 0) (C := RX0) (T := TX0) (N := 2) (v := .int vs) S (fun w h => List.mem_cons_of_mem _ (inG0 w h)) hK hW hA1 rfl 1 (by decide) (List.mem_cons_of_mem _ wfl_X0_20) (fun _ h9 => h9) rfl dX0_isMade_1 ?_
  refine lv_iconst (v := (-1)) S.1 S.2.1 dX0_isMade_4 (by decide) ?_
  refine lv_icmp_eq (tgt := 12) S.1 S.2.1 dX0_isMade_5 (by decide) (fun c_5 => ?_) (fun c_5 => ?_)
  · refine lv_iconst (v := nI 0) S.1 S.2.1 dX0_isMade_12 (by decide) ?_
    subst hQ
    exact j_iret (u := w) S hr (rfl) hK hW dX0_isMade_13 ⟨by decide, by decide⟩ (⟨bI_F (by simp [c_5]), rfl⟩)
  · refine lv_iconst (v := nI 1) S.1 S.2.1 dX0_isMade_8 (by decide) ?_
    refine lv_goto (tgt := 13) S.1 S.2.1 dX0_isMade_9 (by decide) ?_
    subst hQ
    exact j_iret (u := w) S hr (rfl) hK hW dX0_isMade_13 ⟨by decide, by decide⟩ (⟨bI_T (by simp [c_5]), rfl⟩)
/-- variables -/
theorem c_X0_variables (l : Launch) (D : va_G) (cy : Nat → ClassId) {w : va_W} (ka kl kw ao al aw : Nat) (vs : Int32) (X : Nat → Bool) (hA1 : w[ka]? = some (ao, .inr (0, [.ref al, .int vs]))) (hA2 : w[kl]? = some (al, .inr (6, [.ref aw]))) (hA3 : w[kw]? = some (aw, .inl (cy 1, 16, .inr (.inl (wd X))))) : jM l yX0_variables (jws yX0_variables cX0_variables 1 (some .int)) (jR 0 0 0) D cy w [.ref ao] 0 0 (fun vv uu => vv = some (.int vs) ∧ w = uu) := by
  refine j_of (by decide) rfl (Nat.le_of_ble_eq_true rfl) ?_
  intro p e s m args below meth c A ls Q hQ S hr hK hA H locs hW hl
  have hl : lv_has ls 1 [(0, .ref ao)] := hl
  refine lv_aload_n S.1 S.2.1 dX0_variables_0 rfl (lv_at hl 0 rfl) ?_
  refine j_get (ci := 0) (C := RX0) (T := TX0) (N := 2) (v := .int vs) S (fun w h => List.mem_cons_of_mem _ (inG0 w h)) hK hW hA1 rfl 1 (by decide) (List.mem_cons_of_mem _ wfl_X0_20) (fun _ h9 => h9) rfl dX0_variables_1 ?_
  subst hQ
  exact j_iret (u := w) S hr (rfl) hK hW dX0_variables_4 ⟨by decide, by decide⟩ (⟨rfl, rfl⟩)
/-- variables, a Nat -/
theorem c_X0_variablesN (l : Launch) (D : va_G) (cy : Nat → ClassId) {w : va_W} (ka kl kw ao al aw : Nat) (vn : Nat) (X : Nat → Bool) (hA1 : w[ka]? = some (ao, .inr (0, [.ref al, .int (nI vn)]))) (hA2 : w[kl]? = some (al, .inr (6, [.ref aw]))) (hA3 : w[kw]? = some (aw, .inl (cy 1, 16, .inr (.inl (wd X))))) : jM l yX0_variables (jws yX0_variables cX0_variables 1 (some .int)) (jR 0 0 0) D cy w [.ref ao] 0 0 (fun vv uu => vv = some (.int (nI vn)) ∧ w = uu) := by
  refine j_of (by decide) rfl (Nat.le_of_ble_eq_true rfl) ?_
  intro p e s m args below meth c A ls Q hQ S hr hK hA H locs hW hl
  have hl : lv_has ls 1 [(0, .ref ao)] := hl
  refine lv_aload_n S.1 S.2.1 dX0_variables_0 rfl (lv_at hl 0 rfl) ?_
  refine j_get (ci := 0) (C := RX0) (T := TX0) (N := 2) (v := .int (nI vn)) S (fun w h => List.mem_cons_of_mem _ (inG0 w h)) hK hW hA1 rfl 1 (by decide) (List.mem_cons_of_mem _ wfl_X0_20) (fun _ h9 => h9) rfl dX0_variables_1 ?_
  subst hQ
  exact j_iret (u := w) S hr (rfl) hK hW dX0_variables_4 ⟨by decide, by decide⟩ (⟨rfl, rfl⟩)
/-- has -/
theorem c_X0_has (l : Launch) (D : va_G) (cy : Nat → ClassId) {w : va_W} (ka kl kw ao al aw : Nat) (vs : Int32) (X : Nat → Bool) (a : Nat) (hA1 : w[ka]? = some (ao, .inr (0, [.ref al, .int vs]))) (hA2 : w[kl]? = some (al, .inr (6, [.ref aw]))) (hA3 : w[kw]? = some (aw, .inl (cy 1, 16, .inr (.inl (wd X))))) (ha : a < 1024) : jM l yX0_has (jws yX0_has cX0_has 2 (some .boolean)) (jR 1 0 0) D cy w [.ref ao, .int (nI a)] 0 0 (fun vv uu => vv = some (.int (bI (X a))) ∧ w = uu) := by
  refine j_of (by decide) rfl (Nat.le_of_ble_eq_true rfl) ?_
  intro p e s m args below meth c A ls Q hQ S hr hK hA H locs hW hl
  have hl : lv_has ls 2 [(0, .ref ao), (1, .int (nI a))] := hl
  refine lv_aload_n S.1 S.2.1 dX0_has_0 rfl (lv_at hl 0 rfl) ?_
  refine j_get (ci := 0) (C := RX0) (T := TX0) (N := 2) (v := .ref al) S (fun w h => List.mem_cons_of_mem _ (inG0 w h)) hK hW hA1 rfl 0 (by decide) (List.mem_cons_of_mem _ wfl_X0_16) (fun _ h9 => h9) rfl dX0_has_1 ?_
  refine lv_iload_n S.1 S.2.1 dX0_has_4 rfl (lv_at hl 1 rfl) ?_
  refine lv_bipush (v := nI 64) S.1 S.2.1 dX0_has_5 (by decide) ?_
  refine jn_div S (by omega) (by omega) (by omega) dX0_has_7 ?_
  refine j_callV (k := kl) (ci := 6) (q := (RX7, TX7, 1)) (As := [.int (nI (a / 64))]) (rest := []) S hK hA hW (c_X7_at l D cy kl kw al aw 16 (wd X) (nI (a / 64)) hA2 hA3 (by decide)) (jgo wm_X0_32) yk_X7_at hA2 rfl rfl ⟨⟨rfl, rfl⟩, by decide, by decide⟩ rfl hl.1 rfl (Nat.le_of_ble_eq_true rfl) dX0_has_8 ⟨by decide, by decide⟩ (fun v u H locs hp hW => ?_)
  obtain ⟨rfl, rfl⟩ := hp
  refine W.eq (g2 := F0 m 11 ls [.long (rdL (wd X) 16 (nI (a / 64)))]) rfl ?_
  refine lv_topl_to (y := lN (wdN X (a / 64))) (rdL_nI (by omega) (by decide)) ?_
  refine lv_iload_n S.1 S.2.1 dX0_has_11 rfl (lv_at hl 1 rfl) ?_
  refine lv_bipush (v := nI 64) S.1 S.2.1 dX0_has_12 (by decide) ?_
  refine jn_rem S (by omega) (by omega) (by omega) dX0_has_14 ?_
  refine lv_lushr (v := lN (wdN X (a / 64) / 2 ^ (a % 64))) S.1 S.2.1 dX0_has_15 (wb_shr (wdN_lt _ _) (by omega)) ?_
  refine lv_lconst (v := lN 1) S.1 S.2.1 dX0_has_16 (by decide) ?_
  refine lv_land S.1 S.2.1 dX0_has_17 ?_
  refine lv_topl_to (y := lN (if X a then 1 else 0)) (by rw [← wd_has]; exact wb_a1 (Nat.lt_of_le_of_lt (Nat.div_le_self _ _) (wdN_lt _ _))) ?_
  refine lv_lconst (v := lN 0) S.1 S.2.1 dX0_has_18 (by decide) ?_
  refine jnz_eq (tgt := 27) S (by split <;> decide) (by decide) dX0_has_19 dX0_has_20 (by decide) (fun c_20 => ?_) (fun c_20 => ?_)
  · refine lv_iconst (v := nI 0) S.1 S.2.1 dX0_has_27 (by decide) ?_
    subst hQ
    exact j_iret (u := w) S hr (rfl) hK hW dX0_has_28 ⟨by decide, by decide⟩ (⟨bI_F (by revert c_20; cases X a <;> simp), rfl⟩)
  · refine lv_iconst (v := nI 1) S.1 S.2.1 dX0_has_23 (by decide) ?_
    refine lv_goto (tgt := 28) S.1 S.2.1 dX0_has_24 (by decide) ?_
    subst hQ
    exact j_iret (u := w) S hr (rfl) hK hW dX0_has_28 ⟨by decide, by decide⟩ (⟨bI_T (by revert c_20; cases X a <;> simp), rfl⟩)
/-- add -/
theorem c_X0_add (l : Launch) (D : va_G) (cy : Nat → ClassId) {w : va_W} (ka kl kw ao al aw : Nat) (vs : Int32) (X : Nat → Bool) (a : Nat) (hA1 : w[ka]? = some (ao, .inr (0, [.ref al, .int vs]))) (hA2 : w[kl]? = some (al, .inr (6, [.ref aw]))) (hA3 : w[kw]? = some (aw, .inl (cy 1, 16, .inr (.inl (wd X))))) (ha : a < 1024) : jM l yX0_add (jws yX0_add cX0_add 3 none) (jR 1 0 0) D cy w [.ref ao, .int (nI a)] 0 0 (fun vv uu => vv = none ∧ jU w uu [kw] ∧ uu[kw]? = some (aw, .inl (cy 1, 16, .inr (.inl (wd (upB X a true)))))) := by
  have n1 : kl ≠ ka := jne_oo hA2 hA1 (by decide)
  have n2 : kl ≠ kw := jne_oa hA2 hA3
  have n3 : ka ≠ kw := jne_oa hA1 hA3
  refine j_of (by decide) rfl (Nat.le_of_ble_eq_true rfl) ?_
  intro p e s m args below meth c A ls Q hQ S hr hK hA H locs hW hl
  have hl : lv_has ls 3 [(0, .ref ao), (1, .int (nI a))] := hl
  refine lv_iload_n S.1 S.2.1 dX0_add_0 rfl (lv_at hl 1 rfl) ?_
  refine lv_bipush (v := nI 64) S.1 S.2.1 dX0_add_1 (by decide) ?_
  refine jn_div S (by omega) (by omega) (by omega) dX0_add_3 ?_
  refine lv_istore_n (lv' := [(2, .int (nI (a / 64))), (0, .ref ao), (1, .int (nI a))]) S.1 S.2.1 dX0_add_4 rfl hl (by decide) rfl (fun ls hl => ?_)
  refine lv_aload_n S.1 S.2.1 dX0_add_5 rfl (lv_at hl 1 rfl) ?_
  refine j_get (ci := 0) (C := RX0) (T := TX0) (N := 2) (v := .ref al) S (fun w h => List.mem_cons_of_mem _ (inG0 w h)) hK hW hA1 rfl 0 (by decide) (List.mem_cons_of_mem _ wfl_X0_16) (fun _ h9 => h9) rfl dX0_add_6 ?_
  refine lv_iload_n S.1 S.2.1 dX0_add_9 rfl (lv_at hl 0 rfl) ?_
  refine lv_aload_n S.1 S.2.1 dX0_add_10 rfl (lv_at hl 1 rfl) ?_
  refine j_get (ci := 0) (C := RX0) (T := TX0) (N := 2) (v := .ref al) S (fun w h => List.mem_cons_of_mem _ (inG0 w h)) hK hW hA1 rfl 0 (by decide) (List.mem_cons_of_mem _ wfl_X0_16) (fun _ h9 => h9) rfl dX0_add_11 ?_
  refine lv_iload_n S.1 S.2.1 dX0_add_14 rfl (lv_at hl 0 rfl) ?_
  refine j_callV (k := kl) (ci := 6) (q := (RX7, TX7, 1)) (As := [.int (nI (a / 64))]) (rest := [.int (nI (a / 64)), .ref al]) S hK hA hW (c_X7_at l D cy kl kw al aw 16 (wd X) (nI (a / 64)) hA2 hA3 (by decide)) (jgo wm_X0_32) yk_X7_at hA2 rfl rfl ⟨⟨rfl, rfl⟩, by decide, by decide⟩ rfl hl.1 rfl (Nat.le_of_ble_eq_true rfl) dX0_add_15 ⟨by decide, by decide⟩ (fun v u H locs hp hW => ?_)
  obtain ⟨rfl, rfl⟩ := hp
  refine W.eq (g2 := F0 m 18 ls [.long (rdL (wd X) 16 (nI (a / 64))), .int (nI (a / 64)), .ref al]) rfl ?_
  refine lv_topl_to (y := lN (wdN X (a / 64))) (rdL_nI (by omega) (by decide)) ?_
  refine lv_lconst (v := lN 1) S.1 S.2.1 dX0_add_18 (by decide) ?_
  refine lv_iload_n S.1 S.2.1 dX0_add_19 rfl (lv_at hl 2 rfl) ?_
  refine lv_bipush (v := nI 64) S.1 S.2.1 dX0_add_20 (by decide) ?_
  refine jn_rem S (by omega) (by omega) (by omega) dX0_add_22 ?_
  refine lv_lshl (v := lN (2 ^ (a % 64))) S.1 S.2.1 dX0_add_23 (by rw [wb_shl 1 (by omega), Nat.one_mul]) ?_
  refine lv_lor S.1 S.2.1 dX0_add_24 ?_
  refine lv_topl_to (y := lN (wdN X (a / 64) ||| 2 ^ (a % 64))) (wb_or (wdN_lt _ _) (Nat.pow_lt_pow_right (by decide) (by omega))) ?_
  refine j_callV (k := kl) (ci := 6) (q := (RX7, TX7, 1)) (As := [.int (nI (a / 64)), .long (lN (wdN X (a / 64) ||| 2 ^ (a % 64)))]) (rest := []) S hK hA hW (c_X7_put l D cy kl kw al aw 16 (wd X) (nI (a / 64)) (lN (wdN X (a / 64) ||| 2 ^ (a % 64))) hA2 hA3 (by decide)) (jgo wm_X0_28) yk_X7_put hA2 rfl rfl ⟨⟨rfl, rfl⟩, by decide, by decide⟩ rfl hl.1 rfl (Nat.le_of_ble_eq_true rfl) dX0_add_25 ⟨by decide, by decide⟩ (fun v w_ H locs hp hW => ?_)
  obtain ⟨rfl, hU1, hN1⟩ := hp
  have hU : jU w w_ [kw] := jU.mono hU1 (fun _ h => h)
  have hA3_ : w_[kw]? = some (aw, .inl (cy 1, 16, .inr (.inl (wrL (wd X) 16 (nI (a / 64)) (lN (wdN X (a / 64) ||| 2 ^ (a % 64))))))) := hN1
  clear hU1 hN1
  refine W.eq (g2 := F0 m 28 ls []) rfl ?_
  subst hQ
  exact j_vret (u := w_) S hr hK hW dX0_add_28 ⟨by decide, by decide⟩ (⟨rfl, hU, by rw [← wd_add, ← wrL_nI (j := a / 64) (n := 16) (by omega) (by decide)]; exact hA3_⟩)
/-- remove -/
theorem c_X0_remove (l : Launch) (D : va_G) (cy : Nat → ClassId) {w : va_W} (ka kl kw ao al aw : Nat) (vs : Int32) (X : Nat → Bool) (a : Nat) (hA1 : w[ka]? = some (ao, .inr (0, [.ref al, .int vs]))) (hA2 : w[kl]? = some (al, .inr (6, [.ref aw]))) (hA3 : w[kw]? = some (aw, .inl (cy 1, 16, .inr (.inl (wd X))))) (ha : a < 1024) : jM l yX0_remove (jws yX0_remove cX0_remove 3 none) (jR 1 0 0) D cy w [.ref ao, .int (nI a)] 0 0 (fun vv uu => vv = none ∧ jU w uu [kw] ∧ uu[kw]? = some (aw, .inl (cy 1, 16, .inr (.inl (wd (upB X a false)))))) := by
  have n1 : kl ≠ ka := jne_oo hA2 hA1 (by decide)
  have n2 : kl ≠ kw := jne_oa hA2 hA3
  have n3 : ka ≠ kw := jne_oa hA1 hA3
  refine j_of (by decide) rfl (Nat.le_of_ble_eq_true rfl) ?_
  intro p e s m args below meth c A ls Q hQ S hr hK hA H locs hW hl
  have hl : lv_has ls 3 [(0, .ref ao), (1, .int (nI a))] := hl
  refine lv_iload_n S.1 S.2.1 dX0_remove_0 rfl (lv_at hl 1 rfl) ?_
  refine lv_bipush (v := nI 64) S.1 S.2.1 dX0_remove_1 (by decide) ?_
  refine jn_div S (by omega) (by omega) (by omega) dX0_remove_3 ?_
  refine lv_istore_n (lv' := [(2, .int (nI (a / 64))), (0, .ref ao), (1, .int (nI a))]) S.1 S.2.1 dX0_remove_4 rfl hl (by decide) rfl (fun ls hl => ?_)
  refine lv_aload_n S.1 S.2.1 dX0_remove_5 rfl (lv_at hl 1 rfl) ?_
  refine j_get (ci := 0) (C := RX0) (T := TX0) (N := 2) (v := .ref al) S (fun w h => List.mem_cons_of_mem _ (inG0 w h)) hK hW hA1 rfl 0 (by decide) (List.mem_cons_of_mem _ wfl_X0_16) (fun _ h9 => h9) rfl dX0_remove_6 ?_
  refine lv_iload_n S.1 S.2.1 dX0_remove_9 rfl (lv_at hl 0 rfl) ?_
  refine lv_aload_n S.1 S.2.1 dX0_remove_10 rfl (lv_at hl 1 rfl) ?_
  refine j_get (ci := 0) (C := RX0) (T := TX0) (N := 2) (v := .ref al) S (fun w h => List.mem_cons_of_mem _ (inG0 w h)) hK hW hA1 rfl 0 (by decide) (List.mem_cons_of_mem _ wfl_X0_16) (fun _ h9 => h9) rfl dX0_remove_11 ?_
  refine lv_iload_n S.1 S.2.1 dX0_remove_14 rfl (lv_at hl 0 rfl) ?_
  refine j_callV (k := kl) (ci := 6) (q := (RX7, TX7, 1)) (As := [.int (nI (a / 64))]) (rest := [.int (nI (a / 64)), .ref al]) S hK hA hW (c_X7_at l D cy kl kw al aw 16 (wd X) (nI (a / 64)) hA2 hA3 (by decide)) (jgo wm_X0_32) yk_X7_at hA2 rfl rfl ⟨⟨rfl, rfl⟩, by decide, by decide⟩ rfl hl.1 rfl (Nat.le_of_ble_eq_true rfl) dX0_remove_15 ⟨by decide, by decide⟩ (fun v u H locs hp hW => ?_)
  obtain ⟨rfl, rfl⟩ := hp
  refine W.eq (g2 := F0 m 18 ls [.long (rdL (wd X) 16 (nI (a / 64))), .int (nI (a / 64)), .ref al]) rfl ?_
  refine lv_topl_to (y := lN (wdN X (a / 64))) (rdL_nI (by omega) (by decide)) ?_
  refine lv_lconst (v := lN 1) S.1 S.2.1 dX0_remove_18 (by decide) ?_
  refine lv_iload_n S.1 S.2.1 dX0_remove_19 rfl (lv_at hl 2 rfl) ?_
  refine lv_bipush (v := nI 64) S.1 S.2.1 dX0_remove_20 (by decide) ?_
  refine jn_rem S (by omega) (by omega) (by omega) dX0_remove_22 ?_
  refine lv_lshl (v := lN (2 ^ (a % 64))) S.1 S.2.1 dX0_remove_23 (by rw [wb_shl 1 (by omega), Nat.one_mul]) ?_
  refine lv_ldc2 (v := (-1)) S.1 S.2.1 S.2.2.2.1 (S.2.2.2.2 _ (List.mem_cons_of_mem _ wk_X0_42)) dX0_remove_24 ?_
  refine lv_lxor S.1 S.2.1 dX0_remove_27 ?_
  refine lv_land S.1 S.2.1 dX0_remove_28 ?_
  refine lv_topl_to (y := lN (nAnd (wdN X (a / 64)) (2 ^ (a % 64)))) (lN_andn (wdN_lt _ _) (Nat.pow_lt_pow_right (by decide) (by omega))) ?_
  refine j_callV (k := kl) (ci := 6) (q := (RX7, TX7, 1)) (As := [.int (nI (a / 64)), .long (lN (nAnd (wdN X (a / 64)) (2 ^ (a % 64))))]) (rest := []) S hK hA hW (c_X7_put l D cy kl kw al aw 16 (wd X) (nI (a / 64)) (lN (nAnd (wdN X (a / 64)) (2 ^ (a % 64)))) hA2 hA3 (by decide)) (jgo wm_X0_28) yk_X7_put hA2 rfl rfl ⟨⟨rfl, rfl⟩, by decide, by decide⟩ rfl hl.1 rfl (Nat.le_of_ble_eq_true rfl) dX0_remove_29 ⟨by decide, by decide⟩ (fun v w_ H locs hp hW => ?_)
  obtain ⟨rfl, hU1, hN1⟩ := hp
  have hU : jU w w_ [kw] := jU.mono hU1 (fun _ h => h)
  have hA3_ : w_[kw]? = some (aw, .inl (cy 1, 16, .inr (.inl (wrL (wd X) 16 (nI (a / 64)) (lN (nAnd (wdN X (a / 64)) (2 ^ (a % 64)))))))) := hN1
  clear hU1 hN1
  refine W.eq (g2 := F0 m 32 ls []) rfl ?_
  subst hQ
  exact j_vret (u := w_) S hr hK hW dX0_remove_32 ⟨by decide, by decide⟩ (⟨rfl, hU, by rw [← wd_rem, ← wrL_nI (j := a / 64) (n := 16) (by omega) (by decide)]; exact hA3_⟩)
/-- putPair -/
theorem c_X0_putPair (l : Launch) (D : va_G) (cy : Nat → ClassId) {w : va_W} (ka kl kw ao al aw : Nat) (vs : Int32) (X : Nat → Bool) (a1 a2 : Nat) (b : Bool) (hA1 : w[ka]? = some (ao, .inr (0, [.ref al, .int vs]))) (hA2 : w[kl]? = some (al, .inr (6, [.ref aw]))) (hA3 : w[kw]? = some (aw, .inl (cy 1, 16, .inr (.inl (wd X))))) (ha1 : a1 < 1024) (ha2 : a2 < 1024) : jM l yX0_putPair (jws yX0_putPair cX0_putPair 4 none) (jR 2 0 0) D cy w [.ref ao, .int (nI a1), .int (nI a2), .int (bI b)] 0 0 (fun vv uu => vv = none ∧ jU w uu [kw] ∧ uu[kw]? = some (aw, .inl (cy 1, 16, .inr (.inl (wd (upB (upB X a1 b) a2 b)))))) := by
  have n1 : kl ≠ ka := jne_oo hA2 hA1 (by decide)
  have n2 : kl ≠ kw := jne_oa hA2 hA3
  have n3 : ka ≠ kw := jne_oa hA1 hA3
  refine j_of (by decide) rfl (Nat.le_of_ble_eq_true rfl) ?_
  intro p e s m args below meth c A ls Q hQ S hr hK hA H locs hW hl
  have hl : lv_has ls 4 [(0, .ref ao), (1, .int (nI a1)), (2, .int (nI a2)), (3, .int (bI b))] := hl
  refine lv_iload_n S.1 S.2.1 dX0_putPair_0 rfl (lv_at hl 3 rfl) ?_
  refine jb_if_eq (tgt := 17) S dX0_putPair_1 (by decide) (fun c_1 => ?_) (fun c_1 => ?_)
  · refine lv_aload_n S.1 S.2.1 dX0_putPair_17 rfl (lv_at hl 0 rfl) ?_
    refine lv_iload_n S.1 S.2.1 dX0_putPair_18 rfl (lv_at hl 1 rfl) ?_
    refine j_callV (k := ka) (ci := 0) (q := (RX0, TX0, 2)) (As := [.int (nI a1)]) (rest := []) S hK hA hW (c_X0_remove l D cy ka kl kw ao al aw vs X a1 hA1 hA2 hA3 (by omega)) (jgo wm_X0_55) yk_X0_remove hA1 rfl rfl ⟨⟨rfl, rfl⟩, by decide, by decide⟩ rfl hl.1 rfl (Nat.le_of_ble_eq_true rfl) dX0_putPair_19 ⟨by decide, by decide⟩ (fun v w_ H locs hp hW => ?_)
    obtain ⟨rfl, hU1, hN1⟩ := hp
    have hU : jU w w_ [kw] := jU.mono hU1 (fun _ h => h)
    have hA3_ : w_[kw]? = some (aw, .inl (cy 1, 16, .inr (.inl (wd (upB X a1 false))))) := hN1
    clear hU1 hN1
    refine W.eq (g2 := F0 m 22 ls []) rfl ?_
    refine lv_aload_n S.1 S.2.1 dX0_putPair_22 rfl (lv_at hl 0 rfl) ?_
    refine lv_iload_n S.1 S.2.1 dX0_putPair_23 rfl (lv_at hl 2 rfl) ?_
    refine j_callV (k := ka) (ci := 0) (q := (RX0, TX0, 2)) (As := [.int (nI a2)]) (rest := []) S hK hA hW (c_X0_remove l D cy ka kl kw ao al aw vs (upB X a1 false) a2 (hU.get hA1 (by simp [n1, n2, n3, Ne.symm n1, Ne.symm n2, Ne.symm n3])) (hU.get hA2 (by simp [n1, n2, n3, Ne.symm n1, Ne.symm n2, Ne.symm n3])) hA3_ (by omega)) (jgo wm_X0_55) yk_X0_remove (hU.get hA1 (by simp [n1, n2, n3, Ne.symm n1, Ne.symm n2, Ne.symm n3])) rfl rfl ⟨⟨rfl, rfl⟩, by decide, by decide⟩ rfl hl.1 rfl (Nat.le_of_ble_eq_true rfl) dX0_putPair_24 ⟨by decide, by decide⟩ (fun v w_ H locs hp hW => ?_)
    obtain ⟨rfl, hU1, hN1⟩ := hp
    have hU := hU.then hU1 (fun _ h => h)
    have hA3_ : w_[kw]? = some (aw, .inl (cy 1, 16, .inr (.inl (wd (upB (upB X a1 false) a2 false))))) := hN1
    clear hU1 hN1
    refine W.eq (g2 := F0 m 27 ls []) rfl ?_
    subst hQ
    exact j_vret (u := w_) S hr hK hW dX0_putPair_27 ⟨by decide, by decide⟩ (⟨rfl, hU, by rw [c_1]; exact hA3_⟩)
  · refine lv_aload_n S.1 S.2.1 dX0_putPair_4 rfl (lv_at hl 0 rfl) ?_
    refine lv_iload_n S.1 S.2.1 dX0_putPair_5 rfl (lv_at hl 1 rfl) ?_
    refine j_callV (k := ka) (ci := 0) (q := (RX0, TX0, 2)) (As := [.int (nI a1)]) (rest := []) S hK hA hW (c_X0_add l D cy ka kl kw ao al aw vs X a1 hA1 hA2 hA3 (by omega)) (jgo wm_X0_52) yk_X0_add hA1 rfl rfl ⟨⟨rfl, rfl⟩, by decide, by decide⟩ rfl hl.1 rfl (Nat.le_of_ble_eq_true rfl) dX0_putPair_6 ⟨by decide, by decide⟩ (fun v w_ H locs hp hW => ?_)
    obtain ⟨rfl, hU1, hN1⟩ := hp
    have hU : jU w w_ [kw] := jU.mono hU1 (fun _ h => h)
    have hA3_ : w_[kw]? = some (aw, .inl (cy 1, 16, .inr (.inl (wd (upB X a1 true))))) := hN1
    clear hU1 hN1
    refine W.eq (g2 := F0 m 9 ls []) rfl ?_
    refine lv_aload_n S.1 S.2.1 dX0_putPair_9 rfl (lv_at hl 0 rfl) ?_
    refine lv_iload_n S.1 S.2.1 dX0_putPair_10 rfl (lv_at hl 2 rfl) ?_
    refine j_callV (k := ka) (ci := 0) (q := (RX0, TX0, 2)) (As := [.int (nI a2)]) (rest := []) S hK hA hW (c_X0_add l D cy ka kl kw ao al aw vs (upB X a1 true) a2 (hU.get hA1 (by simp [n1, n2, n3, Ne.symm n1, Ne.symm n2, Ne.symm n3])) (hU.get hA2 (by simp [n1, n2, n3, Ne.symm n1, Ne.symm n2, Ne.symm n3])) hA3_ (by omega)) (jgo wm_X0_52) yk_X0_add (hU.get hA1 (by simp [n1, n2, n3, Ne.symm n1, Ne.symm n2, Ne.symm n3])) rfl rfl ⟨⟨rfl, rfl⟩, by decide, by decide⟩ rfl hl.1 rfl (Nat.le_of_ble_eq_true rfl) dX0_putPair_11 ⟨by decide, by decide⟩ (fun v w_ H locs hp hW => ?_)
    obtain ⟨rfl, hU1, hN1⟩ := hp
    have hU := hU.then hU1 (fun _ h => h)
    have hA3_ : w_[kw]? = some (aw, .inl (cy 1, 16, .inr (.inl (wd (upB (upB X a1 true) a2 true))))) := hN1
    clear hU1 hN1
    refine W.eq (g2 := F0 m 14 ls []) rfl ?_
    refine lv_goto (tgt := 27) S.1 S.2.1 dX0_putPair_14 (by decide) ?_
    subst hQ
    exact j_vret (u := w_) S hr hK hW dX0_putPair_27 ⟨by decide, by decide⟩ (⟨rfl, hU, by rw [c_1]; exact hA3_⟩)
/-- size -/
theorem c_X0_size (l : Launch) (D : va_G) (cy : Nat → ClassId) {w : va_W} (ka kl kw ao al aw : Nat) (vs : Int32) (X : Nat → Bool) (hA1 : w[ka]? = some (ao, .inr (0, [.ref al, .int vs]))) (hA2 : w[kl]? = some (al, .inr (6, [.ref aw]))) (hA3 : w[kw]? = some (aw, .inl (cy 1, 16, .inr (.inl (wd X))))) : jM l yX0_size (jws yX0_size cX0_size 3 (some .int)) (jR 1 0 0) D cy w [.ref ao] 0 0 (fun vv uu => vv = some (.int (nI (cnt X 1024))) ∧ w = uu) := by
  refine j_of (by decide) rfl (Nat.le_of_ble_eq_true rfl) ?_
  intro p e s m args below meth c A ls Q hQ S hr hK hA H locs hW hl
  have hl : lv_has ls 3 [(0, .ref ao)] := hl
  refine lv_iconst (v := nI 0) S.1 S.2.1 dX0_size_0 (by decide) ?_
  refine lv_istore_n (lv' := [(1, .int (nI 0)), (0, .ref ao)]) S.1 S.2.1 dX0_size_1 rfl hl (by decide) rfl (fun ls hl => ?_)
  refine lv_iconst (v := nI 0) S.1 S.2.1 dX0_size_2 (by decide) ?_
  refine lv_istore_n (lv' := [(2, .int (nI 0)), (1, .int (nI 0)), (0, .ref ao)]) S.1 S.2.1 dX0_size_3 rfl hl (by decide) rfl (fun ls hl => ?_)
  have L4 : ∀ (k : Nat) (i : Nat), 16 - i = k → (i ≤ 16) → ∀ (H : Heap) (locs : List Loc) (ls : Array Slot), jW D A s.heap w H locs → lv_has ls 3 [(0, .ref ao), (1, .int (nI (cnt X (64 * i)))), (2, .int (nI i))] → W p l e (jR 1 0 0) s m args below meth c H locs 0 0 Q (F0 m 4 ls []) := by
    intro k
    induction k using Nat.strongRecOn with
    | ind k ih4 =>
    intro i hk hi H locs ls hW hl
    subst hk
    have hcn := cnt_le X (64 * i)
    refine lv_iload_n S.1 S.2.1 dX0_size_4 rfl (lv_at hl 2 rfl) ?_
    refine lv_aload_n S.1 S.2.1 dX0_size_5 rfl (lv_at hl 0 rfl) ?_
    refine j_get (ci := 0) (C := RX0) (T := TX0) (N := 2) (v := .ref al) S (fun w h => List.mem_cons_of_mem _ (inG0 w h)) hK hW hA1 rfl 0 (by decide) (List.mem_cons_of_mem _ wfl_X0_16) (fun _ h9 => h9) rfl dX0_size_6 ?_
    refine j_callV (k := kl) (ci := 6) (q := (RX7, TX7, 1)) (As := []) (rest := [.int (nI i)]) S hK hA hW (c_X7_length l D cy kl kw al aw 16 (wd X) hA2 hA3 ) (jgo wm_X0_24) yk_X7_length hA2 rfl rfl ⟨⟨rfl, rfl⟩, by decide, by decide⟩ rfl hl.1 rfl (Nat.le_of_ble_eq_true rfl) dX0_size_9 ⟨by decide, by decide⟩ (fun v u H locs hp hW => ?_)
    obtain ⟨rfl, rfl⟩ := hp
    refine W.eq (g2 := F0 m 12 ls [.int (nI 16), .int (nI i)]) rfl ?_
    refine jn_cmp_ge (tgt := 35) S (by omega) (by omega) dX0_size_12 (by decide) (fun c_12 => ?_) (fun c_12 => ?_)
    · refine lv_iload_n S.1 S.2.1 dX0_size_35 rfl (lv_at hl 1 rfl) ?_
      subst hQ
      refine j_iret (u := w) S hr (rfl) hK hW dX0_size_36 ⟨by decide, by decide⟩ ?_
      have e16 : i = 16 := by omega
      subst e16
      exact ⟨rfl, rfl⟩
    · refine lv_iload_n S.1 S.2.1 dX0_size_15 rfl (lv_at hl 1 rfl) ?_
      refine lv_aload_n S.1 S.2.1 dX0_size_16 rfl (lv_at hl 0 rfl) ?_
      refine j_get (ci := 0) (C := RX0) (T := TX0) (N := 2) (v := .ref al) S (fun w h => List.mem_cons_of_mem _ (inG0 w h)) hK hW hA1 rfl 0 (by decide) (List.mem_cons_of_mem _ wfl_X0_16) (fun _ h9 => h9) rfl dX0_size_17 ?_
      refine lv_iload_n S.1 S.2.1 dX0_size_20 rfl (lv_at hl 2 rfl) ?_
      refine j_callV (k := kl) (ci := 6) (q := (RX7, TX7, 1)) (As := [.int (nI i)]) (rest := [.int (nI (cnt X (64 * i)))]) S hK hA hW (c_X7_at l D cy kl kw al aw 16 (wd X) (nI i) hA2 hA3 (by decide)) (jgo wm_X0_32) yk_X7_at hA2 rfl rfl ⟨⟨rfl, rfl⟩, by decide, by decide⟩ rfl hl.1 rfl (Nat.le_of_ble_eq_true rfl) dX0_size_21 ⟨by decide, by decide⟩ (fun v u H locs hp hW => ?_)
      obtain ⟨rfl, rfl⟩ := hp
      refine W.eq (g2 := F0 m 24 ls [.long (rdL (wd X) 16 (nI i)), .int (nI (cnt X (64 * i)))]) rfl ?_
      refine lv_topl_to (y := lN (wdN X i)) (rdL_nI (by omega) (by decide)) ?_
      refine j_callJ (As := [.long (lN (wdN X i))]) (rest := [.int (nI (cnt X (64 * i)))]) S hK hA hW (c_J13_bitCount_95d88 l D cy (wdN X i)  (wdN_lt X i)) (jgo wm_X0_36) yk_J13_bitCount_95d88 ⟨⟨rfl, rfl⟩, by decide, by decide⟩ rfl hl.1 rfl (Nat.le_of_ble_eq_true rfl) dX0_size_24 ⟨by decide, by decide⟩ (fun v u H locs hp hW => ?_)
      obtain ⟨rfl, rfl⟩ := hp
      refine W.eq (g2 := F0 m 27 ls [.int (nI (cnt (wdN X i).testBit 64)), .int (nI (cnt X (64 * i)))]) rfl ?_
      refine jn_add S dX0_size_27 ?_
      refine lv_topi_to (y := nI (cnt X (64 * (i + 1)))) (congrArg nI (wd_cnt X i)) ?_
      refine lv_istore_n (lv' := [(1, .int (nI (cnt X (64 * (i + 1))))), (0, .ref ao), (2, .int (nI i))]) S.1 S.2.1 dX0_size_28 rfl hl (by decide) rfl (fun ls hl => ?_)
      refine lv_iinc (v := nI (i + 1)) (lv' := [(2, .int (nI (i + 1))), (1, .int (nI (cnt X (64 * (i + 1))))), (0, .ref ao)]) S.1 S.2.1 dX0_size_29 hl (k := 2) rfl (nI_add _ 1) (by decide) rfl (fun ls hl => ?_)
      refine lv_goto (tgt := 4) S.1 S.2.1 dX0_size_32 (by decide) ?_
      exact ih4 _ (by omega) (i + 1) rfl (by omega) H locs ls hW (lv_sub hl [2, 1, 0] rfl)
  exact L4 _ 0 rfl (by decide) H locs ls hW (lv_sub hl [2, 1, 0] rfl)
