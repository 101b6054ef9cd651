/-! isMetBy of the three kinds (laid by wip/whole/tools, from the specs there) -/
theorem jgU {own C : String} {idx : Nat} {y : MethodName} {ws : List Cond} (h1 : Cond.methodLink own idx xMet ∈ lw_good) (h2 : Cond.sameMethod "Countfall$Constraint" "Countfall$Constraint" "isMetBy" "(I)Z" ∈ lw_good) (h3 : Cond.selects C xMet y ∈ lw_good) (h4 : Cond.instanceMethod y ∈ lw_good) (h5 : Cond.initialized y.cls ∈ lw_good) (h6 : ∀ w ∈ ws, w ∈ lw_good) : ∀ w ∈ va_wsU own idx C "Countfall$Constraint" xMet y ws, w ∈ lw_good := by
  intro w hw
  simp only [va_wsU, List.mem_append, List.mem_cons, List.not_mem_nil, or_false] at hw
  rcases hw with (h | h | h | h | h) | h
  · rw [h]; exact h1
  · rw [h]; exact h2
  · rw [h]; exact h3
  · rw [h]; exact h4
  · rw [h]; exact h5
  · exact h6 w h
theorem wsm_met : Cond.sameMethod "Countfall$Constraint" "Countfall$Constraint" "isMetBy" "(I)Z" ∈ lw_good := jg_2 (List.mem_of_getElem? (i := 2) (rfl : tables_1_2[2]? = some (Cond.sameMethod "Countfall$Constraint" "Countfall$Constraint" "isMetBy" "(I)Z"))) rfl
theorem wsf_X1 : Cond.sameField "Countfall$Bound" "Countfall$Constraint" "members" "I" ∈ lw_good := jg_3 (List.mem_of_getElem? (i := 91) (rfl : tables_1_3[91]? = some (Cond.sameField "Countfall$Bound" "Countfall$Constraint" "members" "I"))) rfl
theorem wsf_X8 : Cond.sameField "Countfall$Parity" "Countfall$Constraint" "members" "I" ∈ lw_good := jg_3 (List.mem_of_getElem? (i := 93) (rfl : tables_1_3[93]? = some (Cond.sameField "Countfall$Parity" "Countfall$Constraint" "members" "I"))) rfl
theorem wselA_X3 : Cond.selects RX3 xMet yX3_isMetBy ∈ lw_good := jg_2 (List.mem_of_getElem? (i := 12) (rfl : tables_1_2[12]? = some (Cond.selects RX3 xMet yX3_isMetBy))) rfl
theorem winstA_X3 : Cond.instanceMethod yX3_isMetBy ∈ lw_good := jg_2 (List.mem_of_getElem? (i := 13) (rfl : tables_1_2[13]? = some (Cond.instanceMethod yX3_isMetBy))) rfl
theorem wcodeA_X3 : Cond.code yX3_isMetBy cX3_isMetBy 2 (some .boolean) ∈ lw_good := jg_2 (List.mem_of_getElem? (i := 14) (rfl : tables_1_2[14]? = some (Cond.code yX3_isMetBy cX3_isMetBy 2 (some .boolean)))) rfl
theorem wselA_X8 : Cond.selects RX8 xMet yX8_isMetBy ∈ lw_good := jg_2 (List.mem_of_getElem? (i := 15) (rfl : tables_1_2[15]? = some (Cond.selects RX8 xMet yX8_isMetBy))) rfl
theorem winstA_X8 : Cond.instanceMethod yX8_isMetBy ∈ lw_good := jg_2 (List.mem_of_getElem? (i := 16) (rfl : tables_1_2[16]? = some (Cond.instanceMethod yX8_isMetBy))) rfl
theorem wcodeA_X8 : Cond.code yX8_isMetBy cX8_isMetBy 2 (some .boolean) ∈ lw_good := jg_2 (List.mem_of_getElem? (i := 17) (rfl : tables_1_2[17]? = some (Cond.code yX8_isMetBy cX8_isMetBy 2 (some .boolean)))) rfl
theorem wselA_X1 : Cond.selects RX1 xMet yX1_isMetBy ∈ lw_good := jg_2 (List.mem_of_getElem? (i := 3) (rfl : tables_1_2[3]? = some (Cond.selects RX1 xMet yX1_isMetBy))) rfl
theorem winstA_X1 : Cond.instanceMethod yX1_isMetBy ∈ lw_good := jg_2 (List.mem_of_getElem? (i := 4) (rfl : tables_1_2[4]? = some (Cond.instanceMethod yX1_isMetBy))) rfl
theorem wcodeA_X1 : Cond.code yX1_isMetBy cX1_isMetBy 3 (some .boolean) ∈ lw_good := jg_2 (List.mem_of_getElem? (i := 5) (rfl : tables_1_2[5]? = some (Cond.code yX1_isMetBy cX1_isMetBy 3 (some .boolean)))) rfl
theorem wmlA_X5_28 : Cond.methodLink RX5 28 xMet ∈ lw_good := jg_2 (List.mem_of_getElem? (i := 0) (rfl : tables_1_2[0]? = some (Cond.methodLink RX5 28 xMet))) rfl
theorem wmA_X5_28_X3 : ∀ w ∈ va_wsU RX5 28 RX3 "Countfall$Constraint" xMet yX3_isMetBy (jws yX3_isMetBy cX3_isMetBy 2 (some .boolean)), w ∈ lw_good := jgU wmlA_X5_28 wsm_met wselA_X3 winstA_X3 wini_X3 (jg4 wcodeA_X3)
theorem wmA_X5_28_X8 : ∀ w ∈ va_wsU RX5 28 RX8 "Countfall$Constraint" xMet yX8_isMetBy (jws yX8_isMetBy cX8_isMetBy 2 (some .boolean)), w ∈ lw_good := jgU wmlA_X5_28 wsm_met wselA_X8 winstA_X8 wini_X8 (jg4 wcodeA_X8)
theorem wmA_X5_28_X1 : ∀ w ∈ va_wsU RX5 28 RX1 "Countfall$Constraint" xMet yX1_isMetBy (jws yX1_isMetBy cX1_isMetBy 3 (some .boolean)), w ∈ lw_good := jgU wmlA_X5_28 wsm_met wselA_X1 winstA_X1 wini_X1 (jg4 wcodeA_X1)
theorem wmlA_X11_179 : Cond.methodLink RX11 179 xMet ∈ lw_good := jg_3 (List.mem_of_getElem? (i := 207) (rfl : tables_1_3[207]? = some (Cond.methodLink RX11 179 xMet))) rfl
theorem wmA_X11_179_X3 : ∀ w ∈ va_wsU RX11 179 RX3 "Countfall$Constraint" xMet yX3_isMetBy (jws yX3_isMetBy cX3_isMetBy 2 (some .boolean)), w ∈ lw_good := jgU wmlA_X11_179 wsm_met wselA_X3 winstA_X3 wini_X3 (jg4 wcodeA_X3)
theorem wmA_X11_179_X8 : ∀ w ∈ va_wsU RX11 179 RX8 "Countfall$Constraint" xMet yX8_isMetBy (jws yX8_isMetBy cX8_isMetBy 2 (some .boolean)), w ∈ lw_good := jgU wmlA_X11_179 wsm_met wselA_X8 winstA_X8 wini_X8 (jg4 wcodeA_X8)
theorem wmA_X11_179_X1 : ∀ w ∈ va_wsU RX11 179 RX1 "Countfall$Constraint" xMet yX1_isMetBy (jws yX1_isMetBy cX1_isMetBy 3 (some .boolean)), w ∈ lw_good := jgU wmlA_X11_179 wsm_met wselA_X1 winstA_X1 wini_X1 (jg4 wcodeA_X1)
/-- Clause.isMetBy -/
theorem c_X3_isMetBy (l : Launch) (D : va_G) (cy : Nat → ClassId) {w : va_W} (k a0 : Nat) (kd mb st0 ot a : Nat) (hk : w[k]? = some (a0, .inr (3, [.int (nI kd), .int (nI mb), .int (nI st0), .int (nI ot)]))) (hb : st0 < 1024) (ho : ot < 1024 ∧ a < 1024) : jM l yX3_isMetBy (jws yX3_isMetBy cX3_isMetBy 2 (some .boolean)) (jR 0 0 0) D cy w [.ref a0, .int (nI a)] 0 0 (fun vv uu => vv = some (.int (bI (decide ¬ (a &&& st0 ||| nAnd ot a) = 0))) ∧ w = uu) := by
  refine j_of (by decide) rfl (Nat.le_of_ble_eq_true rfl) ?_
  intro p e s m args below meth c A ls Q hQ S hr hK hA H locs hW hl
  have hl : lv_has ls 2 [(0, .ref a0), (1, .int (nI a))] := hl
  refine lv_iload_n S.1 S.2.1 dX3_isMetBy_0 rfl (lv_at hl 1 rfl) ?_
  refine lv_aload_n S.1 S.2.1 dX3_isMetBy_1 rfl (lv_at hl 0 rfl) ?_
  refine j_get (ci := 3) (C := RX3) (T := TX3) (N := 4) (v := .int (nI st0)) S (fun w h => List.mem_cons_of_mem _ (inG3 w h)) hK hW hk rfl 2 (by decide) (List.mem_cons_of_mem _ wfl_X3_7) (fun _ h9 => h9) rfl dX3_isMetBy_2 ?_
  refine jn_and S dX3_isMetBy_5 ?_
  refine lv_iload_n S.1 S.2.1 dX3_isMetBy_6 rfl (lv_at hl 1 rfl) ?_
  refine lv_iconst (v := (-1)) S.1 S.2.1 dX3_isMetBy_7 (by decide) ?_
  refine lv_ixor S.1 S.2.1 dX3_isMetBy_8 ?_
  refine lv_aload_n S.1 S.2.1 dX3_isMetBy_9 rfl (lv_at hl 0 rfl) ?_
  refine j_get (ci := 3) (C := RX3) (T := TX3) (N := 4) (v := .int (nI ot)) S (fun w h => List.mem_cons_of_mem _ (inG3 w h)) hK hW hk rfl 3 (by decide) (List.mem_cons_of_mem _ wfl_X3_13) (fun _ h9 => h9) rfl dX3_isMetBy_10 ?_
  refine jn_nand S dX3_isMetBy_13 ?_
  have h1 := and_lt10 (a := a) hb
  have h2 : nAnd ot a < 2 ^ 10 := nAnd_lt ho.1
  have h3 : (a &&& st0 ||| nAnd ot a) < 2 ^ 10 := Nat.or_lt_two_pow h1 h2
  refine jn_or S dX3_isMetBy_14 ?_
  refine jn_if_eq (tgt := 22) S (by omega) dX3_isMetBy_15 (by decide) (fun c_15 => ?_) (fun c_15 => ?_)
  · refine lv_iconst (v := nI 0) S.1 S.2.1 dX3_isMetBy_22 (by decide) ?_
    subst hQ
    exact j_iret (u := w) S hr (rfl) hK hW dX3_isMetBy_23 ⟨by decide, by decide⟩ (⟨bI_F (by first | exact decide_eq_true c_15 | exact decide_eq_false (fun h => h c_15)), rfl⟩)
  · refine lv_iconst (v := nI 1) S.1 S.2.1 dX3_isMetBy_18 (by decide) ?_
    refine lv_goto (tgt := 23) S.1 S.2.1 dX3_isMetBy_19 (by decide) ?_
    subst hQ
    exact j_iret (u := w) S hr (rfl) hK hW dX3_isMetBy_23 ⟨by decide, by decide⟩ (⟨bI_T (by first | exact decide_eq_true c_15 | exact decide_eq_false (fun h => h c_15)), rfl⟩)
/-- Parity.isMetBy -/
theorem c_X8_isMetBy (l : Launch) (D : va_G) (cy : Nat → ClassId) {w : va_W} (k a0 : Nat) (kd mb lo a : Nat) (hk : w[k]? = some (a0, .inr (7, [.int (nI kd), .int (nI mb), .int (nI lo)]))) (hm : mb < 1024) (hl0 : lo < 1024) : jM l yX8_isMetBy (jws yX8_isMetBy cX8_isMetBy 2 (some .boolean)) (jR 1 0 0) D cy w [.ref a0, .int (nI a)] 0 0 (fun vv uu => vv = some (.int (bI (decide (cnt (a &&& mb).testBit 10 % 2 = lo)))) ∧ w = uu) := by
  refine j_of (by decide) rfl (Nat.le_of_ble_eq_true rfl) ?_
  intro p e s m args below meth c A ls Q hQ S hr hK hA H locs hW hl
  have hl : lv_has ls 2 [(0, .ref a0), (1, .int (nI a))] := hl
  refine lv_iload_n S.1 S.2.1 dX8_isMetBy_0 rfl (lv_at hl 1 rfl) ?_
  refine lv_aload_n S.1 S.2.1 dX8_isMetBy_1 rfl (lv_at hl 0 rfl) ?_
  refine j_get (ci := 7) (C := RX8) (T := TX8) (N := 3) (v := .int (nI mb)) S (fun w h => List.mem_cons_of_mem _ (inG8 w h)) hK hW hk rfl 1 (by decide) (List.mem_cons_of_mem _ wfl_X8_13) (fun x9 h9 => u_same (S.2.2.2.2 _ (List.mem_cons_of_mem _ wsf_X8)) x9 h9) rfl dX8_isMetBy_2 ?_
  refine jn_and S dX8_isMetBy_5 ?_
  refine j_callJ (As := [.int (nI (a &&& mb))]) (rest := []) S hK hA hW (c_J6_bitCount_0f7a4 l D cy (a &&& mb)    (by have := and_lt10 (a := a) hm; omega)) (jgo wm_X8_16) yk_J6_bitCount_0f7a4 ⟨⟨rfl, rfl⟩, by decide, by decide⟩ rfl hl.1 rfl (Nat.le_of_ble_eq_true rfl) dX8_isMetBy_6 ⟨by decide, by decide⟩ (fun v u H locs hp hW => ?_)
  obtain ⟨rfl, rfl⟩ := hp
  refine W.eq (g2 := F0 m 9 ls [.int (nI (cnt (a &&& mb).testBit 32))]) rfl ?_
  refine lv_topi_to (y := nI (cnt (a &&& mb).testBit 10)) (by rw [cnt_10 (and_lt10 hm)]) ?_
  refine lv_iconst (v := nI 1) S.1 S.2.1 dX8_isMetBy_9 (by decide) ?_
  refine jn_and S dX8_isMetBy_10 ?_
  refine lv_topi_to (y := nI (cnt (a &&& mb).testBit 10 % 2)) (congrArg nI (Nat.and_one_is_mod _)) ?_
  refine lv_aload_n S.1 S.2.1 dX8_isMetBy_11 rfl (lv_at hl 0 rfl) ?_
  refine j_get (ci := 7) (C := RX8) (T := TX8) (N := 3) (v := .int (nI lo)) S (fun w h => List.mem_cons_of_mem _ (inG8 w h)) hK hW hk rfl 2 (by decide) (List.mem_cons_of_mem _ wfl_X8_7) (fun _ h9 => h9) rfl dX8_isMetBy_12 ?_
  refine jn_cmp_ne (tgt := 22) S (by omega) (by omega) dX8_isMetBy_15 (by decide) (fun c_15 => ?_) (fun c_15 => ?_)
  · refine lv_iconst (v := nI 0) S.1 S.2.1 dX8_isMetBy_22 (by decide) ?_
    subst hQ
    exact j_iret (u := w) S hr (rfl) hK hW dX8_isMetBy_23 ⟨by decide, by decide⟩ (⟨bI_F (by simpa using c_15), rfl⟩)
  · refine lv_iconst (v := nI 1) S.1 S.2.1 dX8_isMetBy_18 (by decide) ?_
    refine lv_goto (tgt := 23) S.1 S.2.1 dX8_isMetBy_19 (by decide) ?_
    subst hQ
    exact j_iret (u := w) S hr (rfl) hK hW dX8_isMetBy_23 ⟨by decide, by decide⟩ (⟨bI_T (by simpa using c_15), rfl⟩)
/-- Bound.isMetBy -/
theorem c_X1_isMetBy (l : Launch) (D : va_G) (cy : Nat → ClassId) {w : va_W} (k a0 : Nat) (kd mb lo hi a : Nat) (hk : w[k]? = some (a0, .inr (1, [.int (nI kd), .int (nI mb), .int (nI lo), .int (nI hi)]))) (hm : mb < 1024) (hl0 : lo < 1024 ∧ hi < 1024) : jM l yX1_isMetBy (jws yX1_isMetBy cX1_isMetBy 3 (some .boolean)) (jR 1 0 0) D cy w [.ref a0, .int (nI a)] 0 0 (fun vv uu => vv = some (.int (bI (decide (lo ≤ cnt (a &&& mb).testBit 10) && decide (cnt (a &&& mb).testBit 10 ≤ hi)))) ∧ w = uu) := by
  have hcn := cnt_le (a &&& mb).testBit 10
  refine j_of (by decide) rfl (Nat.le_of_ble_eq_true rfl) ?_
  intro p e s m args below meth c A ls Q hQ S hr hK hA H locs hW hl
  have hl : lv_has ls 3 [(0, .ref a0), (1, .int (nI a))] := hl
  refine lv_iload_n S.1 S.2.1 dX1_isMetBy_0 rfl (lv_at hl 1 rfl) ?_
  refine lv_aload_n S.1 S.2.1 dX1_isMetBy_1 rfl (lv_at hl 0 rfl) ?_
  refine j_get (ci := 1) (C := RX1) (T := TX1) (N := 4) (v := .int (nI mb)) S (fun w h => List.mem_cons_of_mem _ (inG1 w h)) hK hW hk rfl 1 (by decide) (List.mem_cons_of_mem _ wfl_X1_16) (fun x9 h9 => u_same (S.2.2.2.2 _ (List.mem_cons_of_mem _ wsf_X1)) x9 h9) rfl dX1_isMetBy_2 ?_
  refine jn_and S dX1_isMetBy_5 ?_
  refine j_callJ (As := [.int (nI (a &&& mb))]) (rest := []) S hK hA hW (c_J6_bitCount_0f7a4 l D cy (a &&& mb)    (by have := and_lt10 (a := a) hm; omega)) (jgo wm_X1_19) yk_J6_bitCount_0f7a4 ⟨⟨rfl, rfl⟩, by decide, by decide⟩ rfl hl.1 rfl (Nat.le_of_ble_eq_true rfl) dX1_isMetBy_6 ⟨by decide, by decide⟩ (fun v u H locs hp hW => ?_)
  obtain ⟨rfl, rfl⟩ := hp
  refine W.eq (g2 := F0 m 9 ls [.int (nI (cnt (a &&& mb).testBit 32))]) rfl ?_
  refine lv_topi_to (y := nI (cnt (a &&& mb).testBit 10)) (by rw [cnt_10 (and_lt10 hm)]) ?_
  refine lv_istore_n (lv' := [(2, .int (nI (cnt (a &&& mb).testBit 10))), (0, .ref a0), (1, .int (nI a))]) S.1 S.2.1 dX1_isMetBy_9 rfl hl (by decide) rfl (fun ls hl => ?_)
  refine lv_iload_n S.1 S.2.1 dX1_isMetBy_10 rfl (lv_at hl 0 rfl) ?_
  refine lv_aload_n S.1 S.2.1 dX1_isMetBy_11 rfl (lv_at hl 1 rfl) ?_
  refine j_get (ci := 1) (C := RX1) (T := TX1) (N := 4) (v := .int (nI lo)) S (fun w h => List.mem_cons_of_mem _ (inG1 w h)) hK hW hk rfl 2 (by decide) (List.mem_cons_of_mem _ wfl_X1_7) (fun _ h9 => h9) rfl dX1_isMetBy_12 ?_
  refine jn_cmp_lt (tgt := 30) S (by omega) (by omega) dX1_isMetBy_15 (by decide) (fun c_15 => ?_) (fun c_15 => ?_)
  · refine lv_iconst (v := nI 0) S.1 S.2.1 dX1_isMetBy_30 (by decide) ?_
    subst hQ
    exact j_iret (u := w) S hr (rfl) hK hW dX1_isMetBy_31 ⟨by decide, by decide⟩ (⟨bI_F (by first | (simp; omega) | simp [c_15, c_23]), rfl⟩)
  · refine lv_iload_n S.1 S.2.1 dX1_isMetBy_18 rfl (lv_at hl 0 rfl) ?_
    refine lv_aload_n S.1 S.2.1 dX1_isMetBy_19 rfl (lv_at hl 1 rfl) ?_
    refine j_get (ci := 1) (C := RX1) (T := TX1) (N := 4) (v := .int (nI hi)) S (fun w h => List.mem_cons_of_mem _ (inG1 w h)) hK hW hk rfl 3 (by decide) (List.mem_cons_of_mem _ wfl_X1_13) (fun _ h9 => h9) rfl dX1_isMetBy_20 ?_
    refine jn_cmp_gt (tgt := 30) S (by omega) (by omega) dX1_isMetBy_23 (by decide) (fun c_23 => ?_) (fun c_23 => ?_)
    · refine lv_iconst (v := nI 0) S.1 S.2.1 dX1_isMetBy_30 (by decide) ?_
      subst hQ
      exact j_iret (u := w) S hr (rfl) hK hW dX1_isMetBy_31 ⟨by decide, by decide⟩ (⟨bI_F (by first | (simp; omega) | simp [c_15, c_23]), rfl⟩)
    · refine lv_iconst (v := nI 1) S.1 S.2.1 dX1_isMetBy_26 (by decide) ?_
      refine lv_goto (tgt := 31) S.1 S.2.1 dX1_isMetBy_27 (by decide) ?_
      subst hQ
      exact j_iret (u := w) S hr (rfl) hK hW dX1_isMetBy_31 ⟨by decide, by decide⟩ (⟨bI_T (by first | (simp; omega) | simp [c_15, c_23]), rfl⟩)
