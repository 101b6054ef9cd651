/-! Integer.bitCount and Long.bitCount (laid by wip/whole/tools, from the specs there) -/
/-- Integer.bitCount -/
theorem c_J6_bitCount_0f7a4 (l : Launch) (D : va_G) (cy : Nat → ClassId) {w : va_W} (x : Nat) (hx0 : x < 2 ^ 32) : jM l yJ6_bitCount_0f7a4 (jws yJ6_bitCount_0f7a4 cJ6_bitCount_0f7a4 1 (some .int)) (jR 0 0 0) D cy w [.int (nI x)] 0 0 (fun vv uu => vv = some (.int (nI (cnt x.testBit 32))) ∧ w = uu) := by
  have hq := q_4 hx0
  obtain ⟨a4, b4, c4, d4, ha4, hb4, hc4, hd4, k4, kc4, kb4⟩ := hq
  have hx1 := q1_lt hx0
  refine j_of (by decide) rfl (Nat.le_of_ble_eq_true rfl) ?_
  intro p e s m args below meth c A ls Q hQ S hr hK hA H locs hW hl
  have hl : lv_has ls 1 [(0, .int (nI x))] := hl
  refine lv_iload_n S.1 S.2.1 dJ6_bitCount_0f7a4_0 rfl (lv_at hl 0 rfl) ?_
  refine lv_iload_n S.1 S.2.1 dJ6_bitCount_0f7a4_1 rfl (lv_at hl 0 rfl) ?_
  refine lv_iconst (v := nI 1) S.1 S.2.1 dJ6_bitCount_0f7a4_2 (by decide) ?_
  refine lv_iushr (v := nI (x / 2)) S.1 S.2.1 dJ6_bitCount_0f7a4_3 (pk_ushrN (by omega) _ 1 (by decide)) ?_
  refine lv_ldcw (v := nI 1431655765) S.1 S.2.1 S.2.2.2.1 (S.2.2.2.2 _ (List.mem_cons_of_mem _ wk_J6_265)) dJ6_bitCount_0f7a4_4 ?_
  refine jn_and S dJ6_bitCount_0f7a4_7 ?_
  refine lv_topi_to (y := nI (x / 2 &&& m55)) (by rw [bc55 (by omega)]) ?_
  have h8 : x / 2 &&& m55 ≤ x := Nat.le_trans Nat.and_le_left (by omega)
  refine lv_isub S.1 S.2.1 dJ6_bitCount_0f7a4_8 ?_
  refine lv_topi_to (y := nI (q1 x)) (pk_sub h8) ?_
  refine lv_istore_n (lv' := [(0, .int (nI (q1 x)))]) S.1 S.2.1 dJ6_bitCount_0f7a4_9 rfl hl (by decide) rfl (fun ls hl => ?_)
  refine lv_iload_n S.1 S.2.1 dJ6_bitCount_0f7a4_10 rfl (lv_at hl 0 rfl) ?_
  refine lv_ldcw (v := nI 858993459) S.1 S.2.1 S.2.2.2.1 (S.2.2.2.2 _ (List.mem_cons_of_mem _ wk_J6_266)) dJ6_bitCount_0f7a4_11 ?_
  refine jn_and S dJ6_bitCount_0f7a4_14 ?_
  refine lv_topi_to (y := nI (q1 x &&& m33)) (by rw [bc33 (by omega)]) ?_
  refine lv_iload_n S.1 S.2.1 dJ6_bitCount_0f7a4_15 rfl (lv_at hl 0 rfl) ?_
  refine lv_iconst (v := nI 2) S.1 S.2.1 dJ6_bitCount_0f7a4_16 (by decide) ?_
  refine lv_iushr (v := nI ((q1 x) / 4)) S.1 S.2.1 dJ6_bitCount_0f7a4_17 (pk_ushrN (by omega) _ 2 (by decide)) ?_
  refine lv_ldcw (v := nI 858993459) S.1 S.2.1 S.2.2.2.1 (S.2.2.2.2 _ (List.mem_cons_of_mem _ wk_J6_266)) dJ6_bitCount_0f7a4_18 ?_
  refine jn_and S dJ6_bitCount_0f7a4_21 ?_
  refine lv_topi_to (y := nI (q1 x / 4 &&& m33)) (by rw [bc33 (by omega)]) ?_
  refine jn_add S dJ6_bitCount_0f7a4_22 ?_
  refine lv_topi_to (y := nI (q2 (q1 x))) (rfl) ?_
  refine lv_istore_n (lv' := [(0, .int (nI (q2 (q1 x))))]) S.1 S.2.1 dJ6_bitCount_0f7a4_23 rfl hl (by decide) rfl (fun ls hl => ?_)
  refine lv_iload_n S.1 S.2.1 dJ6_bitCount_0f7a4_24 rfl (lv_at hl 0 rfl) ?_
  refine lv_iload_n S.1 S.2.1 dJ6_bitCount_0f7a4_25 rfl (lv_at hl 0 rfl) ?_
  refine lv_iconst (v := nI 4) S.1 S.2.1 dJ6_bitCount_0f7a4_26 (by decide) ?_
  refine lv_iushr (v := nI ((q2 (q1 x)) / 16)) S.1 S.2.1 dJ6_bitCount_0f7a4_27 (pk_ushrN (by omega) _ 4 (by decide)) ?_
  refine jn_add S dJ6_bitCount_0f7a4_28 ?_
  refine lv_ldcw (v := nI 252645135) S.1 S.2.1 S.2.2.2.1 (S.2.2.2.2 _ (List.mem_cons_of_mem _ wk_J6_267)) dJ6_bitCount_0f7a4_29 ?_
  refine jn_and S dJ6_bitCount_0f7a4_32 ?_
  refine lv_topi_to (y := nI (q3 (q2 (q1 x)))) (by rw [bc0f (by omega)]; rfl) ?_
  refine lv_istore_n (lv' := [(0, .int (nI (q3 (q2 (q1 x)))))]) S.1 S.2.1 dJ6_bitCount_0f7a4_33 rfl hl (by decide) rfl (fun ls hl => ?_)
  refine lv_iload_n S.1 S.2.1 dJ6_bitCount_0f7a4_34 rfl (lv_at hl 0 rfl) ?_
  refine lv_iload_n S.1 S.2.1 dJ6_bitCount_0f7a4_35 rfl (lv_at hl 0 rfl) ?_
  refine lv_bipush (v := nI 8) S.1 S.2.1 dJ6_bitCount_0f7a4_36 (by decide) ?_
  refine lv_iushr (v := nI ((q3 (q2 (q1 x))) / 256)) S.1 S.2.1 dJ6_bitCount_0f7a4_38 (pk_ushrN (by omega) _ 8 (by decide)) ?_
  refine jn_add S dJ6_bitCount_0f7a4_39 ?_
  refine lv_istore_n (lv' := [(0, .int (nI ((q3 (q2 (q1 x))) + ((q3 (q2 (q1 x))) / 256))))]) S.1 S.2.1 dJ6_bitCount_0f7a4_40 rfl hl (by decide) rfl (fun ls hl => ?_)
  refine lv_iload_n S.1 S.2.1 dJ6_bitCount_0f7a4_41 rfl (lv_at hl 0 rfl) ?_
  refine lv_iload_n S.1 S.2.1 dJ6_bitCount_0f7a4_42 rfl (lv_at hl 0 rfl) ?_
  refine lv_bipush (v := nI 16) S.1 S.2.1 dJ6_bitCount_0f7a4_43 (by decide) ?_
  refine lv_iushr (v := nI ((q3 (q2 (q1 x)) + q3 (q2 (q1 x)) / 256) / 65536)) S.1 S.2.1 dJ6_bitCount_0f7a4_45 (pk_ushrN (by omega) _ 16 (by decide)) ?_
  refine jn_add S dJ6_bitCount_0f7a4_46 ?_
  refine lv_istore_n (lv' := [(0, .int (nI (((q3 (q2 (q1 x))) + ((q3 (q2 (q1 x))) / 256)) + ((q3 (q2 (q1 x)) + q3 (q2 (q1 x)) / 256) / 65536))))]) S.1 S.2.1 dJ6_bitCount_0f7a4_47 rfl hl (by decide) rfl (fun ls hl => ?_)
  refine lv_iload_n S.1 S.2.1 dJ6_bitCount_0f7a4_48 rfl (lv_at hl 0 rfl) ?_
  refine lv_bipush (v := nI 63) S.1 S.2.1 dJ6_bitCount_0f7a4_49 (by decide) ?_
  refine jn_and S dJ6_bitCount_0f7a4_51 ?_
  refine lv_topi_to (y := nI (cnt x.testBit 32)) (by rw [← pop32_cnt hx0]; exact congrArg nI (Nat.and_two_pow_sub_one_eq_mod _ 6)) ?_
  subst hQ
  exact j_iret (u := w) S hr (rfl) hK hW dJ6_bitCount_0f7a4_52 ⟨by decide, by decide⟩ (⟨rfl, rfl⟩)
/-- Long.bitCount -/
theorem c_J13_bitCount_95d88 (l : Launch) (D : va_G) (cy : Nat → ClassId) {w : va_W} (x : Nat) (hx0 : x < 2 ^ 64) : jM l yJ13_bitCount_95d88 (jws yJ13_bitCount_95d88 cJ13_bitCount_95d88 2 (some .int)) (jR 0 0 0) D cy w [.long (lN x)] 0 0 (fun vv uu => vv = some (.int (nI (cnt x.testBit 64))) ∧ w = uu) := by
  obtain ⟨a4, b4, c4, d4, a5, b5, c5, d5, ⟨ha4, hb4, hc4, hd4⟩, ⟨ha5, hb5, hc5, hd5⟩, k4, kc4⟩ := q_8 hx0
  have hx1 := q1_lt hx0
  have h8 : x / 2 &&& m55 ≤ x := Nat.le_trans Nat.and_le_left (by omega)
  have h9 : q1 x &&& m33 ≤ 3689348814741910323 := Nat.and_le_right
  have h10 : q1 x / 4 &&& m33 ≤ 3689348814741910323 := Nat.and_le_right
  have h11 : q2 (q1 x) ≤ 2 * 3689348814741910323 := by show _ + _ ≤ _; omega
  have h12 : q3 (q2 (q1 x)) ≤ 1085102592571150095 := Nat.and_le_right
  refine j_of (by decide) rfl (Nat.le_of_ble_eq_true rfl) ?_
  intro p e s m args below meth c A ls Q hQ S hr hK hA H locs hW hl
  have hl : lv_has ls 2 [(0, .long (lN x))] := hl
  refine lv_lload_n S.1 S.2.1 dJ13_bitCount_95d88_0 rfl (lv_at hl 0 rfl) ?_
  refine lv_lload_n S.1 S.2.1 dJ13_bitCount_95d88_1 rfl (lv_at hl 0 rfl) ?_
  refine lv_iconst (v := nI 1) S.1 S.2.1 dJ13_bitCount_95d88_2 (by decide) ?_
  refine lv_lushr (v := lN (x / 2)) S.1 S.2.1 dJ13_bitCount_95d88_3 (wb_shr (by omega) (by decide : 1 < 64)) ?_
  refine lv_ldc2 (v := lN 6148914691236517205) S.1 S.2.1 S.2.2.2.1 (S.2.2.2.2 _ (List.mem_cons_of_mem _ wk_J13_314)) dJ13_bitCount_95d88_4 ?_
  refine lv_land S.1 S.2.1 dJ13_bitCount_95d88_7 ?_
  refine lv_topl_to (y := lN (x / 2 &&& m55)) (wb_and (by omega) (by decide)) ?_
  refine lv_lsub S.1 S.2.1 dJ13_bitCount_95d88_8 ?_
  refine lv_topl_to (y := lN (q1 x)) (lN_sub h8) ?_
  refine lv_lstore_n (lv' := [(0, .long (lN (q1 x)))]) S.1 S.2.1 dJ13_bitCount_95d88_9 rfl hl (by decide) rfl (fun ls hl => ?_)
  refine lv_lload_n S.1 S.2.1 dJ13_bitCount_95d88_10 rfl (lv_at hl 0 rfl) ?_
  refine lv_ldc2 (v := lN 3689348814741910323) S.1 S.2.1 S.2.2.2.1 (S.2.2.2.2 _ (List.mem_cons_of_mem _ wk_J13_316)) dJ13_bitCount_95d88_11 ?_
  refine lv_land S.1 S.2.1 dJ13_bitCount_95d88_14 ?_
  refine lv_topl_to (y := lN (q1 x &&& m33)) (wb_and (by omega) (by decide)) ?_
  refine lv_lload_n S.1 S.2.1 dJ13_bitCount_95d88_15 rfl (lv_at hl 0 rfl) ?_
  refine lv_iconst (v := nI 2) S.1 S.2.1 dJ13_bitCount_95d88_16 (by decide) ?_
  refine lv_lushr (v := lN ((q1 x) / 4)) S.1 S.2.1 dJ13_bitCount_95d88_17 (wb_shr (by omega) (by decide : 2 < 64)) ?_
  refine lv_ldc2 (v := lN 3689348814741910323) S.1 S.2.1 S.2.2.2.1 (S.2.2.2.2 _ (List.mem_cons_of_mem _ wk_J13_316)) dJ13_bitCount_95d88_18 ?_
  refine lv_land S.1 S.2.1 dJ13_bitCount_95d88_21 ?_
  refine lv_topl_to (y := lN (q1 x / 4 &&& m33)) (wb_and (by omega) (by decide)) ?_
  refine jnl_add S dJ13_bitCount_95d88_22 ?_
  refine lv_topl_to (y := lN (q2 (q1 x))) (rfl) ?_
  refine lv_lstore_n (lv' := [(0, .long (lN (q2 (q1 x))))]) S.1 S.2.1 dJ13_bitCount_95d88_23 rfl hl (by decide) rfl (fun ls hl => ?_)
  refine lv_lload_n S.1 S.2.1 dJ13_bitCount_95d88_24 rfl (lv_at hl 0 rfl) ?_
  refine lv_lload_n S.1 S.2.1 dJ13_bitCount_95d88_25 rfl (lv_at hl 0 rfl) ?_
  refine lv_iconst (v := nI 4) S.1 S.2.1 dJ13_bitCount_95d88_26 (by decide) ?_
  refine lv_lushr (v := lN ((q2 (q1 x)) / 16)) S.1 S.2.1 dJ13_bitCount_95d88_27 (wb_shr (by omega) (by decide : 4 < 64)) ?_
  refine jnl_add S dJ13_bitCount_95d88_28 ?_
  refine lv_ldc2 (v := lN 1085102592571150095) S.1 S.2.1 S.2.2.2.1 (S.2.2.2.2 _ (List.mem_cons_of_mem _ wk_J13_318)) dJ13_bitCount_95d88_29 ?_
  refine lv_land S.1 S.2.1 dJ13_bitCount_95d88_32 ?_
  refine lv_topl_to (y := lN (q3 (q2 (q1 x)))) (wb_and (by omega) (by decide)) ?_
  refine lv_lstore_n (lv' := [(0, .long (lN (q3 (q2 (q1 x)))))]) S.1 S.2.1 dJ13_bitCount_95d88_33 rfl hl (by decide) rfl (fun ls hl => ?_)
  refine lv_lload_n S.1 S.2.1 dJ13_bitCount_95d88_34 rfl (lv_at hl 0 rfl) ?_
  refine lv_lload_n S.1 S.2.1 dJ13_bitCount_95d88_35 rfl (lv_at hl 0 rfl) ?_
  refine lv_bipush (v := nI 8) S.1 S.2.1 dJ13_bitCount_95d88_36 (by decide) ?_
  refine lv_lushr (v := lN ((q3 (q2 (q1 x))) / 256)) S.1 S.2.1 dJ13_bitCount_95d88_38 (wb_shr (by omega) (by decide : 8 < 64)) ?_
  refine jnl_add S dJ13_bitCount_95d88_39 ?_
  refine lv_lstore_n (lv' := [(0, .long (lN ((q3 (q2 (q1 x))) + ((q3 (q2 (q1 x))) / 256))))]) S.1 S.2.1 dJ13_bitCount_95d88_40 rfl hl (by decide) rfl (fun ls hl => ?_)
  refine lv_lload_n S.1 S.2.1 dJ13_bitCount_95d88_41 rfl (lv_at hl 0 rfl) ?_
  refine lv_lload_n S.1 S.2.1 dJ13_bitCount_95d88_42 rfl (lv_at hl 0 rfl) ?_
  refine lv_bipush (v := nI 16) S.1 S.2.1 dJ13_bitCount_95d88_43 (by decide) ?_
  refine lv_lushr (v := lN ((q3 (q2 (q1 x)) + q3 (q2 (q1 x)) / 256) / 65536)) S.1 S.2.1 dJ13_bitCount_95d88_45 (wb_shr (by omega) (by decide : 16 < 64)) ?_
  refine jnl_add S dJ13_bitCount_95d88_46 ?_
  refine lv_lstore_n (lv' := [(0, .long (lN (((q3 (q2 (q1 x))) + ((q3 (q2 (q1 x))) / 256)) + ((q3 (q2 (q1 x)) + q3 (q2 (q1 x)) / 256) / 65536))))]) S.1 S.2.1 dJ13_bitCount_95d88_47 rfl hl (by decide) rfl (fun ls hl => ?_)
  refine lv_lload_n S.1 S.2.1 dJ13_bitCount_95d88_48 rfl (lv_at hl 0 rfl) ?_
  refine lv_lload_n S.1 S.2.1 dJ13_bitCount_95d88_49 rfl (lv_at hl 0 rfl) ?_
  refine lv_bipush (v := nI 32) S.1 S.2.1 dJ13_bitCount_95d88_50 (by decide) ?_
  refine lv_lushr (v := lN (((q3 (q2 (q1 x)) + q3 (q2 (q1 x)) / 256) + (q3 (q2 (q1 x)) + q3 (q2 (q1 x)) / 256) / 65536) / 4294967296)) S.1 S.2.1 dJ13_bitCount_95d88_52 (wb_shr (by omega) (by decide : 32 < 64)) ?_
  refine jnl_add S dJ13_bitCount_95d88_53 ?_
  refine lv_lstore_n (lv' := [(0, .long (lN ((((q3 (q2 (q1 x))) + ((q3 (q2 (q1 x))) / 256)) + ((q3 (q2 (q1 x)) + q3 (q2 (q1 x)) / 256) / 65536)) + (((q3 (q2 (q1 x)) + q3 (q2 (q1 x)) / 256) + (q3 (q2 (q1 x)) + q3 (q2 (q1 x)) / 256) / 65536) / 4294967296))))]) S.1 S.2.1 dJ13_bitCount_95d88_54 rfl hl (by decide) rfl (fun ls hl => ?_)
  refine lv_lload_n S.1 S.2.1 dJ13_bitCount_95d88_55 rfl (lv_at hl 0 rfl) ?_
  refine lv_l2i (v := nI ((((q3 (q2 (q1 x))) + ((q3 (q2 (q1 x))) / 256)) + ((q3 (q2 (q1 x)) + q3 (q2 (q1 x)) / 256) / 65536)) + (((q3 (q2 (q1 x)) + q3 (q2 (q1 x)) / 256) + (q3 (q2 (q1 x)) + q3 (q2 (q1 x)) / 256) / 65536) / 4294967296))) S.1 S.2.1 dJ13_bitCount_95d88_56 (lN_i _) ?_
  refine lv_bipush (v := nI 127) S.1 S.2.1 dJ13_bitCount_95d88_57 (by decide) ?_
  refine jn_and S dJ13_bitCount_95d88_59 ?_
  refine lv_topi_to (y := nI (cnt x.testBit 64)) (by rw [← pop64_cnt hx0]; exact congrArg nI (Nat.and_two_pow_sub_one_eq_mod _ 7)) ?_
  subst hQ
  exact j_iret (u := w) S hr (rfl) hK hW dJ13_bitCount_95d88_60 ⟨by decide, by decide⟩ (⟨rfl, rfl⟩)
