/-! IntRow and LongRow: reads and writes (laid by wip/whole/tools, from the specs there) -/
/-- IntRow.at: outside it holds 0 -/
theorem c_X6_at (l : Launch) (D : va_G) (cy : Nat → ClassId) {w : va_W} (k j h0 ha n : Nat) (f : Nat → Int32) (i : Int32) (hk : w[k]? = some (h0, .inr (5, [.ref ha]))) (hj : w[j]? = some (ha, .inl (cy 0, n, .inl f))) (hn : n < 2 ^ 31) : jM l yX6_at (jws yX6_at cX6_at 2 (some .int)) (jR 0 0 0) D cy w [.ref h0, .int i] 0 0 (fun vv uu => vv = some (.int (rdI f n i)) ∧ w = uu) := by
  refine j_of (by decide) rfl (Nat.le_of_ble_eq_true rfl) ?_
  intro p e s m args below meth c A ls Q hQ S hr hK hA H locs hW hl
  have hl : lv_has ls 2 [(0, .ref h0), (1, .int i)] := hl
  refine lv_iload_n S.1 S.2.1 dX6_at_0 rfl (lv_at hl 1 rfl) ?_
  refine lv_if_lt (tgt := 22) S.1 S.2.1 dX6_at_1 (by decide) (fun c_1 => ?_) (fun c_1 => ?_)
  · refine lv_iconst (v := nI 0) S.1 S.2.1 dX6_at_22 (by decide) ?_
    subst hQ
    exact j_iret (u := w) S hr (rfl) hK hW dX6_at_23 ⟨by decide, by decide⟩ (⟨by first | rw [rdI, if_neg (in_neg c_1)] | rw [rdI, if_neg (in_big c_10 hn)], rfl⟩)
  · refine lv_iload_n S.1 S.2.1 dX6_at_4 rfl (lv_at hl 1 rfl) ?_
    refine lv_aload_n S.1 S.2.1 dX6_at_5 rfl (lv_at hl 0 rfl) ?_
    refine j_get (ci := 5) (C := RX6) (T := TX6) (N := 1) (v := .ref ha) S (fun w h => List.mem_cons_of_mem _ (inG6 w h)) hK hW hk rfl 0 (by decide) (List.mem_cons_of_mem _ wfl_X6_7) (fun _ h9 => h9) rfl dX6_at_6 ?_
    refine j_alen (t0 := 0) S hK hW hj rfl dX6_at_9 ?_
    refine lv_icmp_ge (tgt := 22) S.1 S.2.1 dX6_at_10 (by decide) (fun c_10 => ?_) (fun c_10 => ?_)
    · refine lv_iconst (v := nI 0) S.1 S.2.1 dX6_at_22 (by decide) ?_
      subst hQ
      exact j_iret (u := w) S hr (rfl) hK hW dX6_at_23 ⟨by decide, by decide⟩ (⟨by first | rw [rdI, if_neg (in_neg c_1)] | rw [rdI, if_neg (in_big c_10 hn)], rfl⟩)
    · refine lv_aload_n S.1 S.2.1 dX6_at_13 rfl (lv_at hl 0 rfl) ?_
      refine j_get (ci := 5) (C := RX6) (T := TX6) (N := 1) (v := .ref ha) S (fun w h => List.mem_cons_of_mem _ (inG6 w h)) hK hW hk rfl 0 (by decide) (List.mem_cons_of_mem _ wfl_X6_7) (fun _ h9 => h9) rfl dX6_at_14 ?_
      refine lv_iload_n S.1 S.2.1 dX6_at_17 rfl (lv_at hl 1 rfl) ?_
      refine j_iald (x := f i.toNatClampNeg) S hK hW hj (vp_mid c_1 c_10 hn) rfl (rfl) dX6_at_18 ?_
      refine lv_goto (tgt := 23) S.1 S.2.1 dX6_at_19 (by decide) ?_
      subst hQ
      exact j_iret (u := w) S hr (rfl) hK hW dX6_at_23 ⟨by decide, by decide⟩ (⟨by rw [rdI, if_pos (in_mid c_1 c_10 hn)], rfl⟩)
/-- put: outside it takes nothing -/
theorem c_X6_put (l : Launch) (D : va_G) (cy : Nat → ClassId) {w : va_W} (k j h0 ha n : Nat) (f : Nat → Int32) (i : Int32) (x : Int32) (hk : w[k]? = some (h0, .inr (5, [.ref ha]))) (hj : w[j]? = some (ha, .inl (cy 0, n, .inl f))) (hn : n < 2 ^ 31) : jM l yX6_put (jws yX6_put cX6_put 3 none) (jR 0 0 0) D cy w [.ref h0, .int i, .int x] 0 0 (fun vv uu => vv = none ∧ jU w uu [j] ∧ uu[j]? = some (ha, .inl (cy 0, n, .inl (wrI f n i x)))) := by
  refine j_of (by decide) rfl (Nat.le_of_ble_eq_true rfl) ?_
  intro p e s m args below meth c A ls Q hQ S hr hK hA H locs hW hl
  have hl : lv_has ls 3 [(0, .ref h0), (1, .int i), (2, .int x)] := hl
  refine lv_iload_n S.1 S.2.1 dX6_put_0 rfl (lv_at hl 1 rfl) ?_
  refine lv_if_lt (tgt := 20) S.1 S.2.1 dX6_put_1 (by decide) (fun c_1 => ?_) (fun c_1 => ?_)
  · subst hQ
    exact j_vret (u := w) S hr hK hW dX6_put_20 ⟨by decide, by decide⟩ (⟨rfl, jU.rf, by first | (rw [wrI, if_neg (in_neg c_1)]; exact hj) | (rw [wrI, if_neg (in_big c_10 hn)]; exact hj)⟩)
  · refine lv_iload_n S.1 S.2.1 dX6_put_4 rfl (lv_at hl 1 rfl) ?_
    refine lv_aload_n S.1 S.2.1 dX6_put_5 rfl (lv_at hl 0 rfl) ?_
    refine j_get (ci := 5) (C := RX6) (T := TX6) (N := 1) (v := .ref ha) S (fun w h => List.mem_cons_of_mem _ (inG6 w h)) hK hW hk rfl 0 (by decide) (List.mem_cons_of_mem _ wfl_X6_7) (fun _ h9 => h9) rfl dX6_put_6 ?_
    refine j_alen (t0 := 0) S hK hW hj rfl dX6_put_9 ?_
    refine lv_icmp_ge (tgt := 20) S.1 S.2.1 dX6_put_10 (by decide) (fun c_10 => ?_) (fun c_10 => ?_)
    · subst hQ
      exact j_vret (u := w) S hr hK hW dX6_put_20 ⟨by decide, by decide⟩ (⟨rfl, jU.rf, by first | (rw [wrI, if_neg (in_neg c_1)]; exact hj) | (rw [wrI, if_neg (in_big c_10 hn)]; exact hj)⟩)
    · refine lv_aload_n S.1 S.2.1 dX6_put_13 rfl (lv_at hl 0 rfl) ?_
      refine j_get (ci := 5) (C := RX6) (T := TX6) (N := 1) (v := .ref ha) S (fun w h => List.mem_cons_of_mem _ (inG6 w h)) hK hW hk rfl 0 (by decide) (List.mem_cons_of_mem _ wfl_X6_7) (fun _ h9 => h9) rfl dX6_put_14 ?_
      refine lv_iload_n S.1 S.2.1 dX6_put_17 rfl (lv_at hl 1 rfl) ?_
      refine lv_iload_n S.1 S.2.1 dX6_put_18 rfl (lv_at hl 2 rfl) ?_
      refine j_iast S hK hW hj (vp_mid c_1 c_10 hn) rfl dX6_put_19 (fun H locs w_ hU1 hN1 hW => ?_)
      have hU : jU w w_ [j] := jU.mono hU1 (fun _ h => h)
      have hj_ : w_[j]? = some (ha, .inl (cy 0, n, .inl (upd f i.toNatClampNeg x))) := hN1
      clear hU1 hN1
      subst hQ
      exact j_vret (u := w_) S hr hK hW dX6_put_20 ⟨by decide, by decide⟩ (⟨rfl, hU, by rw [wrI, if_pos (in_mid c_1 c_10 hn)]; exact hj_⟩)
/-- LongRow.at: outside it holds 0 -/
theorem c_X7_at (l : Launch) (D : va_G) (cy : Nat → ClassId) {w : va_W} (k j h0 ha n : Nat) (f : Nat → Int64) (i : Int32) (hk : w[k]? = some (h0, .inr (6, [.ref ha]))) (hj : w[j]? = some (ha, .inl (cy 1, n, .inr (.inl f)))) (hn : n < 2 ^ 31) : jM l yX7_at (jws yX7_at cX7_at 2 (some .long)) (jR 0 0 0) D cy w [.ref h0, .int i] 0 0 (fun vv uu => vv = some (.long (rdL f n i)) ∧ w = uu) := by
  refine j_of (by decide) rfl (Nat.le_of_ble_eq_true rfl) ?_
  intro p e s m args below meth c A ls Q hQ S hr hK hA H locs hW hl
  have hl : lv_has ls 2 [(0, .ref h0), (1, .int i)] := hl
  refine lv_iload_n S.1 S.2.1 dX7_at_0 rfl (lv_at hl 1 rfl) ?_
  refine lv_if_lt (tgt := 22) S.1 S.2.1 dX7_at_1 (by decide) (fun c_1 => ?_) (fun c_1 => ?_)
  · refine lv_lconst (v := lN 0) S.1 S.2.1 dX7_at_22 (by decide) ?_
    subst hQ
    exact j_lret (u := w) S hr hK hW dX7_at_23 ⟨by decide, by decide⟩ (⟨by first | rw [rdL, if_neg (in_neg c_1)] | rw [rdL, if_neg (in_big c_10 hn)], rfl⟩)
  · refine lv_iload_n S.1 S.2.1 dX7_at_4 rfl (lv_at hl 1 rfl) ?_
    refine lv_aload_n S.1 S.2.1 dX7_at_5 rfl (lv_at hl 0 rfl) ?_
    refine j_get (ci := 6) (C := RX7) (T := TX7) (N := 1) (v := .ref ha) S (fun w h => List.mem_cons_of_mem _ (inG7 w h)) hK hW hk rfl 0 (by decide) (List.mem_cons_of_mem _ wfl_X7_7) (fun _ h9 => h9) rfl dX7_at_6 ?_
    refine j_alen (t0 := 1) S hK hW hj rfl dX7_at_9 ?_
    refine lv_icmp_ge (tgt := 22) S.1 S.2.1 dX7_at_10 (by decide) (fun c_10 => ?_) (fun c_10 => ?_)
    · refine lv_lconst (v := lN 0) S.1 S.2.1 dX7_at_22 (by decide) ?_
      subst hQ
      exact j_lret (u := w) S hr hK hW dX7_at_23 ⟨by decide, by decide⟩ (⟨by first | rw [rdL, if_neg (in_neg c_1)] | rw [rdL, if_neg (in_big c_10 hn)], rfl⟩)
    · refine lv_aload_n S.1 S.2.1 dX7_at_13 rfl (lv_at hl 0 rfl) ?_
      refine j_get (ci := 6) (C := RX7) (T := TX7) (N := 1) (v := .ref ha) S (fun w h => List.mem_cons_of_mem _ (inG7 w h)) hK hW hk rfl 0 (by decide) (List.mem_cons_of_mem _ wfl_X7_7) (fun _ h9 => h9) rfl dX7_at_14 ?_
      refine lv_iload_n S.1 S.2.1 dX7_at_17 rfl (lv_at hl 1 rfl) ?_
      refine j_lald (x := f i.toNatClampNeg) S hK hW hj (vp_mid c_1 c_10 hn) rfl (rfl) dX7_at_18 ?_
      refine lv_goto (tgt := 23) S.1 S.2.1 dX7_at_19 (by decide) ?_
      subst hQ
      exact j_lret (u := w) S hr hK hW dX7_at_23 ⟨by decide, by decide⟩ (⟨by rw [rdL, if_pos (in_mid c_1 c_10 hn)], rfl⟩)
/-- put: outside it takes nothing -/
theorem c_X7_put (l : Launch) (D : va_G) (cy : Nat → ClassId) {w : va_W} (k j h0 ha n : Nat) (f : Nat → Int64) (i : Int32) (x : Int64) (hk : w[k]? = some (h0, .inr (6, [.ref ha]))) (hj : w[j]? = some (ha, .inl (cy 1, n, .inr (.inl f)))) (hn : n < 2 ^ 31) : jM l yX7_put (jws yX7_put cX7_put 4 none) (jR 0 0 0) D cy w [.ref h0, .int i, .long x] 0 0 (fun vv uu => vv = none ∧ jU w uu [j] ∧ uu[j]? = some (ha, .inl (cy 1, n, .inr (.inl (wrL f n i x))))) := by
  refine j_of (by decide) rfl (Nat.le_of_ble_eq_true rfl) ?_
  intro p e s m args below meth c A ls Q hQ S hr hK hA H locs hW hl
  have hl : lv_has ls 4 [(0, .ref h0), (1, .int i), (2, .long x)] := hl
  refine lv_iload_n S.1 S.2.1 dX7_put_0 rfl (lv_at hl 1 rfl) ?_
  refine lv_if_lt (tgt := 20) S.1 S.2.1 dX7_put_1 (by decide) (fun c_1 => ?_) (fun c_1 => ?_)
  · subst hQ
    exact j_vret (u := w) S hr hK hW dX7_put_20 ⟨by decide, by decide⟩ (⟨rfl, jU.rf, by first | (rw [wrL, if_neg (in_neg c_1)]; exact hj) | (rw [wrL, if_neg (in_big c_10 hn)]; exact hj)⟩)
  · refine lv_iload_n S.1 S.2.1 dX7_put_4 rfl (lv_at hl 1 rfl) ?_
    refine lv_aload_n S.1 S.2.1 dX7_put_5 rfl (lv_at hl 0 rfl) ?_
    refine j_get (ci := 6) (C := RX7) (T := TX7) (N := 1) (v := .ref ha) S (fun w h => List.mem_cons_of_mem _ (inG7 w h)) hK hW hk rfl 0 (by decide) (List.mem_cons_of_mem _ wfl_X7_7) (fun _ h9 => h9) rfl dX7_put_6 ?_
    refine j_alen (t0 := 1) S hK hW hj rfl dX7_put_9 ?_
    refine lv_icmp_ge (tgt := 20) S.1 S.2.1 dX7_put_10 (by decide) (fun c_10 => ?_) (fun c_10 => ?_)
    · subst hQ
      exact j_vret (u := w) S hr hK hW dX7_put_20 ⟨by decide, by decide⟩ (⟨rfl, jU.rf, by first | (rw [wrL, if_neg (in_neg c_1)]; exact hj) | (rw [wrL, if_neg (in_big c_10 hn)]; exact hj)⟩)
    · refine lv_aload_n S.1 S.2.1 dX7_put_13 rfl (lv_at hl 0 rfl) ?_
      refine j_get (ci := 6) (C := RX7) (T := TX7) (N := 1) (v := .ref ha) S (fun w h => List.mem_cons_of_mem _ (inG7 w h)) hK hW hk rfl 0 (by decide) (List.mem_cons_of_mem _ wfl_X7_7) (fun _ h9 => h9) rfl dX7_put_14 ?_
      refine lv_iload_n S.1 S.2.1 dX7_put_17 rfl (lv_at hl 1 rfl) ?_
      refine lv_lload_n S.1 S.2.1 dX7_put_18 rfl (lv_at hl 2 rfl) ?_
      refine j_last S hK hW hj (vp_mid c_1 c_10 hn) rfl dX7_put_19 (fun H locs w_ hU1 hN1 hW => ?_)
      have hU : jU w w_ [j] := jU.mono hU1 (fun _ h => h)
      have hj_ : w_[j]? = some (ha, .inl (cy 1, n, .inr (.inl (vp_updL f i.toNatClampNeg x)))) := hN1
      clear hU1 hN1
      subst hQ
      exact j_vret (u := w_) S hr hK hW dX7_put_20 ⟨by decide, by decide⟩ (⟨rfl, hU, by rw [wrL, if_pos (in_mid c_1 c_10 hn)]; exact hj_⟩)
/-- LongRow.length -/
theorem c_X7_length (l : Launch) (D : va_G) (cy : Nat → ClassId) {w : va_W} (k j h0 ha n : Nat) (f : Nat → Int64) (hk : w[k]? = some (h0, .inr (6, [.ref ha]))) (hj : w[j]? = some (ha, .inl (cy 1, n, .inr (.inl f)))) : jM l yX7_length (jws yX7_length cX7_length 1 (some .int)) (jR 0 0 0) D cy w [.ref h0] 0 0 (fun vv uu => vv = some (.int (nI n)) ∧ w = uu) := by
  refine j_of (by decide) rfl (Nat.le_of_ble_eq_true rfl) ?_
  intro p e s m args below meth c A ls Q hQ S hr hK hA H locs hW hl
  have hl : lv_has ls 1 [(0, .ref h0)] := hl
  refine lv_aload_n S.1 S.2.1 dX7_length_0 rfl (lv_at hl 0 rfl) ?_
  refine j_get (ci := 6) (C := RX7) (T := TX7) (N := 1) (v := .ref ha) S (fun w h => List.mem_cons_of_mem _ (inG7 w h)) hK hW hk rfl 0 (by decide) (List.mem_cons_of_mem _ wfl_X7_7) (fun _ h9 => h9) rfl dX7_length_1 ?_
  refine j_alen (t0 := 1) S hK hW hj rfl dX7_length_4 ?_
  subst hQ
  exact j_iret (u := w) S hr (rfl) hK hW dX7_length_5 ⟨by decide, by decide⟩ (⟨rfl, rfl⟩)
