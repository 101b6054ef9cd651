/-! Assignments: settle, forget (laid by wip/whole/tools, from the specs there) -/
/-- settle -/
theorem c_X0_settle (l : Launch) (D : va_G) (cy : Nat → ClassId) {w : va_W} (ka kl kw ao al aw : Nat) (vn : Nat) (X : Nat → Bool) (v x : Nat) (hA1 : w[ka]? = some (ao, .inr (0, [.ref al, .int (nI vn)]))) (hA2 : w[kl]? = some (al, .inr (6, [.ref aw]))) (hA3 : w[kw]? = some (aw, .inl (cy 1, 16, .inr (.inl (wd X))))) (hvn : vn ≤ 10) (hv : v < vn) (hx : x ≤ 1) (hX : ∀ a, 2 ^ vn ≤ a → X a = false) : jM l yX0_settle (jws yX0_settle cX0_settle 6 none) (jR 3 0 0) D cy w [.ref ao, .int (nI v), .int (nI x)] 0 0 (fun vv uu => vv = none ∧ jU w uu [kw] ∧ uu[kw]? = some (aw, .inl (cy 1, 16, .inr (.inl (wd (fixS vn v x X)))))) := by
  have n1 : kl ≠ ka := jne_oo hA2 hA1 (by decide)
  have n2 : kl ≠ kw := jne_oa hA2 hA3
  have n3 : ka ≠ kw := jne_oa hA1 hA3
  have hn2 : 2 ^ vn ≤ 1024 := Nat.pow_le_pow_right (by decide) (show vn ≤ 10 from hvn)
  have hx1 := shl01_lt hx hv
  have hb1 := pow_lt2 hv
  refine j_of (by decide) rfl (Nat.le_of_ble_eq_true rfl) ?_
  intro p e s m args below meth c A ls Q hQ S hr hK hA H locs hW hl
  have hl : lv_has ls 6 [(0, .ref ao), (1, .int (nI v)), (2, .int (nI x))] := hl
  refine lv_iconst (v := nI 1) S.1 S.2.1 dX0_settle_0 (by decide) ?_
  refine lv_iload_n S.1 S.2.1 dX0_settle_1 rfl (lv_at hl 1 rfl) ?_
  refine jn_shl1 S (by omega) dX0_settle_2 ?_
  refine lv_istore_n (lv' := [(3, .int (nI (2 ^ v))), (0, .ref ao), (1, .int (nI v)), (2, .int (nI x))]) S.1 S.2.1 dX0_settle_3 rfl hl (by decide) rfl (fun ls hl => ?_)
  refine lv_iconst (v := nI 0) S.1 S.2.1 dX0_settle_4 (by decide) ?_
  refine lv_istore (lv' := [(4, .int (nI 0)), (3, .int (nI (2 ^ v))), (0, .ref ao), (1, .int (nI v)), (2, .int (nI x))]) S.1 S.2.1 dX0_settle_5 hl (by decide) rfl (fun ls hl => ?_)
  have hA3_ : w[kw]? = some (aw, .inl (cy 1, 16, .inr (.inl (wd (fixM vn v x 0 X))))) := by
    rw [fixM_0]; exact hA3
  have L7 : ∀ (k : Nat) (i : Nat), 2 ^ vn - i = k → (i ≤ 2 ^ vn) → ∀ (w_ : va_W), jU w w_ [kw] → (w_[kw]? = some (aw, .inl (cy 1, 16, .inr (.inl (wd (fixM vn v x i X)))))) → ∀ (H : Heap) (locs : List Loc) (ls : Array Slot), jW D A s.heap w_ H locs → lv_has ls 6 [(0, .ref ao), (1, .int (nI v)), (2, .int (nI x)), (3, .int (nI (2 ^ v))), (4, .int (nI i))] → W p l e (jR 3 0 0) s m args below meth c H locs 0 0 Q (F0 m 7 ls []) := by
    intro k
    induction k using Nat.strongRecOn with
    | ind k ih7 =>
    intro i hk hi w_ hU hA3_ H locs ls hW hl
    subst hk
    refine lv_iload S.1 S.2.1 dX0_settle_7 (lv_at hl 4 rfl) ?_
    refine lv_iconst (v := nI 1) S.1 S.2.1 dX0_settle_9 (by decide) ?_
    refine lv_aload_n S.1 S.2.1 dX0_settle_10 rfl (lv_at hl 0 rfl) ?_
    refine j_get (ci := 0) (C := RX0) (T := TX0) (N := 2) (v := .int (nI vn)) S (fun w h => List.mem_cons_of_mem _ (inG0 w h)) hK hW (hU.get hA1 (by simp [n1, n2, n3, Ne.symm n1, Ne.symm n2, Ne.symm n3])) rfl 1 (by decide) (List.mem_cons_of_mem _ wfl_X0_20) (fun _ h9 => h9) rfl dX0_settle_11 ?_
    refine jn_shl1 S (by omega) dX0_settle_14 ?_
    refine jn_cmp_ge (tgt := 55) S (by omega) (by omega) dX0_settle_15 (by decide) (fun c_15 => ?_) (fun c_15 => ?_)
    · subst hQ
      refine j_vret (u := w_) S hr hK hW dX0_settle_55 ⟨by decide, by decide⟩ ?_
      exact ⟨rfl, hU, by rw [← fixM_end (x := x) (v := v) (i := i) (by omega) hX]; exact hA3_⟩
    · refine lv_iload S.1 S.2.1 dX0_settle_18 (lv_at hl 4 rfl) ?_
      refine lv_iload_n S.1 S.2.1 dX0_settle_20 rfl (lv_at hl 3 rfl) ?_
      have hle : i &&& 2 ^ v ≤ 2 ^ v := Nat.and_le_right
      refine jn_and S dX0_settle_21 ?_
      refine jn_if_ne (tgt := 49) S (by omega) dX0_settle_22 (by decide) (fun c_22 => ?_) (fun c_22 => ?_)
      · have hbt : i.testBit v = true := by cases hq : i.testBit v; exact absurd ((and_pow0 i v).mpr hq) c_22; rfl
        have hA3_ : w_[kw]? = some (aw, .inl (cy 1, 16, .inr (.inl (wd (fixM vn v x (i + 1) X))))) := by
          rw [← fixM_skip hbt]; exact hA3_
        refine lv_iinc (v := nI (i + 1)) (lv' := [(4, .int (nI (i + 1))), (0, .ref ao), (1, .int (nI v)), (2, .int (nI x)), (3, .int (nI (2 ^ v)))]) S.1 S.2.1 dX0_settle_49 hl (k := 4) rfl (nI_add _ 1) (by decide) rfl (fun ls hl => ?_)
        refine lv_goto (tgt := 7) S.1 S.2.1 dX0_settle_52 (by decide) ?_
        exact ih7 _ (by omega) (i + 1) rfl (by omega) w_ hU hA3_ H locs ls hW (lv_sub hl [1, 2, 3, 4, 0] rfl)
      · have hbf := (and_pow0 i v).mp c_22
        have hor := or_lt2 (show i < 2 ^ vn by omega) hx1
        have hor2 := or_lt2 (show i < 2 ^ vn by omega) hb1
        refine lv_aload_n S.1 S.2.1 dX0_settle_25 rfl (lv_at hl 0 rfl) ?_
        refine lv_iload S.1 S.2.1 dX0_settle_26 (lv_at hl 4 rfl) ?_
        refine lv_iload_n S.1 S.2.1 dX0_settle_28 rfl (lv_at hl 2 rfl) ?_
        refine lv_iload_n S.1 S.2.1 dX0_settle_29 rfl (lv_at hl 1 rfl) ?_
        refine jn_shl S (by omega) dX0_settle_30 ?_
        refine jn_or S dX0_settle_31 ?_
        refine j_callV (k := ka) (ci := 0) (q := (RX0, TX0, 2)) (As := [.int (nI (i ||| (x <<< v)))]) (rest := []) S hK hA hW (c_X0_has l D cy ka kl kw ao al aw (nI vn) (fixM vn v x i X) (i ||| (x <<< v)) (hU.get hA1 (by simp [n1, n2, n3, Ne.symm n1, Ne.symm n2, Ne.symm n3])) (hU.get hA2 (by simp [n1, n2, n3, Ne.symm n1, Ne.symm n2, Ne.symm n3])) hA3_ (by omega)) (jgo wm_X0_44) yk_X0_has (hU.get hA1 (by simp [n1, n2, n3, Ne.symm n1, Ne.symm n2, Ne.symm n3])) rfl rfl ⟨⟨rfl, rfl⟩, by decide, by decide⟩ rfl hl.1 rfl (Nat.le_of_ble_eq_true rfl) dX0_settle_32 ⟨by decide, by decide⟩ (fun v u H locs hp hW => ?_)
        obtain ⟨rfl, rfl⟩ := hp
        refine W.eq (g2 := F0 m 35 ls [.int (bI ((fixM vn v x i X) (i ||| (x <<< v))))]) rfl ?_
        refine lv_topi_to (y := bI (X (i ||| x <<< v))) (by rw [fixM_get hbf hx]) ?_
        refine lv_istore (lv' := [(5, .int (bI (X (i ||| x <<< v)))), (0, .ref ao), (1, .int (nI v)), (2, .int (nI x)), (3, .int (nI (2 ^ v))), (4, .int (nI i))]) S.1 S.2.1 dX0_settle_35 hl (by decide) rfl (fun ls hl => ?_)
        refine lv_aload_n S.1 S.2.1 dX0_settle_37 rfl (lv_at hl 1 rfl) ?_
        refine lv_iload S.1 S.2.1 dX0_settle_38 (lv_at hl 5 rfl) ?_
        refine lv_iload S.1 S.2.1 dX0_settle_40 (lv_at hl 5 rfl) ?_
        refine lv_iload_n S.1 S.2.1 dX0_settle_42 rfl (lv_at hl 4 rfl) ?_
        refine jn_or S dX0_settle_43 ?_
        refine lv_iload S.1 S.2.1 dX0_settle_44 (lv_at hl 0 rfl) ?_
        refine j_callV (k := ka) (ci := 0) (q := (RX0, TX0, 2)) (As := [.int (nI i), .int (nI (i ||| (2 ^ v))), .int (bI (X (i ||| x <<< v)))]) (rest := []) S hK hA hW (c_X0_putPair l D cy ka kl kw ao al aw (nI vn) (fixM vn v x i X) i (i ||| (2 ^ v)) (X (i ||| x <<< v)) (hU.get hA1 (by simp [n1, n2, n3, Ne.symm n1, Ne.symm n2, Ne.symm n3])) (hU.get hA2 (by simp [n1, n2, n3, Ne.symm n1, Ne.symm n2, Ne.symm n3])) hA3_ (by omega) (by omega)) (jgo wm_X0_48) yk_X0_putPair (hU.get hA1 (by simp [n1, n2, n3, Ne.symm n1, Ne.symm n2, Ne.symm n3])) rfl rfl ⟨⟨rfl, rfl⟩, by decide, by decide⟩ rfl hl.1 rfl (Nat.le_of_ble_eq_true rfl) dX0_settle_46 ⟨by decide, by decide⟩ (fun v w_ H locs hp hW => ?_)
        obtain ⟨rfl, hU1, hN1⟩ := hp
        have hU := hU.then hU1 (fun _ h => h)
        have hA3_ : w_[kw]? = some (aw, .inl (cy 1, 16, .inr (.inl (wd (upB (upB (fixM vn v x i X) i (X (i ||| x <<< v))) (i ||| (2 ^ v)) (X (i ||| x <<< v))))))) := hN1
        clear hU1 hN1
        refine W.eq (g2 := F0 m 49 ls []) rfl ?_
        have hA3_ : w_[kw]? = some (aw, .inl (cy 1, 16, .inr (.inl (wd (fixM vn v x (i + 1) X))))) := by
          rw [← fixM_step hbf (by omega) hv]; exact hA3_
        refine lv_iinc (v := nI (i + 1)) (lv' := [(4, .int (nI (i + 1))), (5, .int (bI (X (i ||| x <<< v)))), (0, .ref ao), (1, .int (nI v)), (2, .int (nI x)), (3, .int (nI (2 ^ v)))]) S.1 S.2.1 dX0_settle_49 hl (k := 5) rfl (nI_add _ 1) (by decide) rfl (fun ls hl => ?_)
        refine lv_goto (tgt := 7) S.1 S.2.1 dX0_settle_52 (by decide) ?_
        exact ih7 _ (by omega) (i + 1) rfl (by omega) w_ hU hA3_ H locs ls hW (lv_sub hl [2, 3, 4, 5, 0] rfl)
  exact L7 _ 0 rfl (Nat.zero_le _) w jU.rf hA3_ H locs ls hW (lv_sub hl [2, 3, 4, 1, 0] rfl)
/-- forget -/
theorem c_X0_forget (l : Launch) (D : va_G) (cy : Nat → ClassId) {w : va_W} (ka kl kw ao al aw : Nat) (vn : Nat) (X : Nat → Bool) (v : Nat) (hA1 : w[ka]? = some (ao, .inr (0, [.ref al, .int (nI vn)]))) (hA2 : w[kl]? = some (al, .inr (6, [.ref aw]))) (hA3 : w[kw]? = some (aw, .inl (cy 1, 16, .inr (.inl (wd X))))) (hvn : vn ≤ 10) (hv : v < vn) (hX : ∀ a, 2 ^ vn ≤ a → X a = false) : jM l yX0_forget (jws yX0_forget cX0_forget 5 none) (jR 3 0 0) D cy w [.ref ao, .int (nI v)] 0 0 (fun vv uu => vv = none ∧ jU w uu [kw] ∧ uu[kw]? = some (aw, .inl (cy 1, 16, .inr (.inl (wd (freeS vn v X)))))) := by
  have n1 : kl ≠ ka := jne_oo hA2 hA1 (by decide)
  have n2 : kl ≠ kw := jne_oa hA2 hA3
  have n3 : ka ≠ kw := jne_oa hA1 hA3
  have hn2 : 2 ^ vn ≤ 1024 := Nat.pow_le_pow_right (by decide) (show vn ≤ 10 from hvn)
  have hb1 := pow_lt2 hv
  refine j_of (by decide) rfl (Nat.le_of_ble_eq_true rfl) ?_
  intro p e s m args below meth c A ls Q hQ S hr hK hA H locs hW hl
  have hl : lv_has ls 5 [(0, .ref ao), (1, .int (nI v))] := hl
  refine lv_iconst (v := nI 1) S.1 S.2.1 dX0_forget_0 (by decide) ?_
  refine lv_iload_n S.1 S.2.1 dX0_forget_1 rfl (lv_at hl 1 rfl) ?_
  refine jn_shl1 S (by omega) dX0_forget_2 ?_
  refine lv_istore_n (lv' := [(2, .int (nI (2 ^ v))), (0, .ref ao), (1, .int (nI v))]) S.1 S.2.1 dX0_forget_3 rfl hl (by decide) rfl (fun ls hl => ?_)
  refine lv_iconst (v := nI 0) S.1 S.2.1 dX0_forget_4 (by decide) ?_
  refine lv_istore_n (lv' := [(3, .int (nI 0)), (2, .int (nI (2 ^ v))), (0, .ref ao), (1, .int (nI v))]) S.1 S.2.1 dX0_forget_5 rfl hl (by decide) rfl (fun ls hl => ?_)
  have hA3_ : w[kw]? = some (aw, .inl (cy 1, 16, .inr (.inl (wd (freeM vn v 0 X))))) := by
    rw [freeM_0]; exact hA3
  have L6 : ∀ (k : Nat) (i : Nat), 2 ^ vn - i = k → (i ≤ 2 ^ vn) → ∀ (w_ : va_W), jU w w_ [kw] → (w_[kw]? = some (aw, .inl (cy 1, 16, .inr (.inl (wd (freeM vn v i X)))))) → ∀ (H : Heap) (locs : List Loc) (ls : Array Slot), jW D A s.heap w_ H locs → lv_has ls 5 [(0, .ref ao), (1, .int (nI v)), (2, .int (nI (2 ^ v))), (3, .int (nI i))] → W p l e (jR 3 0 0) s m args below meth c H locs 0 0 Q (F0 m 6 ls []) := by
    intro k
    induction k using Nat.strongRecOn with
    | ind k ih6 =>
    intro i hk hi w_ hU hA3_ H locs ls hW hl
    subst hk
    refine lv_iload_n S.1 S.2.1 dX0_forget_6 rfl (lv_at hl 3 rfl) ?_
    refine lv_iconst (v := nI 1) S.1 S.2.1 dX0_forget_7 (by decide) ?_
    refine lv_aload_n S.1 S.2.1 dX0_forget_8 rfl (lv_at hl 0 rfl) ?_
    refine j_get (ci := 0) (C := RX0) (T := TX0) (N := 2) (v := .int (nI vn)) S (fun w h => List.mem_cons_of_mem _ (inG0 w h)) hK hW (hU.get hA1 (by simp [n1, n2, n3, Ne.symm n1, Ne.symm n2, Ne.symm n3])) rfl 1 (by decide) (List.mem_cons_of_mem _ wfl_X0_20) (fun _ h9 => h9) rfl dX0_forget_9 ?_
    refine jn_shl1 S (by omega) dX0_forget_12 ?_
    refine jn_cmp_ge (tgt := 63) S (by omega) (by omega) dX0_forget_13 (by decide) (fun c_13 => ?_) (fun c_13 => ?_)
    · subst hQ
      refine j_vret (u := w_) S hr hK hW dX0_forget_63 ⟨by decide, by decide⟩ ?_
      exact ⟨rfl, hU, by rw [← freeM_end (v := v) (i := i) (by omega) hX]; exact hA3_⟩
    · refine lv_iload_n S.1 S.2.1 dX0_forget_16 rfl (lv_at hl 3 rfl) ?_
      refine lv_iload_n S.1 S.2.1 dX0_forget_17 rfl (lv_at hl 2 rfl) ?_
      have hle : i &&& 2 ^ v ≤ 2 ^ v := Nat.and_le_right
      refine jn_and S dX0_forget_18 ?_
      refine jn_if_ne (tgt := 57) S (by omega) dX0_forget_19 (by decide) (fun c_19 => ?_) (fun c_19 => ?_)
      · have hbt : i.testBit v = true := by cases hq : i.testBit v; exact absurd ((and_pow0 i v).mpr hq) c_19; rfl
        have hA3_ : w_[kw]? = some (aw, .inl (cy 1, 16, .inr (.inl (wd (freeM vn v (i + 1) X))))) := by
          rw [← freeM_skip hbt]; exact hA3_
        refine lv_iinc (v := nI (i + 1)) (lv' := [(3, .int (nI (i + 1))), (0, .ref ao), (1, .int (nI v)), (2, .int (nI (2 ^ v)))]) S.1 S.2.1 dX0_forget_57 hl (k := 3) rfl (nI_add _ 1) (by decide) rfl (fun ls hl => ?_)
        refine lv_goto (tgt := 6) S.1 S.2.1 dX0_forget_60 (by decide) ?_
        exact ih6 _ (by omega) (i + 1) rfl (by omega) w_ hU hA3_ H locs ls hW (lv_sub hl [1, 2, 3, 0] rfl)
      · have hbf := (and_pow0 i v).mp c_19
        have hor2 := or_lt2 (show i < 2 ^ vn by omega) hb1
        refine lv_aload_n S.1 S.2.1 dX0_forget_22 rfl (lv_at hl 0 rfl) ?_
        refine lv_iload_n S.1 S.2.1 dX0_forget_23 rfl (lv_at hl 3 rfl) ?_
        refine j_callV (k := ka) (ci := 0) (q := (RX0, TX0, 2)) (As := [.int (nI i)]) (rest := []) S hK hA hW (c_X0_has l D cy ka kl kw ao al aw (nI vn) (freeM vn v i X) i (hU.get hA1 (by simp [n1, n2, n3, Ne.symm n1, Ne.symm n2, Ne.symm n3])) (hU.get hA2 (by simp [n1, n2, n3, Ne.symm n1, Ne.symm n2, Ne.symm n3])) hA3_ (by omega)) (jgo wm_X0_44) yk_X0_has (hU.get hA1 (by simp [n1, n2, n3, Ne.symm n1, Ne.symm n2, Ne.symm n3])) rfl rfl ⟨⟨rfl, rfl⟩, by decide, by decide⟩ rfl hl.1 rfl (Nat.le_of_ble_eq_true rfl) dX0_forget_24 ⟨by decide, by decide⟩ (fun v u H locs hp hW => ?_)
        obtain ⟨rfl, rfl⟩ := hp
        refine W.eq (g2 := F0 m 27 ls [.int (bI ((freeM vn v i X) i))]) rfl ?_
        refine lv_topi_to (y := bI (X i)) (by rw [(freeM_get hbf).1]) ?_
        refine jb_if_ne (tgt := 40) S dX0_forget_27 (by decide) (fun c_27 => ?_) (fun c_27 => ?_)
        · refine lv_iconst (v := nI 1) S.1 S.2.1 dX0_forget_40 (by decide) ?_
          refine lv_goto (tgt := 45) S.1 S.2.1 dX0_forget_41 (by decide) ?_
          refine lv_topi_to (y := bI true) rfl ?_
          refine lv_istore (lv' := [(4, .int (bI true)), (0, .ref ao), (1, .int (nI v)), (2, .int (nI (2 ^ v))), (3, .int (nI i))]) S.1 S.2.1 dX0_forget_45 hl (by decide) rfl (fun ls hl => ?_)
          refine lv_aload_n S.1 S.2.1 dX0_forget_47 rfl (lv_at hl 1 rfl) ?_
          refine lv_iload_n S.1 S.2.1 dX0_forget_48 rfl (lv_at hl 4 rfl) ?_
          refine lv_iload_n S.1 S.2.1 dX0_forget_49 rfl (lv_at hl 4 rfl) ?_
          refine lv_iload_n S.1 S.2.1 dX0_forget_50 rfl (lv_at hl 3 rfl) ?_
          refine jn_or S dX0_forget_51 ?_
          refine lv_iload S.1 S.2.1 dX0_forget_52 (lv_at hl 0 rfl) ?_
          refine j_callV (k := ka) (ci := 0) (q := (RX0, TX0, 2)) (As := [.int (nI i), .int (nI (i ||| (2 ^ v))), .int (bI true)]) (rest := []) S hK hA hW (c_X0_putPair l D cy ka kl kw ao al aw (nI vn) (freeM vn v i X) i (i ||| (2 ^ v)) true (hU.get hA1 (by simp [n1, n2, n3, Ne.symm n1, Ne.symm n2, Ne.symm n3])) (hU.get hA2 (by simp [n1, n2, n3, Ne.symm n1, Ne.symm n2, Ne.symm n3])) hA3_ (by omega) (by omega)) (jgo wm_X0_48) yk_X0_putPair (hU.get hA1 (by simp [n1, n2, n3, Ne.symm n1, Ne.symm n2, Ne.symm n3])) rfl rfl ⟨⟨rfl, rfl⟩, by decide, by decide⟩ rfl hl.1 rfl (Nat.le_of_ble_eq_true rfl) dX0_forget_54 ⟨by decide, by decide⟩ (fun v w_ H locs hp hW => ?_)
          obtain ⟨rfl, hU1, hN1⟩ := hp
          have hU := hU.then hU1 (fun _ h => h)
          have hA3_ : w_[kw]? = some (aw, .inl (cy 1, 16, .inr (.inl (wd (upB (upB (freeM vn v i X) i true) (i ||| (2 ^ v)) true))))) := hN1
          clear hU1 hN1
          refine W.eq (g2 := F0 m 57 ls []) rfl ?_
          have hA3_ : w_[kw]? = some (aw, .inl (cy 1, 16, .inr (.inl (wd (freeM vn v (i + 1) X))))) := by
            rw [← freeM_step (b := true) hbf (by omega) hv (by first | rw [c_27]; rfl | rw [c_27, c_37]; rfl)]; exact hA3_
          refine lv_iinc (v := nI (i + 1)) (lv' := [(3, .int (nI (i + 1))), (4, .int (bI true)), (0, .ref ao), (1, .int (nI v)), (2, .int (nI (2 ^ v)))]) S.1 S.2.1 dX0_forget_57 hl (k := 4) rfl (nI_add _ 1) (by decide) rfl (fun ls hl => ?_)
          refine lv_goto (tgt := 6) S.1 S.2.1 dX0_forget_60 (by decide) ?_
          exact ih6 _ (by omega) (i + 1) rfl (by omega) w_ hU hA3_ H locs ls hW (lv_sub hl [2, 3, 4, 0] rfl)
        · refine lv_aload_n S.1 S.2.1 dX0_forget_30 rfl (lv_at hl 0 rfl) ?_
          refine lv_iload_n S.1 S.2.1 dX0_forget_31 rfl (lv_at hl 3 rfl) ?_
          refine lv_iload_n S.1 S.2.1 dX0_forget_32 rfl (lv_at hl 2 rfl) ?_
          refine jn_or S dX0_forget_33 ?_
          refine j_callV (k := ka) (ci := 0) (q := (RX0, TX0, 2)) (As := [.int (nI (i ||| (2 ^ v)))]) (rest := []) S hK hA hW (c_X0_has l D cy ka kl kw ao al aw (nI vn) (freeM vn v i X) (i ||| (2 ^ v)) (hU.get hA1 (by simp [n1, n2, n3, Ne.symm n1, Ne.symm n2, Ne.symm n3])) (hU.get hA2 (by simp [n1, n2, n3, Ne.symm n1, Ne.symm n2, Ne.symm n3])) hA3_ (by omega)) (jgo wm_X0_44) yk_X0_has (hU.get hA1 (by simp [n1, n2, n3, Ne.symm n1, Ne.symm n2, Ne.symm n3])) rfl rfl ⟨⟨rfl, rfl⟩, by decide, by decide⟩ rfl hl.1 rfl (Nat.le_of_ble_eq_true rfl) dX0_forget_34 ⟨by decide, by decide⟩ (fun v u H locs hp hW => ?_)
          obtain ⟨rfl, rfl⟩ := hp
          refine W.eq (g2 := F0 m 37 ls [.int (bI ((freeM vn v i X) (i ||| (2 ^ v))))]) rfl ?_
          refine lv_topi_to (y := bI (X (i ||| 2 ^ v))) (by rw [(freeM_get hbf).2]) ?_
          refine jb_if_eq (tgt := 44) S dX0_forget_37 (by decide) (fun c_37 => ?_) (fun c_37 => ?_)
          · refine lv_iconst (v := nI 0) S.1 S.2.1 dX0_forget_44 (by decide) ?_
            refine lv_topi_to (y := bI false) rfl ?_
            refine lv_istore (lv' := [(4, .int (bI false)), (0, .ref ao), (1, .int (nI v)), (2, .int (nI (2 ^ v))), (3, .int (nI i))]) S.1 S.2.1 dX0_forget_45 hl (by decide) rfl (fun ls hl => ?_)
            refine lv_aload_n S.1 S.2.1 dX0_forget_47 rfl (lv_at hl 1 rfl) ?_
            refine lv_iload_n S.1 S.2.1 dX0_forget_48 rfl (lv_at hl 4 rfl) ?_
            refine lv_iload_n S.1 S.2.1 dX0_forget_49 rfl (lv_at hl 4 rfl) ?_
            refine lv_iload_n S.1 S.2.1 dX0_forget_50 rfl (lv_at hl 3 rfl) ?_
            refine jn_or S dX0_forget_51 ?_
            refine lv_iload S.1 S.2.1 dX0_forget_52 (lv_at hl 0 rfl) ?_
            refine j_callV (k := ka) (ci := 0) (q := (RX0, TX0, 2)) (As := [.int (nI i), .int (nI (i ||| (2 ^ v))), .int (bI false)]) (rest := []) S hK hA hW (c_X0_putPair l D cy ka kl kw ao al aw (nI vn) (freeM vn v i X) i (i ||| (2 ^ v)) false (hU.get hA1 (by simp [n1, n2, n3, Ne.symm n1, Ne.symm n2, Ne.symm n3])) (hU.get hA2 (by simp [n1, n2, n3, Ne.symm n1, Ne.symm n2, Ne.symm n3])) hA3_ (by omega) (by omega)) (jgo wm_X0_48) yk_X0_putPair (hU.get hA1 (by simp [n1, n2, n3, Ne.symm n1, Ne.symm n2, Ne.symm n3])) rfl rfl ⟨⟨rfl, rfl⟩, by decide, by decide⟩ rfl hl.1 rfl (Nat.le_of_ble_eq_true rfl) dX0_forget_54 ⟨by decide, by decide⟩ (fun v w_ H locs hp hW => ?_)
            obtain ⟨rfl, hU1, hN1⟩ := hp
            have hU := hU.then hU1 (fun _ h => h)
            have hA3_ : w_[kw]? = some (aw, .inl (cy 1, 16, .inr (.inl (wd (upB (upB (freeM vn v i X) i false) (i ||| (2 ^ v)) false))))) := hN1
            clear hU1 hN1
            refine W.eq (g2 := F0 m 57 ls []) rfl ?_
            have hA3_ : w_[kw]? = some (aw, .inl (cy 1, 16, .inr (.inl (wd (freeM vn v (i + 1) X))))) := by
              rw [← freeM_step (b := false) hbf (by omega) hv (by first | rw [c_27]; rfl | rw [c_27, c_37]; rfl)]; exact hA3_
            refine lv_iinc (v := nI (i + 1)) (lv' := [(3, .int (nI (i + 1))), (4, .int (bI false)), (0, .ref ao), (1, .int (nI v)), (2, .int (nI (2 ^ v)))]) S.1 S.2.1 dX0_forget_57 hl (k := 4) rfl (nI_add _ 1) (by decide) rfl (fun ls hl => ?_)
            refine lv_goto (tgt := 6) S.1 S.2.1 dX0_forget_60 (by decide) ?_
            exact ih6 _ (by omega) (i + 1) rfl (by omega) w_ hU hA3_ H locs ls hW (lv_sub hl [2, 3, 4, 0] rfl)
          · refine lv_iconst (v := nI 1) S.1 S.2.1 dX0_forget_40 (by decide) ?_
            refine lv_goto (tgt := 45) S.1 S.2.1 dX0_forget_41 (by decide) ?_
            refine lv_topi_to (y := bI true) rfl ?_
            refine lv_istore (lv' := [(4, .int (bI true)), (0, .ref ao), (1, .int (nI v)), (2, .int (nI (2 ^ v))), (3, .int (nI i))]) S.1 S.2.1 dX0_forget_45 hl (by decide) rfl (fun ls hl => ?_)
            refine lv_aload_n S.1 S.2.1 dX0_forget_47 rfl (lv_at hl 1 rfl) ?_
            refine lv_iload_n S.1 S.2.1 dX0_forget_48 rfl (lv_at hl 4 rfl) ?_
            refine lv_iload_n S.1 S.2.1 dX0_forget_49 rfl (lv_at hl 4 rfl) ?_
            refine lv_iload_n S.1 S.2.1 dX0_forget_50 rfl (lv_at hl 3 rfl) ?_
            refine jn_or S dX0_forget_51 ?_
            refine lv_iload S.1 S.2.1 dX0_forget_52 (lv_at hl 0 rfl) ?_
            refine j_callV (k := ka) (ci := 0) (q := (RX0, TX0, 2)) (As := [.int (nI i), .int (nI (i ||| (2 ^ v))), .int (bI true)]) (rest := []) S hK hA hW (c_X0_putPair l D cy ka kl kw ao al aw (nI vn) (freeM vn v i X) i (i ||| (2 ^ v)) true (hU.get hA1 (by simp [n1, n2, n3, Ne.symm n1, Ne.symm n2, Ne.symm n3])) (hU.get hA2 (by simp [n1, n2, n3, Ne.symm n1, Ne.symm n2, Ne.symm n3])) hA3_ (by omega) (by omega)) (jgo wm_X0_48) yk_X0_putPair (hU.get hA1 (by simp [n1, n2, n3, Ne.symm n1, Ne.symm n2, Ne.symm n3])) rfl rfl ⟨⟨rfl, rfl⟩, by decide, by decide⟩ rfl hl.1 rfl (Nat.le_of_ble_eq_true rfl) dX0_forget_54 ⟨by decide, by decide⟩ (fun v w_ H locs hp hW => ?_)
            obtain ⟨rfl, hU1, hN1⟩ := hp
            have hU := hU.then hU1 (fun _ h => h)
            have hA3_ : w_[kw]? = some (aw, .inl (cy 1, 16, .inr (.inl (wd (upB (upB (freeM vn v i X) i true) (i ||| (2 ^ v)) true))))) := hN1
            clear hU1 hN1
            refine W.eq (g2 := F0 m 57 ls []) rfl ?_
            have hA3_ : w_[kw]? = some (aw, .inl (cy 1, 16, .inr (.inl (wd (freeM vn v (i + 1) X))))) := by
              rw [← freeM_step (b := true) hbf (by omega) hv (by first | rw [c_27]; rfl | rw [c_27, c_37]; rfl)]; exact hA3_
            refine lv_iinc (v := nI (i + 1)) (lv' := [(3, .int (nI (i + 1))), (4, .int (bI true)), (0, .ref ao), (1, .int (nI v)), (2, .int (nI (2 ^ v)))]) S.1 S.2.1 dX0_forget_57 hl (k := 4) rfl (nI_add _ 1) (by decide) rfl (fun ls hl => ?_)
            refine lv_goto (tgt := 6) S.1 S.2.1 dX0_forget_60 (by decide) ?_
            exact ih6 _ (by omega) (i + 1) rfl (by omega) w_ hU hA3_ H locs ls hW (lv_sub hl [2, 3, 4, 0] rfl)
  exact L6 _ 0 rfl (Nat.zero_le _) w jU.rf hA3_ H locs ls hW (lv_sub hl [2, 3, 1, 0] rfl)
