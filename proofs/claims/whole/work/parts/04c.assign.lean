/-! Assignments: loops over the words (laid by wip/whole/tools, from the specs there) -/
/-- restart: no assignment any more -/
theorem c_X0_restart (l : Launch) (D : va_G) (cy : Nat → ClassId) {w : va_W} (ka kl kw ao al aw : Nat) (vs : Int32) (X : Nat → Bool) (v1 : Int32) (hA1 : w[ka]? = some (ao, .inr (0, [.ref al, .int vs]))) (hA2 : w[kl]? = some (al, .inr (6, [.ref aw]))) (hA3 : w[kw]? = some (aw, .inl (cy 1, 16, .inr (.inl (wd X))))) : jM l yX0_restart (jws yX0_restart cX0_restart 3 none) (jR 1 0 0) D cy w [.ref ao, .int v1] 0 0 (fun vv uu => vv = none ∧ jU w uu [ka, kw] ∧ uu[ka]? = some (ao, .inr (0, [.ref al, .int v1])) ∧ uu[kw]? = some (aw, .inl (cy 1, 16, .inr (.inl (wd (fun _ => false)))))) := by
  have n1 : kl ≠ ka := jne_oo hA2 hA1 (by decide)
  have n2 : kl ≠ kw := jne_oa hA2 hA3
  have n3 : ka ≠ kw := jne_oa hA1 hA3
  refine j_of (by decide) rfl (Nat.le_of_ble_eq_true rfl) ?_
  intro p e s m args below meth c A ls Q hQ S hr hK hA H locs hW hl
  have hl : lv_has ls 3 [(0, .ref ao), (1, .int v1)] := hl
  refine lv_aload_n S.1 S.2.1 dX0_restart_0 rfl (lv_at hl 0 rfl) ?_
  refine lv_iload_n S.1 S.2.1 dX0_restart_1 rfl (lv_at hl 1 rfl) ?_
  refine j_put (ci := 0) (C := RX0) (T := TX0) (N := 2) (ty := .int) S (fun w h => List.mem_cons_of_mem _ (inG0 w h)) tyX0 tyX0_ok nmX0 hK hW hA1 rfl 1 (by decide) (List.mem_cons_of_mem _ wfl_X0_20) (fun _ h9 => h9) rfl (by decide +kernel) (rfl) (rfl) (Nat.le_of_ble_eq_true rfl) dX0_restart_2 (fun H locs w_ hU1 hN1 hW => ?_)
  have hU : jU w w_ [ka, kw] := jU.mono hU1 (by simp)
  have hA3_ := hU1.get hA3 (by simp [n1, n2, n3, Ne.symm n1, Ne.symm n2, Ne.symm n3])
  have hA1_ : w_[ka]? = some (ao, .inr (0, [.ref al, .int v1])) := hN1
  clear hU1 hN1
  refine lv_iconst (v := nI 0) S.1 S.2.1 dX0_restart_5 (by decide) ?_
  refine lv_istore_n (lv' := [(2, .int (nI 0)), (0, .ref ao), (1, .int v1)]) S.1 S.2.1 dX0_restart_6 rfl hl (by decide) rfl (fun ls hl => ?_)
  have hA3_ : w_[kw]? = some (aw, .inl (cy 1, 16, .inr (.inl (wd (mixS 0 (fun _ => false) X))))) := by
    rw [mixS_0]; exact hA3_
  have L7 : ∀ (k : Nat) (i : Nat), 16 - i = k → (i ≤ 16) → ∀ (w_ : va_W), jU w w_ [ka, kw] → (w_[ka]? = some (ao, .inr (0, [.ref al, .int v1]))) → (w_[kw]? = some (aw, .inl (cy 1, 16, .inr (.inl (wd (mixS i (fun _ => false) X)))))) → ∀ (H : Heap) (locs : List Loc) (ls : Array Slot), jW D A s.heap w_ H locs → lv_has ls 3 [(0, .ref ao), (2, .int (nI i))] → W p l e (jR 1 0 0) s m args below meth c H locs 0 0 Q (F0 m 7 ls []) := by
    intro k
    induction k using Nat.strongRecOn with
    | ind k ih7 =>
    intro i hk hi w_ hU hA1_ hA3_ H locs ls hW hl
    subst hk
    refine lv_iload_n S.1 S.2.1 dX0_restart_7 rfl (lv_at hl 1 rfl) ?_
    refine lv_aload_n S.1 S.2.1 dX0_restart_8 rfl (lv_at hl 0 rfl) ?_
    refine j_get (ci := 0) (C := RX0) (T := TX0) (N := 2) (v := .ref al) S (fun w h => List.mem_cons_of_mem _ (inG0 w h)) hK hW hA1_ rfl 0 (by decide) (List.mem_cons_of_mem _ wfl_X0_16) (fun _ h9 => h9) rfl dX0_restart_9 ?_
    refine j_callV (k := kl) (ci := 6) (q := (RX7, TX7, 1)) (As := []) (rest := [.int (nI i)]) S hK hA hW (c_X7_length l D cy kl kw al aw 16 (wd (mixS i (fun _ => false) X)) (hU.get hA2 (by simp [n1, n2, n3, Ne.symm n1, Ne.symm n2, Ne.symm n3])) hA3_ ) (jgo wm_X0_24) yk_X7_length (hU.get hA2 (by simp [n1, n2, n3, Ne.symm n1, Ne.symm n2, Ne.symm n3])) rfl rfl ⟨⟨rfl, rfl⟩, by decide, by decide⟩ rfl hl.1 rfl (Nat.le_of_ble_eq_true rfl) dX0_restart_12 ⟨by decide, by decide⟩ (fun v u H locs hp hW => ?_)
    obtain ⟨rfl, rfl⟩ := hp
    refine W.eq (g2 := F0 m 15 ls [.int (nI 16), .int (nI i)]) rfl ?_
    refine jn_cmp_ge (tgt := 33) S (by omega) (by omega) dX0_restart_15 (by decide) (fun c_15 => ?_) (fun c_15 => ?_)
    · obtain ⟨w_, hU1, hN1, hW⟩ := j_ghostJ (wd (fun _ => false)) hW hA3_ (fun j hj => by rw [show i = 16 by omega]; exact mixS_end hj)
      have hU := hU.then hU1 (by simp)
      have hA1_ := hU1.get hA1_ (by simp [n1, n2, n3, Ne.symm n1, Ne.symm n2, Ne.symm n3])
      have hA3_ : w_[kw]? = some (aw, .inl (cy 1, 16, .inr (.inl (wd (fun _ => false))))) := hN1
      clear hU1 hN1
      subst hQ
      exact j_vret (u := w_) S hr hK hW dX0_restart_33 ⟨by decide, by decide⟩ (⟨rfl, hU, hA1_, hA3_⟩)
    · refine lv_aload_n S.1 S.2.1 dX0_restart_18 rfl (lv_at hl 0 rfl) ?_
      refine j_get (ci := 0) (C := RX0) (T := TX0) (N := 2) (v := .ref al) S (fun w h => List.mem_cons_of_mem _ (inG0 w h)) hK hW hA1_ rfl 0 (by decide) (List.mem_cons_of_mem _ wfl_X0_16) (fun _ h9 => h9) rfl dX0_restart_19 ?_
      refine lv_iload_n S.1 S.2.1 dX0_restart_22 rfl (lv_at hl 1 rfl) ?_
      refine lv_lconst (v := lN 0) S.1 S.2.1 dX0_restart_23 (by decide) ?_
      refine j_callV (k := kl) (ci := 6) (q := (RX7, TX7, 1)) (As := [.int (nI i), .long (lN 0)]) (rest := []) S hK hA hW (c_X7_put l D cy kl kw al aw 16 (wd (mixS i (fun _ => false) X)) (nI i) (lN 0) (hU.get hA2 (by simp [n1, n2, n3, Ne.symm n1, Ne.symm n2, Ne.symm n3])) hA3_ (by decide)) (jgo wm_X0_28) yk_X7_put (hU.get hA2 (by simp [n1, n2, n3, Ne.symm n1, Ne.symm n2, Ne.symm n3])) rfl rfl ⟨⟨rfl, rfl⟩, by decide, by decide⟩ rfl hl.1 rfl (Nat.le_of_ble_eq_true rfl) dX0_restart_24 ⟨by decide, by decide⟩ (fun v w_ H locs hp hW => ?_)
      obtain ⟨rfl, hU1, hN1⟩ := hp
      have hU := hU.then hU1 (by simp)
      have hA1_ := hU1.get hA1_ (by simp [n1, n2, n3, Ne.symm n1, Ne.symm n2, Ne.symm n3])
      have hA3_ : w_[kw]? = some (aw, .inl (cy 1, 16, .inr (.inl (wrL (wd (mixS i (fun _ => false) X)) 16 (nI i) (lN 0))))) := hN1
      clear hU1 hN1
      refine W.eq (g2 := F0 m 27 ls []) rfl ?_
      have hA3_ : w_[kw]? = some (aw, .inl (cy 1, 16, .inr (.inl (wd (mixS (i + 1) (fun _ => false) X))))) := by
        rw [← mixS_s (i := i) (S := fun _ => false) (T := X) (N := 0) (by decide) (fun b _ => Nat.zero_testBit b), ← wrL_nI (j := i) (n := 16) (by omega) (by decide)]; exact hA3_
      refine lv_iinc (v := nI (i + 1)) (lv' := [(2, .int (nI (i + 1))), (0, .ref ao)]) S.1 S.2.1 dX0_restart_27 hl (k := 1) rfl (nI_add _ 1) (by decide) rfl (fun ls hl => ?_)
      refine lv_goto (tgt := 7) S.1 S.2.1 dX0_restart_30 (by decide) ?_
      exact ih7 _ (by omega) (i + 1) rfl (by omega) w_ hU hA1_ hA3_ H locs ls hW (lv_sub hl [1, 0] rfl)
  exact L7 _ 0 rfl (by decide) w_ hU hA1_ hA3_ H locs ls hW (lv_sub hl [1, 0] rfl)
/-- copy of another one -/
theorem c_X0_copy (l : Launch) (D : va_G) (cy : Nat → ClassId) {w : va_W} (ka kl kw ao al aw : Nat) (vs : Int32) (X : Nat → Bool) (kal kll kwl aol all awl : Nat) (vsl : Int32) (Xl : Nat → Bool) (hA1 : w[ka]? = some (ao, .inr (0, [.ref al, .int vs]))) (hA2 : w[kl]? = some (al, .inr (6, [.ref aw]))) (hA3 : w[kw]? = some (aw, .inl (cy 1, 16, .inr (.inl (wd X))))) (hA1l : w[kal]? = some (aol, .inr (0, [.ref all, .int vsl]))) (hA2l : w[kll]? = some (all, .inr (6, [.ref awl]))) (hA3l : w[kwl]? = some (awl, .inl (cy 1, 16, .inr (.inl (wd Xl))))) (nkl : kal ≠ ka) (nwl : kwl ≠ kw) : jM l yX0_copy (jws yX0_copy cX0_copy 3 none) (jR 1 0 0) D cy w [.ref ao, .ref aol] 0 0 (fun vv uu => vv = none ∧ jU w uu [ka, kw] ∧ uu[ka]? = some (ao, .inr (0, [.ref al, .int vsl])) ∧ uu[kw]? = some (aw, .inl (cy 1, 16, .inr (.inl (wd Xl))))) := by
  have n1 : kl ≠ ka := jne_oo hA2 hA1 (by decide)
  have n2 : kl ≠ kw := jne_oa hA2 hA3
  have n3 : ka ≠ kw := jne_oa hA1 hA3
  have m1l : kal ≠ kw := jne_oa hA1l hA3
  have m2l : kll ≠ ka := jne_oo hA2l hA1 (by decide)
  have m3l : kll ≠ kw := jne_oa hA2l hA3
  have m4l : kwl ≠ ka := jne_ao hA3l hA1
  refine j_of (by decide) rfl (Nat.le_of_ble_eq_true rfl) ?_
  intro p e s m args below meth c A ls Q hQ S hr hK hA H locs hW hl
  have hl : lv_has ls 3 [(0, .ref ao), (1, .ref aol)] := hl
  refine lv_aload_n S.1 S.2.1 dX0_copy_0 rfl (lv_at hl 0 rfl) ?_
  refine lv_aload_n S.1 S.2.1 dX0_copy_1 rfl (lv_at hl 1 rfl) ?_
  refine j_get (ci := 0) (C := RX0) (T := TX0) (N := 2) (v := .int vsl) S (fun w h => List.mem_cons_of_mem _ (inG0 w h)) hK hW hA1l rfl 1 (by decide) (List.mem_cons_of_mem _ wfl_X0_20) (fun _ h9 => h9) rfl dX0_copy_2 ?_
  refine j_put (ci := 0) (C := RX0) (T := TX0) (N := 2) (ty := .int) S (fun w h => List.mem_cons_of_mem _ (inG0 w h)) tyX0 tyX0_ok nmX0 hK hW hA1 rfl 1 (by decide) (List.mem_cons_of_mem _ wfl_X0_20) (fun _ h9 => h9) rfl (by decide +kernel) (rfl) (rfl) (Nat.le_of_ble_eq_true rfl) dX0_copy_5 (fun H locs w_ hU1 hN1 hW => ?_)
  have hU : jU w w_ [ka, kw] := jU.mono hU1 (by simp)
  have hA3_ := hU1.get hA3 (by simp [n1, n2, n3, Ne.symm n1, Ne.symm n2, Ne.symm n3, m1l, m2l, m3l, m4l, nkl, nwl])
  have hA1_ : w_[ka]? = some (ao, .inr (0, [.ref al, .int vsl])) := hN1
  clear hU1 hN1
  refine lv_iconst (v := nI 0) S.1 S.2.1 dX0_copy_8 (by decide) ?_
  refine lv_istore_n (lv' := [(2, .int (nI 0)), (0, .ref ao), (1, .ref aol)]) S.1 S.2.1 dX0_copy_9 rfl hl (by decide) rfl (fun ls hl => ?_)
  have hA3_ : w_[kw]? = some (aw, .inl (cy 1, 16, .inr (.inl (wd (mixS 0 (Xl) X))))) := by
    rw [mixS_0]; exact hA3_
  have L10 : ∀ (k : Nat) (i : Nat), 16 - i = k → (i ≤ 16) → ∀ (w_ : va_W), jU w w_ [ka, kw] → (w_[ka]? = some (ao, .inr (0, [.ref al, .int vsl]))) → (w_[kw]? = some (aw, .inl (cy 1, 16, .inr (.inl (wd (mixS i (Xl) X)))))) → ∀ (H : Heap) (locs : List Loc) (ls : Array Slot), jW D A s.heap w_ H locs → lv_has ls 3 [(0, .ref ao), (1, .ref aol), (2, .int (nI i))] → W p l e (jR 1 0 0) s m args below meth c H locs 0 0 Q (F0 m 10 ls []) := by
    intro k
    induction k using Nat.strongRecOn with
    | ind k ih10 =>
    intro i hk hi w_ hU hA1_ hA3_ H locs ls hW hl
    subst hk
    refine lv_iload_n S.1 S.2.1 dX0_copy_10 rfl (lv_at hl 2 rfl) ?_
    refine lv_aload_n S.1 S.2.1 dX0_copy_11 rfl (lv_at hl 0 rfl) ?_
    refine j_get (ci := 0) (C := RX0) (T := TX0) (N := 2) (v := .ref al) S (fun w h => List.mem_cons_of_mem _ (inG0 w h)) hK hW hA1_ rfl 0 (by decide) (List.mem_cons_of_mem _ wfl_X0_16) (fun _ h9 => h9) rfl dX0_copy_12 ?_
    refine j_callV (k := kl) (ci := 6) (q := (RX7, TX7, 1)) (As := []) (rest := [.int (nI i)]) S hK hA hW (c_X7_length l D cy kl kw al aw 16 (wd (mixS i (Xl) X)) (hU.get hA2 (by simp [n1, n2, n3, Ne.symm n1, Ne.symm n2, Ne.symm n3, m1l, m2l, m3l, m4l, nkl, nwl])) hA3_ ) (jgo wm_X0_24) yk_X7_length (hU.get hA2 (by simp [n1, n2, n3, Ne.symm n1, Ne.symm n2, Ne.symm n3, m1l, m2l, m3l, m4l, nkl, nwl])) rfl rfl ⟨⟨rfl, rfl⟩, by decide, by decide⟩ rfl hl.1 rfl (Nat.le_of_ble_eq_true rfl) dX0_copy_15 ⟨by decide, by decide⟩ (fun v u H locs hp hW => ?_)
    obtain ⟨rfl, rfl⟩ := hp
    refine W.eq (g2 := F0 m 18 ls [.int (nI 16), .int (nI i)]) rfl ?_
    refine jn_cmp_ge (tgt := 43) S (by omega) (by omega) dX0_copy_18 (by decide) (fun c_18 => ?_) (fun c_18 => ?_)
    · obtain ⟨w_, hU1, hN1, hW⟩ := j_ghostJ (wd (Xl)) hW hA3_ (fun j hj => by rw [show i = 16 by omega]; exact mixS_end hj)
      have hU := hU.then hU1 (by simp)
      have hA1_ := hU1.get hA1_ (by simp [n1, n2, n3, Ne.symm n1, Ne.symm n2, Ne.symm n3, m1l, m2l, m3l, m4l, nkl, nwl])
      have hA3_ : w_[kw]? = some (aw, .inl (cy 1, 16, .inr (.inl (wd (Xl))))) := hN1
      clear hU1 hN1
      subst hQ
      exact j_vret (u := w_) S hr hK hW dX0_copy_43 ⟨by decide, by decide⟩ (⟨rfl, hU, hA1_, hA3_⟩)
    · refine lv_aload_n S.1 S.2.1 dX0_copy_21 rfl (lv_at hl 0 rfl) ?_
      refine j_get (ci := 0) (C := RX0) (T := TX0) (N := 2) (v := .ref al) S (fun w h => List.mem_cons_of_mem _ (inG0 w h)) hK hW hA1_ rfl 0 (by decide) (List.mem_cons_of_mem _ wfl_X0_16) (fun _ h9 => h9) rfl dX0_copy_22 ?_
      refine lv_iload_n S.1 S.2.1 dX0_copy_25 rfl (lv_at hl 2 rfl) ?_
      refine lv_aload_n S.1 S.2.1 dX0_copy_26 rfl (lv_at hl 1 rfl) ?_
      refine j_get (ci := 0) (C := RX0) (T := TX0) (N := 2) (v := .ref all) S (fun w h => List.mem_cons_of_mem _ (inG0 w h)) hK hW (hU.get hA1l (by simp [n1, n2, n3, Ne.symm n1, Ne.symm n2, Ne.symm n3, m1l, m2l, m3l, m4l, nkl, nwl])) rfl 0 (by decide) (List.mem_cons_of_mem _ wfl_X0_16) (fun _ h9 => h9) rfl dX0_copy_27 ?_
      refine lv_iload_n S.1 S.2.1 dX0_copy_30 rfl (lv_at hl 2 rfl) ?_
      refine j_callV (k := kll) (ci := 6) (q := (RX7, TX7, 1)) (As := [.int (nI i)]) (rest := [.int (nI i), .ref al]) S hK hA hW (c_X7_at l D cy kll kwl all awl 16 (wd Xl) (nI i) (hU.get hA2l (by simp [n1, n2, n3, Ne.symm n1, Ne.symm n2, Ne.symm n3, m1l, m2l, m3l, m4l, nkl, nwl])) (hU.get hA3l (by simp [n1, n2, n3, Ne.symm n1, Ne.symm n2, Ne.symm n3, m1l, m2l, m3l, m4l, nkl, nwl])) (by decide)) (jgo wm_X0_32) yk_X7_at (hU.get hA2l (by simp [n1, n2, n3, Ne.symm n1, Ne.symm n2, Ne.symm n3, m1l, m2l, m3l, m4l, nkl, nwl])) rfl rfl ⟨⟨rfl, rfl⟩, by decide, by decide⟩ rfl hl.1 rfl (Nat.le_of_ble_eq_true rfl) dX0_copy_31 ⟨by decide, by decide⟩ (fun v u H locs hp hW => ?_)
      obtain ⟨rfl, rfl⟩ := hp
      refine W.eq (g2 := F0 m 34 ls [.long (rdL (wd Xl) 16 (nI i)), .int (nI i), .ref al]) rfl ?_
      refine lv_topl_to (y := lN (wdN Xl i)) (rdL_nI (by omega) (by decide)) ?_
      refine j_callV (k := kl) (ci := 6) (q := (RX7, TX7, 1)) (As := [.int (nI i), .long (lN (wdN Xl i))]) (rest := []) S hK hA hW (c_X7_put l D cy kl kw al aw 16 (wd (mixS i (Xl) X)) (nI i) (lN (wdN Xl i)) (hU.get hA2 (by simp [n1, n2, n3, Ne.symm n1, Ne.symm n2, Ne.symm n3, m1l, m2l, m3l, m4l, nkl, nwl])) hA3_ (by decide)) (jgo wm_X0_28) yk_X7_put (hU.get hA2 (by simp [n1, n2, n3, Ne.symm n1, Ne.symm n2, Ne.symm n3, m1l, m2l, m3l, m4l, nkl, nwl])) rfl rfl ⟨⟨rfl, rfl⟩, by decide, by decide⟩ rfl hl.1 rfl (Nat.le_of_ble_eq_true rfl) dX0_copy_34 ⟨by decide, by decide⟩ (fun v w_ H locs hp hW => ?_)
      obtain ⟨rfl, hU1, hN1⟩ := hp
      have hU := hU.then hU1 (by simp)
      have hA1_ := hU1.get hA1_ (by simp [n1, n2, n3, Ne.symm n1, Ne.symm n2, Ne.symm n3, m1l, m2l, m3l, m4l, nkl, nwl])
      have hA3_ : w_[kw]? = some (aw, .inl (cy 1, 16, .inr (.inl (wrL (wd (mixS i (Xl) X)) 16 (nI i) (lN (wdN Xl i)))))) := hN1
      clear hU1 hN1
      refine W.eq (g2 := F0 m 37 ls []) rfl ?_
      have hA3_ : w_[kw]? = some (aw, .inl (cy 1, 16, .inr (.inl (wd (mixS (i + 1) (Xl) X))))) := by
        rw [← mixS_s (i := i) (S := Xl) (T := X) (N := (wdN Xl i)) (wdN_lt _ _) (fun b hb => wdN_bit Xl i b hb), ← wrL_nI (j := i) (n := 16) (by omega) (by decide)]; exact hA3_
      refine lv_iinc (v := nI (i + 1)) (lv' := [(2, .int (nI (i + 1))), (0, .ref ao), (1, .ref aol)]) S.1 S.2.1 dX0_copy_37 hl (k := 2) rfl (nI_add _ 1) (by decide) rfl (fun ls hl => ?_)
      refine lv_goto (tgt := 10) S.1 S.2.1 dX0_copy_40 (by decide) ?_
      exact ih10 _ (by omega) (i + 1) rfl (by omega) w_ hU hA1_ hA3_ H locs ls hW (lv_sub hl [1, 2, 0] rfl)
  exact L10 _ 0 rfl (by decide) w_ hU hA1_ hA3_ H locs ls hW (lv_sub hl [1, 2, 0] rfl)
/-- isContainedIn -/
theorem c_X0_isContainedIn (l : Launch) (D : va_G) (cy : Nat → ClassId) {w : va_W} (ka kl kw ao al aw : Nat) (vs : Int32) (X : Nat → Bool) (kal kll kwl aol all awl : Nat) (vsl : Int32) (Xl : Nat → Bool) (hA1 : w[ka]? = some (ao, .inr (0, [.ref al, .int vs]))) (hA2 : w[kl]? = some (al, .inr (6, [.ref aw]))) (hA3 : w[kw]? = some (aw, .inl (cy 1, 16, .inr (.inl (wd X))))) (hA1l : w[kal]? = some (aol, .inr (0, [.ref all, .int vsl]))) (hA2l : w[kll]? = some (all, .inr (6, [.ref awl]))) (hA3l : w[kwl]? = some (awl, .inl (cy 1, 16, .inr (.inl (wd Xl))))) : jM l yX0_isContainedIn (jws yX0_isContainedIn cX0_isContainedIn 3 (some .boolean)) (jR 1 0 0) D cy w [.ref ao, .ref aol] 0 0 (fun vv uu => vv = some (.int (bI (allB (fun a => !X a || Xl a) 1024))) ∧ w = uu) := by
  refine j_of (by decide) rfl (Nat.le_of_ble_eq_true rfl) ?_
  intro p e s m args below meth c A ls Q hQ S hr hK hA H locs hW hl
  have hl : lv_has ls 3 [(0, .ref ao), (1, .ref aol)] := hl
  refine lv_iconst (v := nI 0) S.1 S.2.1 dX0_isContainedIn_0 (by decide) ?_
  refine lv_istore_n (lv' := [(2, .int (nI 0)), (0, .ref ao), (1, .ref aol)]) S.1 S.2.1 dX0_isContainedIn_1 rfl hl (by decide) rfl (fun ls hl => ?_)
  have L2 : ∀ (k : Nat) (i : Nat), 16 - i = k → (i ≤ 16) → (∀ a, a < 64 * i → (!X a || Xl a) = true) → ∀ (H : Heap) (locs : List Loc) (ls : Array Slot), jW D A s.heap w H locs → lv_has ls 3 [(0, .ref ao), (1, .ref aol), (2, .int (nI i))] → W p l e (jR 1 0 0) s m args below meth c H locs 0 0 Q (F0 m 2 ls []) := by
    intro k
    induction k using Nat.strongRecOn with
    | ind k ih2 =>
    intro i hk hi hall H locs ls hW hl
    subst hk
    refine lv_iload_n S.1 S.2.1 dX0_isContainedIn_2 rfl (lv_at hl 2 rfl) ?_
    refine lv_aload_n S.1 S.2.1 dX0_isContainedIn_3 rfl (lv_at hl 0 rfl) ?_
    refine j_get (ci := 0) (C := RX0) (T := TX0) (N := 2) (v := .ref al) S (fun w h => List.mem_cons_of_mem _ (inG0 w h)) hK hW hA1 rfl 0 (by decide) (List.mem_cons_of_mem _ wfl_X0_16) (fun _ h9 => h9) rfl dX0_isContainedIn_4 ?_
    refine j_callV (k := kl) (ci := 6) (q := (RX7, TX7, 1)) (As := []) (rest := [.int (nI i)]) S hK hA hW (c_X7_length l D cy kl kw al aw 16 (wd X) hA2 hA3 ) (jgo wm_X0_24) yk_X7_length hA2 rfl rfl ⟨⟨rfl, rfl⟩, by decide, by decide⟩ rfl hl.1 rfl (Nat.le_of_ble_eq_true rfl) dX0_isContainedIn_7 ⟨by decide, by decide⟩ (fun v u H locs hp hW => ?_)
    obtain ⟨rfl, rfl⟩ := hp
    refine W.eq (g2 := F0 m 10 ls [.int (nI 16), .int (nI i)]) rfl ?_
    refine jn_cmp_ge (tgt := 47) S (by omega) (by omega) dX0_isContainedIn_10 (by decide) (fun c_10 => ?_) (fun c_10 => ?_)
    · refine lv_iconst (v := nI 1) S.1 S.2.1 dX0_isContainedIn_47 (by decide) ?_
      subst hQ
      refine j_iret (u := w) S hr (rfl) hK hW dX0_isContainedIn_48 ⟨by decide, by decide⟩ ?_
      exact ⟨bI_T (allB_iff.mpr (fun a ha => hall a (by omega))), rfl⟩
    · refine lv_aload_n S.1 S.2.1 dX0_isContainedIn_13 rfl (lv_at hl 0 rfl) ?_
      refine j_get (ci := 0) (C := RX0) (T := TX0) (N := 2) (v := .ref al) S (fun w h => List.mem_cons_of_mem _ (inG0 w h)) hK hW hA1 rfl 0 (by decide) (List.mem_cons_of_mem _ wfl_X0_16) (fun _ h9 => h9) rfl dX0_isContainedIn_14 ?_
      refine lv_iload_n S.1 S.2.1 dX0_isContainedIn_17 rfl (lv_at hl 2 rfl) ?_
      refine j_callV (k := kl) (ci := 6) (q := (RX7, TX7, 1)) (As := [.int (nI i)]) (rest := []) S hK hA hW (c_X7_at l D cy kl kw al aw 16 (wd X) (nI i) hA2 hA3 (by decide)) (jgo wm_X0_32) yk_X7_at hA2 rfl rfl ⟨⟨rfl, rfl⟩, by decide, by decide⟩ rfl hl.1 rfl (Nat.le_of_ble_eq_true rfl) dX0_isContainedIn_18 ⟨by decide, by decide⟩ (fun v u H locs hp hW => ?_)
      obtain ⟨rfl, rfl⟩ := hp
      refine W.eq (g2 := F0 m 21 ls [.long (rdL (wd X) 16 (nI i))]) rfl ?_
      refine lv_topl_to (y := lN (wdN X i)) (rdL_nI (by omega) (by decide)) ?_
      refine lv_aload_n S.1 S.2.1 dX0_isContainedIn_21 rfl (lv_at hl 1 rfl) ?_
      refine j_get (ci := 0) (C := RX0) (T := TX0) (N := 2) (v := .ref all) S (fun w h => List.mem_cons_of_mem _ (inG0 w h)) hK hW hA1l rfl 0 (by decide) (List.mem_cons_of_mem _ wfl_X0_16) (fun _ h9 => h9) rfl dX0_isContainedIn_22 ?_
      refine lv_iload_n S.1 S.2.1 dX0_isContainedIn_25 rfl (lv_at hl 2 rfl) ?_
      refine j_callV (k := kll) (ci := 6) (q := (RX7, TX7, 1)) (As := [.int (nI i)]) (rest := [.long (lN (wdN X i))]) S hK hA hW (c_X7_at l D cy kll kwl all awl 16 (wd Xl) (nI i) hA2l hA3l (by decide)) (jgo wm_X0_32) yk_X7_at hA2l rfl rfl ⟨⟨rfl, rfl⟩, by decide, by decide⟩ rfl hl.1 rfl (Nat.le_of_ble_eq_true rfl) dX0_isContainedIn_26 ⟨by decide, by decide⟩ (fun v u H locs hp hW => ?_)
      obtain ⟨rfl, rfl⟩ := hp
      refine W.eq (g2 := F0 m 29 ls [.long (rdL (wd Xl) 16 (nI i)), .long (lN (wdN X i))]) rfl ?_
      refine lv_topl_to (y := lN (wdN Xl i)) (rdL_nI (by omega) (by decide)) ?_
      refine lv_ldc2 (v := (-1)) S.1 S.2.1 S.2.2.2.1 (S.2.2.2.2 _ (List.mem_cons_of_mem _ wk_X0_42)) dX0_isContainedIn_29 ?_
      refine lv_lxor S.1 S.2.1 dX0_isContainedIn_32 ?_
      refine lv_land S.1 S.2.1 dX0_isContainedIn_33 ?_
      refine lv_topl_to (y := lN (nAnd (wdN X i) (wdN Xl i))) (lN_andn (wdN_lt _ _) (wdN_lt _ _)) ?_
      refine lv_lconst (v := lN 0) S.1 S.2.1 dX0_isContainedIn_34 (by decide) ?_
      refine jnz_eq (tgt := 41) S (nAnd_lt (wdN_lt _ _)) (by decide) dX0_isContainedIn_35 dX0_isContainedIn_36 (by decide) (fun c_36 => ?_) (fun c_36 => ?_)
      · have c_36 := (wd_sub0 X Xl i).mp c_36
        refine lv_iinc (v := nI (i + 1)) (lv' := [(2, .int (nI (i + 1))), (0, .ref ao), (1, .ref aol)]) S.1 S.2.1 dX0_isContainedIn_41 hl (k := 2) rfl (nI_add _ 1) (by decide) rfl (fun ls hl => ?_)
        refine lv_goto (tgt := 2) S.1 S.2.1 dX0_isContainedIn_44 (by decide) ?_
        exact ih2 _ (by omega) (i + 1) rfl (by omega) (fun a h => by
          rcases Nat.lt_or_ge a (64 * i) with q | q
          · exact hall a q
          · have := c_36 (a - 64 * i) (by omega)
            rwa [show 64 * i + (a - 64 * i) = a by omega] at this) H locs ls hW (lv_sub hl [1, 2, 0] rfl)
      · refine lv_iconst (v := nI 0) S.1 S.2.1 dX0_isContainedIn_39 (by decide) ?_
        subst hQ
        refine j_iret (u := w) S hr (rfl) hK hW dX0_isContainedIn_40 ⟨by decide, by decide⟩ ?_
        have hz : allB (fun a => !X a || Xl a) 1024 = false := by
          cases hz : allB (fun a => !X a || Xl a) 1024
          · rfl
          · exact absurd ((wd_sub0 X Xl i).mpr (fun b hb => allB_iff.mp hz _ (by omega))) c_36
        exact ⟨bI_F hz, rfl⟩
  exact L2 _ 0 rfl (by decide) (fun a h => absurd h (by omega)) H locs ls hW (lv_sub hl [1, 2, 0] rfl)
/-- combine: three -/
theorem c_X0_combine (l : Launch) (D : va_G) (cy : Nat → ClassId) {w : va_W} (ka kl kw ao al aw : Nat) (vs : Int32) (X : Nat → Bool) (kal kll kwl aol all awl : Nat) (vsl : Int32) (Xl : Nat → Bool) (kar klr kwr aor alr awr : Nat) (vsr : Int32) (Xr : Nat → Bool) (hw : Nat) (hA1 : w[ka]? = some (ao, .inr (0, [.ref al, .int vs]))) (hA2 : w[kl]? = some (al, .inr (6, [.ref aw]))) (hA3 : w[kw]? = some (aw, .inl (cy 1, 16, .inr (.inl (wd X))))) (hA1l : w[kal]? = some (aol, .inr (0, [.ref all, .int vsl]))) (hA2l : w[kll]? = some (all, .inr (6, [.ref awl]))) (hA3l : w[kwl]? = some (awl, .inl (cy 1, 16, .inr (.inl (wd Xl))))) (hA1r : w[kar]? = some (aor, .inr (0, [.ref alr, .int vsr]))) (hA2r : w[klr]? = some (alr, .inr (6, [.ref awr]))) (hA3r : w[kwr]? = some (awr, .inl (cy 1, 16, .inr (.inl (wd Xr))))) (hhw : hw < 65536) (nkl : kal ≠ ka) (nwl : kwl ≠ kw) (nkr : kar ≠ ka) (nwr : kwr ≠ kw) : jM l yX0_combine (jws yX0_combine cX0_combine 9 none) (jR 1 0 0) D cy w [.ref ao, .ref aol, .ref aor, .int (nI hw)] 0 0 (fun vv uu => vv = none ∧ jU w uu [ka, kw] ∧ uu[ka]? = some (ao, .inr (0, [.ref al, .int vsl])) ∧ uu[kw]? = some (aw, .inl (cy 1, 16, .inr (.inl (wd (fun a => cmb hw (Xl a) (Xr a))))))) := by
  have n1 : kl ≠ ka := jne_oo hA2 hA1 (by decide)
  have n2 : kl ≠ kw := jne_oa hA2 hA3
  have n3 : ka ≠ kw := jne_oa hA1 hA3
  have m1l : kal ≠ kw := jne_oa hA1l hA3
  have m2l : kll ≠ ka := jne_oo hA2l hA1 (by decide)
  have m3l : kll ≠ kw := jne_oa hA2l hA3
  have m4l : kwl ≠ ka := jne_ao hA3l hA1
  have m1r : kar ≠ kw := jne_oa hA1r hA3
  have m2r : klr ≠ ka := jne_oo hA2r hA1 (by decide)
  have m3r : klr ≠ kw := jne_oa hA2r hA3
  have m4r : kwr ≠ ka := jne_ao hA3r hA1
  refine j_of (by decide) rfl (Nat.le_of_ble_eq_true rfl) ?_
  intro p e s m args below meth c A ls Q hQ S hr hK hA H locs hW hl
  have hl : lv_has ls 9 [(0, .ref ao), (1, .ref aol), (2, .ref aor), (3, .int (nI hw))] := hl
  refine lv_aload_n S.1 S.2.1 dX0_combine_0 rfl (lv_at hl 0 rfl) ?_
  refine lv_aload_n S.1 S.2.1 dX0_combine_1 rfl (lv_at hl 1 rfl) ?_
  refine j_get (ci := 0) (C := RX0) (T := TX0) (N := 2) (v := .int vsl) S (fun w h => List.mem_cons_of_mem _ (inG0 w h)) hK hW hA1l rfl 1 (by decide) (List.mem_cons_of_mem _ wfl_X0_20) (fun _ h9 => h9) rfl dX0_combine_2 ?_
  refine j_put (ci := 0) (C := RX0) (T := TX0) (N := 2) (ty := .int) S (fun w h => List.mem_cons_of_mem _ (inG0 w h)) tyX0 tyX0_ok nmX0 hK hW hA1 rfl 1 (by decide) (List.mem_cons_of_mem _ wfl_X0_20) (fun _ h9 => h9) rfl (by decide +kernel) (rfl) (rfl) (Nat.le_of_ble_eq_true rfl) dX0_combine_5 (fun H locs w_ hU1 hN1 hW => ?_)
  have hU : jU w w_ [ka, kw] := jU.mono hU1 (by simp)
  have hA3_ := hU1.get hA3 (by simp [n1, n2, n3, Ne.symm n1, Ne.symm n2, Ne.symm n3, m1l, m2l, m3l, m4l, nkl, nwl, m1r, m2r, m3r, m4r, nkr, nwr])
  have hA1_ : w_[ka]? = some (ao, .inr (0, [.ref al, .int vsl])) := hN1
  clear hU1 hN1
  refine lv_iconst (v := nI 0) S.1 S.2.1 dX0_combine_8 (by decide) ?_
  refine lv_istore (lv' := [(4, .int (nI 0)), (0, .ref ao), (1, .ref aol), (2, .ref aor), (3, .int (nI hw))]) S.1 S.2.1 dX0_combine_9 hl (by decide) rfl (fun ls hl => ?_)
  have hA3_ : w_[kw]? = some (aw, .inl (cy 1, 16, .inr (.inl (wd (mixS 0 (fun a => cmb hw (Xl a) (Xr a)) X))))) := by
    rw [mixS_0]; exact hA3_
  have L11 : ∀ (k : Nat) (i : Nat), 16 - i = k → (i ≤ 16) → ∀ (w_ : va_W), jU w w_ [ka, kw] → (w_[ka]? = some (ao, .inr (0, [.ref al, .int vsl]))) → (w_[kw]? = some (aw, .inl (cy 1, 16, .inr (.inl (wd (mixS i (fun a => cmb hw (Xl a) (Xr a)) X)))))) → ∀ (H : Heap) (locs : List Loc) (ls : Array Slot), jW D A s.heap w_ H locs → lv_has ls 9 [(0, .ref ao), (1, .ref aol), (2, .ref aor), (3, .int (nI hw)), (4, .int (nI i))] → W p l e (jR 1 0 0) s m args below meth c H locs 0 0 Q (F0 m 11 ls []) := by
    intro k
    induction k using Nat.strongRecOn with
    | ind k ih11 =>
    intro i hk hi w_ hU hA1_ hA3_ H locs ls hW hl
    subst hk
    refine lv_iload S.1 S.2.1 dX0_combine_11 (lv_at hl 4 rfl) ?_
    refine lv_aload_n S.1 S.2.1 dX0_combine_13 rfl (lv_at hl 0 rfl) ?_
    refine j_get (ci := 0) (C := RX0) (T := TX0) (N := 2) (v := .ref al) S (fun w h => List.mem_cons_of_mem _ (inG0 w h)) hK hW hA1_ rfl 0 (by decide) (List.mem_cons_of_mem _ wfl_X0_16) (fun _ h9 => h9) rfl dX0_combine_14 ?_
    refine j_callV (k := kl) (ci := 6) (q := (RX7, TX7, 1)) (As := []) (rest := [.int (nI i)]) S hK hA hW (c_X7_length l D cy kl kw al aw 16 (wd (mixS i (fun a => cmb hw (Xl a) (Xr a)) X)) (hU.get hA2 (by simp [n1, n2, n3, Ne.symm n1, Ne.symm n2, Ne.symm n3, m1l, m2l, m3l, m4l, nkl, nwl, m1r, m2r, m3r, m4r, nkr, nwr])) hA3_ ) (jgo wm_X0_24) yk_X7_length (hU.get hA2 (by simp [n1, n2, n3, Ne.symm n1, Ne.symm n2, Ne.symm n3, m1l, m2l, m3l, m4l, nkl, nwl, m1r, m2r, m3r, m4r, nkr, nwr])) rfl rfl ⟨⟨rfl, rfl⟩, by decide, by decide⟩ rfl hl.1 rfl (Nat.le_of_ble_eq_true rfl) dX0_combine_17 ⟨by decide, by decide⟩ (fun v u H locs hp hW => ?_)
    obtain ⟨rfl, rfl⟩ := hp
    refine W.eq (g2 := F0 m 20 ls [.int (nI 16), .int (nI i)]) rfl ?_
    refine jn_cmp_ge (tgt := 93) S (by omega) (by omega) dX0_combine_20 (by decide) (fun c_20 => ?_) (fun c_20 => ?_)
    · obtain ⟨w_, hU1, hN1, hW⟩ := j_ghostJ (wd (fun a => cmb hw (Xl a) (Xr a))) hW hA3_ (fun j hj => by rw [show i = 16 by omega]; exact mixS_end hj)
      have hU := hU.then hU1 (by simp)
      have hA1_ := hU1.get hA1_ (by simp [n1, n2, n3, Ne.symm n1, Ne.symm n2, Ne.symm n3, m1l, m2l, m3l, m4l, nkl, nwl, m1r, m2r, m3r, m4r, nkr, nwr])
      have hA3_ : w_[kw]? = some (aw, .inl (cy 1, 16, .inr (.inl (wd (fun a => cmb hw (Xl a) (Xr a)))))) := hN1
      clear hU1 hN1
      subst hQ
      exact j_vret (u := w_) S hr hK hW dX0_combine_93 ⟨by decide, by decide⟩ (⟨rfl, hU, hA1_, hA3_⟩)
    · refine lv_aload_n S.1 S.2.1 dX0_combine_23 rfl (lv_at hl 1 rfl) ?_
      refine j_get (ci := 0) (C := RX0) (T := TX0) (N := 2) (v := .ref all) S (fun w h => List.mem_cons_of_mem _ (inG0 w h)) hK hW (hU.get hA1l (by simp [n1, n2, n3, Ne.symm n1, Ne.symm n2, Ne.symm n3, m1l, m2l, m3l, m4l, nkl, nwl, m1r, m2r, m3r, m4r, nkr, nwr])) rfl 0 (by decide) (List.mem_cons_of_mem _ wfl_X0_16) (fun _ h9 => h9) rfl dX0_combine_24 ?_
      refine lv_iload S.1 S.2.1 dX0_combine_27 (lv_at hl 4 rfl) ?_
      refine j_callV (k := kll) (ci := 6) (q := (RX7, TX7, 1)) (As := [.int (nI i)]) (rest := []) S hK hA hW (c_X7_at l D cy kll kwl all awl 16 (wd Xl) (nI i) (hU.get hA2l (by simp [n1, n2, n3, Ne.symm n1, Ne.symm n2, Ne.symm n3, m1l, m2l, m3l, m4l, nkl, nwl, m1r, m2r, m3r, m4r, nkr, nwr])) (hU.get hA3l (by simp [n1, n2, n3, Ne.symm n1, Ne.symm n2, Ne.symm n3, m1l, m2l, m3l, m4l, nkl, nwl, m1r, m2r, m3r, m4r, nkr, nwr])) (by decide)) (jgo wm_X0_32) yk_X7_at (hU.get hA2l (by simp [n1, n2, n3, Ne.symm n1, Ne.symm n2, Ne.symm n3, m1l, m2l, m3l, m4l, nkl, nwl, m1r, m2r, m3r, m4r, nkr, nwr])) rfl rfl ⟨⟨rfl, rfl⟩, by decide, by decide⟩ rfl hl.1 rfl (Nat.le_of_ble_eq_true rfl) dX0_combine_29 ⟨by decide, by decide⟩ (fun v u H locs hp hW => ?_)
      obtain ⟨rfl, rfl⟩ := hp
      refine W.eq (g2 := F0 m 32 ls [.long (rdL (wd Xl) 16 (nI i))]) rfl ?_
      refine lv_topl_to (y := lN (wdN Xl i)) (rdL_nI (by omega) (by decide)) ?_
      refine lv_lstore (lv' := [(5, .long (lN (wdN Xl i))), (0, .ref ao), (1, .ref aol), (2, .ref aor), (3, .int (nI hw)), (4, .int (nI i))]) S.1 S.2.1 dX0_combine_32 hl (by decide) rfl (fun ls hl => ?_)
      refine lv_aload_n S.1 S.2.1 dX0_combine_34 rfl (lv_at hl 3 rfl) ?_
      refine j_get (ci := 0) (C := RX0) (T := TX0) (N := 2) (v := .ref alr) S (fun w h => List.mem_cons_of_mem _ (inG0 w h)) hK hW (hU.get hA1r (by simp [n1, n2, n3, Ne.symm n1, Ne.symm n2, Ne.symm n3, m1l, m2l, m3l, m4l, nkl, nwl, m1r, m2r, m3r, m4r, nkr, nwr])) rfl 0 (by decide) (List.mem_cons_of_mem _ wfl_X0_16) (fun _ h9 => h9) rfl dX0_combine_35 ?_
      refine lv_iload S.1 S.2.1 dX0_combine_38 (lv_at hl 5 rfl) ?_
      refine j_callV (k := klr) (ci := 6) (q := (RX7, TX7, 1)) (As := [.int (nI i)]) (rest := []) S hK hA hW (c_X7_at l D cy klr kwr alr awr 16 (wd Xr) (nI i) (hU.get hA2r (by simp [n1, n2, n3, Ne.symm n1, Ne.symm n2, Ne.symm n3, m1l, m2l, m3l, m4l, nkl, nwl, m1r, m2r, m3r, m4r, nkr, nwr])) (hU.get hA3r (by simp [n1, n2, n3, Ne.symm n1, Ne.symm n2, Ne.symm n3, m1l, m2l, m3l, m4l, nkl, nwl, m1r, m2r, m3r, m4r, nkr, nwr])) (by decide)) (jgo wm_X0_32) yk_X7_at (hU.get hA2r (by simp [n1, n2, n3, Ne.symm n1, Ne.symm n2, Ne.symm n3, m1l, m2l, m3l, m4l, nkl, nwl, m1r, m2r, m3r, m4r, nkr, nwr])) rfl rfl ⟨⟨rfl, rfl⟩, by decide, by decide⟩ rfl hl.1 rfl (Nat.le_of_ble_eq_true rfl) dX0_combine_40 ⟨by decide, by decide⟩ (fun v u H locs hp hW => ?_)
      obtain ⟨rfl, rfl⟩ := hp
      refine W.eq (g2 := F0 m 43 ls [.long (rdL (wd Xr) 16 (nI i))]) rfl ?_
      refine lv_topl_to (y := lN (wdN Xr i)) (rdL_nI (by omega) (by decide)) ?_
      refine lv_lstore (lv' := [(7, .long (lN (wdN Xr i))), (5, .long (lN (wdN Xl i))), (0, .ref ao), (1, .ref aol), (2, .ref aor), (3, .int (nI hw)), (4, .int (nI i))]) S.1 S.2.1 dX0_combine_43 hl (by decide) rfl (fun ls hl => ?_)
      refine lv_aload_n S.1 S.2.1 dX0_combine_45 rfl (lv_at hl 2 rfl) ?_
      refine j_get (ci := 0) (C := RX0) (T := TX0) (N := 2) (v := .ref al) S (fun w h => List.mem_cons_of_mem _ (inG0 w h)) hK hW hA1_ rfl 0 (by decide) (List.mem_cons_of_mem _ wfl_X0_16) (fun _ h9 => h9) rfl dX0_combine_46 ?_
      refine lv_iload S.1 S.2.1 dX0_combine_49 (lv_at hl 6 rfl) ?_
      refine lv_iload_n S.1 S.2.1 dX0_combine_51 rfl (lv_at hl 5 rfl) ?_
      refine lv_bipush (v := nI 97) S.1 S.2.1 dX0_combine_52 (by decide) ?_
      refine jn_cmp_ne (tgt := 65) S (by omega) (by omega) dX0_combine_54 (by decide) (fun c_54 => ?_) (fun c_54 => ?_)
      · refine lv_iload_n S.1 S.2.1 dX0_combine_65 rfl (lv_at hl 5 rfl) ?_
        refine lv_bipush (v := nI 111) S.1 S.2.1 dX0_combine_66 (by decide) ?_
        refine jn_cmp_ne (tgt := 79) S (by omega) (by omega) dX0_combine_68 (by decide) (fun c_68 => ?_) (fun c_68 => ?_)
        · refine lv_lload S.1 S.2.1 dX0_combine_79 (lv_at hl 1 rfl) ?_
          refine lv_lload S.1 S.2.1 dX0_combine_81 (lv_at hl 0 rfl) ?_
          refine lv_lxor S.1 S.2.1 dX0_combine_83 ?_
          refine lv_topl_to (y := lN (wdN Xl i ^^^ wdN Xr i)) (lN_xor (wdN_lt _ _) (wdN_lt _ _)) ?_
          refine j_callV (k := kl) (ci := 6) (q := (RX7, TX7, 1)) (As := [.int (nI i), .long (lN (wdN Xl i ^^^ wdN Xr i))]) (rest := []) S hK hA hW (c_X7_put l D cy kl kw al aw 16 (wd (mixS i (fun a => cmb hw (Xl a) (Xr a)) X)) (nI i) (lN (wdN Xl i ^^^ wdN Xr i)) (hU.get hA2 (by simp [n1, n2, n3, Ne.symm n1, Ne.symm n2, Ne.symm n3, m1l, m2l, m3l, m4l, nkl, nwl, m1r, m2r, m3r, m4r, nkr, nwr])) hA3_ (by decide)) (jgo wm_X0_28) yk_X7_put (hU.get hA2 (by simp [n1, n2, n3, Ne.symm n1, Ne.symm n2, Ne.symm n3, m1l, m2l, m3l, m4l, nkl, nwl, m1r, m2r, m3r, m4r, nkr, nwr])) rfl rfl ⟨⟨rfl, rfl⟩, by decide, by decide⟩ rfl hl.1 rfl (Nat.le_of_ble_eq_true rfl) dX0_combine_84 ⟨by decide, by decide⟩ (fun v w_ H locs hp hW => ?_)
          obtain ⟨rfl, hU1, hN1⟩ := hp
          have hU := hU.then hU1 (by simp)
          have hA1_ := hU1.get hA1_ (by simp [n1, n2, n3, Ne.symm n1, Ne.symm n2, Ne.symm n3, m1l, m2l, m3l, m4l, nkl, nwl, m1r, m2r, m3r, m4r, nkr, nwr])
          have hA3_ : w_[kw]? = some (aw, .inl (cy 1, 16, .inr (.inl (wrL (wd (mixS i (fun a => cmb hw (Xl a) (Xr a)) X)) 16 (nI i) (lN (wdN Xl i ^^^ wdN Xr i)))))) := hN1
          clear hU1 hN1
          refine W.eq (g2 := F0 m 87 ls []) rfl ?_
          have hA3_ : w_[kw]? = some (aw, .inl (cy 1, 16, .inr (.inl (wd (mixS (i + 1) (fun a => cmb hw (Xl a) (Xr a)) X))))) := by
            rw [← mixS_s (i := i) (S := fun a => cmb hw (Xl a) (Xr a)) (T := X) (N := (wdN Xl i ^^^ wdN Xr i)) (Nat.xor_lt_two_pow (wdN_lt _ _) (wdN_lt _ _)) (fun b hb => by rw [wd_xor _ _ _ _ hb]; simp [cmb, c_54, c_68]), ← wrL_nI (j := i) (n := 16) (by omega) (by decide)]; exact hA3_
          refine lv_iinc (v := nI (i + 1)) (lv' := [(4, .int (nI (i + 1))), (7, .long (lN (wdN Xr i))), (5, .long (lN (wdN Xl i))), (0, .ref ao), (1, .ref aol), (2, .ref aor), (3, .int (nI hw))]) S.1 S.2.1 dX0_combine_87 hl (k := 6) rfl (nI_add _ 1) (by decide) rfl (fun ls hl => ?_)
          refine lv_goto (tgt := 11) S.1 S.2.1 dX0_combine_90 (by decide) ?_
          exact ih11 _ (by omega) (i + 1) rfl (by omega) w_ hU hA1_ hA3_ H locs ls hW (lv_sub hl [3, 4, 5, 6, 0] rfl)
        · refine lv_lload S.1 S.2.1 dX0_combine_71 (lv_at hl 1 rfl) ?_
          refine lv_lload S.1 S.2.1 dX0_combine_73 (lv_at hl 0 rfl) ?_
          refine lv_lor S.1 S.2.1 dX0_combine_75 ?_
          refine lv_topl_to (y := lN (wdN Xl i ||| wdN Xr i)) (wb_or (wdN_lt _ _) (wdN_lt _ _)) ?_
          refine lv_goto (tgt := 84) S.1 S.2.1 dX0_combine_76 (by decide) ?_
          refine j_callV (k := kl) (ci := 6) (q := (RX7, TX7, 1)) (As := [.int (nI i), .long (lN (wdN Xl i ||| wdN Xr i))]) (rest := []) S hK hA hW (c_X7_put l D cy kl kw al aw 16 (wd (mixS i (fun a => cmb hw (Xl a) (Xr a)) X)) (nI i) (lN (wdN Xl i ||| wdN Xr i)) (hU.get hA2 (by simp [n1, n2, n3, Ne.symm n1, Ne.symm n2, Ne.symm n3, m1l, m2l, m3l, m4l, nkl, nwl, m1r, m2r, m3r, m4r, nkr, nwr])) hA3_ (by decide)) (jgo wm_X0_28) yk_X7_put (hU.get hA2 (by simp [n1, n2, n3, Ne.symm n1, Ne.symm n2, Ne.symm n3, m1l, m2l, m3l, m4l, nkl, nwl, m1r, m2r, m3r, m4r, nkr, nwr])) rfl rfl ⟨⟨rfl, rfl⟩, by decide, by decide⟩ rfl hl.1 rfl (Nat.le_of_ble_eq_true rfl) dX0_combine_84 ⟨by decide, by decide⟩ (fun v w_ H locs hp hW => ?_)
          obtain ⟨rfl, hU1, hN1⟩ := hp
          have hU := hU.then hU1 (by simp)
          have hA1_ := hU1.get hA1_ (by simp [n1, n2, n3, Ne.symm n1, Ne.symm n2, Ne.symm n3, m1l, m2l, m3l, m4l, nkl, nwl, m1r, m2r, m3r, m4r, nkr, nwr])
          have hA3_ : w_[kw]? = some (aw, .inl (cy 1, 16, .inr (.inl (wrL (wd (mixS i (fun a => cmb hw (Xl a) (Xr a)) X)) 16 (nI i) (lN (wdN Xl i ||| wdN Xr i)))))) := hN1
          clear hU1 hN1
          refine W.eq (g2 := F0 m 87 ls []) rfl ?_
          have hA3_ : w_[kw]? = some (aw, .inl (cy 1, 16, .inr (.inl (wd (mixS (i + 1) (fun a => cmb hw (Xl a) (Xr a)) X))))) := by
            rw [← mixS_s (i := i) (S := fun a => cmb hw (Xl a) (Xr a)) (T := X) (N := (wdN Xl i ||| wdN Xr i)) (Nat.or_lt_two_pow (wdN_lt _ _) (wdN_lt _ _)) (fun b hb => by rw [wd_or _ _ _ _ hb]; simp [cmb, c_54, c_68]), ← wrL_nI (j := i) (n := 16) (by omega) (by decide)]; exact hA3_
          refine lv_iinc (v := nI (i + 1)) (lv' := [(4, .int (nI (i + 1))), (7, .long (lN (wdN Xr i))), (5, .long (lN (wdN Xl i))), (0, .ref ao), (1, .ref aol), (2, .ref aor), (3, .int (nI hw))]) S.1 S.2.1 dX0_combine_87 hl (k := 6) rfl (nI_add _ 1) (by decide) rfl (fun ls hl => ?_)
          refine lv_goto (tgt := 11) S.1 S.2.1 dX0_combine_90 (by decide) ?_
          exact ih11 _ (by omega) (i + 1) rfl (by omega) w_ hU hA1_ hA3_ H locs ls hW (lv_sub hl [3, 4, 5, 6, 0] rfl)
      · refine lv_lload S.1 S.2.1 dX0_combine_57 (lv_at hl 1 rfl) ?_
        refine lv_lload S.1 S.2.1 dX0_combine_59 (lv_at hl 0 rfl) ?_
        refine lv_land S.1 S.2.1 dX0_combine_61 ?_
        refine lv_topl_to (y := lN (wdN Xl i &&& wdN Xr i)) (wb_and (wdN_lt _ _) (wdN_lt _ _)) ?_
        refine lv_goto (tgt := 84) S.1 S.2.1 dX0_combine_62 (by decide) ?_
        refine j_callV (k := kl) (ci := 6) (q := (RX7, TX7, 1)) (As := [.int (nI i), .long (lN (wdN Xl i &&& wdN Xr i))]) (rest := []) S hK hA hW (c_X7_put l D cy kl kw al aw 16 (wd (mixS i (fun a => cmb hw (Xl a) (Xr a)) X)) (nI i) (lN (wdN Xl i &&& wdN Xr i)) (hU.get hA2 (by simp [n1, n2, n3, Ne.symm n1, Ne.symm n2, Ne.symm n3, m1l, m2l, m3l, m4l, nkl, nwl, m1r, m2r, m3r, m4r, nkr, nwr])) hA3_ (by decide)) (jgo wm_X0_28) yk_X7_put (hU.get hA2 (by simp [n1, n2, n3, Ne.symm n1, Ne.symm n2, Ne.symm n3, m1l, m2l, m3l, m4l, nkl, nwl, m1r, m2r, m3r, m4r, nkr, nwr])) rfl rfl ⟨⟨rfl, rfl⟩, by decide, by decide⟩ rfl hl.1 rfl (Nat.le_of_ble_eq_true rfl) dX0_combine_84 ⟨by decide, by decide⟩ (fun v w_ H locs hp hW => ?_)
        obtain ⟨rfl, hU1, hN1⟩ := hp
        have hU := hU.then hU1 (by simp)
        have hA1_ := hU1.get hA1_ (by simp [n1, n2, n3, Ne.symm n1, Ne.symm n2, Ne.symm n3, m1l, m2l, m3l, m4l, nkl, nwl, m1r, m2r, m3r, m4r, nkr, nwr])
        have hA3_ : w_[kw]? = some (aw, .inl (cy 1, 16, .inr (.inl (wrL (wd (mixS i (fun a => cmb hw (Xl a) (Xr a)) X)) 16 (nI i) (lN (wdN Xl i &&& wdN Xr i)))))) := hN1
        clear hU1 hN1
        refine W.eq (g2 := F0 m 87 ls []) rfl ?_
        have hA3_ : w_[kw]? = some (aw, .inl (cy 1, 16, .inr (.inl (wd (mixS (i + 1) (fun a => cmb hw (Xl a) (Xr a)) X))))) := by
          rw [← mixS_s (i := i) (S := fun a => cmb hw (Xl a) (Xr a)) (T := X) (N := (wdN Xl i &&& wdN Xr i)) (Nat.and_lt_two_pow _ (wdN_lt _ _)) (fun b hb => by rw [wd_and _ _ _ _ hb]; simp [cmb, c_54]), ← wrL_nI (j := i) (n := 16) (by omega) (by decide)]; exact hA3_
        refine lv_iinc (v := nI (i + 1)) (lv' := [(4, .int (nI (i + 1))), (7, .long (lN (wdN Xr i))), (5, .long (lN (wdN Xl i))), (0, .ref ao), (1, .ref aol), (2, .ref aor), (3, .int (nI hw))]) S.1 S.2.1 dX0_combine_87 hl (k := 6) rfl (nI_add _ 1) (by decide) rfl (fun ls hl => ?_)
        refine lv_goto (tgt := 11) S.1 S.2.1 dX0_combine_90 (by decide) ?_
        exact ih11 _ (by omega) (i + 1) rfl (by omega) w_ hU hA1_ hA3_ H locs ls hW (lv_sub hl [3, 4, 5, 6, 0] rfl)
  exact L11 _ 0 rfl (by decide) w_ hU hA1_ hA3_ H locs ls hW (lv_sub hl [1, 2, 3, 4, 0] rfl)
/-- combine: the left one is this -/
theorem c_X0_combineL (l : Launch) (D : va_G) (cy : Nat → ClassId) {w : va_W} (ka kl kw ao al aw : Nat) (vs : Int32) (X : Nat → Bool) (kar klr kwr aor alr awr : Nat) (vsr : Int32) (Xr : Nat → Bool) (hw : Nat) (hA1 : w[ka]? = some (ao, .inr (0, [.ref al, .int vs]))) (hA2 : w[kl]? = some (al, .inr (6, [.ref aw]))) (hA3 : w[kw]? = some (aw, .inl (cy 1, 16, .inr (.inl (wd X))))) (hA1r : w[kar]? = some (aor, .inr (0, [.ref alr, .int vsr]))) (hA2r : w[klr]? = some (alr, .inr (6, [.ref awr]))) (hA3r : w[kwr]? = some (awr, .inl (cy 1, 16, .inr (.inl (wd Xr))))) (hhw : hw < 65536) (nkr : kar ≠ ka) (nwr : kwr ≠ kw) : jM l yX0_combine (jws yX0_combine cX0_combine 9 none) (jR 1 0 0) D cy w [.ref ao, .ref ao, .ref aor, .int (nI hw)] 0 0 (fun vv uu => vv = none ∧ jU w uu [ka, kw] ∧ uu[ka]? = some (ao, .inr (0, [.ref al, .int vs])) ∧ uu[kw]? = some (aw, .inl (cy 1, 16, .inr (.inl (wd (fun a => cmb hw (X a) (Xr a))))))) := by
  have n1 : kl ≠ ka := jne_oo hA2 hA1 (by decide)
  have n2 : kl ≠ kw := jne_oa hA2 hA3
  have n3 : ka ≠ kw := jne_oa hA1 hA3
  have m1r : kar ≠ kw := jne_oa hA1r hA3
  have m2r : klr ≠ ka := jne_oo hA2r hA1 (by decide)
  have m3r : klr ≠ kw := jne_oa hA2r hA3
  have m4r : kwr ≠ ka := jne_ao hA3r hA1
  refine j_of (by decide) rfl (Nat.le_of_ble_eq_true rfl) ?_
  intro p e s m args below meth c A ls Q hQ S hr hK hA H locs hW hl
  have hl : lv_has ls 9 [(0, .ref ao), (1, .ref ao), (2, .ref aor), (3, .int (nI hw))] := hl
  refine lv_aload_n S.1 S.2.1 dX0_combine_0 rfl (lv_at hl 0 rfl) ?_
  refine lv_aload_n S.1 S.2.1 dX0_combine_1 rfl (lv_at hl 1 rfl) ?_
  refine j_get (ci := 0) (C := RX0) (T := TX0) (N := 2) (v := .int vs) S (fun w h => List.mem_cons_of_mem _ (inG0 w h)) hK hW hA1 rfl 1 (by decide) (List.mem_cons_of_mem _ wfl_X0_20) (fun _ h9 => h9) rfl dX0_combine_2 ?_
  refine j_put (ci := 0) (C := RX0) (T := TX0) (N := 2) (ty := .int) S (fun w h => List.mem_cons_of_mem _ (inG0 w h)) tyX0 tyX0_ok nmX0 hK hW hA1 rfl 1 (by decide) (List.mem_cons_of_mem _ wfl_X0_20) (fun _ h9 => h9) rfl (by decide +kernel) (rfl) (rfl) (Nat.le_of_ble_eq_true rfl) dX0_combine_5 (fun H locs w_ hU1 hN1 hW => ?_)
  have hU : jU w w_ [ka, kw] := jU.mono hU1 (by simp)
  have hA3_ := hU1.get hA3 (by simp [n1, n2, n3, Ne.symm n1, Ne.symm n2, Ne.symm n3, m1r, m2r, m3r, m4r, nkr, nwr])
  have hA1_ : w_[ka]? = some (ao, .inr (0, [.ref al, .int vs])) := hN1
  clear hU1 hN1
  refine lv_iconst (v := nI 0) S.1 S.2.1 dX0_combine_8 (by decide) ?_
  refine lv_istore (lv' := [(4, .int (nI 0)), (0, .ref ao), (1, .ref ao), (2, .ref aor), (3, .int (nI hw))]) S.1 S.2.1 dX0_combine_9 hl (by decide) rfl (fun ls hl => ?_)
  have hA3_ : w_[kw]? = some (aw, .inl (cy 1, 16, .inr (.inl (wd (mixS 0 (fun a => cmb hw (X a) (Xr a)) X))))) := by
    rw [mixS_0]; exact hA3_
  have L11 : ∀ (k : Nat) (i : Nat), 16 - i = k → (i ≤ 16) → ∀ (w_ : va_W), jU w w_ [ka, kw] → (w_[ka]? = some (ao, .inr (0, [.ref al, .int vs]))) → (w_[kw]? = some (aw, .inl (cy 1, 16, .inr (.inl (wd (mixS i (fun a => cmb hw (X a) (Xr a)) X)))))) → ∀ (H : Heap) (locs : List Loc) (ls : Array Slot), jW D A s.heap w_ H locs → lv_has ls 9 [(0, .ref ao), (1, .ref ao), (2, .ref aor), (3, .int (nI hw)), (4, .int (nI i))] → W p l e (jR 1 0 0) s m args below meth c H locs 0 0 Q (F0 m 11 ls []) := by
    intro k
    induction k using Nat.strongRecOn with
    | ind k ih11 =>
    intro i hk hi w_ hU hA1_ hA3_ H locs ls hW hl
    subst hk
    refine lv_iload S.1 S.2.1 dX0_combine_11 (lv_at hl 4 rfl) ?_
    refine lv_aload_n S.1 S.2.1 dX0_combine_13 rfl (lv_at hl 0 rfl) ?_
    refine j_get (ci := 0) (C := RX0) (T := TX0) (N := 2) (v := .ref al) S (fun w h => List.mem_cons_of_mem _ (inG0 w h)) hK hW hA1_ rfl 0 (by decide) (List.mem_cons_of_mem _ wfl_X0_16) (fun _ h9 => h9) rfl dX0_combine_14 ?_
    refine j_callV (k := kl) (ci := 6) (q := (RX7, TX7, 1)) (As := []) (rest := [.int (nI i)]) S hK hA hW (c_X7_length l D cy kl kw al aw 16 (wd (mixS i (fun a => cmb hw (X a) (Xr a)) X)) (hU.get hA2 (by simp [n1, n2, n3, Ne.symm n1, Ne.symm n2, Ne.symm n3, m1r, m2r, m3r, m4r, nkr, nwr])) hA3_ ) (jgo wm_X0_24) yk_X7_length (hU.get hA2 (by simp [n1, n2, n3, Ne.symm n1, Ne.symm n2, Ne.symm n3, m1r, m2r, m3r, m4r, nkr, nwr])) rfl rfl ⟨⟨rfl, rfl⟩, by decide, by decide⟩ rfl hl.1 rfl (Nat.le_of_ble_eq_true rfl) dX0_combine_17 ⟨by decide, by decide⟩ (fun v u H locs hp hW => ?_)
    obtain ⟨rfl, rfl⟩ := hp
    refine W.eq (g2 := F0 m 20 ls [.int (nI 16), .int (nI i)]) rfl ?_
    refine jn_cmp_ge (tgt := 93) S (by omega) (by omega) dX0_combine_20 (by decide) (fun c_20 => ?_) (fun c_20 => ?_)
    · obtain ⟨w_, hU1, hN1, hW⟩ := j_ghostJ (wd (fun a => cmb hw (X a) (Xr a))) hW hA3_ (fun j hj => by rw [show i = 16 by omega]; exact mixS_end hj)
      have hU := hU.then hU1 (by simp)
      have hA1_ := hU1.get hA1_ (by simp [n1, n2, n3, Ne.symm n1, Ne.symm n2, Ne.symm n3, m1r, m2r, m3r, m4r, nkr, nwr])
      have hA3_ : w_[kw]? = some (aw, .inl (cy 1, 16, .inr (.inl (wd (fun a => cmb hw (X a) (Xr a)))))) := hN1
      clear hU1 hN1
      subst hQ
      exact j_vret (u := w_) S hr hK hW dX0_combine_93 ⟨by decide, by decide⟩ (⟨rfl, hU, hA1_, hA3_⟩)
    · refine lv_aload_n S.1 S.2.1 dX0_combine_23 rfl (lv_at hl 1 rfl) ?_
      refine j_get (ci := 0) (C := RX0) (T := TX0) (N := 2) (v := .ref al) S (fun w h => List.mem_cons_of_mem _ (inG0 w h)) hK hW hA1_ rfl 0 (by decide) (List.mem_cons_of_mem _ wfl_X0_16) (fun _ h9 => h9) rfl dX0_combine_24 ?_
      refine lv_iload S.1 S.2.1 dX0_combine_27 (lv_at hl 4 rfl) ?_
      refine j_callV (k := kl) (ci := 6) (q := (RX7, TX7, 1)) (As := [.int (nI i)]) (rest := []) S hK hA hW (c_X7_at l D cy kl kw al aw 16 (wd (mixS i (fun a => cmb hw (X a) (Xr a)) X)) (nI i) (hU.get hA2 (by simp [n1, n2, n3, Ne.symm n1, Ne.symm n2, Ne.symm n3, m1r, m2r, m3r, m4r, nkr, nwr])) hA3_ (by decide)) (jgo wm_X0_32) yk_X7_at (hU.get hA2 (by simp [n1, n2, n3, Ne.symm n1, Ne.symm n2, Ne.symm n3, m1r, m2r, m3r, m4r, nkr, nwr])) rfl rfl ⟨⟨rfl, rfl⟩, by decide, by decide⟩ rfl hl.1 rfl (Nat.le_of_ble_eq_true rfl) dX0_combine_29 ⟨by decide, by decide⟩ (fun v u H locs hp hW => ?_)
      obtain ⟨rfl, rfl⟩ := hp
      refine W.eq (g2 := F0 m 32 ls [.long (rdL (wd (mixS i (fun a => cmb hw (X a) (Xr a)) X)) 16 (nI i))]) rfl ?_
      refine lv_topl_to (y := lN (wdN X i)) (by rw [rdL_nI (j := i) (by omega) (by decide)]; exact congrArg lN (mixS_w i _ X)) ?_
      refine lv_lstore (lv' := [(5, .long (lN (wdN X i))), (0, .ref ao), (1, .ref ao), (2, .ref aor), (3, .int (nI hw)), (4, .int (nI i))]) S.1 S.2.1 dX0_combine_32 hl (by decide) rfl (fun ls hl => ?_)
      refine lv_aload_n S.1 S.2.1 dX0_combine_34 rfl (lv_at hl 3 rfl) ?_
      refine j_get (ci := 0) (C := RX0) (T := TX0) (N := 2) (v := .ref alr) S (fun w h => List.mem_cons_of_mem _ (inG0 w h)) hK hW (hU.get hA1r (by simp [n1, n2, n3, Ne.symm n1, Ne.symm n2, Ne.symm n3, m1r, m2r, m3r, m4r, nkr, nwr])) rfl 0 (by decide) (List.mem_cons_of_mem _ wfl_X0_16) (fun _ h9 => h9) rfl dX0_combine_35 ?_
      refine lv_iload S.1 S.2.1 dX0_combine_38 (lv_at hl 5 rfl) ?_
      refine j_callV (k := klr) (ci := 6) (q := (RX7, TX7, 1)) (As := [.int (nI i)]) (rest := []) S hK hA hW (c_X7_at l D cy klr kwr alr awr 16 (wd Xr) (nI i) (hU.get hA2r (by simp [n1, n2, n3, Ne.symm n1, Ne.symm n2, Ne.symm n3, m1r, m2r, m3r, m4r, nkr, nwr])) (hU.get hA3r (by simp [n1, n2, n3, Ne.symm n1, Ne.symm n2, Ne.symm n3, m1r, m2r, m3r, m4r, nkr, nwr])) (by decide)) (jgo wm_X0_32) yk_X7_at (hU.get hA2r (by simp [n1, n2, n3, Ne.symm n1, Ne.symm n2, Ne.symm n3, m1r, m2r, m3r, m4r, nkr, nwr])) rfl rfl ⟨⟨rfl, rfl⟩, by decide, by decide⟩ rfl hl.1 rfl (Nat.le_of_ble_eq_true rfl) dX0_combine_40 ⟨by decide, by decide⟩ (fun v u H locs hp hW => ?_)
      obtain ⟨rfl, rfl⟩ := hp
      refine W.eq (g2 := F0 m 43 ls [.long (rdL (wd Xr) 16 (nI i))]) rfl ?_
      refine lv_topl_to (y := lN (wdN Xr i)) (rdL_nI (by omega) (by decide)) ?_
      refine lv_lstore (lv' := [(7, .long (lN (wdN Xr i))), (5, .long (lN (wdN X i))), (0, .ref ao), (1, .ref ao), (2, .ref aor), (3, .int (nI hw)), (4, .int (nI i))]) S.1 S.2.1 dX0_combine_43 hl (by decide) rfl (fun ls hl => ?_)
      refine lv_aload_n S.1 S.2.1 dX0_combine_45 rfl (lv_at hl 2 rfl) ?_
      refine j_get (ci := 0) (C := RX0) (T := TX0) (N := 2) (v := .ref al) S (fun w h => List.mem_cons_of_mem _ (inG0 w h)) hK hW hA1_ rfl 0 (by decide) (List.mem_cons_of_mem _ wfl_X0_16) (fun _ h9 => h9) rfl dX0_combine_46 ?_
      refine lv_iload S.1 S.2.1 dX0_combine_49 (lv_at hl 6 rfl) ?_
      refine lv_iload_n S.1 S.2.1 dX0_combine_51 rfl (lv_at hl 5 rfl) ?_
      refine lv_bipush (v := nI 97) S.1 S.2.1 dX0_combine_52 (by decide) ?_
      refine jn_cmp_ne (tgt := 65) S (by omega) (by omega) dX0_combine_54 (by decide) (fun c_54 => ?_) (fun c_54 => ?_)
      · refine lv_iload_n S.1 S.2.1 dX0_combine_65 rfl (lv_at hl 5 rfl) ?_
        refine lv_bipush (v := nI 111) S.1 S.2.1 dX0_combine_66 (by decide) ?_
        refine jn_cmp_ne (tgt := 79) S (by omega) (by omega) dX0_combine_68 (by decide) (fun c_68 => ?_) (fun c_68 => ?_)
        · refine lv_lload S.1 S.2.1 dX0_combine_79 (lv_at hl 1 rfl) ?_
          refine lv_lload S.1 S.2.1 dX0_combine_81 (lv_at hl 0 rfl) ?_
          refine lv_lxor S.1 S.2.1 dX0_combine_83 ?_
          refine lv_topl_to (y := lN (wdN X i ^^^ wdN Xr i)) (lN_xor (wdN_lt _ _) (wdN_lt _ _)) ?_
          refine j_callV (k := kl) (ci := 6) (q := (RX7, TX7, 1)) (As := [.int (nI i), .long (lN (wdN X i ^^^ wdN Xr i))]) (rest := []) S hK hA hW (c_X7_put l D cy kl kw al aw 16 (wd (mixS i (fun a => cmb hw (X a) (Xr a)) X)) (nI i) (lN (wdN X i ^^^ wdN Xr i)) (hU.get hA2 (by simp [n1, n2, n3, Ne.symm n1, Ne.symm n2, Ne.symm n3, m1r, m2r, m3r, m4r, nkr, nwr])) hA3_ (by decide)) (jgo wm_X0_28) yk_X7_put (hU.get hA2 (by simp [n1, n2, n3, Ne.symm n1, Ne.symm n2, Ne.symm n3, m1r, m2r, m3r, m4r, nkr, nwr])) rfl rfl ⟨⟨rfl, rfl⟩, by decide, by decide⟩ rfl hl.1 rfl (Nat.le_of_ble_eq_true rfl) dX0_combine_84 ⟨by decide, by decide⟩ (fun v w_ H locs hp hW => ?_)
          obtain ⟨rfl, hU1, hN1⟩ := hp
          have hU := hU.then hU1 (by simp)
          have hA1_ := hU1.get hA1_ (by simp [n1, n2, n3, Ne.symm n1, Ne.symm n2, Ne.symm n3, m1r, m2r, m3r, m4r, nkr, nwr])
          have hA3_ : w_[kw]? = some (aw, .inl (cy 1, 16, .inr (.inl (wrL (wd (mixS i (fun a => cmb hw (X a) (Xr a)) X)) 16 (nI i) (lN (wdN X i ^^^ wdN Xr i)))))) := hN1
          clear hU1 hN1
          refine W.eq (g2 := F0 m 87 ls []) rfl ?_
          have hA3_ : w_[kw]? = some (aw, .inl (cy 1, 16, .inr (.inl (wd (mixS (i + 1) (fun a => cmb hw (X a) (Xr a)) X))))) := by
            rw [← mixS_s (i := i) (S := fun a => cmb hw (X a) (Xr a)) (T := X) (N := (wdN X i ^^^ wdN Xr i)) (Nat.xor_lt_two_pow (wdN_lt _ _) (wdN_lt _ _)) (fun b hb => by rw [wd_xor _ _ _ _ hb]; simp [cmb, c_54, c_68]), ← wrL_nI (j := i) (n := 16) (by omega) (by decide)]; exact hA3_
          refine lv_iinc (v := nI (i + 1)) (lv' := [(4, .int (nI (i + 1))), (7, .long (lN (wdN Xr i))), (5, .long (lN (wdN X i))), (0, .ref ao), (1, .ref ao), (2, .ref aor), (3, .int (nI hw))]) S.1 S.2.1 dX0_combine_87 hl (k := 6) rfl (nI_add _ 1) (by decide) rfl (fun ls hl => ?_)
          refine lv_goto (tgt := 11) S.1 S.2.1 dX0_combine_90 (by decide) ?_
          exact ih11 _ (by omega) (i + 1) rfl (by omega) w_ hU hA1_ hA3_ H locs ls hW (lv_sub hl [3, 4, 5, 6, 0] rfl)
        · refine lv_lload S.1 S.2.1 dX0_combine_71 (lv_at hl 1 rfl) ?_
          refine lv_lload S.1 S.2.1 dX0_combine_73 (lv_at hl 0 rfl) ?_
          refine lv_lor S.1 S.2.1 dX0_combine_75 ?_
          refine lv_topl_to (y := lN (wdN X i ||| wdN Xr i)) (wb_or (wdN_lt _ _) (wdN_lt _ _)) ?_
          refine lv_goto (tgt := 84) S.1 S.2.1 dX0_combine_76 (by decide) ?_
          refine j_callV (k := kl) (ci := 6) (q := (RX7, TX7, 1)) (As := [.int (nI i), .long (lN (wdN X i ||| wdN Xr i))]) (rest := []) S hK hA hW (c_X7_put l D cy kl kw al aw 16 (wd (mixS i (fun a => cmb hw (X a) (Xr a)) X)) (nI i) (lN (wdN X i ||| wdN Xr i)) (hU.get hA2 (by simp [n1, n2, n3, Ne.symm n1, Ne.symm n2, Ne.symm n3, m1r, m2r, m3r, m4r, nkr, nwr])) hA3_ (by decide)) (jgo wm_X0_28) yk_X7_put (hU.get hA2 (by simp [n1, n2, n3, Ne.symm n1, Ne.symm n2, Ne.symm n3, m1r, m2r, m3r, m4r, nkr, nwr])) rfl rfl ⟨⟨rfl, rfl⟩, by decide, by decide⟩ rfl hl.1 rfl (Nat.le_of_ble_eq_true rfl) dX0_combine_84 ⟨by decide, by decide⟩ (fun v w_ H locs hp hW => ?_)
          obtain ⟨rfl, hU1, hN1⟩ := hp
          have hU := hU.then hU1 (by simp)
          have hA1_ := hU1.get hA1_ (by simp [n1, n2, n3, Ne.symm n1, Ne.symm n2, Ne.symm n3, m1r, m2r, m3r, m4r, nkr, nwr])
          have hA3_ : w_[kw]? = some (aw, .inl (cy 1, 16, .inr (.inl (wrL (wd (mixS i (fun a => cmb hw (X a) (Xr a)) X)) 16 (nI i) (lN (wdN X i ||| wdN Xr i)))))) := hN1
          clear hU1 hN1
          refine W.eq (g2 := F0 m 87 ls []) rfl ?_
          have hA3_ : w_[kw]? = some (aw, .inl (cy 1, 16, .inr (.inl (wd (mixS (i + 1) (fun a => cmb hw (X a) (Xr a)) X))))) := by
            rw [← mixS_s (i := i) (S := fun a => cmb hw (X a) (Xr a)) (T := X) (N := (wdN X i ||| wdN Xr i)) (Nat.or_lt_two_pow (wdN_lt _ _) (wdN_lt _ _)) (fun b hb => by rw [wd_or _ _ _ _ hb]; simp [cmb, c_54, c_68]), ← wrL_nI (j := i) (n := 16) (by omega) (by decide)]; exact hA3_
          refine lv_iinc (v := nI (i + 1)) (lv' := [(4, .int (nI (i + 1))), (7, .long (lN (wdN Xr i))), (5, .long (lN (wdN X i))), (0, .ref ao), (1, .ref ao), (2, .ref aor), (3, .int (nI hw))]) S.1 S.2.1 dX0_combine_87 hl (k := 6) rfl (nI_add _ 1) (by decide) rfl (fun ls hl => ?_)
          refine lv_goto (tgt := 11) S.1 S.2.1 dX0_combine_90 (by decide) ?_
          exact ih11 _ (by omega) (i + 1) rfl (by omega) w_ hU hA1_ hA3_ H locs ls hW (lv_sub hl [3, 4, 5, 6, 0] rfl)
      · refine lv_lload S.1 S.2.1 dX0_combine_57 (lv_at hl 1 rfl) ?_
        refine lv_lload S.1 S.2.1 dX0_combine_59 (lv_at hl 0 rfl) ?_
        refine lv_land S.1 S.2.1 dX0_combine_61 ?_
        refine lv_topl_to (y := lN (wdN X i &&& wdN Xr i)) (wb_and (wdN_lt _ _) (wdN_lt _ _)) ?_
        refine lv_goto (tgt := 84) S.1 S.2.1 dX0_combine_62 (by decide) ?_
        refine j_callV (k := kl) (ci := 6) (q := (RX7, TX7, 1)) (As := [.int (nI i), .long (lN (wdN X i &&& wdN Xr i))]) (rest := []) S hK hA hW (c_X7_put l D cy kl kw al aw 16 (wd (mixS i (fun a => cmb hw (X a) (Xr a)) X)) (nI i) (lN (wdN X i &&& wdN Xr i)) (hU.get hA2 (by simp [n1, n2, n3, Ne.symm n1, Ne.symm n2, Ne.symm n3, m1r, m2r, m3r, m4r, nkr, nwr])) hA3_ (by decide)) (jgo wm_X0_28) yk_X7_put (hU.get hA2 (by simp [n1, n2, n3, Ne.symm n1, Ne.symm n2, Ne.symm n3, m1r, m2r, m3r, m4r, nkr, nwr])) rfl rfl ⟨⟨rfl, rfl⟩, by decide, by decide⟩ rfl hl.1 rfl (Nat.le_of_ble_eq_true rfl) dX0_combine_84 ⟨by decide, by decide⟩ (fun v w_ H locs hp hW => ?_)
        obtain ⟨rfl, hU1, hN1⟩ := hp
        have hU := hU.then hU1 (by simp)
        have hA1_ := hU1.get hA1_ (by simp [n1, n2, n3, Ne.symm n1, Ne.symm n2, Ne.symm n3, m1r, m2r, m3r, m4r, nkr, nwr])
        have hA3_ : w_[kw]? = some (aw, .inl (cy 1, 16, .inr (.inl (wrL (wd (mixS i (fun a => cmb hw (X a) (Xr a)) X)) 16 (nI i) (lN (wdN X i &&& wdN Xr i)))))) := hN1
        clear hU1 hN1
        refine W.eq (g2 := F0 m 87 ls []) rfl ?_
        have hA3_ : w_[kw]? = some (aw, .inl (cy 1, 16, .inr (.inl (wd (mixS (i + 1) (fun a => cmb hw (X a) (Xr a)) X))))) := by
          rw [← mixS_s (i := i) (S := fun a => cmb hw (X a) (Xr a)) (T := X) (N := (wdN X i &&& wdN Xr i)) (Nat.and_lt_two_pow _ (wdN_lt _ _)) (fun b hb => by rw [wd_and _ _ _ _ hb]; simp [cmb, c_54]), ← wrL_nI (j := i) (n := 16) (by omega) (by decide)]; exact hA3_
        refine lv_iinc (v := nI (i + 1)) (lv' := [(4, .int (nI (i + 1))), (7, .long (lN (wdN Xr i))), (5, .long (lN (wdN X i))), (0, .ref ao), (1, .ref ao), (2, .ref aor), (3, .int (nI hw))]) S.1 S.2.1 dX0_combine_87 hl (k := 6) rfl (nI_add _ 1) (by decide) rfl (fun ls hl => ?_)
        refine lv_goto (tgt := 11) S.1 S.2.1 dX0_combine_90 (by decide) ?_
        exact ih11 _ (by omega) (i + 1) rfl (by omega) w_ hU hA1_ hA3_ H locs ls hW (lv_sub hl [3, 4, 5, 6, 0] rfl)
  exact L11 _ 0 rfl (by decide) w_ hU hA1_ hA3_ H locs ls hW (lv_sub hl [1, 2, 3, 4, 0] rfl)
/-- combine: the right one is this -/
theorem c_X0_combineR (l : Launch) (D : va_G) (cy : Nat → ClassId) {w : va_W} (ka kl kw ao al aw : Nat) (vs : Int32) (X : Nat → Bool) (kal kll kwl aol all awl : Nat) (vsl : Int32) (Xl : Nat → Bool) (hw : Nat) (hA1 : w[ka]? = some (ao, .inr (0, [.ref al, .int vs]))) (hA2 : w[kl]? = some (al, .inr (6, [.ref aw]))) (hA3 : w[kw]? = some (aw, .inl (cy 1, 16, .inr (.inl (wd X))))) (hA1l : w[kal]? = some (aol, .inr (0, [.ref all, .int vsl]))) (hA2l : w[kll]? = some (all, .inr (6, [.ref awl]))) (hA3l : w[kwl]? = some (awl, .inl (cy 1, 16, .inr (.inl (wd Xl))))) (hhw : hw < 65536) (nkl : kal ≠ ka) (nwl : kwl ≠ kw) : jM l yX0_combine (jws yX0_combine cX0_combine 9 none) (jR 1 0 0) D cy w [.ref ao, .ref aol, .ref ao, .int (nI hw)] 0 0 (fun vv uu => vv = none ∧ jU w uu [ka, kw] ∧ uu[ka]? = some (ao, .inr (0, [.ref al, .int vsl])) ∧ uu[kw]? = some (aw, .inl (cy 1, 16, .inr (.inl (wd (fun a => cmb hw (Xl a) (X a))))))) := by
  have n1 : kl ≠ ka := jne_oo hA2 hA1 (by decide)
  have n2 : kl ≠ kw := jne_oa hA2 hA3
  have n3 : ka ≠ kw := jne_oa hA1 hA3
  have m1l : kal ≠ kw := jne_oa hA1l hA3
  have m2l : kll ≠ ka := jne_oo hA2l hA1 (by decide)
  have m3l : kll ≠ kw := jne_oa hA2l hA3
  have m4l : kwl ≠ ka := jne_ao hA3l hA1
  refine j_of (by decide) rfl (Nat.le_of_ble_eq_true rfl) ?_
  intro p e s m args below meth c A ls Q hQ S hr hK hA H locs hW hl
  have hl : lv_has ls 9 [(0, .ref ao), (1, .ref aol), (2, .ref ao), (3, .int (nI hw))] := hl
  refine lv_aload_n S.1 S.2.1 dX0_combine_0 rfl (lv_at hl 0 rfl) ?_
  refine lv_aload_n S.1 S.2.1 dX0_combine_1 rfl (lv_at hl 1 rfl) ?_
  refine j_get (ci := 0) (C := RX0) (T := TX0) (N := 2) (v := .int vsl) S (fun w h => List.mem_cons_of_mem _ (inG0 w h)) hK hW hA1l rfl 1 (by decide) (List.mem_cons_of_mem _ wfl_X0_20) (fun _ h9 => h9) rfl dX0_combine_2 ?_
  refine j_put (ci := 0) (C := RX0) (T := TX0) (N := 2) (ty := .int) S (fun w h => List.mem_cons_of_mem _ (inG0 w h)) tyX0 tyX0_ok nmX0 hK hW hA1 rfl 1 (by decide) (List.mem_cons_of_mem _ wfl_X0_20) (fun _ h9 => h9) rfl (by decide +kernel) (rfl) (rfl) (Nat.le_of_ble_eq_true rfl) dX0_combine_5 (fun H locs w_ hU1 hN1 hW => ?_)
  have hU : jU w w_ [ka, kw] := jU.mono hU1 (by simp)
  have hA3_ := hU1.get hA3 (by simp [n1, n2, n3, Ne.symm n1, Ne.symm n2, Ne.symm n3, m1l, m2l, m3l, m4l, nkl, nwl])
  have hA1_ : w_[ka]? = some (ao, .inr (0, [.ref al, .int vsl])) := hN1
  clear hU1 hN1
  refine lv_iconst (v := nI 0) S.1 S.2.1 dX0_combine_8 (by decide) ?_
  refine lv_istore (lv' := [(4, .int (nI 0)), (0, .ref ao), (1, .ref aol), (2, .ref ao), (3, .int (nI hw))]) S.1 S.2.1 dX0_combine_9 hl (by decide) rfl (fun ls hl => ?_)
  have hA3_ : w_[kw]? = some (aw, .inl (cy 1, 16, .inr (.inl (wd (mixS 0 (fun a => cmb hw (Xl a) (X a)) X))))) := by
    rw [mixS_0]; exact hA3_
  have L11 : ∀ (k : Nat) (i : Nat), 16 - i = k → (i ≤ 16) → ∀ (w_ : va_W), jU w w_ [ka, kw] → (w_[ka]? = some (ao, .inr (0, [.ref al, .int vsl]))) → (w_[kw]? = some (aw, .inl (cy 1, 16, .inr (.inl (wd (mixS i (fun a => cmb hw (Xl a) (X a)) X)))))) → ∀ (H : Heap) (locs : List Loc) (ls : Array Slot), jW D A s.heap w_ H locs → lv_has ls 9 [(0, .ref ao), (1, .ref aol), (2, .ref ao), (3, .int (nI hw)), (4, .int (nI i))] → W p l e (jR 1 0 0) s m args below meth c H locs 0 0 Q (F0 m 11 ls []) := by
    intro k
    induction k using Nat.strongRecOn with
    | ind k ih11 =>
    intro i hk hi w_ hU hA1_ hA3_ H locs ls hW hl
    subst hk
    refine lv_iload S.1 S.2.1 dX0_combine_11 (lv_at hl 4 rfl) ?_
    refine lv_aload_n S.1 S.2.1 dX0_combine_13 rfl (lv_at hl 0 rfl) ?_
    refine j_get (ci := 0) (C := RX0) (T := TX0) (N := 2) (v := .ref al) S (fun w h => List.mem_cons_of_mem _ (inG0 w h)) hK hW hA1_ rfl 0 (by decide) (List.mem_cons_of_mem _ wfl_X0_16) (fun _ h9 => h9) rfl dX0_combine_14 ?_
    refine j_callV (k := kl) (ci := 6) (q := (RX7, TX7, 1)) (As := []) (rest := [.int (nI i)]) S hK hA hW (c_X7_length l D cy kl kw al aw 16 (wd (mixS i (fun a => cmb hw (Xl a) (X a)) X)) (hU.get hA2 (by simp [n1, n2, n3, Ne.symm n1, Ne.symm n2, Ne.symm n3, m1l, m2l, m3l, m4l, nkl, nwl])) hA3_ ) (jgo wm_X0_24) yk_X7_length (hU.get hA2 (by simp [n1, n2, n3, Ne.symm n1, Ne.symm n2, Ne.symm n3, m1l, m2l, m3l, m4l, nkl, nwl])) rfl rfl ⟨⟨rfl, rfl⟩, by decide, by decide⟩ rfl hl.1 rfl (Nat.le_of_ble_eq_true rfl) dX0_combine_17 ⟨by decide, by decide⟩ (fun v u H locs hp hW => ?_)
    obtain ⟨rfl, rfl⟩ := hp
    refine W.eq (g2 := F0 m 20 ls [.int (nI 16), .int (nI i)]) rfl ?_
    refine jn_cmp_ge (tgt := 93) S (by omega) (by omega) dX0_combine_20 (by decide) (fun c_20 => ?_) (fun c_20 => ?_)
    · obtain ⟨w_, hU1, hN1, hW⟩ := j_ghostJ (wd (fun a => cmb hw (Xl a) (X a))) hW hA3_ (fun j hj => by rw [show i = 16 by omega]; exact mixS_end hj)
      have hU := hU.then hU1 (by simp)
      have hA1_ := hU1.get hA1_ (by simp [n1, n2, n3, Ne.symm n1, Ne.symm n2, Ne.symm n3, m1l, m2l, m3l, m4l, nkl, nwl])
      have hA3_ : w_[kw]? = some (aw, .inl (cy 1, 16, .inr (.inl (wd (fun a => cmb hw (Xl a) (X a)))))) := hN1
      clear hU1 hN1
      subst hQ
      exact j_vret (u := w_) S hr hK hW dX0_combine_93 ⟨by decide, by decide⟩ (⟨rfl, hU, hA1_, hA3_⟩)
    · refine lv_aload_n S.1 S.2.1 dX0_combine_23 rfl (lv_at hl 1 rfl) ?_
      refine j_get (ci := 0) (C := RX0) (T := TX0) (N := 2) (v := .ref all) S (fun w h => List.mem_cons_of_mem _ (inG0 w h)) hK hW (hU.get hA1l (by simp [n1, n2, n3, Ne.symm n1, Ne.symm n2, Ne.symm n3, m1l, m2l, m3l, m4l, nkl, nwl])) rfl 0 (by decide) (List.mem_cons_of_mem _ wfl_X0_16) (fun _ h9 => h9) rfl dX0_combine_24 ?_
      refine lv_iload S.1 S.2.1 dX0_combine_27 (lv_at hl 4 rfl) ?_
      refine j_callV (k := kll) (ci := 6) (q := (RX7, TX7, 1)) (As := [.int (nI i)]) (rest := []) S hK hA hW (c_X7_at l D cy kll kwl all awl 16 (wd Xl) (nI i) (hU.get hA2l (by simp [n1, n2, n3, Ne.symm n1, Ne.symm n2, Ne.symm n3, m1l, m2l, m3l, m4l, nkl, nwl])) (hU.get hA3l (by simp [n1, n2, n3, Ne.symm n1, Ne.symm n2, Ne.symm n3, m1l, m2l, m3l, m4l, nkl, nwl])) (by decide)) (jgo wm_X0_32) yk_X7_at (hU.get hA2l (by simp [n1, n2, n3, Ne.symm n1, Ne.symm n2, Ne.symm n3, m1l, m2l, m3l, m4l, nkl, nwl])) rfl rfl ⟨⟨rfl, rfl⟩, by decide, by decide⟩ rfl hl.1 rfl (Nat.le_of_ble_eq_true rfl) dX0_combine_29 ⟨by decide, by decide⟩ (fun v u H locs hp hW => ?_)
      obtain ⟨rfl, rfl⟩ := hp
      refine W.eq (g2 := F0 m 32 ls [.long (rdL (wd Xl) 16 (nI i))]) rfl ?_
      refine lv_topl_to (y := lN (wdN Xl i)) (rdL_nI (by omega) (by decide)) ?_
      refine lv_lstore (lv' := [(5, .long (lN (wdN Xl i))), (0, .ref ao), (1, .ref aol), (2, .ref ao), (3, .int (nI hw)), (4, .int (nI i))]) S.1 S.2.1 dX0_combine_32 hl (by decide) rfl (fun ls hl => ?_)
      refine lv_aload_n S.1 S.2.1 dX0_combine_34 rfl (lv_at hl 3 rfl) ?_
      refine j_get (ci := 0) (C := RX0) (T := TX0) (N := 2) (v := .ref al) S (fun w h => List.mem_cons_of_mem _ (inG0 w h)) hK hW hA1_ rfl 0 (by decide) (List.mem_cons_of_mem _ wfl_X0_16) (fun _ h9 => h9) rfl dX0_combine_35 ?_
      refine lv_iload S.1 S.2.1 dX0_combine_38 (lv_at hl 5 rfl) ?_
      refine j_callV (k := kl) (ci := 6) (q := (RX7, TX7, 1)) (As := [.int (nI i)]) (rest := []) S hK hA hW (c_X7_at l D cy kl kw al aw 16 (wd (mixS i (fun a => cmb hw (Xl a) (X a)) X)) (nI i) (hU.get hA2 (by simp [n1, n2, n3, Ne.symm n1, Ne.symm n2, Ne.symm n3, m1l, m2l, m3l, m4l, nkl, nwl])) hA3_ (by decide)) (jgo wm_X0_32) yk_X7_at (hU.get hA2 (by simp [n1, n2, n3, Ne.symm n1, Ne.symm n2, Ne.symm n3, m1l, m2l, m3l, m4l, nkl, nwl])) rfl rfl ⟨⟨rfl, rfl⟩, by decide, by decide⟩ rfl hl.1 rfl (Nat.le_of_ble_eq_true rfl) dX0_combine_40 ⟨by decide, by decide⟩ (fun v u H locs hp hW => ?_)
      obtain ⟨rfl, rfl⟩ := hp
      refine W.eq (g2 := F0 m 43 ls [.long (rdL (wd (mixS i (fun a => cmb hw (Xl a) (X a)) X)) 16 (nI i))]) rfl ?_
      refine lv_topl_to (y := lN (wdN X i)) (by rw [rdL_nI (j := i) (by omega) (by decide)]; exact congrArg lN (mixS_w i _ X)) ?_
      refine lv_lstore (lv' := [(7, .long (lN (wdN X i))), (5, .long (lN (wdN Xl i))), (0, .ref ao), (1, .ref aol), (2, .ref ao), (3, .int (nI hw)), (4, .int (nI i))]) S.1 S.2.1 dX0_combine_43 hl (by decide) rfl (fun ls hl => ?_)
      refine lv_aload_n S.1 S.2.1 dX0_combine_45 rfl (lv_at hl 2 rfl) ?_
      refine j_get (ci := 0) (C := RX0) (T := TX0) (N := 2) (v := .ref al) S (fun w h => List.mem_cons_of_mem _ (inG0 w h)) hK hW hA1_ rfl 0 (by decide) (List.mem_cons_of_mem _ wfl_X0_16) (fun _ h9 => h9) rfl dX0_combine_46 ?_
      refine lv_iload S.1 S.2.1 dX0_combine_49 (lv_at hl 6 rfl) ?_
      refine lv_iload_n S.1 S.2.1 dX0_combine_51 rfl (lv_at hl 5 rfl) ?_
      refine lv_bipush (v := nI 97) S.1 S.2.1 dX0_combine_52 (by decide) ?_
      refine jn_cmp_ne (tgt := 65) S (by omega) (by omega) dX0_combine_54 (by decide) (fun c_54 => ?_) (fun c_54 => ?_)
      · refine lv_iload_n S.1 S.2.1 dX0_combine_65 rfl (lv_at hl 5 rfl) ?_
        refine lv_bipush (v := nI 111) S.1 S.2.1 dX0_combine_66 (by decide) ?_
        refine jn_cmp_ne (tgt := 79) S (by omega) (by omega) dX0_combine_68 (by decide) (fun c_68 => ?_) (fun c_68 => ?_)
        · refine lv_lload S.1 S.2.1 dX0_combine_79 (lv_at hl 1 rfl) ?_
          refine lv_lload S.1 S.2.1 dX0_combine_81 (lv_at hl 0 rfl) ?_
          refine lv_lxor S.1 S.2.1 dX0_combine_83 ?_
          refine lv_topl_to (y := lN (wdN Xl i ^^^ wdN X i)) (lN_xor (wdN_lt _ _) (wdN_lt _ _)) ?_
          refine j_callV (k := kl) (ci := 6) (q := (RX7, TX7, 1)) (As := [.int (nI i), .long (lN (wdN Xl i ^^^ wdN X i))]) (rest := []) S hK hA hW (c_X7_put l D cy kl kw al aw 16 (wd (mixS i (fun a => cmb hw (Xl a) (X a)) X)) (nI i) (lN (wdN Xl i ^^^ wdN X i)) (hU.get hA2 (by simp [n1, n2, n3, Ne.symm n1, Ne.symm n2, Ne.symm n3, m1l, m2l, m3l, m4l, nkl, nwl])) hA3_ (by decide)) (jgo wm_X0_28) yk_X7_put (hU.get hA2 (by simp [n1, n2, n3, Ne.symm n1, Ne.symm n2, Ne.symm n3, m1l, m2l, m3l, m4l, nkl, nwl])) rfl rfl ⟨⟨rfl, rfl⟩, by decide, by decide⟩ rfl hl.1 rfl (Nat.le_of_ble_eq_true rfl) dX0_combine_84 ⟨by decide, by decide⟩ (fun v w_ H locs hp hW => ?_)
          obtain ⟨rfl, hU1, hN1⟩ := hp
          have hU := hU.then hU1 (by simp)
          have hA1_ := hU1.get hA1_ (by simp [n1, n2, n3, Ne.symm n1, Ne.symm n2, Ne.symm n3, m1l, m2l, m3l, m4l, nkl, nwl])
          have hA3_ : w_[kw]? = some (aw, .inl (cy 1, 16, .inr (.inl (wrL (wd (mixS i (fun a => cmb hw (Xl a) (X a)) X)) 16 (nI i) (lN (wdN Xl i ^^^ wdN X i)))))) := hN1
          clear hU1 hN1
          refine W.eq (g2 := F0 m 87 ls []) rfl ?_
          have hA3_ : w_[kw]? = some (aw, .inl (cy 1, 16, .inr (.inl (wd (mixS (i + 1) (fun a => cmb hw (Xl a) (X a)) X))))) := by
            rw [← mixS_s (i := i) (S := fun a => cmb hw (Xl a) (X a)) (T := X) (N := (wdN Xl i ^^^ wdN X i)) (Nat.xor_lt_two_pow (wdN_lt _ _) (wdN_lt _ _)) (fun b hb => by rw [wd_xor _ _ _ _ hb]; simp [cmb, c_54, c_68]), ← wrL_nI (j := i) (n := 16) (by omega) (by decide)]; exact hA3_
          refine lv_iinc (v := nI (i + 1)) (lv' := [(4, .int (nI (i + 1))), (7, .long (lN (wdN X i))), (5, .long (lN (wdN Xl i))), (0, .ref ao), (1, .ref aol), (2, .ref ao), (3, .int (nI hw))]) S.1 S.2.1 dX0_combine_87 hl (k := 6) rfl (nI_add _ 1) (by decide) rfl (fun ls hl => ?_)
          refine lv_goto (tgt := 11) S.1 S.2.1 dX0_combine_90 (by decide) ?_
          exact ih11 _ (by omega) (i + 1) rfl (by omega) w_ hU hA1_ hA3_ H locs ls hW (lv_sub hl [3, 4, 5, 6, 0] rfl)
        · refine lv_lload S.1 S.2.1 dX0_combine_71 (lv_at hl 1 rfl) ?_
          refine lv_lload S.1 S.2.1 dX0_combine_73 (lv_at hl 0 rfl) ?_
          refine lv_lor S.1 S.2.1 dX0_combine_75 ?_
          refine lv_topl_to (y := lN (wdN Xl i ||| wdN X i)) (wb_or (wdN_lt _ _) (wdN_lt _ _)) ?_
          refine lv_goto (tgt := 84) S.1 S.2.1 dX0_combine_76 (by decide) ?_
          refine j_callV (k := kl) (ci := 6) (q := (RX7, TX7, 1)) (As := [.int (nI i), .long (lN (wdN Xl i ||| wdN X i))]) (rest := []) S hK hA hW (c_X7_put l D cy kl kw al aw 16 (wd (mixS i (fun a => cmb hw (Xl a) (X a)) X)) (nI i) (lN (wdN Xl i ||| wdN X i)) (hU.get hA2 (by simp [n1, n2, n3, Ne.symm n1, Ne.symm n2, Ne.symm n3, m1l, m2l, m3l, m4l, nkl, nwl])) hA3_ (by decide)) (jgo wm_X0_28) yk_X7_put (hU.get hA2 (by simp [n1, n2, n3, Ne.symm n1, Ne.symm n2, Ne.symm n3, m1l, m2l, m3l, m4l, nkl, nwl])) rfl rfl ⟨⟨rfl, rfl⟩, by decide, by decide⟩ rfl hl.1 rfl (Nat.le_of_ble_eq_true rfl) dX0_combine_84 ⟨by decide, by decide⟩ (fun v w_ H locs hp hW => ?_)
          obtain ⟨rfl, hU1, hN1⟩ := hp
          have hU := hU.then hU1 (by simp)
          have hA1_ := hU1.get hA1_ (by simp [n1, n2, n3, Ne.symm n1, Ne.symm n2, Ne.symm n3, m1l, m2l, m3l, m4l, nkl, nwl])
          have hA3_ : w_[kw]? = some (aw, .inl (cy 1, 16, .inr (.inl (wrL (wd (mixS i (fun a => cmb hw (Xl a) (X a)) X)) 16 (nI i) (lN (wdN Xl i ||| wdN X i)))))) := hN1
          clear hU1 hN1
          refine W.eq (g2 := F0 m 87 ls []) rfl ?_
          have hA3_ : w_[kw]? = some (aw, .inl (cy 1, 16, .inr (.inl (wd (mixS (i + 1) (fun a => cmb hw (Xl a) (X a)) X))))) := by
            rw [← mixS_s (i := i) (S := fun a => cmb hw (Xl a) (X a)) (T := X) (N := (wdN Xl i ||| wdN X i)) (Nat.or_lt_two_pow (wdN_lt _ _) (wdN_lt _ _)) (fun b hb => by rw [wd_or _ _ _ _ hb]; simp [cmb, c_54, c_68]), ← wrL_nI (j := i) (n := 16) (by omega) (by decide)]; exact hA3_
          refine lv_iinc (v := nI (i + 1)) (lv' := [(4, .int (nI (i + 1))), (7, .long (lN (wdN X i))), (5, .long (lN (wdN Xl i))), (0, .ref ao), (1, .ref aol), (2, .ref ao), (3, .int (nI hw))]) S.1 S.2.1 dX0_combine_87 hl (k := 6) rfl (nI_add _ 1) (by decide) rfl (fun ls hl => ?_)
          refine lv_goto (tgt := 11) S.1 S.2.1 dX0_combine_90 (by decide) ?_
          exact ih11 _ (by omega) (i + 1) rfl (by omega) w_ hU hA1_ hA3_ H locs ls hW (lv_sub hl [3, 4, 5, 6, 0] rfl)
      · refine lv_lload S.1 S.2.1 dX0_combine_57 (lv_at hl 1 rfl) ?_
        refine lv_lload S.1 S.2.1 dX0_combine_59 (lv_at hl 0 rfl) ?_
        refine lv_land S.1 S.2.1 dX0_combine_61 ?_
        refine lv_topl_to (y := lN (wdN Xl i &&& wdN X i)) (wb_and (wdN_lt _ _) (wdN_lt _ _)) ?_
        refine lv_goto (tgt := 84) S.1 S.2.1 dX0_combine_62 (by decide) ?_
        refine j_callV (k := kl) (ci := 6) (q := (RX7, TX7, 1)) (As := [.int (nI i), .long (lN (wdN Xl i &&& wdN X i))]) (rest := []) S hK hA hW (c_X7_put l D cy kl kw al aw 16 (wd (mixS i (fun a => cmb hw (Xl a) (X a)) X)) (nI i) (lN (wdN Xl i &&& wdN X i)) (hU.get hA2 (by simp [n1, n2, n3, Ne.symm n1, Ne.symm n2, Ne.symm n3, m1l, m2l, m3l, m4l, nkl, nwl])) hA3_ (by decide)) (jgo wm_X0_28) yk_X7_put (hU.get hA2 (by simp [n1, n2, n3, Ne.symm n1, Ne.symm n2, Ne.symm n3, m1l, m2l, m3l, m4l, nkl, nwl])) rfl rfl ⟨⟨rfl, rfl⟩, by decide, by decide⟩ rfl hl.1 rfl (Nat.le_of_ble_eq_true rfl) dX0_combine_84 ⟨by decide, by decide⟩ (fun v w_ H locs hp hW => ?_)
        obtain ⟨rfl, hU1, hN1⟩ := hp
        have hU := hU.then hU1 (by simp)
        have hA1_ := hU1.get hA1_ (by simp [n1, n2, n3, Ne.symm n1, Ne.symm n2, Ne.symm n3, m1l, m2l, m3l, m4l, nkl, nwl])
        have hA3_ : w_[kw]? = some (aw, .inl (cy 1, 16, .inr (.inl (wrL (wd (mixS i (fun a => cmb hw (Xl a) (X a)) X)) 16 (nI i) (lN (wdN Xl i &&& wdN X i)))))) := hN1
        clear hU1 hN1
        refine W.eq (g2 := F0 m 87 ls []) rfl ?_
        have hA3_ : w_[kw]? = some (aw, .inl (cy 1, 16, .inr (.inl (wd (mixS (i + 1) (fun a => cmb hw (Xl a) (X a)) X))))) := by
          rw [← mixS_s (i := i) (S := fun a => cmb hw (Xl a) (X a)) (T := X) (N := (wdN Xl i &&& wdN X i)) (Nat.and_lt_two_pow _ (wdN_lt _ _)) (fun b hb => by rw [wd_and _ _ _ _ hb]; simp [cmb, c_54]), ← wrL_nI (j := i) (n := 16) (by omega) (by decide)]; exact hA3_
        refine lv_iinc (v := nI (i + 1)) (lv' := [(4, .int (nI (i + 1))), (7, .long (lN (wdN X i))), (5, .long (lN (wdN Xl i))), (0, .ref ao), (1, .ref aol), (2, .ref ao), (3, .int (nI hw))]) S.1 S.2.1 dX0_combine_87 hl (k := 6) rfl (nI_add _ 1) (by decide) rfl (fun ls hl => ?_)
        refine lv_goto (tgt := 11) S.1 S.2.1 dX0_combine_90 (by decide) ?_
        exact ih11 _ (by omega) (i + 1) rfl (by omega) w_ hU hA1_ hA3_ H locs ls hW (lv_sub hl [3, 4, 5, 6, 0] rfl)
  exact L11 _ 0 rfl (by decide) w_ hU hA1_ hA3_ H locs ls hW (lv_sub hl [1, 2, 3, 4, 0] rfl)
/-- combine: both are this -/
theorem c_X0_combineB (l : Launch) (D : va_G) (cy : Nat → ClassId) {w : va_W} (ka kl kw ao al aw : Nat) (vs : Int32) (X : Nat → Bool) (hw : Nat) (hA1 : w[ka]? = some (ao, .inr (0, [.ref al, .int vs]))) (hA2 : w[kl]? = some (al, .inr (6, [.ref aw]))) (hA3 : w[kw]? = some (aw, .inl (cy 1, 16, .inr (.inl (wd X))))) (hhw : hw < 65536) : jM l yX0_combine (jws yX0_combine cX0_combine 9 none) (jR 1 0 0) D cy w [.ref ao, .ref ao, .ref ao, .int (nI hw)] 0 0 (fun vv uu => vv = none ∧ jU w uu [ka, kw] ∧ uu[ka]? = some (ao, .inr (0, [.ref al, .int vs])) ∧ uu[kw]? = some (aw, .inl (cy 1, 16, .inr (.inl (wd (fun a => cmb hw (X a) (X a))))))) := by
  have n1 : kl ≠ ka := jne_oo hA2 hA1 (by decide)
  have n2 : kl ≠ kw := jne_oa hA2 hA3
  have n3 : ka ≠ kw := jne_oa hA1 hA3
  refine j_of (by decide) rfl (Nat.le_of_ble_eq_true rfl) ?_
  intro p e s m args below meth c A ls Q hQ S hr hK hA H locs hW hl
  have hl : lv_has ls 9 [(0, .ref ao), (1, .ref ao), (2, .ref ao), (3, .int (nI hw))] := hl
  refine lv_aload_n S.1 S.2.1 dX0_combine_0 rfl (lv_at hl 0 rfl) ?_
  refine lv_aload_n S.1 S.2.1 dX0_combine_1 rfl (lv_at hl 1 rfl) ?_
  refine j_get (ci := 0) (C := RX0) (T := TX0) (N := 2) (v := .int vs) S (fun w h => List.mem_cons_of_mem _ (inG0 w h)) hK hW hA1 rfl 1 (by decide) (List.mem_cons_of_mem _ wfl_X0_20) (fun _ h9 => h9) rfl dX0_combine_2 ?_
  refine j_put (ci := 0) (C := RX0) (T := TX0) (N := 2) (ty := .int) S (fun w h => List.mem_cons_of_mem _ (inG0 w h)) tyX0 tyX0_ok nmX0 hK hW hA1 rfl 1 (by decide) (List.mem_cons_of_mem _ wfl_X0_20) (fun _ h9 => h9) rfl (by decide +kernel) (rfl) (rfl) (Nat.le_of_ble_eq_true rfl) dX0_combine_5 (fun H locs w_ hU1 hN1 hW => ?_)
  have hU : jU w w_ [ka, kw] := jU.mono hU1 (by simp)
  have hA3_ := hU1.get hA3 (by simp [n1, n2, n3, Ne.symm n1, Ne.symm n2, Ne.symm n3])
  have hA1_ : w_[ka]? = some (ao, .inr (0, [.ref al, .int vs])) := hN1
  clear hU1 hN1
  refine lv_iconst (v := nI 0) S.1 S.2.1 dX0_combine_8 (by decide) ?_
  refine lv_istore (lv' := [(4, .int (nI 0)), (0, .ref ao), (1, .ref ao), (2, .ref ao), (3, .int (nI hw))]) S.1 S.2.1 dX0_combine_9 hl (by decide) rfl (fun ls hl => ?_)
  have hA3_ : w_[kw]? = some (aw, .inl (cy 1, 16, .inr (.inl (wd (mixS 0 (fun a => cmb hw (X a) (X a)) X))))) := by
    rw [mixS_0]; exact hA3_
  have L11 : ∀ (k : Nat) (i : Nat), 16 - i = k → (i ≤ 16) → ∀ (w_ : va_W), jU w w_ [ka, kw] → (w_[ka]? = some (ao, .inr (0, [.ref al, .int vs]))) → (w_[kw]? = some (aw, .inl (cy 1, 16, .inr (.inl (wd (mixS i (fun a => cmb hw (X a) (X a)) X)))))) → ∀ (H : Heap) (locs : List Loc) (ls : Array Slot), jW D A s.heap w_ H locs → lv_has ls 9 [(0, .ref ao), (1, .ref ao), (2, .ref ao), (3, .int (nI hw)), (4, .int (nI i))] → W p l e (jR 1 0 0) s m args below meth c H locs 0 0 Q (F0 m 11 ls []) := by
    intro k
    induction k using Nat.strongRecOn with
    | ind k ih11 =>
    intro i hk hi w_ hU hA1_ hA3_ H locs ls hW hl
    subst hk
    refine lv_iload S.1 S.2.1 dX0_combine_11 (lv_at hl 4 rfl) ?_
    refine lv_aload_n S.1 S.2.1 dX0_combine_13 rfl (lv_at hl 0 rfl) ?_
    refine j_get (ci := 0) (C := RX0) (T := TX0) (N := 2) (v := .ref al) S (fun w h => List.mem_cons_of_mem _ (inG0 w h)) hK hW hA1_ rfl 0 (by decide) (List.mem_cons_of_mem _ wfl_X0_16) (fun _ h9 => h9) rfl dX0_combine_14 ?_
    refine j_callV (k := kl) (ci := 6) (q := (RX7, TX7, 1)) (As := []) (rest := [.int (nI i)]) S hK hA hW (c_X7_length l D cy kl kw al aw 16 (wd (mixS i (fun a => cmb hw (X a) (X a)) X)) (hU.get hA2 (by simp [n1, n2, n3, Ne.symm n1, Ne.symm n2, Ne.symm n3])) hA3_ ) (jgo wm_X0_24) yk_X7_length (hU.get hA2 (by simp [n1, n2, n3, Ne.symm n1, Ne.symm n2, Ne.symm n3])) rfl rfl ⟨⟨rfl, rfl⟩, by decide, by decide⟩ rfl hl.1 rfl (Nat.le_of_ble_eq_true rfl) dX0_combine_17 ⟨by decide, by decide⟩ (fun v u H locs hp hW => ?_)
    obtain ⟨rfl, rfl⟩ := hp
    refine W.eq (g2 := F0 m 20 ls [.int (nI 16), .int (nI i)]) rfl ?_
    refine jn_cmp_ge (tgt := 93) S (by omega) (by omega) dX0_combine_20 (by decide) (fun c_20 => ?_) (fun c_20 => ?_)
    · obtain ⟨w_, hU1, hN1, hW⟩ := j_ghostJ (wd (fun a => cmb hw (X a) (X a))) hW hA3_ (fun j hj => by rw [show i = 16 by omega]; exact mixS_end hj)
      have hU := hU.then hU1 (by simp)
      have hA1_ := hU1.get hA1_ (by simp [n1, n2, n3, Ne.symm n1, Ne.symm n2, Ne.symm n3])
      have hA3_ : w_[kw]? = some (aw, .inl (cy 1, 16, .inr (.inl (wd (fun a => cmb hw (X a) (X a)))))) := hN1
      clear hU1 hN1
      subst hQ
      exact j_vret (u := w_) S hr hK hW dX0_combine_93 ⟨by decide, by decide⟩ (⟨rfl, hU, hA1_, hA3_⟩)
    · refine lv_aload_n S.1 S.2.1 dX0_combine_23 rfl (lv_at hl 1 rfl) ?_
      refine j_get (ci := 0) (C := RX0) (T := TX0) (N := 2) (v := .ref al) S (fun w h => List.mem_cons_of_mem _ (inG0 w h)) hK hW hA1_ rfl 0 (by decide) (List.mem_cons_of_mem _ wfl_X0_16) (fun _ h9 => h9) rfl dX0_combine_24 ?_
      refine lv_iload S.1 S.2.1 dX0_combine_27 (lv_at hl 4 rfl) ?_
      refine j_callV (k := kl) (ci := 6) (q := (RX7, TX7, 1)) (As := [.int (nI i)]) (rest := []) S hK hA hW (c_X7_at l D cy kl kw al aw 16 (wd (mixS i (fun a => cmb hw (X a) (X a)) X)) (nI i) (hU.get hA2 (by simp [n1, n2, n3, Ne.symm n1, Ne.symm n2, Ne.symm n3])) hA3_ (by decide)) (jgo wm_X0_32) yk_X7_at (hU.get hA2 (by simp [n1, n2, n3, Ne.symm n1, Ne.symm n2, Ne.symm n3])) rfl rfl ⟨⟨rfl, rfl⟩, by decide, by decide⟩ rfl hl.1 rfl (Nat.le_of_ble_eq_true rfl) dX0_combine_29 ⟨by decide, by decide⟩ (fun v u H locs hp hW => ?_)
      obtain ⟨rfl, rfl⟩ := hp
      refine W.eq (g2 := F0 m 32 ls [.long (rdL (wd (mixS i (fun a => cmb hw (X a) (X a)) X)) 16 (nI i))]) rfl ?_
      refine lv_topl_to (y := lN (wdN X i)) (by rw [rdL_nI (j := i) (by omega) (by decide)]; exact congrArg lN (mixS_w i _ X)) ?_
      refine lv_lstore (lv' := [(5, .long (lN (wdN X i))), (0, .ref ao), (1, .ref ao), (2, .ref ao), (3, .int (nI hw)), (4, .int (nI i))]) S.1 S.2.1 dX0_combine_32 hl (by decide) rfl (fun ls hl => ?_)
      refine lv_aload_n S.1 S.2.1 dX0_combine_34 rfl (lv_at hl 3 rfl) ?_
      refine j_get (ci := 0) (C := RX0) (T := TX0) (N := 2) (v := .ref al) S (fun w h => List.mem_cons_of_mem _ (inG0 w h)) hK hW hA1_ rfl 0 (by decide) (List.mem_cons_of_mem _ wfl_X0_16) (fun _ h9 => h9) rfl dX0_combine_35 ?_
      refine lv_iload S.1 S.2.1 dX0_combine_38 (lv_at hl 5 rfl) ?_
      refine j_callV (k := kl) (ci := 6) (q := (RX7, TX7, 1)) (As := [.int (nI i)]) (rest := []) S hK hA hW (c_X7_at l D cy kl kw al aw 16 (wd (mixS i (fun a => cmb hw (X a) (X a)) X)) (nI i) (hU.get hA2 (by simp [n1, n2, n3, Ne.symm n1, Ne.symm n2, Ne.symm n3])) hA3_ (by decide)) (jgo wm_X0_32) yk_X7_at (hU.get hA2 (by simp [n1, n2, n3, Ne.symm n1, Ne.symm n2, Ne.symm n3])) rfl rfl ⟨⟨rfl, rfl⟩, by decide, by decide⟩ rfl hl.1 rfl (Nat.le_of_ble_eq_true rfl) dX0_combine_40 ⟨by decide, by decide⟩ (fun v u H locs hp hW => ?_)
      obtain ⟨rfl, rfl⟩ := hp
      refine W.eq (g2 := F0 m 43 ls [.long (rdL (wd (mixS i (fun a => cmb hw (X a) (X a)) X)) 16 (nI i))]) rfl ?_
      refine lv_topl_to (y := lN (wdN X i)) (by rw [rdL_nI (j := i) (by omega) (by decide)]; exact congrArg lN (mixS_w i _ X)) ?_
      refine lv_lstore (lv' := [(7, .long (lN (wdN X i))), (5, .long (lN (wdN X i))), (0, .ref ao), (1, .ref ao), (2, .ref ao), (3, .int (nI hw)), (4, .int (nI i))]) S.1 S.2.1 dX0_combine_43 hl (by decide) rfl (fun ls hl => ?_)
      refine lv_aload_n S.1 S.2.1 dX0_combine_45 rfl (lv_at hl 2 rfl) ?_
      refine j_get (ci := 0) (C := RX0) (T := TX0) (N := 2) (v := .ref al) S (fun w h => List.mem_cons_of_mem _ (inG0 w h)) hK hW hA1_ rfl 0 (by decide) (List.mem_cons_of_mem _ wfl_X0_16) (fun _ h9 => h9) rfl dX0_combine_46 ?_
      refine lv_iload S.1 S.2.1 dX0_combine_49 (lv_at hl 6 rfl) ?_
      refine lv_iload_n S.1 S.2.1 dX0_combine_51 rfl (lv_at hl 5 rfl) ?_
      refine lv_bipush (v := nI 97) S.1 S.2.1 dX0_combine_52 (by decide) ?_
      refine jn_cmp_ne (tgt := 65) S (by omega) (by omega) dX0_combine_54 (by decide) (fun c_54 => ?_) (fun c_54 => ?_)
      · refine lv_iload_n S.1 S.2.1 dX0_combine_65 rfl (lv_at hl 5 rfl) ?_
        refine lv_bipush (v := nI 111) S.1 S.2.1 dX0_combine_66 (by decide) ?_
        refine jn_cmp_ne (tgt := 79) S (by omega) (by omega) dX0_combine_68 (by decide) (fun c_68 => ?_) (fun c_68 => ?_)
        · refine lv_lload S.1 S.2.1 dX0_combine_79 (lv_at hl 1 rfl) ?_
          refine lv_lload S.1 S.2.1 dX0_combine_81 (lv_at hl 0 rfl) ?_
          refine lv_lxor S.1 S.2.1 dX0_combine_83 ?_
          refine lv_topl_to (y := lN (wdN X i ^^^ wdN X i)) (lN_xor (wdN_lt _ _) (wdN_lt _ _)) ?_
          refine j_callV (k := kl) (ci := 6) (q := (RX7, TX7, 1)) (As := [.int (nI i), .long (lN (wdN X i ^^^ wdN X i))]) (rest := []) S hK hA hW (c_X7_put l D cy kl kw al aw 16 (wd (mixS i (fun a => cmb hw (X a) (X a)) X)) (nI i) (lN (wdN X i ^^^ wdN X i)) (hU.get hA2 (by simp [n1, n2, n3, Ne.symm n1, Ne.symm n2, Ne.symm n3])) hA3_ (by decide)) (jgo wm_X0_28) yk_X7_put (hU.get hA2 (by simp [n1, n2, n3, Ne.symm n1, Ne.symm n2, Ne.symm n3])) rfl rfl ⟨⟨rfl, rfl⟩, by decide, by decide⟩ rfl hl.1 rfl (Nat.le_of_ble_eq_true rfl) dX0_combine_84 ⟨by decide, by decide⟩ (fun v w_ H locs hp hW => ?_)
          obtain ⟨rfl, hU1, hN1⟩ := hp
          have hU := hU.then hU1 (by simp)
          have hA1_ := hU1.get hA1_ (by simp [n1, n2, n3, Ne.symm n1, Ne.symm n2, Ne.symm n3])
          have hA3_ : w_[kw]? = some (aw, .inl (cy 1, 16, .inr (.inl (wrL (wd (mixS i (fun a => cmb hw (X a) (X a)) X)) 16 (nI i) (lN (wdN X i ^^^ wdN X i)))))) := hN1
          clear hU1 hN1
          refine W.eq (g2 := F0 m 87 ls []) rfl ?_
          have hA3_ : w_[kw]? = some (aw, .inl (cy 1, 16, .inr (.inl (wd (mixS (i + 1) (fun a => cmb hw (X a) (X a)) X))))) := by
            rw [← mixS_s (i := i) (S := fun a => cmb hw (X a) (X a)) (T := X) (N := (wdN X i ^^^ wdN X i)) (Nat.xor_lt_two_pow (wdN_lt _ _) (wdN_lt _ _)) (fun b hb => by rw [wd_xor _ _ _ _ hb]; simp [cmb, c_54, c_68]), ← wrL_nI (j := i) (n := 16) (by omega) (by decide)]; exact hA3_
          refine lv_iinc (v := nI (i + 1)) (lv' := [(4, .int (nI (i + 1))), (7, .long (lN (wdN X i))), (5, .long (lN (wdN X i))), (0, .ref ao), (1, .ref ao), (2, .ref ao), (3, .int (nI hw))]) S.1 S.2.1 dX0_combine_87 hl (k := 6) rfl (nI_add _ 1) (by decide) rfl (fun ls hl => ?_)
          refine lv_goto (tgt := 11) S.1 S.2.1 dX0_combine_90 (by decide) ?_
          exact ih11 _ (by omega) (i + 1) rfl (by omega) w_ hU hA1_ hA3_ H locs ls hW (lv_sub hl [3, 4, 5, 6, 0] rfl)
        · refine lv_lload S.1 S.2.1 dX0_combine_71 (lv_at hl 1 rfl) ?_
          refine lv_lload S.1 S.2.1 dX0_combine_73 (lv_at hl 0 rfl) ?_
          refine lv_lor S.1 S.2.1 dX0_combine_75 ?_
          refine lv_topl_to (y := lN (wdN X i ||| wdN X i)) (wb_or (wdN_lt _ _) (wdN_lt _ _)) ?_
          refine lv_goto (tgt := 84) S.1 S.2.1 dX0_combine_76 (by decide) ?_
          refine j_callV (k := kl) (ci := 6) (q := (RX7, TX7, 1)) (As := [.int (nI i), .long (lN (wdN X i ||| wdN X i))]) (rest := []) S hK hA hW (c_X7_put l D cy kl kw al aw 16 (wd (mixS i (fun a => cmb hw (X a) (X a)) X)) (nI i) (lN (wdN X i ||| wdN X i)) (hU.get hA2 (by simp [n1, n2, n3, Ne.symm n1, Ne.symm n2, Ne.symm n3])) hA3_ (by decide)) (jgo wm_X0_28) yk_X7_put (hU.get hA2 (by simp [n1, n2, n3, Ne.symm n1, Ne.symm n2, Ne.symm n3])) rfl rfl ⟨⟨rfl, rfl⟩, by decide, by decide⟩ rfl hl.1 rfl (Nat.le_of_ble_eq_true rfl) dX0_combine_84 ⟨by decide, by decide⟩ (fun v w_ H locs hp hW => ?_)
          obtain ⟨rfl, hU1, hN1⟩ := hp
          have hU := hU.then hU1 (by simp)
          have hA1_ := hU1.get hA1_ (by simp [n1, n2, n3, Ne.symm n1, Ne.symm n2, Ne.symm n3])
          have hA3_ : w_[kw]? = some (aw, .inl (cy 1, 16, .inr (.inl (wrL (wd (mixS i (fun a => cmb hw (X a) (X a)) X)) 16 (nI i) (lN (wdN X i ||| wdN X i)))))) := hN1
          clear hU1 hN1
          refine W.eq (g2 := F0 m 87 ls []) rfl ?_
          have hA3_ : w_[kw]? = some (aw, .inl (cy 1, 16, .inr (.inl (wd (mixS (i + 1) (fun a => cmb hw (X a) (X a)) X))))) := by
            rw [← mixS_s (i := i) (S := fun a => cmb hw (X a) (X a)) (T := X) (N := (wdN X i ||| wdN X i)) (Nat.or_lt_two_pow (wdN_lt _ _) (wdN_lt _ _)) (fun b hb => by rw [wd_or _ _ _ _ hb]; simp [cmb, c_54, c_68]), ← wrL_nI (j := i) (n := 16) (by omega) (by decide)]; exact hA3_
          refine lv_iinc (v := nI (i + 1)) (lv' := [(4, .int (nI (i + 1))), (7, .long (lN (wdN X i))), (5, .long (lN (wdN X i))), (0, .ref ao), (1, .ref ao), (2, .ref ao), (3, .int (nI hw))]) S.1 S.2.1 dX0_combine_87 hl (k := 6) rfl (nI_add _ 1) (by decide) rfl (fun ls hl => ?_)
          refine lv_goto (tgt := 11) S.1 S.2.1 dX0_combine_90 (by decide) ?_
          exact ih11 _ (by omega) (i + 1) rfl (by omega) w_ hU hA1_ hA3_ H locs ls hW (lv_sub hl [3, 4, 5, 6, 0] rfl)
      · refine lv_lload S.1 S.2.1 dX0_combine_57 (lv_at hl 1 rfl) ?_
        refine lv_lload S.1 S.2.1 dX0_combine_59 (lv_at hl 0 rfl) ?_
        refine lv_land S.1 S.2.1 dX0_combine_61 ?_
        refine lv_topl_to (y := lN (wdN X i &&& wdN X i)) (wb_and (wdN_lt _ _) (wdN_lt _ _)) ?_
        refine lv_goto (tgt := 84) S.1 S.2.1 dX0_combine_62 (by decide) ?_
        refine j_callV (k := kl) (ci := 6) (q := (RX7, TX7, 1)) (As := [.int (nI i), .long (lN (wdN X i &&& wdN X i))]) (rest := []) S hK hA hW (c_X7_put l D cy kl kw al aw 16 (wd (mixS i (fun a => cmb hw (X a) (X a)) X)) (nI i) (lN (wdN X i &&& wdN X i)) (hU.get hA2 (by simp [n1, n2, n3, Ne.symm n1, Ne.symm n2, Ne.symm n3])) hA3_ (by decide)) (jgo wm_X0_28) yk_X7_put (hU.get hA2 (by simp [n1, n2, n3, Ne.symm n1, Ne.symm n2, Ne.symm n3])) rfl rfl ⟨⟨rfl, rfl⟩, by decide, by decide⟩ rfl hl.1 rfl (Nat.le_of_ble_eq_true rfl) dX0_combine_84 ⟨by decide, by decide⟩ (fun v w_ H locs hp hW => ?_)
        obtain ⟨rfl, hU1, hN1⟩ := hp
        have hU := hU.then hU1 (by simp)
        have hA1_ := hU1.get hA1_ (by simp [n1, n2, n3, Ne.symm n1, Ne.symm n2, Ne.symm n3])
        have hA3_ : w_[kw]? = some (aw, .inl (cy 1, 16, .inr (.inl (wrL (wd (mixS i (fun a => cmb hw (X a) (X a)) X)) 16 (nI i) (lN (wdN X i &&& wdN X i)))))) := hN1
        clear hU1 hN1
        refine W.eq (g2 := F0 m 87 ls []) rfl ?_
        have hA3_ : w_[kw]? = some (aw, .inl (cy 1, 16, .inr (.inl (wd (mixS (i + 1) (fun a => cmb hw (X a) (X a)) X))))) := by
          rw [← mixS_s (i := i) (S := fun a => cmb hw (X a) (X a)) (T := X) (N := (wdN X i &&& wdN X i)) (Nat.and_lt_two_pow _ (wdN_lt _ _)) (fun b hb => by rw [wd_and _ _ _ _ hb]; simp [cmb, c_54]), ← wrL_nI (j := i) (n := 16) (by omega) (by decide)]; exact hA3_
        refine lv_iinc (v := nI (i + 1)) (lv' := [(4, .int (nI (i + 1))), (7, .long (lN (wdN X i))), (5, .long (lN (wdN X i))), (0, .ref ao), (1, .ref ao), (2, .ref ao), (3, .int (nI hw))]) S.1 S.2.1 dX0_combine_87 hl (k := 6) rfl (nI_add _ 1) (by decide) rfl (fun ls hl => ?_)
        refine lv_goto (tgt := 11) S.1 S.2.1 dX0_combine_90 (by decide) ?_
        exact ih11 _ (by omega) (i + 1) rfl (by omega) w_ hU hA1_ hA3_ H locs ls hW (lv_sub hl [3, 4, 5, 6, 0] rfl)
  exact L11 _ 0 rfl (by decide) w_ hU hA1_ hA3_ H locs ls hW (lv_sub hl [1, 2, 3, 4, 0] rfl)
