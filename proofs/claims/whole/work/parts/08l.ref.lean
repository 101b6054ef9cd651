/-! THE REFERENCE: rows kept (laid by wip/whole/tools, from the specs there) -/
/-! THE REFERENCE: the rows that are kept -/
section JWB
variable {p : Program} {l : Launch} {e : Env} {R : Room} {s : State} {m : MethodId} {args : Array Value} {below : List Frame} {meth : Method} {c : Code} {H : Heap} {locs : List Loc} {cells slots : Nat} {Q : State → Prop}
variable {cc : ByteArray} {pc : Nat} {ls : Array Slot} {rest st : List Value} {D : va_G} {cy : Nat → ClassId} {A : Nat → Prop} {H0 : Heap} {w : va_W} {Ts : List Cond} {nL : Nat} {own : String}
theorem j_aaldB (S : CallFix p m c cc nL s args Ts own) (hK : jK D cy s) (hW : jW D A H0 w H locs) {q0 a : Nat} {n : Nat} {f : Nat → Option Nat} (ha : w[q0]? = some (a, .inl (cy 6, n, .inr (.inr (.inr (.inr f)))))) {i : Int32} {j : Nat} (hi : vp_in i n) (hj : i.toNatClampNeg = j) {x : Value} (hv : va_rf (f j) = x) (hdg : decode cc pc = .ok (.aaload, 1))
    (kk : W p l e R s m args below meth c H locs cells slots Q (F0 m (pc + 1) ls (x :: rest))) : W p l e R s m args below meth c H locs cells slots Q (F0 m pc ls (.int i :: .ref a :: rest)) := by
  subst hj; subst hv
  have hlt : i.toNatClampNeg < n := Nat.not_le.mp fun q => hi (Or.inr q)
  have ht : (tyG cy)[6]? = some (cy 6, .array .boolean) := rfl
  exact W.aald (v := va_rf (f i.toNatClampNeg)) (ty := .array .boolean) S.1 S.2.1 (hW.1 q0 _ ha) ((hK.1.2 6 _ ht).1 n (fun j => va_rf (f j))) rfl (fun q => by cases q) (by show ¬ (i < 0 ∨ (arrV _ _ _).slots.size ≤ _); rw [arrV_size]; exact hi) (by show (arrV _ _ _).slots[_]? = _; rw [arrV_read _ _ hlt]) rfl rfl hdg kk
end JWB
theorem kp_at {ad : Nat → Nat} {j : Nat} (h : j < 4) : va_rf (kpF ad j) = .ref (ad (67 + j)) := by unfold kpF; rw [if_pos h]; rfl
/-- isSlot -/
theorem c_X12_isSlot (l : Launch) (D : va_G) (cy : Nat → ClassId) {w : va_W} (v : Int32) : jM l yX12_isSlot (jws yX12_isSlot cX12_isSlot 1 (some .boolean)) (jR 1 0 0) D cy w [.int v] 0 0 (fun vv uu => vv = some (.int (bI (vB v 4))) ∧ w = uu) := by
  refine j_of (by decide) rfl (Nat.le_of_ble_eq_true rfl) ?_
  intro p e s m args below meth c A ls Q hQ S hr hK hA H locs hW hl
  have hl : lv_has ls 1 [(0, .int v)] := hl
  refine lv_iload_n S.1 S.2.1 dX12_isSlot_0 rfl (lv_at hl 0 rfl) ?_
  refine lv_iconst (v := nI 0) S.1 S.2.1 dX12_isSlot_1 (by decide) ?_
  refine lv_iconst (v := nI 3) S.1 S.2.1 dX12_isSlot_2 (by decide) ?_
  refine j_callS (As := [.int v, .int (nI 0), .int (nI 3)]) (rest := []) S hK hA hW (c_X12_isBetween l D cy v (nI 0) (nI 3)    ) (jgo wm_X12_67) yk_X12_isBetween ⟨⟨rfl, rfl⟩, by decide, by decide⟩ rfl hl.1 rfl (Nat.le_of_ble_eq_true rfl) dX12_isSlot_3 ⟨Nat.le_of_ble_eq_true rfl, Nat.le_of_ble_eq_true rfl⟩ (fun v u H locs hp hW => ?_)
  obtain ⟨rfl, rfl⟩ := hp
  refine W.eq (g2 := F0 m 6 ls [.int (bI (decide ((nI 0) ≤ v) && decide (v ≤ (nI 3))))]) rfl ?_
  refine lv_topi_to (y := bI (vB v 4)) (by rw [btw_k (k := 3) (by decide)]) ?_
  subst hQ
  exact j_iret (u := w) S hr (bI_nar _) hK hW dX12_isSlot_6 ⟨by decide, by decide⟩ (⟨rfl, rfl⟩)
/-- readsSlot -/
theorem c_X12_readsSlot (l : Launch) (D : va_G) (cy : Nat → ClassId) {w : va_W} (ad : Nat → Nat) (th n nc : Nat) (gx : Nat → Nat → Bool) (rb : Nat → Bool) (j : Nat) (gO : w[55]? = some (ad 55, .inr (11, [.int (nI th), .ref (ad 56), .ref (ad 57), .ref (ad 58), .ref (ad 59), .ref (ad 60), .ref (ad 61), .ref (ad 62), .ref (ad 63), .ref (ad 64), .ref (ad 65), .int (nI n), .int (nI nc), .ref (ad 66), .ref (ad 71), .ref (ad 72), .ref (ad 73)]))) (gK : w[66]? = some (ad 66, .inl (cy 6, 4, .inr (.inr (.inr (.inr (kpF ad))))))) (gX : w[67 + j]? = some (ad (67 + j), .inl (cy 3, 1024, .inl (bf (gx j))))) (gR : w[72]? = some (ad 72, .inl (cy 3, 1024, .inl (bf rb)))) (hj : j < 4) : jM l yX12_readsSlot (jws yX12_readsSlot cX12_readsSlot 3 none) (jR 0 0 0) D cy w [.ref (ad 55), .int (nI j)] 0 0 (fun vv uu => vv = none ∧ jU w uu [72] ∧ uu[72]? = some (ad 72, .inl (cy 3, 1024, .inl (bf (rowM (gx j) rb))))) := by
  refine j_of (by decide) rfl (Nat.le_of_ble_eq_true rfl) ?_
  intro p e s m args below meth c A ls Q hQ S hr hK hA H locs hW hl
  have hl : lv_has ls 3 [(0, .ref (ad 55)), (1, .int (nI j))] := hl
  refine lv_iconst (v := nI 0) S.1 S.2.1 dX12_readsSlot_0 (by decide) ?_
  refine lv_istore_n (lv' := [(2, .int (nI 0)), (0, .ref (ad 55)), (1, .int (nI j))]) S.1 S.2.1 dX12_readsSlot_1 rfl hl (by decide) rfl (fun ls hl => ?_)
  have gR_ : w[72]? = some (ad 72, .inl (cy 3, 1024, .inl (bf (mixF (gx j) rb 0)))) := by
    rw [mixF_0]; exact gR
  have L2 : ∀ (k : Nat) (i : Nat), 1024 - i = k → (i ≤ 1024) → ∀ (w_ : va_W), jU w w_ [72] → (w_[72]? = some (ad 72, .inl (cy 3, 1024, .inl (bf (mixF (gx j) rb i))))) → ∀ (H : Heap) (locs : List Loc) (ls : Array Slot), jW D A s.heap w_ H locs → lv_has ls 3 [(0, .ref (ad 55)), (1, .int (nI j)), (2, .int (nI i))] → W p l e (jR 0 0 0) s m args below meth c H locs 0 0 Q (F0 m 2 ls []) := by
    intro k
    induction k using Nat.strongRecOn with
    | ind k ih2 =>
    intro i hk hi w_ hU gR_ H locs ls hW hl
    subst hk
    refine lv_iload_n S.1 S.2.1 dX12_readsSlot_2 rfl (lv_at hl 2 rfl) ?_
    refine lv_sipush (v := nI 1024) S.1 S.2.1 dX12_readsSlot_3 (by decide) ?_
    refine jn_cmp_ge (tgt := 29) S (by omega) (by omega) dX12_readsSlot_6 (by decide) (fun c_6 => ?_) (fun c_6 => ?_)
    · subst hQ
      refine j_vret (u := w_) S hr hK hW dX12_readsSlot_29 ⟨by decide, by decide⟩ ?_
      have ei : i = 1024 := by omega
      subst ei
      exact ⟨rfl, hU, gR_⟩
    · refine lv_aload_n S.1 S.2.1 dX12_readsSlot_9 rfl (lv_at hl 0 rfl) ?_
      refine j_get (ci := 11) (C := RX12) (T := TX12) (N := 17) (v := .ref (ad 72)) S (fun w h => List.mem_cons_of_mem _ (inG12 w h)) hK hW (hU.get gO (by decide)) rfl 15 (by decide) (List.mem_cons_of_mem _ wfl_X12_58) (fun _ h9 => h9) rfl dX12_readsSlot_10 ?_
      refine lv_iload_n S.1 S.2.1 dX12_readsSlot_13 rfl (lv_at hl 2 rfl) ?_
      refine lv_aload_n S.1 S.2.1 dX12_readsSlot_14 rfl (lv_at hl 0 rfl) ?_
      refine j_get (ci := 11) (C := RX12) (T := TX12) (N := 17) (v := .ref (ad 66)) S (fun w h => List.mem_cons_of_mem _ (inG12 w h)) hK hW (hU.get gO (by decide)) rfl 13 (by decide) (List.mem_cons_of_mem _ wfl_X12_52) (fun _ h9 => h9) rfl dX12_readsSlot_15 ?_
      refine lv_iload_n S.1 S.2.1 dX12_readsSlot_18 rfl (lv_at hl 1 rfl) ?_
      refine j_aaldB (x := .ref (ad (67 + j))) S hK hW (hU.get gK (by decide)) (vp_in_nI (by omega) (by omega)) (nI_clamp (by omega)) (kp_at hj) dX12_readsSlot_19 ?_
      refine lv_iload_n S.1 S.2.1 dX12_readsSlot_20 rfl (lv_at hl 2 rfl) ?_
      refine j_zald (x := bI (gx j i)) S hK hW (hU.get gX (by simp; omega)) (vp_in_nI (by omega) (by omega)) (nI_clamp (by omega)) (rfl) dX12_readsSlot_21 ?_
      refine j_zast S hK hW gR_ (vp_in_nI (by omega) (by omega)) (nI_clamp (by omega)) (bI_vnar _) dX12_readsSlot_22 (fun H locs w_ hU1 hN1 hW => ?_)
      have hU := hU.then hU1 (by decide)
      have gR_ : w_[72]? = some (ad 72, .inl (cy 3, 1024, .inl (upd (bf (mixF (gx j) rb i)) i (bI (gx j i))))) := hN1
      clear hU1 hN1
      have gR_ : w_[72]? = some (ad 72, .inl (cy 3, 1024, .inl (bf (mixF (gx j) rb (i + 1))))) := by
        rw [← mixF_upd (g := gx j) (b := gx j i) rfl]; exact gR_
      refine lv_iinc (v := nI (i + 1)) (lv' := [(2, .int (nI (i + 1))), (0, .ref (ad 55)), (1, .int (nI j))]) S.1 S.2.1 dX12_readsSlot_23 hl (k := 2) rfl (nI_add _ 1) (by decide) rfl (fun ls hl => ?_)
      refine lv_goto (tgt := 2) S.1 S.2.1 dX12_readsSlot_26 (by decide) ?_
      exact ih2 _ (by omega) (i + 1) rfl (by omega) w_ hU gR_ H locs ls hW (lv_sub hl [1, 2, 0] rfl)
  exact L2 _ 0 rfl (Nat.zero_le _) w jU.rf gR_ H locs ls hW (lv_sub hl [1, 2, 0] rfl)
/-- modelsOf -/
theorem c_X12_modelsOf_ok (l : Launch) (D : va_G) (cy : Nat → ClassId) {w : va_W} (ad : Nat → Nat) (th n nc : Nat) (kv : Nat → Int32) (gx : Nat → Nat → Bool) (j : Nat) (gO : w[55]? = some (ad 55, .inr (11, [.int (nI th), .ref (ad 56), .ref (ad 57), .ref (ad 58), .ref (ad 59), .ref (ad 60), .ref (ad 61), .ref (ad 62), .ref (ad 63), .ref (ad 64), .ref (ad 65), .int (nI n), .int (nI nc), .ref (ad 66), .ref (ad 71), .ref (ad 72), .ref (ad 73)]))) (gK : w[66]? = some (ad 66, .inl (cy 6, 4, .inr (.inr (.inr (.inr (kpF ad))))))) (gV : w[71]? = some (ad 71, .inl (cy 0, 4, .inl kv))) (gX : w[67 + j]? = some (ad (67 + j), .inl (cy 3, 1024, .inl (bf (gx j))))) (hj : j < 4) (hkv : ¬ kv j < 0) : jM l yX12_modelsOf (jws yX12_modelsOf cX12_modelsOf 5 (some .long)) (jR 2 0 0) D cy w [.ref (ad 55), .int (nI j)] 0 0 (fun vv uu => vv = some (.long (lN (cnt (gx j) 1024))) ∧ jU w uu [55] ∧ uu[55]? = some (ad 55, .inr (11, [.int (nI 0), .ref (ad 56), .ref (ad 57), .ref (ad 58), .ref (ad 59), .ref (ad 60), .ref (ad 61), .ref (ad 62), .ref (ad 63), .ref (ad 64), .ref (ad 65), .int (nI n), .int (nI nc), .ref (ad 66), .ref (ad 71), .ref (ad 72), .ref (ad 73)]))) := by
  refine j_of (by decide) rfl (Nat.le_of_ble_eq_true rfl) ?_
  intro p e s m args below meth c A ls Q hQ S hr hK hA H locs hW hl
  have hl : lv_has ls 5 [(0, .ref (ad 55)), (1, .int (nI j))] := hl
  refine lv_aload_n S.1 S.2.1 dX12_modelsOf_0 rfl (lv_at hl 0 rfl) ?_
  refine lv_iconst (v := nI 0) S.1 S.2.1 dX12_modelsOf_1 (by decide) ?_
  refine j_put (ci := 11) (C := RX12) (T := TX12) (N := 17) (ty := .int) S (fun w h => List.mem_cons_of_mem _ (inG12 w h)) tyX12 tyX12_ok nmX12 hK hW gO rfl 0 (by decide) (List.mem_cons_of_mem _ wfl_X12_1) (fun _ h9 => h9) rfl (by decide +kernel) (rfl) (rfl) (Nat.le_of_ble_eq_true rfl) dX12_modelsOf_2 (fun H locs w_ hU1 hN1 hW => ?_)
  have hU : jU w w_ [55] := jU.mono hU1 (by decide)
  have gO_ : w_[55]? = some (ad 55, .inr (11, [.int (nI 0), .ref (ad 56), .ref (ad 57), .ref (ad 58), .ref (ad 59), .ref (ad 60), .ref (ad 61), .ref (ad 62), .ref (ad 63), .ref (ad 64), .ref (ad 65), .int (nI n), .int (nI nc), .ref (ad 66), .ref (ad 71), .ref (ad 72), .ref (ad 73)])) := hN1
  clear hU1 hN1
  refine lv_iload_n S.1 S.2.1 dX12_modelsOf_5 rfl (lv_at hl 1 rfl) ?_
  refine j_callS (As := [.int (nI j)]) (rest := []) S hK hA hW (c_X12_isSlot l D cy (nI j)    ) (jgo wm_X12_162) yk_X12_isSlot ⟨⟨rfl, rfl⟩, by decide, by decide⟩ rfl hl.1 rfl (Nat.le_of_ble_eq_true rfl) dX12_modelsOf_6 ⟨Nat.le_of_ble_eq_true rfl, Nat.le_of_ble_eq_true rfl⟩ (fun v u H locs hp hW => ?_)
  obtain ⟨rfl, rfl⟩ := hp
  refine W.eq (g2 := F0 m 9 ls [.int (bI (vB (nI j) 4))]) rfl ?_
  refine jb_if_ne (tgt := 19) S dX12_modelsOf_9 (by decide) (fun c_9 => ?_) (fun c_9 => ?_)
  · refine lv_aload_n S.1 S.2.1 dX12_modelsOf_19 rfl (lv_at hl 0 rfl) ?_
    refine j_get (ci := 11) (C := RX12) (T := TX12) (N := 17) (v := .ref (ad 71)) S (fun w h => List.mem_cons_of_mem _ (inG12 w h)) hK hW gO_ rfl 14 (by decide) (List.mem_cons_of_mem _ wfl_X12_55) (fun _ h9 => h9) rfl dX12_modelsOf_20 ?_
    refine lv_iload_n S.1 S.2.1 dX12_modelsOf_23 rfl (lv_at hl 1 rfl) ?_
    refine j_iald (x := kv j) S hK hW (hU.get gV (by decide)) (vp_in_nI (by omega) (by omega)) (nI_clamp (by omega)) (rfl) dX12_modelsOf_24 ?_
    refine lv_if_ge (tgt := 35) S.1 S.2.1 dX12_modelsOf_25 (by decide) (fun c_25 => ?_) (fun c_25 => ?_)
    · refine lv_lconst (v := lN 0) S.1 S.2.1 dX12_modelsOf_35 (by decide) ?_
      refine lv_lstore_n (lv' := [(2, .long (lN 0)), (0, .ref (ad 55)), (1, .int (nI j))]) S.1 S.2.1 dX12_modelsOf_36 rfl hl (by decide) rfl (fun ls hl => ?_)
      refine lv_iconst (v := nI 0) S.1 S.2.1 dX12_modelsOf_37 (by decide) ?_
      refine lv_istore (lv' := [(4, .int (nI 0)), (2, .long (lN 0)), (0, .ref (ad 55)), (1, .int (nI j))]) S.1 S.2.1 dX12_modelsOf_38 hl (by decide) rfl (fun ls hl => ?_)
      have L40 : ∀ (k : Nat) (i : Nat), 1024 - i = k → (i ≤ 1024) → ∀ (w_ : va_W), jU w w_ [55] → (w_[55]? = some (ad 55, .inr (11, [.int (nI 0), .ref (ad 56), .ref (ad 57), .ref (ad 58), .ref (ad 59), .ref (ad 60), .ref (ad 61), .ref (ad 62), .ref (ad 63), .ref (ad 64), .ref (ad 65), .int (nI n), .int (nI nc), .ref (ad 66), .ref (ad 71), .ref (ad 72), .ref (ad 73)]))) → ∀ (H : Heap) (locs : List Loc) (ls : Array Slot), jW D A s.heap w_ H locs → lv_has ls 5 [(0, .ref (ad 55)), (1, .int (nI j)), (2, .long (lN (cnt (gx j) i))), (4, .int (nI i))] → W p l e (jR 2 0 0) s m args below meth c H locs 0 0 Q (F0 m 40 ls []) := by
        intro k
        induction k using Nat.strongRecOn with
        | ind k ih40 =>
        intro i hk hi w_ hU gO_ H locs ls hW hl
        subst hk
        refine lv_iload S.1 S.2.1 dX12_modelsOf_40 (lv_at hl 3 rfl) ?_
        refine lv_sipush (v := nI 1024) S.1 S.2.1 dX12_modelsOf_42 (by decide) ?_
        refine jn_cmp_ge (tgt := 74) S (by omega) (by omega) dX12_modelsOf_45 (by decide) (fun c_45 => ?_) (fun c_45 => ?_)
        · refine lv_lload_n S.1 S.2.1 dX12_modelsOf_74 rfl (lv_at hl 2 rfl) ?_
          subst hQ
          refine j_lret (u := w_) S hr hK hW dX12_modelsOf_75 ⟨by decide, by decide⟩ ?_
          have ei : i = 1024 := by omega
          subst ei
          exact ⟨rfl, hU, gO_⟩
        · refine lv_lload_n S.1 S.2.1 dX12_modelsOf_48 rfl (lv_at hl 2 rfl) ?_
          refine lv_aload_n S.1 S.2.1 dX12_modelsOf_49 rfl (lv_at hl 0 rfl) ?_
          refine j_get (ci := 11) (C := RX12) (T := TX12) (N := 17) (v := .ref (ad 66)) S (fun w h => List.mem_cons_of_mem _ (inG12 w h)) hK hW gO_ rfl 13 (by decide) (List.mem_cons_of_mem _ wfl_X12_52) (fun _ h9 => h9) rfl dX12_modelsOf_50 ?_
          refine lv_iload_n S.1 S.2.1 dX12_modelsOf_53 rfl (lv_at hl 1 rfl) ?_
          refine j_aaldB (x := .ref (ad (67 + j))) S hK hW (hU.get gK (by decide)) (vp_in_nI (by omega) (by omega)) (nI_clamp (by omega)) (kp_at hj) dX12_modelsOf_54 ?_
          refine lv_iload S.1 S.2.1 dX12_modelsOf_55 (lv_at hl 3 rfl) ?_
          refine j_zald (x := bI (gx j i)) S hK hW (hU.get gX (by simp; omega)) (vp_in_nI (by omega) (by omega)) (nI_clamp (by omega)) (rfl) dX12_modelsOf_57 ?_
          refine jb_if_eq (tgt := 65) S dX12_modelsOf_58 (by decide) (fun c_58 => ?_) (fun c_58 => ?_)
          · refine lv_lconst (v := lN 0) S.1 S.2.1 dX12_modelsOf_65 (by decide) ?_
            refine jnl_add S dX12_modelsOf_66 ?_
            refine lv_topl_to (y := lN (cnt (gx j) (i + 1))) (congrArg lN (by first | exact (cnt_s1 c_58).symm | exact (cnt_s0 c_58).symm)) ?_
            refine lv_lstore_n (lv' := [(2, .long (lN (cnt (gx j) (i + 1)))), (0, .ref (ad 55)), (1, .int (nI j)), (4, .int (nI i))]) S.1 S.2.1 dX12_modelsOf_67 rfl hl (by decide) rfl (fun ls hl => ?_)
            refine lv_iinc (v := nI (i + 1)) (lv' := [(4, .int (nI (i + 1))), (2, .long (lN (cnt (gx j) (i + 1)))), (0, .ref (ad 55)), (1, .int (nI j))]) S.1 S.2.1 dX12_modelsOf_68 hl (k := 3) rfl (nI_add _ 1) (by decide) rfl (fun ls hl => ?_)
            refine lv_goto (tgt := 40) S.1 S.2.1 dX12_modelsOf_71 (by decide) ?_
            exact ih40 _ (by omega) (i + 1) rfl (by omega) w_ hU gO_ H locs ls hW (lv_sub hl [2, 3, 1, 0] rfl)
          · refine lv_lconst (v := lN 1) S.1 S.2.1 dX12_modelsOf_61 (by decide) ?_
            refine lv_goto (tgt := 66) S.1 S.2.1 dX12_modelsOf_62 (by decide) ?_
            refine jnl_add S dX12_modelsOf_66 ?_
            refine lv_topl_to (y := lN (cnt (gx j) (i + 1))) (congrArg lN (by first | exact (cnt_s1 c_58).symm | exact (cnt_s0 c_58).symm)) ?_
            refine lv_lstore_n (lv' := [(2, .long (lN (cnt (gx j) (i + 1)))), (0, .ref (ad 55)), (1, .int (nI j)), (4, .int (nI i))]) S.1 S.2.1 dX12_modelsOf_67 rfl hl (by decide) rfl (fun ls hl => ?_)
            refine lv_iinc (v := nI (i + 1)) (lv' := [(4, .int (nI (i + 1))), (2, .long (lN (cnt (gx j) (i + 1)))), (0, .ref (ad 55)), (1, .int (nI j))]) S.1 S.2.1 dX12_modelsOf_68 hl (k := 3) rfl (nI_add _ 1) (by decide) rfl (fun ls hl => ?_)
            refine lv_goto (tgt := 40) S.1 S.2.1 dX12_modelsOf_71 (by decide) ?_
            exact ih40 _ (by omega) (i + 1) rfl (by omega) w_ hU gO_ H locs ls hW (lv_sub hl [2, 3, 1, 0] rfl)
      exact L40 _ 0 rfl (Nat.zero_le _) w_ hU gO_ H locs ls hW (lv_sub hl [2, 3, 1, 0] rfl)
    · first | exact absurd c_25 hkv | exact absurd (Int32.not_le.mp c_25) hkv | exact hkv (i32_lt.mpr c_25)
  · exact absurd (vB_nI hj (by decide)) (by rw [c_9]; decide)
/-- modelsOf, no such slot -/
theorem c_X12_modelsOf_b1 (l : Launch) (D : va_G) (cy : Nat → ClassId) {w : va_W} (ad : Nat → Nat) (th n nc : Nat) (v : Int32) (gO : w[55]? = some (ad 55, .inr (11, [.int (nI th), .ref (ad 56), .ref (ad 57), .ref (ad 58), .ref (ad 59), .ref (ad 60), .ref (ad 61), .ref (ad 62), .ref (ad 63), .ref (ad 64), .ref (ad 65), .int (nI n), .int (nI nc), .ref (ad 66), .ref (ad 71), .ref (ad 72), .ref (ad 73)]))) (hv : vB v 4 = false) : jM l yX12_modelsOf (jws yX12_modelsOf cX12_modelsOf 5 (some .long)) (jR 2 0 0) D cy w [.ref (ad 55), .int v] 0 0 (fun vv uu => vv = some (.long (lN 0)) ∧ jU w uu [55] ∧ uu[55]? = some (ad 55, .inr (11, [.int (nI 1), .ref (ad 56), .ref (ad 57), .ref (ad 58), .ref (ad 59), .ref (ad 60), .ref (ad 61), .ref (ad 62), .ref (ad 63), .ref (ad 64), .ref (ad 65), .int (nI n), .int (nI nc), .ref (ad 66), .ref (ad 71), .ref (ad 72), .ref (ad 73)]))) := by
  refine j_of (by decide) rfl (Nat.le_of_ble_eq_true rfl) ?_
  intro p e s m args below meth c A ls Q hQ S hr hK hA H locs hW hl
  have hl : lv_has ls 5 [(0, .ref (ad 55)), (1, .int v)] := hl
  refine lv_aload_n S.1 S.2.1 dX12_modelsOf_0 rfl (lv_at hl 0 rfl) ?_
  refine lv_iconst (v := nI 0) S.1 S.2.1 dX12_modelsOf_1 (by decide) ?_
  refine j_put (ci := 11) (C := RX12) (T := TX12) (N := 17) (ty := .int) S (fun w h => List.mem_cons_of_mem _ (inG12 w h)) tyX12 tyX12_ok nmX12 hK hW gO rfl 0 (by decide) (List.mem_cons_of_mem _ wfl_X12_1) (fun _ h9 => h9) rfl (by decide +kernel) (rfl) (rfl) (Nat.le_of_ble_eq_true rfl) dX12_modelsOf_2 (fun H locs w_ hU1 hN1 hW => ?_)
  have hU : jU w w_ [55] := jU.mono hU1 (by decide)
  have gO_ : w_[55]? = some (ad 55, .inr (11, [.int (nI 0), .ref (ad 56), .ref (ad 57), .ref (ad 58), .ref (ad 59), .ref (ad 60), .ref (ad 61), .ref (ad 62), .ref (ad 63), .ref (ad 64), .ref (ad 65), .int (nI n), .int (nI nc), .ref (ad 66), .ref (ad 71), .ref (ad 72), .ref (ad 73)])) := hN1
  clear hU1 hN1
  refine lv_iload_n S.1 S.2.1 dX12_modelsOf_5 rfl (lv_at hl 1 rfl) ?_
  refine j_callS (As := [.int v]) (rest := []) S hK hA hW (c_X12_isSlot l D cy v    ) (jgo wm_X12_162) yk_X12_isSlot ⟨⟨rfl, rfl⟩, by decide, by decide⟩ rfl hl.1 rfl (Nat.le_of_ble_eq_true rfl) dX12_modelsOf_6 ⟨Nat.le_of_ble_eq_true rfl, Nat.le_of_ble_eq_true rfl⟩ (fun v u H locs hp hW => ?_)
  obtain ⟨rfl, rfl⟩ := hp
  refine W.eq (g2 := F0 m 9 ls [.int (bI (vB v 4))]) rfl ?_
  refine jb_if_ne (tgt := 19) S dX12_modelsOf_9 (by decide) (fun c_9 => ?_) (fun c_9 => ?_)
  · exact absurd c_9 (by rw [hv]; decide)
  · refine lv_aload_n S.1 S.2.1 dX12_modelsOf_12 rfl (lv_at hl 0 rfl) ?_
    refine lv_iconst (v := nI 1) S.1 S.2.1 dX12_modelsOf_13 (by decide) ?_
    refine j_callV (k := 55) (ci := 11) (q := (RX12, TX12, 17)) (As := [.int (nI 1)]) (rest := []) S hK hA hW (c_X12_fails l D cy ad 0 n nc 1 gO_   ) (jgo wm_X12_71) yk_X12_fails gO_ rfl rfl ⟨⟨rfl, rfl⟩, by decide, by decide⟩ rfl hl.1 rfl (Nat.le_of_ble_eq_true rfl) dX12_modelsOf_14 ⟨Nat.le_of_ble_eq_true rfl, Nat.le_of_ble_eq_true rfl⟩ (fun v w_ H locs hp hW => ?_)
    obtain ⟨rfl, hU1, hN1⟩ := hp
    have hU := hU.then hU1 (by decide)
    have gO_ : w_[55]? = some (ad 55, .inr (11, [.int (nI 1), .ref (ad 56), .ref (ad 57), .ref (ad 58), .ref (ad 59), .ref (ad 60), .ref (ad 61), .ref (ad 62), .ref (ad 63), .ref (ad 64), .ref (ad 65), .int (nI n), .int (nI nc), .ref (ad 66), .ref (ad 71), .ref (ad 72), .ref (ad 73)])) := hN1
    clear hU1 hN1
    refine W.eq (g2 := F0 m 17 ls [.int (nI 0)]) rfl ?_
    refine lv_i2l (v := lN 0) S.1 S.2.1 dX12_modelsOf_17 (nI_l (by omega)) ?_
    subst hQ
    exact j_lret (u := w_) S hr hK hW dX12_modelsOf_18 ⟨by decide, by decide⟩ (⟨rfl, hU, gO_⟩)
/-- modelsOf, nothing kept -/
theorem c_X12_modelsOf_b2 (l : Launch) (D : va_G) (cy : Nat → ClassId) {w : va_W} (ad : Nat → Nat) (th n nc : Nat) (kv : Nat → Int32) (j : Nat) (gO : w[55]? = some (ad 55, .inr (11, [.int (nI th), .ref (ad 56), .ref (ad 57), .ref (ad 58), .ref (ad 59), .ref (ad 60), .ref (ad 61), .ref (ad 62), .ref (ad 63), .ref (ad 64), .ref (ad 65), .int (nI n), .int (nI nc), .ref (ad 66), .ref (ad 71), .ref (ad 72), .ref (ad 73)]))) (gV : w[71]? = some (ad 71, .inl (cy 0, 4, .inl kv))) (hj : j < 4) (hkv : kv j < 0) : jM l yX12_modelsOf (jws yX12_modelsOf cX12_modelsOf 5 (some .long)) (jR 2 0 0) D cy w [.ref (ad 55), .int (nI j)] 0 0 (fun vv uu => vv = some (.long (lN 0)) ∧ jU w uu [55] ∧ uu[55]? = some (ad 55, .inr (11, [.int (nI 2), .ref (ad 56), .ref (ad 57), .ref (ad 58), .ref (ad 59), .ref (ad 60), .ref (ad 61), .ref (ad 62), .ref (ad 63), .ref (ad 64), .ref (ad 65), .int (nI n), .int (nI nc), .ref (ad 66), .ref (ad 71), .ref (ad 72), .ref (ad 73)]))) := by
  refine j_of (by decide) rfl (Nat.le_of_ble_eq_true rfl) ?_
  intro p e s m args below meth c A ls Q hQ S hr hK hA H locs hW hl
  have hl : lv_has ls 5 [(0, .ref (ad 55)), (1, .int (nI j))] := hl
  refine lv_aload_n S.1 S.2.1 dX12_modelsOf_0 rfl (lv_at hl 0 rfl) ?_
  refine lv_iconst (v := nI 0) S.1 S.2.1 dX12_modelsOf_1 (by decide) ?_
  refine j_put (ci := 11) (C := RX12) (T := TX12) (N := 17) (ty := .int) S (fun w h => List.mem_cons_of_mem _ (inG12 w h)) tyX12 tyX12_ok nmX12 hK hW gO rfl 0 (by decide) (List.mem_cons_of_mem _ wfl_X12_1) (fun _ h9 => h9) rfl (by decide +kernel) (rfl) (rfl) (Nat.le_of_ble_eq_true rfl) dX12_modelsOf_2 (fun H locs w_ hU1 hN1 hW => ?_)
  have hU : jU w w_ [55] := jU.mono hU1 (by decide)
  have gO_ : w_[55]? = some (ad 55, .inr (11, [.int (nI 0), .ref (ad 56), .ref (ad 57), .ref (ad 58), .ref (ad 59), .ref (ad 60), .ref (ad 61), .ref (ad 62), .ref (ad 63), .ref (ad 64), .ref (ad 65), .int (nI n), .int (nI nc), .ref (ad 66), .ref (ad 71), .ref (ad 72), .ref (ad 73)])) := hN1
  clear hU1 hN1
  refine lv_iload_n S.1 S.2.1 dX12_modelsOf_5 rfl (lv_at hl 1 rfl) ?_
  refine j_callS (As := [.int (nI j)]) (rest := []) S hK hA hW (c_X12_isSlot l D cy (nI j)    ) (jgo wm_X12_162) yk_X12_isSlot ⟨⟨rfl, rfl⟩, by decide, by decide⟩ rfl hl.1 rfl (Nat.le_of_ble_eq_true rfl) dX12_modelsOf_6 ⟨Nat.le_of_ble_eq_true rfl, Nat.le_of_ble_eq_true rfl⟩ (fun v u H locs hp hW => ?_)
  obtain ⟨rfl, rfl⟩ := hp
  refine W.eq (g2 := F0 m 9 ls [.int (bI (vB (nI j) 4))]) rfl ?_
  refine jb_if_ne (tgt := 19) S dX12_modelsOf_9 (by decide) (fun c_9 => ?_) (fun c_9 => ?_)
  · refine lv_aload_n S.1 S.2.1 dX12_modelsOf_19 rfl (lv_at hl 0 rfl) ?_
    refine j_get (ci := 11) (C := RX12) (T := TX12) (N := 17) (v := .ref (ad 71)) S (fun w h => List.mem_cons_of_mem _ (inG12 w h)) hK hW gO_ rfl 14 (by decide) (List.mem_cons_of_mem _ wfl_X12_55) (fun _ h9 => h9) rfl dX12_modelsOf_20 ?_
    refine lv_iload_n S.1 S.2.1 dX12_modelsOf_23 rfl (lv_at hl 1 rfl) ?_
    refine j_iald (x := kv j) S hK hW (hU.get gV (by decide)) (vp_in_nI (by omega) (by omega)) (nI_clamp (by omega)) (rfl) dX12_modelsOf_24 ?_
    refine lv_if_ge (tgt := 35) S.1 S.2.1 dX12_modelsOf_25 (by decide) (fun c_25 => ?_) (fun c_25 => ?_)
    · first | exact absurd hkv c_25 | exact c_25 hkv | exact absurd hkv (Int32.not_lt.mpr c_25)
    · refine lv_aload_n S.1 S.2.1 dX12_modelsOf_28 rfl (lv_at hl 0 rfl) ?_
      refine lv_iconst (v := nI 2) S.1 S.2.1 dX12_modelsOf_29 (by decide) ?_
      refine j_callV (k := 55) (ci := 11) (q := (RX12, TX12, 17)) (As := [.int (nI 2)]) (rest := []) S hK hA hW (c_X12_fails l D cy ad 0 n nc 2 gO_   ) (jgo wm_X12_71) yk_X12_fails gO_ rfl rfl ⟨⟨rfl, rfl⟩, by decide, by decide⟩ rfl hl.1 rfl (Nat.le_of_ble_eq_true rfl) dX12_modelsOf_30 ⟨Nat.le_of_ble_eq_true rfl, Nat.le_of_ble_eq_true rfl⟩ (fun v w_ H locs hp hW => ?_)
      obtain ⟨rfl, hU1, hN1⟩ := hp
      have hU := hU.then hU1 (by decide)
      have gO_ : w_[55]? = some (ad 55, .inr (11, [.int (nI 2), .ref (ad 56), .ref (ad 57), .ref (ad 58), .ref (ad 59), .ref (ad 60), .ref (ad 61), .ref (ad 62), .ref (ad 63), .ref (ad 64), .ref (ad 65), .int (nI n), .int (nI nc), .ref (ad 66), .ref (ad 71), .ref (ad 72), .ref (ad 73)])) := hN1
      clear hU1 hN1
      refine W.eq (g2 := F0 m 33 ls [.int (nI 0)]) rfl ?_
      refine lv_i2l (v := lN 0) S.1 S.2.1 dX12_modelsOf_33 (nI_l (by omega)) ?_
      subst hQ
      exact j_lret (u := w_) S hr hK hW dX12_modelsOf_34 ⟨by decide, by decide⟩ (⟨rfl, hU, gO_⟩)
  · exact absurd (vB_nI hj (by decide)) (by rw [c_9]; decide)
