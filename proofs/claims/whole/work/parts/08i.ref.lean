/-! THE REFERENCE: nodes (laid by wip/whole/tools, from the specs there) -/
/-! THE REFERENCE: nodes and ways of circuits -/
theorem nodesB_congr {T U : Nat → Bool} {n q : Nat} (hq : q < n) (h : ∀ j, j < 2 ^ n → T j = U j) : nodesB T n q = nodesB U n q := by
  have hL : 2 ^ q * 2 ^ (n - q) = 2 ^ n := by rw [← Nat.pow_add, show q + (n - q) = n by omega]
  have blk : ∀ c, c < 2 ^ q → ∀ i, i < 2 ^ (n - q) → c * 2 ^ (n - q) + i < 2 ^ n := fun c hc i hi => by
    have := Nat.mul_le_mul_right (2 ^ (n - q)) (show c + 1 ≤ 2 ^ q from hc)
    rw [hL, Nat.succ_mul] at this; omega
  have hlf : ∀ c, c < 2 ^ q → ∀ i, i < 2 ^ (n - (q + 1)) → 2 * c * 2 ^ (n - (q + 1)) + i < 2 ^ n ∧ (2 * c + 1) * 2 ^ (n - (q + 1)) + i < 2 ^ n := fun c hc i hi => by
    have e1 : 2 * c * 2 ^ (n - (q + 1)) = c * 2 ^ (n - q) := by rw [pow_half hq, ← Nat.mul_assoc, Nat.mul_comm c 2]
    have e2 : (2 * c + 1) * 2 ^ (n - (q + 1)) = c * 2 ^ (n - q) + 2 ^ (n - (q + 1)) := by rw [Nat.add_mul, Nat.one_mul, e1]
    have h1 := blk c hc i (by rw [pow_half hq]; omega)
    have h2 := blk c hc (2 ^ (n - (q + 1)) + i) (by rw [pow_half hq]; omega)
    rw [e1, e2]
    exact ⟨h1, by omega⟩
  have same : ∀ L a b, (∀ i, i < L → a * L + i < 2 ^ n ∧ b * L + i < 2 ^ n) → sameB T L a b = sameB U L a b := fun L a b z => allB_congr (fun i hi => by rw [h _ (z i hi).1, h _ (z i hi).2])
  unfold nodesB
  apply cnt_congr
  intro c hc
  unfold newB
  rw [same _ _ _ (fun i hi => hlf c hc i hi), allB_congr (fun d hd => by rw [same _ d c (fun i hi => ⟨blk d (by omega) i hi, blk c hc i hi⟩)])]
theorem sumN_congr {f g : Nat → Nat} {n : Nat} (h : ∀ j, j < n → f j = g j) : sumN f n = sumN g n := by
  induction n with
  | zero => rfl
  | succ n ih => simp only [sumN]; rw [ih (fun j hj => h j (by omega)), h n (by omega)]
/-- nodesAt -/
theorem c_X12_nodesAt (l : Launch) (D : va_G) (cy : Nat → ClassId) {w : va_W} (ad : Nat → Nat) (th n nc : Nat) (tu : Nat → Bool) (q : Nat) (gO : w[55]? = some (ad 55, .inr (11, [.int (nI th), .ref (ad 56), .ref (ad 57), .ref (ad 58), .ref (ad 59), .ref (ad 60), .ref (ad 61), .ref (ad 62), .ref (ad 63), .ref (ad 64), .ref (ad 65), .int (nI n), .int (nI nc), .ref (ad 66), .ref (ad 71), .ref (ad 72), .ref (ad 73)]))) (gU : w[73]? = some (ad 73, .inl (cy 3, 1024, .inl (bf tu)))) (hn : n ≤ 10) (hq : q < n) : jM l yX12_nodesAt (jws yX12_nodesAt cX12_nodesAt 7 (some .int)) (jR 1 0 0) D cy w [.ref (ad 55), .int (nI q)] 0 0 (fun vv uu => vv = some (.int (nI (nodesB tu n q))) ∧ w = uu) := by
  have hp2 := two_pow10 hn
  have hL : 2 ^ q * 2 ^ (n - q) = 2 ^ n := by rw [← Nat.pow_add, show q + (n - q) = n by omega]
  have hLp : 0 < 2 ^ (n - q) := Nat.two_pow_pos _
  have hH : 2 ^ (n - q) = 2 * 2 ^ (n - (q + 1)) := pow_half hq
  have hLn : 2 ^ (n - q) ≤ 2 ^ n := Nat.pow_le_pow_right (by decide) (by omega)
  refine j_of (by decide) rfl (Nat.le_of_ble_eq_true rfl) ?_
  intro p e s m args below meth c A ls Q hQ S hr hK hA H locs hW hl
  have hl : lv_has ls 7 [(0, .ref (ad 55)), (1, .int (nI q))] := hl
  refine lv_iconst (v := nI 1) S.1 S.2.1 dX12_nodesAt_0 (by decide) ?_
  refine lv_aload_n S.1 S.2.1 dX12_nodesAt_1 rfl (lv_at hl 0 rfl) ?_
  refine j_get (ci := 11) (C := RX12) (T := TX12) (N := 17) (v := .int (nI n)) S (fun w h => List.mem_cons_of_mem _ (inG12 w h)) hK hW gO rfl 11 (by decide) (List.mem_cons_of_mem _ wfl_X12_64) (fun _ h9 => h9) rfl dX12_nodesAt_2 ?_
  refine lv_iload_n S.1 S.2.1 dX12_nodesAt_5 rfl (lv_at hl 1 rfl) ?_
  refine jn_sub S (by omega) dX12_nodesAt_6 ?_
  refine jn_shl1 S (by omega) dX12_nodesAt_7 ?_
  refine lv_topi_to (y := nI (2 ^ (n - q))) (congrArg nI (by first | rfl | exact Nat.one_shiftLeft _)) ?_
  refine lv_istore_n (lv' := [(2, .int (nI (2 ^ (n - q)))), (0, .ref (ad 55)), (1, .int (nI q))]) S.1 S.2.1 dX12_nodesAt_8 rfl hl (by decide) rfl (fun ls hl => ?_)
  refine lv_iconst (v := nI 0) S.1 S.2.1 dX12_nodesAt_9 (by decide) ?_
  refine lv_istore_n (lv' := [(3, .int (nI 0)), (2, .int (nI (2 ^ (n - q)))), (0, .ref (ad 55)), (1, .int (nI q))]) S.1 S.2.1 dX12_nodesAt_10 rfl hl (by decide) rfl (fun ls hl => ?_)
  refine lv_iconst (v := nI 0) S.1 S.2.1 dX12_nodesAt_11 (by decide) ?_
  refine lv_istore (lv' := [(4, .int (nI 0)), (3, .int (nI 0)), (2, .int (nI (2 ^ (n - q)))), (0, .ref (ad 55)), (1, .int (nI q))]) S.1 S.2.1 dX12_nodesAt_12 hl (by decide) rfl (fun ls hl => ?_)
  have hl : lv_has ls 7 [(4, .int (nI (0 * 2 ^ (n - q)))), (3, .int (nI 0)), (2, .int (nI (2 ^ (n - q)))), (0, .ref (ad 55)), (1, .int (nI q))] := by rw [Nat.zero_mul]; exact hl
  have L14 : ∀ (k : Nat) (cq : Nat), 2 ^ q - cq = k → (cq ≤ 2 ^ q) → ∀ (H : Heap) (locs : List Loc) (ls : Array Slot), jW D A s.heap w H locs → lv_has ls 7 [(0, .ref (ad 55)), (1, .int (nI q)), (2, .int (nI (2 ^ (n - q)))), (3, .int (nI (cnt (newB tu n q) cq))), (4, .int (nI (cq * 2 ^ (n - q))))] → W p l e (jR 1 0 0) s m args below meth c H locs 0 0 Q (F0 m 14 ls []) := by
    intro k
    induction k using Nat.strongRecOn with
    | ind k ih14 =>
    intro cq hk hcq H locs ls hW hl
    subst hk
    refine lv_iload S.1 S.2.1 dX12_nodesAt_14 (lv_at hl 4 rfl) ?_
    have hcL0 := Nat.mul_le_mul_right (2 ^ (n - q)) hcq
    rw [hL] at hcL0
    refine lv_aload_n S.1 S.2.1 dX12_nodesAt_16 rfl (lv_at hl 0 rfl) ?_
    refine j_callV (k := 55) (ci := 11) (q := (RX12, TX12, 17)) (As := []) (rest := [.int (nI (cq * 2 ^ (n - q)))]) S hK hA hW (c_X12_all l D cy ad th n nc gO   (by omega)) (jgo wm_X12_98) yk_X12_all gO rfl rfl ⟨⟨rfl, rfl⟩, by decide, by decide⟩ rfl hl.1 rfl (Nat.le_of_ble_eq_true rfl) dX12_nodesAt_17 ⟨Nat.le_of_ble_eq_true rfl, Nat.le_of_ble_eq_true rfl⟩ (fun v u H locs hp hW => ?_)
    obtain ⟨rfl, rfl⟩ := hp
    refine W.eq (g2 := F0 m 20 ls [.int (nI (2 ^ n)), .int (nI (cq * 2 ^ (n - q)))]) rfl ?_
    refine jn_cmp_ge (tgt := 113) S (by omega) (by omega) dX12_nodesAt_20 (by decide) (fun c_20 => ?_) (fun c_20 => ?_)
    · refine lv_iload_n S.1 S.2.1 dX12_nodesAt_113 rfl (lv_at hl 3 rfl) ?_
      subst hQ
      refine j_iret (u := w) S hr (rfl) hK hW dX12_nodesAt_114 ⟨by decide, by decide⟩ ?_
      have ec : cq = 2 ^ q := Nat.le_antisymm hcq (Nat.le_of_mul_le_mul_right (c := 2 ^ (n - q)) (by rw [hL]; omega) hLp)
      subst ec
      exact ⟨rfl, rfl⟩
    · have hc1 : cq < 2 ^ q := Nat.lt_of_mul_lt_mul_right (a := 2 ^ (n - q)) (by rw [hL]; exact c_20)
      have hcL := Nat.mul_le_mul_right (2 ^ (n - q)) (show cq + 1 ≤ 2 ^ q from hc1)
      rw [hL, Nat.succ_mul] at hcL
      refine lv_aload_n S.1 S.2.1 dX12_nodesAt_23 rfl (lv_at hl 0 rfl) ?_
      refine lv_iload S.1 S.2.1 dX12_nodesAt_24 (lv_at hl 4 rfl) ?_
      refine lv_iload S.1 S.2.1 dX12_nodesAt_26 (lv_at hl 4 rfl) ?_
      refine lv_iload_n S.1 S.2.1 dX12_nodesAt_28 rfl (lv_at hl 2 rfl) ?_
      refine lv_iconst (v := nI 2) S.1 S.2.1 dX12_nodesAt_29 (by decide) ?_
      refine jn_div S (by omega) (by omega) (by omega) dX12_nodesAt_30 ?_
      refine lv_topi_to (y := nI (2 ^ (n - (q + 1)))) (congrArg nI (half_pow hq)) ?_
      refine jn_add S dX12_nodesAt_31 ?_
      refine lv_iload_n S.1 S.2.1 dX12_nodesAt_32 rfl (lv_at hl 2 rfl) ?_
      refine lv_iconst (v := nI 2) S.1 S.2.1 dX12_nodesAt_33 (by decide) ?_
      refine jn_div S (by omega) (by omega) (by omega) dX12_nodesAt_34 ?_
      refine lv_topi_to (y := nI (2 ^ (n - (q + 1)))) (congrArg nI (half_pow hq)) ?_
      refine j_callV (k := 55) (ci := 11) (q := (RX12, TX12, 17)) (As := [.int (nI (cq * 2 ^ (n - q))), .int (nI ((cq * 2 ^ (n - q)) + (2 ^ (n - (q + 1))))), .int (nI (2 ^ (n - (q + 1))))]) (rest := []) S hK hA hW (c_X12_areLike l D cy ad th n nc tu (cq * 2 ^ (n - q)) ((cq * 2 ^ (n - q)) + (2 ^ (n - (q + 1)))) (2 ^ (n - (q + 1))) gO gU   (by omega) (by omega)) (jgo wm_X12_141) yk_X12_areLike gO rfl rfl ⟨⟨rfl, rfl⟩, by decide, by decide⟩ rfl hl.1 rfl (Nat.le_of_ble_eq_true rfl) dX12_nodesAt_35 ⟨Nat.le_of_ble_eq_true rfl, Nat.le_of_ble_eq_true rfl⟩ (fun v u H locs hp hW => ?_)
      obtain ⟨rfl, rfl⟩ := hp
      refine W.eq (g2 := F0 m 38 ls [.int (bI (allB (fun i => tu ((cq * 2 ^ (n - q)) + i) == tu (((cq * 2 ^ (n - q)) + (2 ^ (n - (q + 1)))) + i)) (2 ^ (n - (q + 1)))))]) rfl ?_
      refine lv_topi_to (y := bI (sameB tu (2 ^ (n - (q + 1))) (2 * cq) (2 * cq + 1))) (congrArg bI (like_half hq)) ?_
      refine jb_if_ne (tgt := 45) S dX12_nodesAt_38 (by decide) (fun c_38 => ?_) (fun c_38 => ?_)
      · refine lv_iconst (v := nI 0) S.1 S.2.1 dX12_nodesAt_45 (by decide) ?_
        refine lv_istore (lv' := [(5, .int (nI 0)), (0, .ref (ad 55)), (1, .int (nI q)), (2, .int (nI (2 ^ (n - q)))), (3, .int (nI (cnt (newB tu n q) cq))), (4, .int (nI (cq * 2 ^ (n - q))))]) S.1 S.2.1 dX12_nodesAt_46 hl (by decide) rfl (fun ls hl => ?_)
        have e0 : bI (nwB tu n q cq 0) = nI 0 := nw_s0 c_38
        have hl : lv_has ls 7 [(5, .int (bI (nwB tu n q cq 0))), (0, .ref (ad 55)), (1, .int (nI q)), (2, .int (nI (2 ^ (n - q)))), (3, .int (nI (cnt (newB tu n q) cq))), (4, .int (nI (cq * 2 ^ (n - q))))] := by rw [e0]; exact hl
        refine lv_iconst (v := nI 0) S.1 S.2.1 dX12_nodesAt_48 (by decide) ?_
        refine lv_istore (lv' := [(6, .int (nI 0)), (5, .int (bI (nwB tu n q cq 0))), (0, .ref (ad 55)), (1, .int (nI q)), (2, .int (nI (2 ^ (n - q)))), (3, .int (nI (cnt (newB tu n q) cq))), (4, .int (nI (cq * 2 ^ (n - q))))]) S.1 S.2.1 dX12_nodesAt_49 hl (by decide) rfl (fun ls hl => ?_)
        have hl : lv_has ls 7 [(6, .int (nI (0 * 2 ^ (n - q)))), (5, .int (bI (nwB tu n q cq 0))), (0, .ref (ad 55)), (1, .int (nI q)), (2, .int (nI (2 ^ (n - q)))), (3, .int (nI (cnt (newB tu n q) cq))), (4, .int (nI (cq * 2 ^ (n - q))))] := by rw [Nat.zero_mul]; exact hl
        have L51 : ∀ (k : Nat) (dq : Nat), cq - dq = k → (dq ≤ cq) → ∀ (H : Heap) (locs : List Loc) (ls : Array Slot), jW D A s.heap w H locs → lv_has ls 7 [(0, .ref (ad 55)), (1, .int (nI q)), (2, .int (nI (2 ^ (n - q)))), (3, .int (nI (cnt (newB tu n q) cq))), (4, .int (nI (cq * 2 ^ (n - q)))), (5, .int (bI (nwB tu n q cq dq))), (6, .int (nI (dq * 2 ^ (n - q))))] → W p l e (jR 1 0 0) s m args below meth c H locs 0 0 Q (F0 m 51 ls []) := by
          intro k
          induction k using Nat.strongRecOn with
          | ind k ih51 =>
          intro dq hk hdq H locs ls hW hl
          subst hk
          refine lv_iload S.1 S.2.1 dX12_nodesAt_51 (lv_at hl 5 rfl) ?_
          refine jb_if_eq (tgt := 91) S dX12_nodesAt_53 (by decide) (fun c_53 => ?_) (fun c_53 => ?_)
          · have hnw : newB tu n q cq = nwB tu n q cq dq := by first | exact nw_endf c_53 hdq | exact nw_ende (Nat.le_antisymm hdq (Nat.le_of_mul_le_mul_right (c := 2 ^ (n - q)) (by first | exact c_60 | omega) hLp))
            refine lv_iload_n S.1 S.2.1 dX12_nodesAt_91 rfl (lv_at hl 3 rfl) ?_
            refine lv_iload S.1 S.2.1 dX12_nodesAt_92 (lv_at hl 5 rfl) ?_
            refine jb_if_eq (tgt := 101) S dX12_nodesAt_94 (by decide) (fun c_94 => ?_) (fun c_94 => ?_)
            · refine lv_iconst (v := nI 0) S.1 S.2.1 dX12_nodesAt_101 (by decide) ?_
              refine jn_add S dX12_nodesAt_102 ?_
              refine lv_topi_to (y := nI (cnt (newB tu n q) (cq + 1))) (congrArg nI (by first | exact (cnt_s1 (by rw [hnw]; exact c_94)).symm | exact (cnt_s0 (by rw [hnw]; exact c_94)).symm)) ?_
              refine lv_istore_n (lv' := [(3, .int (nI (cnt (newB tu n q) (cq + 1)))), (0, .ref (ad 55)), (1, .int (nI q)), (2, .int (nI (2 ^ (n - q)))), (4, .int (nI (cq * 2 ^ (n - q)))), (5, .int (bI (nwB tu n q cq dq))), (6, .int (nI (dq * 2 ^ (n - q))))]) S.1 S.2.1 dX12_nodesAt_103 rfl hl (by decide) rfl (fun ls hl => ?_)
              refine lv_iload S.1 S.2.1 dX12_nodesAt_104 (lv_at hl 4 rfl) ?_
              refine lv_iload_n S.1 S.2.1 dX12_nodesAt_106 rfl (lv_at hl 3 rfl) ?_
              refine jn_add S dX12_nodesAt_107 ?_
              refine lv_topi_to (y := nI ((cq + 1) * 2 ^ (n - q))) (congrArg nI (by rw [Nat.succ_mul])) ?_
              refine lv_istore (lv' := [(4, .int (nI ((cq + 1) * 2 ^ (n - q)))), (3, .int (nI (cnt (newB tu n q) (cq + 1)))), (0, .ref (ad 55)), (1, .int (nI q)), (2, .int (nI (2 ^ (n - q)))), (5, .int (bI (nwB tu n q cq dq))), (6, .int (nI (dq * 2 ^ (n - q))))]) S.1 S.2.1 dX12_nodesAt_108 hl (by decide) rfl (fun ls hl => ?_)
              refine lv_goto (tgt := 14) S.1 S.2.1 dX12_nodesAt_110 (by decide) ?_
              exact ih14 _ (by omega) (cq + 1) rfl (hc1) H locs ls hW (lv_sub hl [2, 3, 4, 1, 0] rfl)
            · refine lv_iconst (v := nI 1) S.1 S.2.1 dX12_nodesAt_97 (by decide) ?_
              refine lv_goto (tgt := 102) S.1 S.2.1 dX12_nodesAt_98 (by decide) ?_
              refine jn_add S dX12_nodesAt_102 ?_
              refine lv_topi_to (y := nI (cnt (newB tu n q) (cq + 1))) (congrArg nI (by first | exact (cnt_s1 (by rw [hnw]; exact c_94)).symm | exact (cnt_s0 (by rw [hnw]; exact c_94)).symm)) ?_
              refine lv_istore_n (lv' := [(3, .int (nI (cnt (newB tu n q) (cq + 1)))), (0, .ref (ad 55)), (1, .int (nI q)), (2, .int (nI (2 ^ (n - q)))), (4, .int (nI (cq * 2 ^ (n - q)))), (5, .int (bI (nwB tu n q cq dq))), (6, .int (nI (dq * 2 ^ (n - q))))]) S.1 S.2.1 dX12_nodesAt_103 rfl hl (by decide) rfl (fun ls hl => ?_)
              refine lv_iload S.1 S.2.1 dX12_nodesAt_104 (lv_at hl 4 rfl) ?_
              refine lv_iload_n S.1 S.2.1 dX12_nodesAt_106 rfl (lv_at hl 3 rfl) ?_
              refine jn_add S dX12_nodesAt_107 ?_
              refine lv_topi_to (y := nI ((cq + 1) * 2 ^ (n - q))) (congrArg nI (by rw [Nat.succ_mul])) ?_
              refine lv_istore (lv' := [(4, .int (nI ((cq + 1) * 2 ^ (n - q)))), (3, .int (nI (cnt (newB tu n q) (cq + 1)))), (0, .ref (ad 55)), (1, .int (nI q)), (2, .int (nI (2 ^ (n - q)))), (5, .int (bI (nwB tu n q cq dq))), (6, .int (nI (dq * 2 ^ (n - q))))]) S.1 S.2.1 dX12_nodesAt_108 hl (by decide) rfl (fun ls hl => ?_)
              refine lv_goto (tgt := 14) S.1 S.2.1 dX12_nodesAt_110 (by decide) ?_
              exact ih14 _ (by omega) (cq + 1) rfl (hc1) H locs ls hW (lv_sub hl [2, 3, 4, 1, 0] rfl)
          · have hdL0 := Nat.mul_le_mul_right (2 ^ (n - q)) hdq
            refine lv_iload S.1 S.2.1 dX12_nodesAt_56 (lv_at hl 6 rfl) ?_
            refine lv_iload S.1 S.2.1 dX12_nodesAt_58 (lv_at hl 4 rfl) ?_
            refine jn_cmp_ge (tgt := 91) S (by omega) (by omega) dX12_nodesAt_60 (by decide) (fun c_60 => ?_) (fun c_60 => ?_)
            · have hnw : newB tu n q cq = nwB tu n q cq dq := by first | exact nw_endf c_53 hdq | exact nw_ende (Nat.le_antisymm hdq (Nat.le_of_mul_le_mul_right (c := 2 ^ (n - q)) (by first | exact c_60 | omega) hLp))
              refine lv_iload_n S.1 S.2.1 dX12_nodesAt_91 rfl (lv_at hl 3 rfl) ?_
              refine lv_iload S.1 S.2.1 dX12_nodesAt_92 (lv_at hl 5 rfl) ?_
              refine jb_if_eq (tgt := 101) S dX12_nodesAt_94 (by decide) (fun c_94 => ?_) (fun c_94 => ?_)
              · refine lv_iconst (v := nI 0) S.1 S.2.1 dX12_nodesAt_101 (by decide) ?_
                refine jn_add S dX12_nodesAt_102 ?_
                refine lv_topi_to (y := nI (cnt (newB tu n q) (cq + 1))) (congrArg nI (by first | exact (cnt_s1 (by rw [hnw]; exact c_94)).symm | exact (cnt_s0 (by rw [hnw]; exact c_94)).symm)) ?_
                refine lv_istore_n (lv' := [(3, .int (nI (cnt (newB tu n q) (cq + 1)))), (0, .ref (ad 55)), (1, .int (nI q)), (2, .int (nI (2 ^ (n - q)))), (4, .int (nI (cq * 2 ^ (n - q)))), (5, .int (bI (nwB tu n q cq dq))), (6, .int (nI (dq * 2 ^ (n - q))))]) S.1 S.2.1 dX12_nodesAt_103 rfl hl (by decide) rfl (fun ls hl => ?_)
                refine lv_iload S.1 S.2.1 dX12_nodesAt_104 (lv_at hl 4 rfl) ?_
                refine lv_iload_n S.1 S.2.1 dX12_nodesAt_106 rfl (lv_at hl 3 rfl) ?_
                refine jn_add S dX12_nodesAt_107 ?_
                refine lv_topi_to (y := nI ((cq + 1) * 2 ^ (n - q))) (congrArg nI (by rw [Nat.succ_mul])) ?_
                refine lv_istore (lv' := [(4, .int (nI ((cq + 1) * 2 ^ (n - q)))), (3, .int (nI (cnt (newB tu n q) (cq + 1)))), (0, .ref (ad 55)), (1, .int (nI q)), (2, .int (nI (2 ^ (n - q)))), (5, .int (bI (nwB tu n q cq dq))), (6, .int (nI (dq * 2 ^ (n - q))))]) S.1 S.2.1 dX12_nodesAt_108 hl (by decide) rfl (fun ls hl => ?_)
                refine lv_goto (tgt := 14) S.1 S.2.1 dX12_nodesAt_110 (by decide) ?_
                exact ih14 _ (by omega) (cq + 1) rfl (hc1) H locs ls hW (lv_sub hl [2, 3, 4, 1, 0] rfl)
              · refine lv_iconst (v := nI 1) S.1 S.2.1 dX12_nodesAt_97 (by decide) ?_
                refine lv_goto (tgt := 102) S.1 S.2.1 dX12_nodesAt_98 (by decide) ?_
                refine jn_add S dX12_nodesAt_102 ?_
                refine lv_topi_to (y := nI (cnt (newB tu n q) (cq + 1))) (congrArg nI (by first | exact (cnt_s1 (by rw [hnw]; exact c_94)).symm | exact (cnt_s0 (by rw [hnw]; exact c_94)).symm)) ?_
                refine lv_istore_n (lv' := [(3, .int (nI (cnt (newB tu n q) (cq + 1)))), (0, .ref (ad 55)), (1, .int (nI q)), (2, .int (nI (2 ^ (n - q)))), (4, .int (nI (cq * 2 ^ (n - q)))), (5, .int (bI (nwB tu n q cq dq))), (6, .int (nI (dq * 2 ^ (n - q))))]) S.1 S.2.1 dX12_nodesAt_103 rfl hl (by decide) rfl (fun ls hl => ?_)
                refine lv_iload S.1 S.2.1 dX12_nodesAt_104 (lv_at hl 4 rfl) ?_
                refine lv_iload_n S.1 S.2.1 dX12_nodesAt_106 rfl (lv_at hl 3 rfl) ?_
                refine jn_add S dX12_nodesAt_107 ?_
                refine lv_topi_to (y := nI ((cq + 1) * 2 ^ (n - q))) (congrArg nI (by rw [Nat.succ_mul])) ?_
                refine lv_istore (lv' := [(4, .int (nI ((cq + 1) * 2 ^ (n - q)))), (3, .int (nI (cnt (newB tu n q) (cq + 1)))), (0, .ref (ad 55)), (1, .int (nI q)), (2, .int (nI (2 ^ (n - q)))), (5, .int (bI (nwB tu n q cq dq))), (6, .int (nI (dq * 2 ^ (n - q))))]) S.1 S.2.1 dX12_nodesAt_108 hl (by decide) rfl (fun ls hl => ?_)
                refine lv_goto (tgt := 14) S.1 S.2.1 dX12_nodesAt_110 (by decide) ?_
                exact ih14 _ (by omega) (cq + 1) rfl (hc1) H locs ls hW (lv_sub hl [2, 3, 4, 1, 0] rfl)
            · have hdc : dq < cq := Nat.lt_of_mul_lt_mul_right (a := 2 ^ (n - q)) c_60
              have hdL := Nat.mul_le_mul_right (2 ^ (n - q)) (show dq + 1 ≤ cq from hdc)
              rw [Nat.succ_mul] at hdL
              refine lv_aload_n S.1 S.2.1 dX12_nodesAt_63 rfl (lv_at hl 0 rfl) ?_
              refine lv_iload S.1 S.2.1 dX12_nodesAt_64 (lv_at hl 6 rfl) ?_
              refine lv_iload S.1 S.2.1 dX12_nodesAt_66 (lv_at hl 4 rfl) ?_
              refine lv_iload_n S.1 S.2.1 dX12_nodesAt_68 rfl (lv_at hl 2 rfl) ?_
              refine j_callV (k := 55) (ci := 11) (q := (RX12, TX12, 17)) (As := [.int (nI (dq * 2 ^ (n - q))), .int (nI (cq * 2 ^ (n - q))), .int (nI (2 ^ (n - q)))]) (rest := []) S hK hA hW (c_X12_areLike l D cy ad th n nc tu (dq * 2 ^ (n - q)) (cq * 2 ^ (n - q)) (2 ^ (n - q)) gO gU   (by omega) (by omega)) (jgo wm_X12_141) yk_X12_areLike gO rfl rfl ⟨⟨rfl, rfl⟩, by decide, by decide⟩ rfl hl.1 rfl (Nat.le_of_ble_eq_true rfl) dX12_nodesAt_69 ⟨Nat.le_of_ble_eq_true rfl, Nat.le_of_ble_eq_true rfl⟩ (fun v u H locs hp hW => ?_)
              obtain ⟨rfl, rfl⟩ := hp
              refine W.eq (g2 := F0 m 72 ls [.int (bI (allB (fun i => tu ((dq * 2 ^ (n - q)) + i) == tu ((cq * 2 ^ (n - q)) + i)) (2 ^ (n - q))))]) rfl ?_
              refine lv_topi_to (y := bI (sameB tu (2 ^ (n - q)) dq cq)) (rfl) ?_
              refine jb_if_ne (tgt := 79) S dX12_nodesAt_72 (by decide) (fun c_72 => ?_) (fun c_72 => ?_)
              · refine lv_iconst (v := nI 0) S.1 S.2.1 dX12_nodesAt_79 (by decide) ?_
                refine lv_istore (lv' := [(5, .int (nI 0)), (0, .ref (ad 55)), (1, .int (nI q)), (2, .int (nI (2 ^ (n - q)))), (3, .int (nI (cnt (newB tu n q) cq))), (4, .int (nI (cq * 2 ^ (n - q)))), (6, .int (nI (dq * 2 ^ (n - q))))]) S.1 S.2.1 dX12_nodesAt_80 hl (by decide) rfl (fun ls hl => ?_)
                have e0 : bI (nwB tu n q cq (dq + 1)) = nI 0 := nw_0 c_72
                have hl : lv_has ls 7 [(5, .int (bI (nwB tu n q cq (dq + 1)))), (0, .ref (ad 55)), (1, .int (nI q)), (2, .int (nI (2 ^ (n - q)))), (3, .int (nI (cnt (newB tu n q) cq))), (4, .int (nI (cq * 2 ^ (n - q)))), (6, .int (nI (dq * 2 ^ (n - q))))] := by rw [e0]; exact hl
                refine lv_iload S.1 S.2.1 dX12_nodesAt_82 (lv_at hl 6 rfl) ?_
                refine lv_iload_n S.1 S.2.1 dX12_nodesAt_84 rfl (lv_at hl 3 rfl) ?_
                refine jn_add S dX12_nodesAt_85 ?_
                refine lv_topi_to (y := nI ((dq + 1) * 2 ^ (n - q))) (congrArg nI (by rw [Nat.succ_mul])) ?_
                refine lv_istore (lv' := [(6, .int (nI ((dq + 1) * 2 ^ (n - q)))), (5, .int (bI (nwB tu n q cq (dq + 1)))), (0, .ref (ad 55)), (1, .int (nI q)), (2, .int (nI (2 ^ (n - q)))), (3, .int (nI (cnt (newB tu n q) cq))), (4, .int (nI (cq * 2 ^ (n - q))))]) S.1 S.2.1 dX12_nodesAt_86 hl (by decide) rfl (fun ls hl => ?_)
                refine lv_goto (tgt := 51) S.1 S.2.1 dX12_nodesAt_88 (by decide) ?_
                exact ih51 _ (by omega) (dq + 1) rfl (hdc) H locs ls hW (lv_sub hl [2, 3, 4, 5, 6, 1, 0] rfl)
              · refine lv_iconst (v := nI 1) S.1 S.2.1 dX12_nodesAt_75 (by decide) ?_
                refine lv_goto (tgt := 80) S.1 S.2.1 dX12_nodesAt_76 (by decide) ?_
                refine lv_istore (lv' := [(5, .int (nI 1)), (0, .ref (ad 55)), (1, .int (nI q)), (2, .int (nI (2 ^ (n - q)))), (3, .int (nI (cnt (newB tu n q) cq))), (4, .int (nI (cq * 2 ^ (n - q)))), (6, .int (nI (dq * 2 ^ (n - q))))]) S.1 S.2.1 dX12_nodesAt_80 hl (by decide) rfl (fun ls hl => ?_)
                have e0 : bI (nwB tu n q cq (dq + 1)) = nI 1 := nw_1 c_53 c_72
                have hl : lv_has ls 7 [(5, .int (bI (nwB tu n q cq (dq + 1)))), (0, .ref (ad 55)), (1, .int (nI q)), (2, .int (nI (2 ^ (n - q)))), (3, .int (nI (cnt (newB tu n q) cq))), (4, .int (nI (cq * 2 ^ (n - q)))), (6, .int (nI (dq * 2 ^ (n - q))))] := by rw [e0]; exact hl
                refine lv_iload S.1 S.2.1 dX12_nodesAt_82 (lv_at hl 6 rfl) ?_
                refine lv_iload_n S.1 S.2.1 dX12_nodesAt_84 rfl (lv_at hl 3 rfl) ?_
                refine jn_add S dX12_nodesAt_85 ?_
                refine lv_topi_to (y := nI ((dq + 1) * 2 ^ (n - q))) (congrArg nI (by rw [Nat.succ_mul])) ?_
                refine lv_istore (lv' := [(6, .int (nI ((dq + 1) * 2 ^ (n - q)))), (5, .int (bI (nwB tu n q cq (dq + 1)))), (0, .ref (ad 55)), (1, .int (nI q)), (2, .int (nI (2 ^ (n - q)))), (3, .int (nI (cnt (newB tu n q) cq))), (4, .int (nI (cq * 2 ^ (n - q))))]) S.1 S.2.1 dX12_nodesAt_86 hl (by decide) rfl (fun ls hl => ?_)
                refine lv_goto (tgt := 51) S.1 S.2.1 dX12_nodesAt_88 (by decide) ?_
                exact ih51 _ (by omega) (dq + 1) rfl (hdc) H locs ls hW (lv_sub hl [2, 3, 4, 5, 6, 1, 0] rfl)
        exact L51 _ 0 rfl (Nat.zero_le _) H locs ls hW (lv_sub hl [2, 3, 4, 5, 6, 1, 0] rfl)
      · refine lv_iconst (v := nI 1) S.1 S.2.1 dX12_nodesAt_41 (by decide) ?_
        refine lv_goto (tgt := 46) S.1 S.2.1 dX12_nodesAt_42 (by decide) ?_
        refine lv_istore (lv' := [(5, .int (nI 1)), (0, .ref (ad 55)), (1, .int (nI q)), (2, .int (nI (2 ^ (n - q)))), (3, .int (nI (cnt (newB tu n q) cq))), (4, .int (nI (cq * 2 ^ (n - q))))]) S.1 S.2.1 dX12_nodesAt_46 hl (by decide) rfl (fun ls hl => ?_)
        have e0 : bI (nwB tu n q cq 0) = nI 1 := nw_s1 c_38
        have hl : lv_has ls 7 [(5, .int (bI (nwB tu n q cq 0))), (0, .ref (ad 55)), (1, .int (nI q)), (2, .int (nI (2 ^ (n - q)))), (3, .int (nI (cnt (newB tu n q) cq))), (4, .int (nI (cq * 2 ^ (n - q))))] := by rw [e0]; exact hl
        refine lv_iconst (v := nI 0) S.1 S.2.1 dX12_nodesAt_48 (by decide) ?_
        refine lv_istore (lv' := [(6, .int (nI 0)), (5, .int (bI (nwB tu n q cq 0))), (0, .ref (ad 55)), (1, .int (nI q)), (2, .int (nI (2 ^ (n - q)))), (3, .int (nI (cnt (newB tu n q) cq))), (4, .int (nI (cq * 2 ^ (n - q))))]) S.1 S.2.1 dX12_nodesAt_49 hl (by decide) rfl (fun ls hl => ?_)
        have hl : lv_has ls 7 [(6, .int (nI (0 * 2 ^ (n - q)))), (5, .int (bI (nwB tu n q cq 0))), (0, .ref (ad 55)), (1, .int (nI q)), (2, .int (nI (2 ^ (n - q)))), (3, .int (nI (cnt (newB tu n q) cq))), (4, .int (nI (cq * 2 ^ (n - q))))] := by rw [Nat.zero_mul]; exact hl
        have L51 : ∀ (k : Nat) (dq : Nat), cq - dq = k → (dq ≤ cq) → ∀ (H : Heap) (locs : List Loc) (ls : Array Slot), jW D A s.heap w H locs → lv_has ls 7 [(0, .ref (ad 55)), (1, .int (nI q)), (2, .int (nI (2 ^ (n - q)))), (3, .int (nI (cnt (newB tu n q) cq))), (4, .int (nI (cq * 2 ^ (n - q)))), (5, .int (bI (nwB tu n q cq dq))), (6, .int (nI (dq * 2 ^ (n - q))))] → W p l e (jR 1 0 0) s m args below meth c H locs 0 0 Q (F0 m 51 ls []) := by
          intro k
          induction k using Nat.strongRecOn with
          | ind k ih51 =>
          intro dq hk hdq H locs ls hW hl
          subst hk
          refine lv_iload S.1 S.2.1 dX12_nodesAt_51 (lv_at hl 5 rfl) ?_
          refine jb_if_eq (tgt := 91) S dX12_nodesAt_53 (by decide) (fun c_53 => ?_) (fun c_53 => ?_)
          · have hnw : newB tu n q cq = nwB tu n q cq dq := by first | exact nw_endf c_53 hdq | exact nw_ende (Nat.le_antisymm hdq (Nat.le_of_mul_le_mul_right (c := 2 ^ (n - q)) (by first | exact c_60 | omega) hLp))
            refine lv_iload_n S.1 S.2.1 dX12_nodesAt_91 rfl (lv_at hl 3 rfl) ?_
            refine lv_iload S.1 S.2.1 dX12_nodesAt_92 (lv_at hl 5 rfl) ?_
            refine jb_if_eq (tgt := 101) S dX12_nodesAt_94 (by decide) (fun c_94 => ?_) (fun c_94 => ?_)
            · refine lv_iconst (v := nI 0) S.1 S.2.1 dX12_nodesAt_101 (by decide) ?_
              refine jn_add S dX12_nodesAt_102 ?_
              refine lv_topi_to (y := nI (cnt (newB tu n q) (cq + 1))) (congrArg nI (by first | exact (cnt_s1 (by rw [hnw]; exact c_94)).symm | exact (cnt_s0 (by rw [hnw]; exact c_94)).symm)) ?_
              refine lv_istore_n (lv' := [(3, .int (nI (cnt (newB tu n q) (cq + 1)))), (0, .ref (ad 55)), (1, .int (nI q)), (2, .int (nI (2 ^ (n - q)))), (4, .int (nI (cq * 2 ^ (n - q)))), (5, .int (bI (nwB tu n q cq dq))), (6, .int (nI (dq * 2 ^ (n - q))))]) S.1 S.2.1 dX12_nodesAt_103 rfl hl (by decide) rfl (fun ls hl => ?_)
              refine lv_iload S.1 S.2.1 dX12_nodesAt_104 (lv_at hl 4 rfl) ?_
              refine lv_iload_n S.1 S.2.1 dX12_nodesAt_106 rfl (lv_at hl 3 rfl) ?_
              refine jn_add S dX12_nodesAt_107 ?_
              refine lv_topi_to (y := nI ((cq + 1) * 2 ^ (n - q))) (congrArg nI (by rw [Nat.succ_mul])) ?_
              refine lv_istore (lv' := [(4, .int (nI ((cq + 1) * 2 ^ (n - q)))), (3, .int (nI (cnt (newB tu n q) (cq + 1)))), (0, .ref (ad 55)), (1, .int (nI q)), (2, .int (nI (2 ^ (n - q)))), (5, .int (bI (nwB tu n q cq dq))), (6, .int (nI (dq * 2 ^ (n - q))))]) S.1 S.2.1 dX12_nodesAt_108 hl (by decide) rfl (fun ls hl => ?_)
              refine lv_goto (tgt := 14) S.1 S.2.1 dX12_nodesAt_110 (by decide) ?_
              exact ih14 _ (by omega) (cq + 1) rfl (hc1) H locs ls hW (lv_sub hl [2, 3, 4, 1, 0] rfl)
            · refine lv_iconst (v := nI 1) S.1 S.2.1 dX12_nodesAt_97 (by decide) ?_
              refine lv_goto (tgt := 102) S.1 S.2.1 dX12_nodesAt_98 (by decide) ?_
              refine jn_add S dX12_nodesAt_102 ?_
              refine lv_topi_to (y := nI (cnt (newB tu n q) (cq + 1))) (congrArg nI (by first | exact (cnt_s1 (by rw [hnw]; exact c_94)).symm | exact (cnt_s0 (by rw [hnw]; exact c_94)).symm)) ?_
              refine lv_istore_n (lv' := [(3, .int (nI (cnt (newB tu n q) (cq + 1)))), (0, .ref (ad 55)), (1, .int (nI q)), (2, .int (nI (2 ^ (n - q)))), (4, .int (nI (cq * 2 ^ (n - q)))), (5, .int (bI (nwB tu n q cq dq))), (6, .int (nI (dq * 2 ^ (n - q))))]) S.1 S.2.1 dX12_nodesAt_103 rfl hl (by decide) rfl (fun ls hl => ?_)
              refine lv_iload S.1 S.2.1 dX12_nodesAt_104 (lv_at hl 4 rfl) ?_
              refine lv_iload_n S.1 S.2.1 dX12_nodesAt_106 rfl (lv_at hl 3 rfl) ?_
              refine jn_add S dX12_nodesAt_107 ?_
              refine lv_topi_to (y := nI ((cq + 1) * 2 ^ (n - q))) (congrArg nI (by rw [Nat.succ_mul])) ?_
              refine lv_istore (lv' := [(4, .int (nI ((cq + 1) * 2 ^ (n - q)))), (3, .int (nI (cnt (newB tu n q) (cq + 1)))), (0, .ref (ad 55)), (1, .int (nI q)), (2, .int (nI (2 ^ (n - q)))), (5, .int (bI (nwB tu n q cq dq))), (6, .int (nI (dq * 2 ^ (n - q))))]) S.1 S.2.1 dX12_nodesAt_108 hl (by decide) rfl (fun ls hl => ?_)
              refine lv_goto (tgt := 14) S.1 S.2.1 dX12_nodesAt_110 (by decide) ?_
              exact ih14 _ (by omega) (cq + 1) rfl (hc1) H locs ls hW (lv_sub hl [2, 3, 4, 1, 0] rfl)
          · have hdL0 := Nat.mul_le_mul_right (2 ^ (n - q)) hdq
            refine lv_iload S.1 S.2.1 dX12_nodesAt_56 (lv_at hl 6 rfl) ?_
            refine lv_iload S.1 S.2.1 dX12_nodesAt_58 (lv_at hl 4 rfl) ?_
            refine jn_cmp_ge (tgt := 91) S (by omega) (by omega) dX12_nodesAt_60 (by decide) (fun c_60 => ?_) (fun c_60 => ?_)
            · have hnw : newB tu n q cq = nwB tu n q cq dq := by first | exact nw_endf c_53 hdq | exact nw_ende (Nat.le_antisymm hdq (Nat.le_of_mul_le_mul_right (c := 2 ^ (n - q)) (by first | exact c_60 | omega) hLp))
              refine lv_iload_n S.1 S.2.1 dX12_nodesAt_91 rfl (lv_at hl 3 rfl) ?_
              refine lv_iload S.1 S.2.1 dX12_nodesAt_92 (lv_at hl 5 rfl) ?_
              refine jb_if_eq (tgt := 101) S dX12_nodesAt_94 (by decide) (fun c_94 => ?_) (fun c_94 => ?_)
              · refine lv_iconst (v := nI 0) S.1 S.2.1 dX12_nodesAt_101 (by decide) ?_
                refine jn_add S dX12_nodesAt_102 ?_
                refine lv_topi_to (y := nI (cnt (newB tu n q) (cq + 1))) (congrArg nI (by first | exact (cnt_s1 (by rw [hnw]; exact c_94)).symm | exact (cnt_s0 (by rw [hnw]; exact c_94)).symm)) ?_
                refine lv_istore_n (lv' := [(3, .int (nI (cnt (newB tu n q) (cq + 1)))), (0, .ref (ad 55)), (1, .int (nI q)), (2, .int (nI (2 ^ (n - q)))), (4, .int (nI (cq * 2 ^ (n - q)))), (5, .int (bI (nwB tu n q cq dq))), (6, .int (nI (dq * 2 ^ (n - q))))]) S.1 S.2.1 dX12_nodesAt_103 rfl hl (by decide) rfl (fun ls hl => ?_)
                refine lv_iload S.1 S.2.1 dX12_nodesAt_104 (lv_at hl 4 rfl) ?_
                refine lv_iload_n S.1 S.2.1 dX12_nodesAt_106 rfl (lv_at hl 3 rfl) ?_
                refine jn_add S dX12_nodesAt_107 ?_
                refine lv_topi_to (y := nI ((cq + 1) * 2 ^ (n - q))) (congrArg nI (by rw [Nat.succ_mul])) ?_
                refine lv_istore (lv' := [(4, .int (nI ((cq + 1) * 2 ^ (n - q)))), (3, .int (nI (cnt (newB tu n q) (cq + 1)))), (0, .ref (ad 55)), (1, .int (nI q)), (2, .int (nI (2 ^ (n - q)))), (5, .int (bI (nwB tu n q cq dq))), (6, .int (nI (dq * 2 ^ (n - q))))]) S.1 S.2.1 dX12_nodesAt_108 hl (by decide) rfl (fun ls hl => ?_)
                refine lv_goto (tgt := 14) S.1 S.2.1 dX12_nodesAt_110 (by decide) ?_
                exact ih14 _ (by omega) (cq + 1) rfl (hc1) H locs ls hW (lv_sub hl [2, 3, 4, 1, 0] rfl)
              · refine lv_iconst (v := nI 1) S.1 S.2.1 dX12_nodesAt_97 (by decide) ?_
                refine lv_goto (tgt := 102) S.1 S.2.1 dX12_nodesAt_98 (by decide) ?_
                refine jn_add S dX12_nodesAt_102 ?_
                refine lv_topi_to (y := nI (cnt (newB tu n q) (cq + 1))) (congrArg nI (by first | exact (cnt_s1 (by rw [hnw]; exact c_94)).symm | exact (cnt_s0 (by rw [hnw]; exact c_94)).symm)) ?_
                refine lv_istore_n (lv' := [(3, .int (nI (cnt (newB tu n q) (cq + 1)))), (0, .ref (ad 55)), (1, .int (nI q)), (2, .int (nI (2 ^ (n - q)))), (4, .int (nI (cq * 2 ^ (n - q)))), (5, .int (bI (nwB tu n q cq dq))), (6, .int (nI (dq * 2 ^ (n - q))))]) S.1 S.2.1 dX12_nodesAt_103 rfl hl (by decide) rfl (fun ls hl => ?_)
                refine lv_iload S.1 S.2.1 dX12_nodesAt_104 (lv_at hl 4 rfl) ?_
                refine lv_iload_n S.1 S.2.1 dX12_nodesAt_106 rfl (lv_at hl 3 rfl) ?_
                refine jn_add S dX12_nodesAt_107 ?_
                refine lv_topi_to (y := nI ((cq + 1) * 2 ^ (n - q))) (congrArg nI (by rw [Nat.succ_mul])) ?_
                refine lv_istore (lv' := [(4, .int (nI ((cq + 1) * 2 ^ (n - q)))), (3, .int (nI (cnt (newB tu n q) (cq + 1)))), (0, .ref (ad 55)), (1, .int (nI q)), (2, .int (nI (2 ^ (n - q)))), (5, .int (bI (nwB tu n q cq dq))), (6, .int (nI (dq * 2 ^ (n - q))))]) S.1 S.2.1 dX12_nodesAt_108 hl (by decide) rfl (fun ls hl => ?_)
                refine lv_goto (tgt := 14) S.1 S.2.1 dX12_nodesAt_110 (by decide) ?_
                exact ih14 _ (by omega) (cq + 1) rfl (hc1) H locs ls hW (lv_sub hl [2, 3, 4, 1, 0] rfl)
            · have hdc : dq < cq := Nat.lt_of_mul_lt_mul_right (a := 2 ^ (n - q)) c_60
              have hdL := Nat.mul_le_mul_right (2 ^ (n - q)) (show dq + 1 ≤ cq from hdc)
              rw [Nat.succ_mul] at hdL
              refine lv_aload_n S.1 S.2.1 dX12_nodesAt_63 rfl (lv_at hl 0 rfl) ?_
              refine lv_iload S.1 S.2.1 dX12_nodesAt_64 (lv_at hl 6 rfl) ?_
              refine lv_iload S.1 S.2.1 dX12_nodesAt_66 (lv_at hl 4 rfl) ?_
              refine lv_iload_n S.1 S.2.1 dX12_nodesAt_68 rfl (lv_at hl 2 rfl) ?_
              refine j_callV (k := 55) (ci := 11) (q := (RX12, TX12, 17)) (As := [.int (nI (dq * 2 ^ (n - q))), .int (nI (cq * 2 ^ (n - q))), .int (nI (2 ^ (n - q)))]) (rest := []) S hK hA hW (c_X12_areLike l D cy ad th n nc tu (dq * 2 ^ (n - q)) (cq * 2 ^ (n - q)) (2 ^ (n - q)) gO gU   (by omega) (by omega)) (jgo wm_X12_141) yk_X12_areLike gO rfl rfl ⟨⟨rfl, rfl⟩, by decide, by decide⟩ rfl hl.1 rfl (Nat.le_of_ble_eq_true rfl) dX12_nodesAt_69 ⟨Nat.le_of_ble_eq_true rfl, Nat.le_of_ble_eq_true rfl⟩ (fun v u H locs hp hW => ?_)
              obtain ⟨rfl, rfl⟩ := hp
              refine W.eq (g2 := F0 m 72 ls [.int (bI (allB (fun i => tu ((dq * 2 ^ (n - q)) + i) == tu ((cq * 2 ^ (n - q)) + i)) (2 ^ (n - q))))]) rfl ?_
              refine lv_topi_to (y := bI (sameB tu (2 ^ (n - q)) dq cq)) (rfl) ?_
              refine jb_if_ne (tgt := 79) S dX12_nodesAt_72 (by decide) (fun c_72 => ?_) (fun c_72 => ?_)
              · refine lv_iconst (v := nI 0) S.1 S.2.1 dX12_nodesAt_79 (by decide) ?_
                refine lv_istore (lv' := [(5, .int (nI 0)), (0, .ref (ad 55)), (1, .int (nI q)), (2, .int (nI (2 ^ (n - q)))), (3, .int (nI (cnt (newB tu n q) cq))), (4, .int (nI (cq * 2 ^ (n - q)))), (6, .int (nI (dq * 2 ^ (n - q))))]) S.1 S.2.1 dX12_nodesAt_80 hl (by decide) rfl (fun ls hl => ?_)
                have e0 : bI (nwB tu n q cq (dq + 1)) = nI 0 := nw_0 c_72
                have hl : lv_has ls 7 [(5, .int (bI (nwB tu n q cq (dq + 1)))), (0, .ref (ad 55)), (1, .int (nI q)), (2, .int (nI (2 ^ (n - q)))), (3, .int (nI (cnt (newB tu n q) cq))), (4, .int (nI (cq * 2 ^ (n - q)))), (6, .int (nI (dq * 2 ^ (n - q))))] := by rw [e0]; exact hl
                refine lv_iload S.1 S.2.1 dX12_nodesAt_82 (lv_at hl 6 rfl) ?_
                refine lv_iload_n S.1 S.2.1 dX12_nodesAt_84 rfl (lv_at hl 3 rfl) ?_
                refine jn_add S dX12_nodesAt_85 ?_
                refine lv_topi_to (y := nI ((dq + 1) * 2 ^ (n - q))) (congrArg nI (by rw [Nat.succ_mul])) ?_
                refine lv_istore (lv' := [(6, .int (nI ((dq + 1) * 2 ^ (n - q)))), (5, .int (bI (nwB tu n q cq (dq + 1)))), (0, .ref (ad 55)), (1, .int (nI q)), (2, .int (nI (2 ^ (n - q)))), (3, .int (nI (cnt (newB tu n q) cq))), (4, .int (nI (cq * 2 ^ (n - q))))]) S.1 S.2.1 dX12_nodesAt_86 hl (by decide) rfl (fun ls hl => ?_)
                refine lv_goto (tgt := 51) S.1 S.2.1 dX12_nodesAt_88 (by decide) ?_
                exact ih51 _ (by omega) (dq + 1) rfl (hdc) H locs ls hW (lv_sub hl [2, 3, 4, 5, 6, 1, 0] rfl)
              · refine lv_iconst (v := nI 1) S.1 S.2.1 dX12_nodesAt_75 (by decide) ?_
                refine lv_goto (tgt := 80) S.1 S.2.1 dX12_nodesAt_76 (by decide) ?_
                refine lv_istore (lv' := [(5, .int (nI 1)), (0, .ref (ad 55)), (1, .int (nI q)), (2, .int (nI (2 ^ (n - q)))), (3, .int (nI (cnt (newB tu n q) cq))), (4, .int (nI (cq * 2 ^ (n - q)))), (6, .int (nI (dq * 2 ^ (n - q))))]) S.1 S.2.1 dX12_nodesAt_80 hl (by decide) rfl (fun ls hl => ?_)
                have e0 : bI (nwB tu n q cq (dq + 1)) = nI 1 := nw_1 c_53 c_72
                have hl : lv_has ls 7 [(5, .int (bI (nwB tu n q cq (dq + 1)))), (0, .ref (ad 55)), (1, .int (nI q)), (2, .int (nI (2 ^ (n - q)))), (3, .int (nI (cnt (newB tu n q) cq))), (4, .int (nI (cq * 2 ^ (n - q)))), (6, .int (nI (dq * 2 ^ (n - q))))] := by rw [e0]; exact hl
                refine lv_iload S.1 S.2.1 dX12_nodesAt_82 (lv_at hl 6 rfl) ?_
                refine lv_iload_n S.1 S.2.1 dX12_nodesAt_84 rfl (lv_at hl 3 rfl) ?_
                refine jn_add S dX12_nodesAt_85 ?_
                refine lv_topi_to (y := nI ((dq + 1) * 2 ^ (n - q))) (congrArg nI (by rw [Nat.succ_mul])) ?_
                refine lv_istore (lv' := [(6, .int (nI ((dq + 1) * 2 ^ (n - q)))), (5, .int (bI (nwB tu n q cq (dq + 1)))), (0, .ref (ad 55)), (1, .int (nI q)), (2, .int (nI (2 ^ (n - q)))), (3, .int (nI (cnt (newB tu n q) cq))), (4, .int (nI (cq * 2 ^ (n - q))))]) S.1 S.2.1 dX12_nodesAt_86 hl (by decide) rfl (fun ls hl => ?_)
                refine lv_goto (tgt := 51) S.1 S.2.1 dX12_nodesAt_88 (by decide) ?_
                exact ih51 _ (by omega) (dq + 1) rfl (hdc) H locs ls hW (lv_sub hl [2, 3, 4, 5, 6, 1, 0] rfl)
        exact L51 _ 0 rfl (Nat.zero_le _) H locs ls hW (lv_sub hl [2, 3, 4, 5, 6, 1, 0] rfl)
  exact L14 _ 0 rfl (Nat.zero_le _) H locs ls hW (lv_sub hl [3, 4, 2, 1, 0] rfl)
/-- nodesOfRow -/
theorem c_X12_nodesOfRow (l : Launch) (D : va_G) (cy : Nat → ClassId) {w : va_W} (ad : Nat → Nat) (th n nc : Nat) (od : Nat → Nat) (rb tu : Nat → Bool) (gO : w[55]? = some (ad 55, .inr (11, [.int (nI th), .ref (ad 56), .ref (ad 57), .ref (ad 58), .ref (ad 59), .ref (ad 60), .ref (ad 61), .ref (ad 62), .ref (ad 63), .ref (ad 64), .ref (ad 65), .int (nI n), .int (nI nc), .ref (ad 66), .ref (ad 71), .ref (ad 72), .ref (ad 73)]))) (gD : w[59]? = some (ad 59, .inl (cy 0, 10, .inl (nf od)))) (gR : w[72]? = some (ad 72, .inl (cy 3, 1024, .inl (bf rb)))) (gU : w[73]? = some (ad 73, .inl (cy 3, 1024, .inl (bf tu)))) (hn : n ≤ 10) (hod : ∀ j, od j < 10) : jM l yX12_nodesOfRow (jws yX12_nodesOfRow cX12_nodesOfRow 3 (some .int)) (jR 3 0 0) D cy w [.ref (ad 55)] 0 0 (fun vv uu => vv = some (.int (nI (sumN (nodesB (fun d => rb (layP n od d n)) n) n))) ∧ jU w uu [73] ∧ uu[73]? = some (ad 73, .inl (cy 3, 1024, .inl (bf (mixF (fun d => rb (layP n od d n)) tu (2 ^ n)))))) := by
  refine j_of (by decide) rfl (Nat.le_of_ble_eq_true rfl) ?_
  intro p e s m args below meth c A ls Q hQ S hr hK hA H locs hW hl
  have hl : lv_has ls 3 [(0, .ref (ad 55))] := hl
  refine lv_aload_n S.1 S.2.1 dX12_nodesOfRow_0 rfl (lv_at hl 0 rfl) ?_
  refine j_callV (k := 55) (ci := 11) (q := (RX12, TX12, 17)) (As := []) (rest := []) S hK hA hW (c_X12_turns l D cy ad th n nc od rb tu gO gD gR gU   (by omega) (hod)) (jgo wm_X12_144) yk_X12_turns gO rfl rfl ⟨⟨rfl, rfl⟩, by decide, by decide⟩ rfl hl.1 rfl (Nat.le_of_ble_eq_true rfl) dX12_nodesOfRow_1 ⟨Nat.le_of_ble_eq_true rfl, Nat.le_of_ble_eq_true rfl⟩ (fun v w_ H locs hp hW => ?_)
  obtain ⟨rfl, hU1, hN1⟩ := hp
  have hU : jU w w_ [73] := jU.mono hU1 (by decide)
  have gU_ : w_[73]? = some (ad 73, .inl (cy 3, 1024, .inl (bf (mixF (fun d => rb (layP n od d n)) tu (2 ^ n))))) := hN1
  clear hU1 hN1
  refine W.eq (g2 := F0 m 4 ls []) rfl ?_
  refine lv_iconst (v := nI 0) S.1 S.2.1 dX12_nodesOfRow_4 (by decide) ?_
  refine lv_istore_n (lv' := [(1, .int (nI 0)), (0, .ref (ad 55))]) S.1 S.2.1 dX12_nodesOfRow_5 rfl hl (by decide) rfl (fun ls hl => ?_)
  refine lv_iconst (v := nI 0) S.1 S.2.1 dX12_nodesOfRow_6 (by decide) ?_
  refine lv_istore_n (lv' := [(2, .int (nI 0)), (1, .int (nI 0)), (0, .ref (ad 55))]) S.1 S.2.1 dX12_nodesOfRow_7 rfl hl (by decide) rfl (fun ls hl => ?_)
  have L8 : ∀ (k : Nat) (i : Nat), n - i = k → (i ≤ n) → (sumN (nodesB (fun d => rb (layP n od d n)) n) i ≤ 1024 * i) → ∀ (w_ : va_W), jU w w_ [73] → (w_[73]? = some (ad 73, .inl (cy 3, 1024, .inl (bf (mixF (fun d => rb (layP n od d n)) tu (2 ^ n)))))) → ∀ (H : Heap) (locs : List Loc) (ls : Array Slot), jW D A s.heap w_ H locs → lv_has ls 3 [(0, .ref (ad 55)), (1, .int (nI (sumN (nodesB (fun d => rb (layP n od d n)) n) i))), (2, .int (nI i))] → W p l e (jR 3 0 0) s m args below meth c H locs 0 0 Q (F0 m 8 ls []) := by
    intro k
    induction k using Nat.strongRecOn with
    | ind k ih8 =>
    intro i hk hi hsi w_ hU gU_ H locs ls hW hl
    subst hk
    refine lv_iload_n S.1 S.2.1 dX12_nodesOfRow_8 rfl (lv_at hl 2 rfl) ?_
    refine lv_aload_n S.1 S.2.1 dX12_nodesOfRow_9 rfl (lv_at hl 0 rfl) ?_
    refine j_get (ci := 11) (C := RX12) (T := TX12) (N := 17) (v := .int (nI n)) S (fun w h => List.mem_cons_of_mem _ (inG12 w h)) hK hW (hU.get gO (by decide)) rfl 11 (by decide) (List.mem_cons_of_mem _ wfl_X12_64) (fun _ h9 => h9) rfl dX12_nodesOfRow_10 ?_
    refine jn_cmp_ge (tgt := 30) S (by omega) (by omega) dX12_nodesOfRow_13 (by decide) (fun c_13 => ?_) (fun c_13 => ?_)
    · refine lv_iload_n S.1 S.2.1 dX12_nodesOfRow_30 rfl (lv_at hl 1 rfl) ?_
      subst hQ
      refine j_iret (u := w_) S hr (rfl) hK hW dX12_nodesOfRow_31 ⟨by decide, by decide⟩ ?_
      have ei : i = n := by omega
      subst ei
      exact ⟨rfl, hU, gU_⟩
    · refine lv_iload_n S.1 S.2.1 dX12_nodesOfRow_16 rfl (lv_at hl 1 rfl) ?_
      refine lv_aload_n S.1 S.2.1 dX12_nodesOfRow_17 rfl (lv_at hl 0 rfl) ?_
      refine lv_iload_n S.1 S.2.1 dX12_nodesOfRow_18 rfl (lv_at hl 2 rfl) ?_
      refine j_callV (k := 55) (ci := 11) (q := (RX12, TX12, 17)) (As := [.int (nI i)]) (rest := [.int (nI (sumN (nodesB (fun d => rb (layP n od d n)) n) i))]) S hK hA hW (c_X12_nodesAt l D cy ad th n nc (mixF (fun d => rb (layP n od d n)) tu (2 ^ n)) i (hU.get gO (by decide)) gU_   (by omega) (by omega)) (jgo wm_X12_147) yk_X12_nodesAt (hU.get gO (by decide)) rfl rfl ⟨⟨rfl, rfl⟩, by decide, by decide⟩ rfl hl.1 rfl (Nat.le_of_ble_eq_true rfl) dX12_nodesOfRow_19 ⟨Nat.le_of_ble_eq_true rfl, Nat.le_of_ble_eq_true rfl⟩ (fun v u H locs hp hW => ?_)
      obtain ⟨rfl, rfl⟩ := hp
      refine W.eq (g2 := F0 m 22 ls [.int (nI (nodesB (mixF (fun d => rb (layP n od d n)) tu (2 ^ n)) n i)), .int (nI (sumN (nodesB (fun d => rb (layP n od d n)) n) i))]) rfl ?_
      refine lv_topi_to (y := nI (nodesB (fun d => rb (layP n od d n)) n i)) (congrArg nI (nodesB_congr (by omega) (fun j hj => mixF_lo hj))) ?_
      have hnb : nodesB (fun d => rb (layP n od d n)) n i ≤ 1024 := Nat.le_trans (cnt_le _ _) (Nat.le_trans (Nat.pow_le_pow_right (by decide) (show i ≤ n by omega)) (two_pow10 hn))
      have hsn : sumN (nodesB (fun d => rb (layP n od d n)) n) i ≤ 1024 * i := hsi
      refine jn_add S dX12_nodesOfRow_22 ?_
      refine lv_istore_n (lv' := [(1, .int (nI ((sumN (nodesB (fun d => rb (layP n od d n)) n) i) + (nodesB (fun d => rb (layP n od d n)) n i)))), (0, .ref (ad 55)), (2, .int (nI i))]) S.1 S.2.1 dX12_nodesOfRow_23 rfl hl (by decide) rfl (fun ls hl => ?_)
      refine lv_iinc (v := nI (i + 1)) (lv' := [(2, .int (nI (i + 1))), (1, .int (nI ((sumN (nodesB (fun d => rb (layP n od d n)) n) i) + (nodesB (fun d => rb (layP n od d n)) n i)))), (0, .ref (ad 55))]) S.1 S.2.1 dX12_nodesOfRow_24 hl (k := 2) rfl (nI_add _ 1) (by decide) rfl (fun ls hl => ?_)
      refine lv_goto (tgt := 8) S.1 S.2.1 dX12_nodesOfRow_27 (by decide) ?_
      exact ih8 _ (by omega) (i + 1) rfl (by omega) (by simp only [sumN]; omega) w_ hU gU_ H locs ls hW (lv_sub hl [2, 1, 0] rfl)
  exact L8 _ 0 rfl (Nat.zero_le _) (Nat.le_refl _) w_ hU gU_ H locs ls hW (lv_sub hl [2, 1, 0] rfl)
/-- nodes -/
theorem c_X12_nodes (l : Launch) (D : va_G) (cy : Nat → ClassId) {w : va_W} (ad : Nat → Nat) (th n nc : Nat) (sd se lv : Nat) (cs : Nat → CN) (od : Nat → Nat) (rb tu : Nat → Bool) (gO : w[55]? = some (ad 55, .inr (11, [.int (nI th), .ref (ad 56), .ref (ad 57), .ref (ad 58), .ref (ad 59), .ref (ad 60), .ref (ad 61), .ref (ad 62), .ref (ad 63), .ref (ad 64), .ref (ad 65), .int (nI n), .int (nI nc), .ref (ad 66), .ref (ad 71), .ref (ad 72), .ref (ad 73)]))) (gE : w[58]? = some (ad 58, .inl (cy 0, 10, .inl (evA n sd se)))) (gP : w[65]? = some (ad 65, .inl (cy 3, 20, .inl (bf (dpB nc lv))))) (gC0 : w[60]? = some (ad 60, .inl (cy 2, 20, .inl (nf (ckd cs))))) (gC1 : w[61]? = some (ad 61, .inl (cy 0, 20, .inl (nf (cst cs))))) (gC2 : w[62]? = some (ad 62, .inl (cy 0, 20, .inl (nf (cot cs))))) (gC3 : w[63]? = some (ad 63, .inl (cy 0, 20, .inl (nf (cle cs))))) (gC4 : w[64]? = some (ad 64, .inl (cy 0, 20, .inl (nf (cgr cs))))) (gD : w[59]? = some (ad 59, .inl (cy 0, 10, .inl (nf od)))) (gR : w[72]? = some (ad 72, .inl (cy 3, 1024, .inl (bf rb)))) (gU : w[73]? = some (ad 73, .inl (cy 3, 1024, .inl (bf tu)))) (hn : n ≤ 10) (hsd : sd < 2 ^ n) (hse : se &&& sd = se) (hnc : nc ≤ 20) (hcs : csI nc cs) (hod : ∀ j, od j < 10) : jM l yX12_nodes (jws yX12_nodes cX12_nodes 1 (some .int)) (jR 5 0 0) D cy w [.ref (ad 55)] 0 0 (fun vv uu => ∃ (rb1 : Nat → Bool), ∃ (tu1 : Nat → Bool), vv = some (.int (nI (sumN (nodesB (fun d => (mdl n sd se nc cs lv) (layP n od d n)) n) n))) ∧ jU w uu [55, 72, 73] ∧ uu[55]? = some (ad 55, .inr (11, [.int (nI 0), .ref (ad 56), .ref (ad 57), .ref (ad 58), .ref (ad 59), .ref (ad 60), .ref (ad 61), .ref (ad 62), .ref (ad 63), .ref (ad 64), .ref (ad 65), .int (nI n), .int (nI nc), .ref (ad 66), .ref (ad 71), .ref (ad 72), .ref (ad 73)])) ∧ uu[72]? = some (ad 72, .inl (cy 3, 1024, .inl (bf rb1))) ∧ uu[73]? = some (ad 73, .inl (cy 3, 1024, .inl (bf tu1)))) := by
  refine j_of (by decide) rfl (Nat.le_of_ble_eq_true rfl) ?_
  intro p e s m args below meth c A ls Q hQ S hr hK hA H locs hW hl
  have hl : lv_has ls 1 [(0, .ref (ad 55))] := hl
  refine lv_aload_n S.1 S.2.1 dX12_nodes_0 rfl (lv_at hl 0 rfl) ?_
  refine lv_iconst (v := nI 0) S.1 S.2.1 dX12_nodes_1 (by decide) ?_
  refine j_put (ci := 11) (C := RX12) (T := TX12) (N := 17) (ty := .int) S (fun w h => List.mem_cons_of_mem _ (inG12 w h)) tyX12 tyX12_ok nmX12 hK hW gO rfl 0 (by decide) (List.mem_cons_of_mem _ wfl_X12_1) (fun _ h9 => h9) rfl (by decide +kernel) (rfl) (rfl) (Nat.le_of_ble_eq_true rfl) dX12_nodes_2 (fun H locs w_ hU1 hN1 hW => ?_)
  have hU : jU w w_ [55, 72, 73] := jU.mono hU1 (by decide)
  have gR_ := hU1.get gR (by decide)
  have gU_ := hU1.get gU (by decide)
  have gO_ : w_[55]? = some (ad 55, .inr (11, [.int (nI 0), .ref (ad 56), .ref (ad 57), .ref (ad 58), .ref (ad 59), .ref (ad 60), .ref (ad 61), .ref (ad 62), .ref (ad 63), .ref (ad 64), .ref (ad 65), .int (nI n), .int (nI nc), .ref (ad 66), .ref (ad 71), .ref (ad 72), .ref (ad 73)])) := hN1
  clear hU1 hN1
  refine lv_aload_n S.1 S.2.1 dX12_nodes_5 rfl (lv_at hl 0 rfl) ?_
  refine j_callV (k := 55) (ci := 11) (q := (RX12, TX12, 17)) (As := []) (rest := []) S hK hA hW (c_X12_readsModels l D cy ad 0 n nc sd se lv cs rb gO_ (hU.get gE (by decide)) (hU.get gP (by decide)) (hU.get gC0 (by decide)) (hU.get gC1 (by decide)) (hU.get gC2 (by decide)) (hU.get gC3 (by decide)) (hU.get gC4 (by decide)) gR_   (by omega) (hsd) (hse) (by omega) (hcs)) (jgo wm_X12_150) yk_X12_readsModels gO_ rfl rfl ⟨⟨rfl, rfl⟩, by decide, by decide⟩ rfl hl.1 rfl (Nat.le_of_ble_eq_true rfl) dX12_nodes_6 ⟨Nat.le_of_ble_eq_true rfl, Nat.le_of_ble_eq_true rfl⟩ (fun v w_ H locs hp hW => ?_)
  obtain ⟨rfl, hU1, hN1⟩ := hp
  have hU := hU.then hU1 (by decide)
  have gU_ := hU1.get gU_ (by decide)
  have gO_ := hU1.get gO_ (by decide)
  have gR_ : w_[72]? = some (ad 72, .inl (cy 3, 1024, .inl (bf (rowM (mdl n sd se nc cs lv) rb)))) := hN1
  clear hU1 hN1
  refine W.eq (g2 := F0 m 9 ls []) rfl ?_
  refine lv_aload_n S.1 S.2.1 dX12_nodes_9 rfl (lv_at hl 0 rfl) ?_
  refine j_callV (k := 55) (ci := 11) (q := (RX12, TX12, 17)) (As := []) (rest := []) S hK hA hW (c_X12_nodesOfRow l D cy ad 0 n nc od (rowM (mdl n sd se nc cs lv) rb) tu gO_ (hU.get gD (by decide)) gR_ gU_   (by omega) (hod)) (jgo wm_X12_153) yk_X12_nodesOfRow gO_ rfl rfl ⟨⟨rfl, rfl⟩, by decide, by decide⟩ rfl hl.1 rfl (Nat.le_of_ble_eq_true rfl) dX12_nodes_10 ⟨Nat.le_of_ble_eq_true rfl, Nat.le_of_ble_eq_true rfl⟩ (fun v w_ H locs hp hW => ?_)
  obtain ⟨rfl, hU1, hN1⟩ := hp
  have hU := hU.then hU1 (by decide)
  have gR_ := hU1.get gR_ (by decide)
  have gO_ := hU1.get gO_ (by decide)
  have gU_ : w_[73]? = some (ad 73, .inl (cy 3, 1024, .inl (bf (mixF (fun d => (rowM (mdl n sd se nc cs lv) rb) (layP n od d n)) tu (2 ^ n))))) := hN1
  clear hU1 hN1
  refine W.eq (g2 := F0 m 13 ls [.int (nI (sumN (nodesB (fun d => (rowM (mdl n sd se nc cs lv) rb) (layP n od d n)) n) n))]) rfl ?_
  refine lv_topi_to (y := nI (sumN (nodesB (fun d => (mdl n sd se nc cs lv) (layP n od d n)) n) n)) (congrArg nI (sumN_congr (fun j hj => nodesB_congr hj (fun i _ => row_at (layP_lt hod))))) ?_
  subst hQ
  exact j_iret (u := w_) S hr (rfl) hK hW dX12_nodes_13 ⟨by decide, by decide⟩ (⟨_, _, rfl, hU, gO_, gR_, gU_⟩)
