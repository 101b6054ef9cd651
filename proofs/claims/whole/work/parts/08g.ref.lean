/-! THE REFERENCE: models of parts, projections, implied values (laid by wip/whole/tools, from the specs there) -/
/-! THE REFERENCE: parts' models, projections, implied values -/
theorem fx_se {n sd se : Nat} (hsd : sd < 2 ^ n) (hse : se &&& sd = se) : bsum (fun v => sd.testBit v && se.testBit v) n = se := Nat.eq_of_testBit_eq (fun v => by
  rw [bsum_bit]
  rcases Nat.lt_or_ge v n with q | q
  · rw [decide_eq_true q, Bool.true_and, Bool.and_comm, ← Nat.testBit_and, hse]
  · rw [decide_eq_false (by omega), Bool.false_and, ← hse, Nat.testBit_and, Nat.testBit_lt_two_pow (x := sd) (Nat.lt_of_lt_of_le hsd (Nat.pow_le_pow_right (by decide) q)), Bool.and_false])
theorem allB_a1 {g : Nat → Bool} {c : Nat} (h : g c = true) : bI (allB g c) &&& nI 1 = bI (allB g (c + 1)) := by
  show _ = bI (allB g c && g c)
  rw [h]; cases allB g c <;> decide
theorem allB_a0 {g : Nat → Bool} {c : Nat} (h : g c = false) : bI (allB g c) &&& nI 0 = bI (allB g (c + 1)) := by
  show _ = bI (allB g c && g c)
  rw [h]; cases allB g c <;> decide
theorem any_o1 {g : Nat → Bool} {c : Nat} (h : g c = true) : bI (anyB g c) ||| nI 1 = bI (anyB g (c + 1)) := by
  show _ = bI (anyB g c || g c)
  rw [h]; cases anyB g c <;> decide
theorem any_o0 {g : Nat → Bool} {c : Nat} (h : g c = false) : bI (anyB g c) ||| nI 0 = bI (anyB g (c + 1)) := by
  show _ = bI (anyB g c || g c)
  rw [h]; cases anyB g c <;> decide
/-- a choice of a part's values keeps what touches the part -/
def okP (nc : Nat) (cs : Nat → CN) (lv se pt d c : Nat) : Bool := !lv.testBit c || decide (mbs (cs c) &&& pt = 0) || heldC (cs c) (d ||| se)
theorem row_prj2 {M rb : Nat → Bool} {x a : Nat} (h : a &&& x < 1024) : upd (bf (rowM (prjS M x a) rb)) (a &&& x) (bI (rowM (prjS M x a) rb (a &&& x) || M a)) = bf (rowM (prjS M x (a + 1)) rb) := by
  rw [row_at h]; exact row_prj h
/-- modelsOfPart -/
theorem c_X12_modelsOfPart_ok (l : Launch) (D : va_G) (cy : Nat → ClassId) {w : va_W} (ad : Nat → Nat) (th n nc : Nat) (sd se lv : Nat) (cs : Nat → CN) (x : Nat) (gO : w[55]? = some (ad 55, .inr (11, [.int (nI th), .ref (ad 56), .ref (ad 57), .ref (ad 58), .ref (ad 59), .ref (ad 60), .ref (ad 61), .ref (ad 62), .ref (ad 63), .ref (ad 64), .ref (ad 65), .int (nI n), .int (nI nc), .ref (ad 66), .ref (ad 71), .ref (ad 72), .ref (ad 73)]))) (gE : w[58]? = some (ad 58, .inl (cy 0, 10, .inl (evA n sd se)))) (gP : w[65]? = some (ad 65, .inl (cy 3, 20, .inl (bf (dpB nc lv))))) (gC0 : w[60]? = some (ad 60, .inl (cy 2, 20, .inl (nf (ckd cs))))) (gC1 : w[61]? = some (ad 61, .inl (cy 0, 20, .inl (nf (cst cs))))) (gC2 : w[62]? = some (ad 62, .inl (cy 0, 20, .inl (nf (cot cs))))) (gC3 : w[63]? = some (ad 63, .inl (cy 0, 20, .inl (nf (cle cs))))) (gC4 : w[64]? = some (ad 64, .inl (cy 0, 20, .inl (nf (cgr cs))))) (hn : n ≤ 10) (hsd : sd < 2 ^ n) (hse : se &&& sd = se) (hnc : nc ≤ 20) (hcs : csI nc cs) (hx : x < n) (hsx : sd.testBit x = false) : jM l yX12_modelsOfPart (jws yX12_modelsOfPart cX12_modelsOfPart 9 (some .long)) (jR 5 0 0) D cy w [.ref (ad 55), .int (nI x)] 0 0 (fun vv uu => vv = some (.long (lN (cnt (fun d => decide (nAnd d (itP nc cs lv (nAnd (2 ^ n - 1) sd) x 10) = 0) && allB (fun c => okP nc cs lv se (itP nc cs lv (nAnd (2 ^ n - 1) sd) x 10) d c) nc) (2 ^ n)))) ∧ jU w uu [55] ∧ uu[55]? = some (ad 55, .inr (11, [.int (nI 0), .ref (ad 56), .ref (ad 57), .ref (ad 58), .ref (ad 59), .ref (ad 60), .ref (ad 61), .ref (ad 62), .ref (ad 63), .ref (ad 64), .ref (ad 65), .int (nI n), .int (nI nc), .ref (ad 66), .ref (ad 71), .ref (ad 72), .ref (ad 73)]))) := by
  have hp2 := two_pow10 hn
  have hop : nAnd (2 ^ n - 1) sd < 1024 := nAnd_lt (n := 10) (by omega)
  have hsel : se < 1024 := by rw [← hse]; exact Nat.lt_of_le_of_lt Nat.and_le_right (by omega)
  have hxl := itP_lt (nc := nc) (cs := cs) (lv := lv) hop (show x < 10 by omega) 10
  refine j_of (by decide) rfl (Nat.le_of_ble_eq_true rfl) ?_
  intro p e s m args below meth c A ls Q hQ S hr hK hA H locs hW hl
  have hl : lv_has ls 9 [(0, .ref (ad 55)), (1, .int (nI x))] := hl
  refine lv_aload_n S.1 S.2.1 dX12_modelsOfPart_0 rfl (lv_at hl 0 rfl) ?_
  refine lv_iload_n S.1 S.2.1 dX12_modelsOfPart_1 rfl (lv_at hl 1 rfl) ?_
  refine j_callV (k := 55) (ci := 11) (q := (RX12, TX12, 17)) (As := [.int (nI x)]) (rest := []) S hK hA hW (c_X12_hasNoPart_ok l D cy ad th n nc sd se x gO gE   (by omega) (by omega) (hsx)) (jgo wm_X12_134) yk_X12_hasNoPart gO rfl rfl ⟨⟨rfl, rfl⟩, by decide, by decide⟩ rfl hl.1 rfl (Nat.le_of_ble_eq_true rfl) dX12_modelsOfPart_2 ⟨Nat.le_of_ble_eq_true rfl, Nat.le_of_ble_eq_true rfl⟩ (fun v w_ H locs hp hW => ?_)
  obtain ⟨rfl, hU1, hN1⟩ := hp
  have hU : jU w w_ [55] := jU.mono hU1 (by decide)
  have gO_ : w_[55]? = some (ad 55, .inr (11, [.int (nI 0), .ref (ad 56), .ref (ad 57), .ref (ad 58), .ref (ad 59), .ref (ad 60), .ref (ad 61), .ref (ad 62), .ref (ad 63), .ref (ad 64), .ref (ad 65), .int (nI n), .int (nI nc), .ref (ad 66), .ref (ad 71), .ref (ad 72), .ref (ad 73)])) := hN1
  clear hU1 hN1
  refine W.eq (g2 := F0 m 5 ls [.int (bI false)]) rfl ?_
  refine jb_if_eq (tgt := 10) S dX12_modelsOfPart_5 (by decide) (fun c_5 => ?_) (fun c_5 => ?_)
  · refine lv_aload_n S.1 S.2.1 dX12_modelsOfPart_10 rfl (lv_at hl 0 rfl) ?_
    refine lv_iload_n S.1 S.2.1 dX12_modelsOfPart_11 rfl (lv_at hl 1 rfl) ?_
    refine j_callV (k := 55) (ci := 11) (q := (RX12, TX12, 17)) (As := [.int (nI x)]) (rest := []) S hK hA hW (c_X12_part l D cy ad 0 n nc sd se lv cs x gO_ (hU.get gE (by decide)) (hU.get gP (by decide)) (hU.get gC0 (by decide)) (hU.get gC1 (by decide)) (hU.get gC2 (by decide)) (hU.get gC3 (by decide)) (hU.get gC4 (by decide))   (by omega) (by omega) (hcs) (by omega) (hsx)) (jgo wm_X12_128) yk_X12_part gO_ rfl rfl ⟨⟨rfl, rfl⟩, by decide, by decide⟩ rfl hl.1 rfl (Nat.le_of_ble_eq_true rfl) dX12_modelsOfPart_12 ⟨Nat.le_of_ble_eq_true rfl, Nat.le_of_ble_eq_true rfl⟩ (fun v u H locs hp hW => ?_)
    obtain ⟨rfl, rfl⟩ := hp
    refine W.eq (g2 := F0 m 15 ls [.int (nI (itP nc cs lv (nAnd (2 ^ n - 1) sd) x 10))]) rfl ?_
    refine lv_istore_n (lv' := [(2, .int (nI (itP nc cs lv (nAnd (2 ^ n - 1) sd) x 10))), (0, .ref (ad 55)), (1, .int (nI x))]) S.1 S.2.1 dX12_modelsOfPart_15 rfl hl (by decide) rfl (fun ls hl => ?_)
    refine lv_iconst (v := nI 0) S.1 S.2.1 dX12_modelsOfPart_16 (by decide) ?_
    refine lv_istore_n (lv' := [(3, .int (nI 0)), (2, .int (nI (itP nc cs lv (nAnd (2 ^ n - 1) sd) x 10))), (0, .ref (ad 55)), (1, .int (nI x))]) S.1 S.2.1 dX12_modelsOfPart_17 rfl hl (by decide) rfl (fun ls hl => ?_)
    refine lv_iconst (v := nI 0) S.1 S.2.1 dX12_modelsOfPart_18 (by decide) ?_
    refine lv_istore (lv' := [(4, .int (nI 0)), (3, .int (nI 0)), (2, .int (nI (itP nc cs lv (nAnd (2 ^ n - 1) sd) x 10))), (0, .ref (ad 55)), (1, .int (nI x))]) S.1 S.2.1 dX12_modelsOfPart_19 hl (by decide) rfl (fun ls hl => ?_)
    have L21 : ∀ (k : Nat) (v : Nat), n - v = k → (v ≤ n) → ∀ (w_ : va_W), jU w w_ [55] → (w_[55]? = some (ad 55, .inr (11, [.int (nI 0), .ref (ad 56), .ref (ad 57), .ref (ad 58), .ref (ad 59), .ref (ad 60), .ref (ad 61), .ref (ad 62), .ref (ad 63), .ref (ad 64), .ref (ad 65), .int (nI n), .int (nI nc), .ref (ad 66), .ref (ad 71), .ref (ad 72), .ref (ad 73)]))) → ∀ (H : Heap) (locs : List Loc) (ls : Array Slot), jW D A s.heap w_ H locs → lv_has ls 9 [(0, .ref (ad 55)), (1, .int (nI x)), (2, .int (nI (itP nc cs lv (nAnd (2 ^ n - 1) sd) x 10))), (3, .int (nI (bsum (fun v => sd.testBit v && se.testBit v) v))), (4, .int (nI v))] → W p l e (jR 5 0 0) s m args below meth c H locs 0 0 Q (F0 m 21 ls []) := by
      intro k
      induction k using Nat.strongRecOn with
      | ind k ih21 =>
      intro v hk hv w_ hU gO_ H locs ls hW hl
      subst hk
      refine lv_iload S.1 S.2.1 dX12_modelsOfPart_21 (lv_at hl 4 rfl) ?_
      refine lv_aload_n S.1 S.2.1 dX12_modelsOfPart_23 rfl (lv_at hl 0 rfl) ?_
      refine j_get (ci := 11) (C := RX12) (T := TX12) (N := 17) (v := .int (nI n)) S (fun w h => List.mem_cons_of_mem _ (inG12 w h)) hK hW gO_ rfl 11 (by decide) (List.mem_cons_of_mem _ wfl_X12_64) (fun _ h9 => h9) rfl dX12_modelsOfPart_24 ?_
      refine jn_cmp_ge (tgt := 58) S (by omega) (by omega) dX12_modelsOfPart_27 (by decide) (fun c_27 => ?_) (fun c_27 => ?_)
      · have ev : v = n := by omega
        have hl : lv_has ls 9 [(0, .ref (ad 55)), (1, .int (nI x)), (2, .int (nI (itP nc cs lv (nAnd (2 ^ n - 1) sd) x 10))), (3, .int (nI se))] := by rw [ev, fx_se hsd hse] at hl; exact lv_sub hl [0, 1, 2, 3] rfl
        refine lv_lconst (v := lN 0) S.1 S.2.1 dX12_modelsOfPart_58 (by decide) ?_
        refine lv_lstore (lv' := [(4, .long (lN 0)), (0, .ref (ad 55)), (1, .int (nI x)), (2, .int (nI (itP nc cs lv (nAnd (2 ^ n - 1) sd) x 10))), (3, .int (nI se))]) S.1 S.2.1 dX12_modelsOfPart_59 hl (by decide) rfl (fun ls hl => ?_)
        refine lv_iconst (v := nI 0) S.1 S.2.1 dX12_modelsOfPart_61 (by decide) ?_
        refine lv_istore (lv' := [(6, .int (nI 0)), (4, .long (lN 0)), (0, .ref (ad 55)), (1, .int (nI x)), (2, .int (nI (itP nc cs lv (nAnd (2 ^ n - 1) sd) x 10))), (3, .int (nI se))]) S.1 S.2.1 dX12_modelsOfPart_62 hl (by decide) rfl (fun ls hl => ?_)
        have L64 : ∀ (k : Nat) (d : Nat), 2 ^ n - d = k → (d ≤ 2 ^ n) → ∀ (w_ : va_W), jU w w_ [55] → (w_[55]? = some (ad 55, .inr (11, [.int (nI 0), .ref (ad 56), .ref (ad 57), .ref (ad 58), .ref (ad 59), .ref (ad 60), .ref (ad 61), .ref (ad 62), .ref (ad 63), .ref (ad 64), .ref (ad 65), .int (nI n), .int (nI nc), .ref (ad 66), .ref (ad 71), .ref (ad 72), .ref (ad 73)]))) → ∀ (H : Heap) (locs : List Loc) (ls : Array Slot), jW D A s.heap w_ H locs → lv_has ls 9 [(0, .ref (ad 55)), (2, .int (nI (itP nc cs lv (nAnd (2 ^ n - 1) sd) x 10))), (3, .int (nI se)), (4, .long (lN (cnt (fun d => decide (nAnd d (itP nc cs lv (nAnd (2 ^ n - 1) sd) x 10) = 0) && allB (fun c => okP nc cs lv se (itP nc cs lv (nAnd (2 ^ n - 1) sd) x 10) d c) nc) d))), (6, .int (nI d))] → W p l e (jR 5 0 0) s m args below meth c H locs 0 0 Q (F0 m 64 ls []) := by
          intro k
          induction k using Nat.strongRecOn with
          | ind k ih64 =>
          intro d hk hd w_ hU gO_ H locs ls hW hl
          subst hk
          refine lv_iload S.1 S.2.1 dX12_modelsOfPart_64 (lv_at hl 4 rfl) ?_
          refine lv_aload_n S.1 S.2.1 dX12_modelsOfPart_66 rfl (lv_at hl 0 rfl) ?_
          refine j_callV (k := 55) (ci := 11) (q := (RX12, TX12, 17)) (As := []) (rest := [.int (nI d)]) S hK hA hW (c_X12_all l D cy ad 0 n nc gO_   (by omega)) (jgo wm_X12_98) yk_X12_all gO_ rfl rfl ⟨⟨rfl, rfl⟩, by decide, by decide⟩ rfl hl.1 rfl (Nat.le_of_ble_eq_true rfl) dX12_modelsOfPart_67 ⟨Nat.le_of_ble_eq_true rfl, Nat.le_of_ble_eq_true rfl⟩ (fun v u H locs hp hW => ?_)
          obtain ⟨rfl, rfl⟩ := hp
          refine W.eq (g2 := F0 m 70 ls [.int (nI (2 ^ n)), .int (nI d)]) rfl ?_
          refine jn_cmp_ge (tgt := 180) S (by omega) (by omega) dX12_modelsOfPart_70 (by decide) (fun c_70 => ?_) (fun c_70 => ?_)
          · refine lv_lload S.1 S.2.1 dX12_modelsOfPart_180 (lv_at hl 3 rfl) ?_
            subst hQ
            refine j_lret (u := w_) S hr hK hW dX12_modelsOfPart_182 ⟨by decide, by decide⟩ ?_
            have ed : d = 2 ^ n := by omega
            subst ed
            exact ⟨rfl, hU, gO_⟩
          · refine lv_iload S.1 S.2.1 dX12_modelsOfPart_73 (lv_at hl 4 rfl) ?_
            refine lv_iload_n S.1 S.2.1 dX12_modelsOfPart_75 rfl (lv_at hl 1 rfl) ?_
            refine lv_iconst (v := (-1)) S.1 S.2.1 dX12_modelsOfPart_76 (by decide) ?_
            refine lv_ixor S.1 S.2.1 dX12_modelsOfPart_77 ?_
            have h79 : nAnd d (itP nc cs lv (nAnd (2 ^ n - 1) sd) x 10) < 1024 := nAnd_lt (n := 10) (by omega)
            refine jn_andn S dX12_modelsOfPart_78 ?_
            refine jn_if_eq (tgt := 85) S (by omega) dX12_modelsOfPart_79 (by decide) (fun c_79 => ?_) (fun c_79 => ?_)
            · refine lv_iconst (v := nI 1) S.1 S.2.1 dX12_modelsOfPart_85 (by decide) ?_
              refine lv_istore (lv' := [(7, .int (nI 1)), (0, .ref (ad 55)), (2, .int (nI (itP nc cs lv (nAnd (2 ^ n - 1) sd) x 10))), (3, .int (nI se)), (4, .long (lN (cnt (fun d => decide (nAnd d (itP nc cs lv (nAnd (2 ^ n - 1) sd) x 10) = 0) && allB (fun c => okP nc cs lv se (itP nc cs lv (nAnd (2 ^ n - 1) sd) x 10) d c) nc) d))), (6, .int (nI d))]) S.1 S.2.1 dX12_modelsOfPart_86 hl (by decide) rfl (fun ls hl => ?_)
              refine lv_iconst (v := nI 0) S.1 S.2.1 dX12_modelsOfPart_88 (by decide) ?_
              refine lv_istore (lv' := [(8, .int (nI 0)), (7, .int (nI 1)), (0, .ref (ad 55)), (2, .int (nI (itP nc cs lv (nAnd (2 ^ n - 1) sd) x 10))), (3, .int (nI se)), (4, .long (lN (cnt (fun d => decide (nAnd d (itP nc cs lv (nAnd (2 ^ n - 1) sd) x 10) = 0) && allB (fun c => okP nc cs lv se (itP nc cs lv (nAnd (2 ^ n - 1) sd) x 10) d c) nc) d))), (6, .int (nI d))]) S.1 S.2.1 dX12_modelsOfPart_89 hl (by decide) rfl (fun ls hl => ?_)
              have L91 : ∀ (k : Nat) (c1 : Nat), nc - c1 = k → (c1 ≤ nc) → ∀ (w_ : va_W), jU w w_ [55] → (w_[55]? = some (ad 55, .inr (11, [.int (nI 0), .ref (ad 56), .ref (ad 57), .ref (ad 58), .ref (ad 59), .ref (ad 60), .ref (ad 61), .ref (ad 62), .ref (ad 63), .ref (ad 64), .ref (ad 65), .int (nI n), .int (nI nc), .ref (ad 66), .ref (ad 71), .ref (ad 72), .ref (ad 73)]))) → ∀ (H : Heap) (locs : List Loc) (ls : Array Slot), jW D A s.heap w_ H locs → lv_has ls 9 [(0, .ref (ad 55)), (2, .int (nI (itP nc cs lv (nAnd (2 ^ n - 1) sd) x 10))), (3, .int (nI se)), (4, .long (lN (cnt (fun d => decide (nAnd d (itP nc cs lv (nAnd (2 ^ n - 1) sd) x 10) = 0) && allB (fun c => okP nc cs lv se (itP nc cs lv (nAnd (2 ^ n - 1) sd) x 10) d c) nc) d))), (6, .int (nI d)), (7, .int (bI (allB (fun c => okP nc cs lv se (itP nc cs lv (nAnd (2 ^ n - 1) sd) x 10) d c) c1))), (8, .int (nI c1))] → W p l e (jR 5 0 0) s m args below meth c H locs 0 0 Q (F0 m 91 ls []) := by
                intro k
                induction k using Nat.strongRecOn with
                | ind k ih91 =>
                intro c1 hk hc w_ hU gO_ H locs ls hW hl
                subst hk
                refine lv_iload S.1 S.2.1 dX12_modelsOfPart_91 (lv_at hl 6 rfl) ?_
                refine lv_aload_n S.1 S.2.1 dX12_modelsOfPart_93 rfl (lv_at hl 0 rfl) ?_
                refine j_get (ci := 11) (C := RX12) (T := TX12) (N := 17) (v := .int (nI nc)) S (fun w h => List.mem_cons_of_mem _ (inG12 w h)) hK hW gO_ rfl 12 (by decide) (List.mem_cons_of_mem _ wfl_X12_79) (fun _ h9 => h9) rfl dX12_modelsOfPart_94 ?_
                refine jn_cmp_ge (tgt := 159) S (by omega) (by omega) dX12_modelsOfPart_97 (by decide) (fun c_97 => ?_) (fun c_97 => ?_)
                · refine lv_lload S.1 S.2.1 dX12_modelsOfPart_159 (lv_at hl 3 rfl) ?_
                  refine lv_iload S.1 S.2.1 dX12_modelsOfPart_161 (lv_at hl 5 rfl) ?_
                  refine jb_if_eq (tgt := 170) S dX12_modelsOfPart_163 (by decide) (fun c_163 => ?_) (fun c_163 => ?_)
                  · refine lv_lconst (v := lN 0) S.1 S.2.1 dX12_modelsOfPart_170 (by decide) ?_
                    refine jnl_add S dX12_modelsOfPart_171 ?_
                    refine lv_topl_to (y := lN (cnt (fun d => decide (nAnd d (itP nc cs lv (nAnd (2 ^ n - 1) sd) x 10) = 0) && allB (fun c => okP nc cs lv se (itP nc cs lv (nAnd (2 ^ n - 1) sd) x 10) d c) nc) (d + 1))) (congrArg lN (by first | exact (cnt_s1 (by rw [decide_eq_true c_79, Bool.true_and]; rw [show c1 = nc by omega] at c_163; exact c_163)).symm | exact (cnt_s0 (by rw [decide_eq_true c_79, Bool.true_and]; rw [show c1 = nc by omega] at c_163; exact c_163)).symm)) ?_
                    refine lv_lstore (lv' := [(4, .long (lN (cnt (fun d => decide (nAnd d (itP nc cs lv (nAnd (2 ^ n - 1) sd) x 10) = 0) && allB (fun c => okP nc cs lv se (itP nc cs lv (nAnd (2 ^ n - 1) sd) x 10) d c) nc) (d + 1)))), (0, .ref (ad 55)), (2, .int (nI (itP nc cs lv (nAnd (2 ^ n - 1) sd) x 10))), (3, .int (nI se)), (6, .int (nI d)), (7, .int (bI (allB (fun c => okP nc cs lv se (itP nc cs lv (nAnd (2 ^ n - 1) sd) x 10) d c) c1))), (8, .int (nI c1))]) S.1 S.2.1 dX12_modelsOfPart_172 hl (by decide) rfl (fun ls hl => ?_)
                    refine lv_iinc (v := nI (d + 1)) (lv' := [(6, .int (nI (d + 1))), (4, .long (lN (cnt (fun d => decide (nAnd d (itP nc cs lv (nAnd (2 ^ n - 1) sd) x 10) = 0) && allB (fun c => okP nc cs lv se (itP nc cs lv (nAnd (2 ^ n - 1) sd) x 10) d c) nc) (d + 1)))), (0, .ref (ad 55)), (2, .int (nI (itP nc cs lv (nAnd (2 ^ n - 1) sd) x 10))), (3, .int (nI se)), (7, .int (bI (allB (fun c => okP nc cs lv se (itP nc cs lv (nAnd (2 ^ n - 1) sd) x 10) d c) c1))), (8, .int (nI c1))]) S.1 S.2.1 dX12_modelsOfPart_174 hl (k := 4) rfl (nI_add _ 1) (by decide) rfl (fun ls hl => ?_)
                    refine lv_goto (tgt := 64) S.1 S.2.1 dX12_modelsOfPart_177 (by decide) ?_
                    exact ih64 _ (by omega) (d + 1) rfl (by omega) w_ hU gO_ H locs ls hW (lv_sub hl [2, 3, 4, 1, 0] rfl)
                  · refine lv_lconst (v := lN 1) S.1 S.2.1 dX12_modelsOfPart_166 (by decide) ?_
                    refine lv_goto (tgt := 171) S.1 S.2.1 dX12_modelsOfPart_167 (by decide) ?_
                    refine jnl_add S dX12_modelsOfPart_171 ?_
                    refine lv_topl_to (y := lN (cnt (fun d => decide (nAnd d (itP nc cs lv (nAnd (2 ^ n - 1) sd) x 10) = 0) && allB (fun c => okP nc cs lv se (itP nc cs lv (nAnd (2 ^ n - 1) sd) x 10) d c) nc) (d + 1))) (congrArg lN (by first | exact (cnt_s1 (by rw [decide_eq_true c_79, Bool.true_and]; rw [show c1 = nc by omega] at c_163; exact c_163)).symm | exact (cnt_s0 (by rw [decide_eq_true c_79, Bool.true_and]; rw [show c1 = nc by omega] at c_163; exact c_163)).symm)) ?_
                    refine lv_lstore (lv' := [(4, .long (lN (cnt (fun d => decide (nAnd d (itP nc cs lv (nAnd (2 ^ n - 1) sd) x 10) = 0) && allB (fun c => okP nc cs lv se (itP nc cs lv (nAnd (2 ^ n - 1) sd) x 10) d c) nc) (d + 1)))), (0, .ref (ad 55)), (2, .int (nI (itP nc cs lv (nAnd (2 ^ n - 1) sd) x 10))), (3, .int (nI se)), (6, .int (nI d)), (7, .int (bI (allB (fun c => okP nc cs lv se (itP nc cs lv (nAnd (2 ^ n - 1) sd) x 10) d c) c1))), (8, .int (nI c1))]) S.1 S.2.1 dX12_modelsOfPart_172 hl (by decide) rfl (fun ls hl => ?_)
                    refine lv_iinc (v := nI (d + 1)) (lv' := [(6, .int (nI (d + 1))), (4, .long (lN (cnt (fun d => decide (nAnd d (itP nc cs lv (nAnd (2 ^ n - 1) sd) x 10) = 0) && allB (fun c => okP nc cs lv se (itP nc cs lv (nAnd (2 ^ n - 1) sd) x 10) d c) nc) (d + 1)))), (0, .ref (ad 55)), (2, .int (nI (itP nc cs lv (nAnd (2 ^ n - 1) sd) x 10))), (3, .int (nI se)), (7, .int (bI (allB (fun c => okP nc cs lv se (itP nc cs lv (nAnd (2 ^ n - 1) sd) x 10) d c) c1))), (8, .int (nI c1))]) S.1 S.2.1 dX12_modelsOfPart_174 hl (k := 4) rfl (nI_add _ 1) (by decide) rfl (fun ls hl => ?_)
                    refine lv_goto (tgt := 64) S.1 S.2.1 dX12_modelsOfPart_177 (by decide) ?_
                    exact ih64 _ (by omega) (d + 1) rfl (by omega) w_ hU gO_ H locs ls hW (lv_sub hl [2, 3, 4, 1, 0] rfl)
                · refine lv_iload S.1 S.2.1 dX12_modelsOfPart_100 (lv_at hl 5 rfl) ?_
                  refine lv_aload_n S.1 S.2.1 dX12_modelsOfPart_102 rfl (lv_at hl 0 rfl) ?_
                  refine j_get (ci := 11) (C := RX12) (T := TX12) (N := 17) (v := .ref (ad 65)) S (fun w h => List.mem_cons_of_mem _ (inG12 w h)) hK hW gO_ rfl 10 (by decide) (List.mem_cons_of_mem _ wfl_X12_46) (fun _ h9 => h9) rfl dX12_modelsOfPart_103 ?_
                  refine lv_iload S.1 S.2.1 dX12_modelsOfPart_106 (lv_at hl 6 rfl) ?_
                  refine j_zald (x := bI (dpB nc lv c1)) S hK hW (hU.get gP (by decide)) (vp_in_nI (by omega) (by omega)) (nI_clamp (by omega)) (rfl) dX12_modelsOfPart_108 ?_
                  refine jb_if_ne (tgt := 145) S dX12_modelsOfPart_109 (by decide) (fun c_109 => ?_) (fun c_109 => ?_)
                  · refine lv_iconst (v := nI 1) S.1 S.2.1 dX12_modelsOfPart_145 (by decide) ?_
                    refine lv_goto (tgt := 150) S.1 S.2.1 dX12_modelsOfPart_146 (by decide) ?_
                    refine lv_iand S.1 S.2.1 dX12_modelsOfPart_150 ?_
                    refine lv_topi_to (y := bI (allB (fun c => okP nc cs lv se (itP nc cs lv (nAnd (2 ^ n - 1) sd) x 10) d c) (c1 + 1))) (by first | exact allB_a1 (by rw [okP, c_142, Bool.or_true]) | exact allB_a1 (by rw [okP, mbs, decide_eq_true c_129, Bool.or_true, Bool.true_or]) | exact allB_a1 (by rw [dpB_at (by omega)] at c_109; rw [okP, c_109]; rfl) | exact allB_a0 (by rw [dpB_at (by omega)] at c_109; rw [okP, c_109, mbs, decide_eq_false c_129, c_142]; rfl)) ?_
                    refine lv_istore (lv' := [(7, .int (bI (allB (fun c => okP nc cs lv se (itP nc cs lv (nAnd (2 ^ n - 1) sd) x 10) d c) (c1 + 1)))), (0, .ref (ad 55)), (2, .int (nI (itP nc cs lv (nAnd (2 ^ n - 1) sd) x 10))), (3, .int (nI se)), (4, .long (lN (cnt (fun d => decide (nAnd d (itP nc cs lv (nAnd (2 ^ n - 1) sd) x 10) = 0) && allB (fun c => okP nc cs lv se (itP nc cs lv (nAnd (2 ^ n - 1) sd) x 10) d c) nc) d))), (6, .int (nI d)), (8, .int (nI c1))]) S.1 S.2.1 dX12_modelsOfPart_151 hl (by decide) rfl (fun ls hl => ?_)
                    refine lv_iinc (v := nI (c1 + 1)) (lv' := [(8, .int (nI (c1 + 1))), (7, .int (bI (allB (fun c => okP nc cs lv se (itP nc cs lv (nAnd (2 ^ n - 1) sd) x 10) d c) (c1 + 1)))), (0, .ref (ad 55)), (2, .int (nI (itP nc cs lv (nAnd (2 ^ n - 1) sd) x 10))), (3, .int (nI se)), (4, .long (lN (cnt (fun d => decide (nAnd d (itP nc cs lv (nAnd (2 ^ n - 1) sd) x 10) = 0) && allB (fun c => okP nc cs lv se (itP nc cs lv (nAnd (2 ^ n - 1) sd) x 10) d c) nc) d))), (6, .int (nI d))]) S.1 S.2.1 dX12_modelsOfPart_153 hl (k := 6) rfl (nI_add _ 1) (by decide) rfl (fun ls hl => ?_)
                    refine lv_goto (tgt := 91) S.1 S.2.1 dX12_modelsOfPart_156 (by decide) ?_
                    exact ih91 _ (by omega) (c1 + 1) rfl (by omega) w_ hU gO_ H locs ls hW (lv_sub hl [2, 3, 4, 5, 6, 1, 0] rfl)
                  · refine lv_aload_n S.1 S.2.1 dX12_modelsOfPart_112 rfl (lv_at hl 0 rfl) ?_
                    refine j_get (ci := 11) (C := RX12) (T := TX12) (N := 17) (v := .ref (ad 61)) S (fun w h => List.mem_cons_of_mem _ (inG12 w h)) hK hW gO_ rfl 6 (by decide) (List.mem_cons_of_mem _ wfl_X12_34) (fun _ h9 => h9) rfl dX12_modelsOfPart_113 ?_
                    refine lv_iload S.1 S.2.1 dX12_modelsOfPart_116 (lv_at hl 6 rfl) ?_
                    refine j_iald (x := nI ((cs c1).2.1)) S hK hW (hU.get gC1 (by decide)) (vp_in_nI (by omega) (by omega)) (nI_clamp (by omega)) (rfl) dX12_modelsOfPart_118 ?_
                    refine lv_aload_n S.1 S.2.1 dX12_modelsOfPart_119 rfl (lv_at hl 0 rfl) ?_
                    refine j_get (ci := 11) (C := RX12) (T := TX12) (N := 17) (v := .ref (ad 62)) S (fun w h => List.mem_cons_of_mem _ (inG12 w h)) hK hW gO_ rfl 7 (by decide) (List.mem_cons_of_mem _ wfl_X12_37) (fun _ h9 => h9) rfl dX12_modelsOfPart_120 ?_
                    refine lv_iload S.1 S.2.1 dX12_modelsOfPart_123 (lv_at hl 6 rfl) ?_
                    refine j_iald (x := nI ((cs c1).2.2.1)) S hK hW (hU.get gC2 (by decide)) (vp_in_nI (by omega) (by omega)) (nI_clamp (by omega)) (rfl) dX12_modelsOfPart_125 ?_
                    obtain ⟨hok, ho0⟩ := hcs c1 (by omega)
                    obtain ⟨hk1, hs1, hs2, hs3, hs4⟩ := hok
                    refine jn_or S dX12_modelsOfPart_126 ?_
                    refine lv_iload_n S.1 S.2.1 dX12_modelsOfPart_127 rfl (lv_at hl 1 rfl) ?_
                    have h129 : ((cs c1).2.1 ||| (cs c1).2.2.1) &&& itP nc cs lv (nAnd (2 ^ n - 1) sd) x 10 < 1024 := and_lt10 hxl
                    refine jn_and S dX12_modelsOfPart_128 ?_
                    refine jn_if_eq (tgt := 145) S (by omega) dX12_modelsOfPart_129 (by decide) (fun c_129 => ?_) (fun c_129 => ?_)
                    · refine lv_iconst (v := nI 1) S.1 S.2.1 dX12_modelsOfPart_145 (by decide) ?_
                      refine lv_goto (tgt := 150) S.1 S.2.1 dX12_modelsOfPart_146 (by decide) ?_
                      refine lv_iand S.1 S.2.1 dX12_modelsOfPart_150 ?_
                      refine lv_topi_to (y := bI (allB (fun c => okP nc cs lv se (itP nc cs lv (nAnd (2 ^ n - 1) sd) x 10) d c) (c1 + 1))) (by first | exact allB_a1 (by rw [okP, c_142, Bool.or_true]) | exact allB_a1 (by rw [okP, mbs, decide_eq_true c_129, Bool.or_true, Bool.true_or]) | exact allB_a1 (by rw [dpB_at (by omega)] at c_109; rw [okP, c_109]; rfl) | exact allB_a0 (by rw [dpB_at (by omega)] at c_109; rw [okP, c_109, mbs, decide_eq_false c_129, c_142]; rfl)) ?_
                      refine lv_istore (lv' := [(7, .int (bI (allB (fun c => okP nc cs lv se (itP nc cs lv (nAnd (2 ^ n - 1) sd) x 10) d c) (c1 + 1)))), (0, .ref (ad 55)), (2, .int (nI (itP nc cs lv (nAnd (2 ^ n - 1) sd) x 10))), (3, .int (nI se)), (4, .long (lN (cnt (fun d => decide (nAnd d (itP nc cs lv (nAnd (2 ^ n - 1) sd) x 10) = 0) && allB (fun c => okP nc cs lv se (itP nc cs lv (nAnd (2 ^ n - 1) sd) x 10) d c) nc) d))), (6, .int (nI d)), (8, .int (nI c1))]) S.1 S.2.1 dX12_modelsOfPart_151 hl (by decide) rfl (fun ls hl => ?_)
                      refine lv_iinc (v := nI (c1 + 1)) (lv' := [(8, .int (nI (c1 + 1))), (7, .int (bI (allB (fun c => okP nc cs lv se (itP nc cs lv (nAnd (2 ^ n - 1) sd) x 10) d c) (c1 + 1)))), (0, .ref (ad 55)), (2, .int (nI (itP nc cs lv (nAnd (2 ^ n - 1) sd) x 10))), (3, .int (nI se)), (4, .long (lN (cnt (fun d => decide (nAnd d (itP nc cs lv (nAnd (2 ^ n - 1) sd) x 10) = 0) && allB (fun c => okP nc cs lv se (itP nc cs lv (nAnd (2 ^ n - 1) sd) x 10) d c) nc) d))), (6, .int (nI d))]) S.1 S.2.1 dX12_modelsOfPart_153 hl (k := 6) rfl (nI_add _ 1) (by decide) rfl (fun ls hl => ?_)
                      refine lv_goto (tgt := 91) S.1 S.2.1 dX12_modelsOfPart_156 (by decide) ?_
                      exact ih91 _ (by omega) (c1 + 1) rfl (by omega) w_ hU gO_ H locs ls hW (lv_sub hl [2, 3, 4, 5, 6, 1, 0] rfl)
                    · refine lv_aload_n S.1 S.2.1 dX12_modelsOfPart_132 rfl (lv_at hl 0 rfl) ?_
                      refine lv_iload S.1 S.2.1 dX12_modelsOfPart_133 (lv_at hl 6 rfl) ?_
                      refine lv_iload S.1 S.2.1 dX12_modelsOfPart_135 (lv_at hl 4 rfl) ?_
                      refine lv_iload_n S.1 S.2.1 dX12_modelsOfPart_137 rfl (lv_at hl 2 rfl) ?_
                      refine jn_or S dX12_modelsOfPart_138 ?_
                      refine j_callV (k := 55) (ci := 11) (q := (RX12, TX12, 17)) (As := [.int (nI c1), .int (nI (d ||| se))]) (rest := [.int (bI (allB (fun c => okP nc cs lv se (itP nc cs lv (nAnd (2 ^ n - 1) sd) x 10) d c) c1))]) S hK hA hW (c_X12_isHeld l D cy ad 0 n nc cs c1 (d ||| se) gO_ (hU.get gC0 (by decide)) (hU.get gC1 (by decide)) (hU.get gC2 (by decide)) (hU.get gC3 (by decide)) (hU.get gC4 (by decide))   (by omega) (hcs) (by omega) (Nat.or_lt_two_pow (n := 10) (by omega) (by omega))) (jgo wm_X12_95) yk_X12_isHeld gO_ rfl rfl ⟨⟨rfl, rfl⟩, by decide, by decide⟩ rfl hl.1 rfl (Nat.le_of_ble_eq_true rfl) dX12_modelsOfPart_139 ⟨Nat.le_of_ble_eq_true rfl, Nat.le_of_ble_eq_true rfl⟩ (fun v u H locs hp hW => ?_)
                      obtain ⟨rfl, rfl⟩ := hp
                      refine W.eq (g2 := F0 m 142 ls [.int (bI (heldC (cs c1) (d ||| se))), .int (bI (allB (fun c => okP nc cs lv se (itP nc cs lv (nAnd (2 ^ n - 1) sd) x 10) d c) c1))]) rfl ?_
                      refine jb_if_eq (tgt := 149) S dX12_modelsOfPart_142 (by decide) (fun c_142 => ?_) (fun c_142 => ?_)
                      · refine lv_iconst (v := nI 0) S.1 S.2.1 dX12_modelsOfPart_149 (by decide) ?_
                        refine lv_iand S.1 S.2.1 dX12_modelsOfPart_150 ?_
                        refine lv_topi_to (y := bI (allB (fun c => okP nc cs lv se (itP nc cs lv (nAnd (2 ^ n - 1) sd) x 10) d c) (c1 + 1))) (by first | exact allB_a1 (by rw [okP, c_142, Bool.or_true]) | exact allB_a1 (by rw [okP, mbs, decide_eq_true c_129, Bool.or_true, Bool.true_or]) | exact allB_a1 (by rw [dpB_at (by omega)] at c_109; rw [okP, c_109]; rfl) | exact allB_a0 (by rw [dpB_at (by omega)] at c_109; rw [okP, c_109, mbs, decide_eq_false c_129, c_142]; rfl)) ?_
                        refine lv_istore (lv' := [(7, .int (bI (allB (fun c => okP nc cs lv se (itP nc cs lv (nAnd (2 ^ n - 1) sd) x 10) d c) (c1 + 1)))), (0, .ref (ad 55)), (2, .int (nI (itP nc cs lv (nAnd (2 ^ n - 1) sd) x 10))), (3, .int (nI se)), (4, .long (lN (cnt (fun d => decide (nAnd d (itP nc cs lv (nAnd (2 ^ n - 1) sd) x 10) = 0) && allB (fun c => okP nc cs lv se (itP nc cs lv (nAnd (2 ^ n - 1) sd) x 10) d c) nc) d))), (6, .int (nI d)), (8, .int (nI c1))]) S.1 S.2.1 dX12_modelsOfPart_151 hl (by decide) rfl (fun ls hl => ?_)
                        refine lv_iinc (v := nI (c1 + 1)) (lv' := [(8, .int (nI (c1 + 1))), (7, .int (bI (allB (fun c => okP nc cs lv se (itP nc cs lv (nAnd (2 ^ n - 1) sd) x 10) d c) (c1 + 1)))), (0, .ref (ad 55)), (2, .int (nI (itP nc cs lv (nAnd (2 ^ n - 1) sd) x 10))), (3, .int (nI se)), (4, .long (lN (cnt (fun d => decide (nAnd d (itP nc cs lv (nAnd (2 ^ n - 1) sd) x 10) = 0) && allB (fun c => okP nc cs lv se (itP nc cs lv (nAnd (2 ^ n - 1) sd) x 10) d c) nc) d))), (6, .int (nI d))]) S.1 S.2.1 dX12_modelsOfPart_153 hl (k := 6) rfl (nI_add _ 1) (by decide) rfl (fun ls hl => ?_)
                        refine lv_goto (tgt := 91) S.1 S.2.1 dX12_modelsOfPart_156 (by decide) ?_
                        exact ih91 _ (by omega) (c1 + 1) rfl (by omega) w_ hU gO_ H locs ls hW (lv_sub hl [2, 3, 4, 5, 6, 1, 0] rfl)
                      · refine lv_iconst (v := nI 1) S.1 S.2.1 dX12_modelsOfPart_145 (by decide) ?_
                        refine lv_goto (tgt := 150) S.1 S.2.1 dX12_modelsOfPart_146 (by decide) ?_
                        refine lv_iand S.1 S.2.1 dX12_modelsOfPart_150 ?_
                        refine lv_topi_to (y := bI (allB (fun c => okP nc cs lv se (itP nc cs lv (nAnd (2 ^ n - 1) sd) x 10) d c) (c1 + 1))) (by first | exact allB_a1 (by rw [okP, c_142, Bool.or_true]) | exact allB_a1 (by rw [okP, mbs, decide_eq_true c_129, Bool.or_true, Bool.true_or]) | exact allB_a1 (by rw [dpB_at (by omega)] at c_109; rw [okP, c_109]; rfl) | exact allB_a0 (by rw [dpB_at (by omega)] at c_109; rw [okP, c_109, mbs, decide_eq_false c_129, c_142]; rfl)) ?_
                        refine lv_istore (lv' := [(7, .int (bI (allB (fun c => okP nc cs lv se (itP nc cs lv (nAnd (2 ^ n - 1) sd) x 10) d c) (c1 + 1)))), (0, .ref (ad 55)), (2, .int (nI (itP nc cs lv (nAnd (2 ^ n - 1) sd) x 10))), (3, .int (nI se)), (4, .long (lN (cnt (fun d => decide (nAnd d (itP nc cs lv (nAnd (2 ^ n - 1) sd) x 10) = 0) && allB (fun c => okP nc cs lv se (itP nc cs lv (nAnd (2 ^ n - 1) sd) x 10) d c) nc) d))), (6, .int (nI d)), (8, .int (nI c1))]) S.1 S.2.1 dX12_modelsOfPart_151 hl (by decide) rfl (fun ls hl => ?_)
                        refine lv_iinc (v := nI (c1 + 1)) (lv' := [(8, .int (nI (c1 + 1))), (7, .int (bI (allB (fun c => okP nc cs lv se (itP nc cs lv (nAnd (2 ^ n - 1) sd) x 10) d c) (c1 + 1)))), (0, .ref (ad 55)), (2, .int (nI (itP nc cs lv (nAnd (2 ^ n - 1) sd) x 10))), (3, .int (nI se)), (4, .long (lN (cnt (fun d => decide (nAnd d (itP nc cs lv (nAnd (2 ^ n - 1) sd) x 10) = 0) && allB (fun c => okP nc cs lv se (itP nc cs lv (nAnd (2 ^ n - 1) sd) x 10) d c) nc) d))), (6, .int (nI d))]) S.1 S.2.1 dX12_modelsOfPart_153 hl (k := 6) rfl (nI_add _ 1) (by decide) rfl (fun ls hl => ?_)
                        refine lv_goto (tgt := 91) S.1 S.2.1 dX12_modelsOfPart_156 (by decide) ?_
                        exact ih91 _ (by omega) (c1 + 1) rfl (by omega) w_ hU gO_ H locs ls hW (lv_sub hl [2, 3, 4, 5, 6, 1, 0] rfl)
              exact L91 _ 0 rfl (Nat.zero_le _) w_ hU gO_ H locs ls hW (lv_sub hl [2, 3, 4, 5, 6, 1, 0] rfl)
            · refine lv_goto (tgt := 174) S.1 S.2.1 dX12_modelsOfPart_82 (by decide) ?_
              have e0 : cnt (fun d => decide (nAnd d (itP nc cs lv (nAnd (2 ^ n - 1) sd) x 10) = 0) && allB (fun c => okP nc cs lv se (itP nc cs lv (nAnd (2 ^ n - 1) sd) x 10) d c) nc) (d + 1) = cnt (fun d => decide (nAnd d (itP nc cs lv (nAnd (2 ^ n - 1) sd) x 10) = 0) && allB (fun c => okP nc cs lv se (itP nc cs lv (nAnd (2 ^ n - 1) sd) x 10) d c) nc) d := cnt_s0 (by rw [decide_eq_false c_79]; rfl)
              have hl : lv_has ls 9 [(0, .ref (ad 55)), (2, .int (nI (itP nc cs lv (nAnd (2 ^ n - 1) sd) x 10))), (3, .int (nI se)), (4, .long (lN (cnt (fun d => decide (nAnd d (itP nc cs lv (nAnd (2 ^ n - 1) sd) x 10) = 0) && allB (fun c => okP nc cs lv se (itP nc cs lv (nAnd (2 ^ n - 1) sd) x 10) d c) nc) (d + 1)))), (6, .int (nI d))] := by rw [e0]; exact lv_sub hl [0, 1, 2, 3, 4] rfl
              refine lv_iinc (v := nI (d + 1)) (lv' := [(6, .int (nI (d + 1))), (0, .ref (ad 55)), (2, .int (nI (itP nc cs lv (nAnd (2 ^ n - 1) sd) x 10))), (3, .int (nI se)), (4, .long (lN (cnt (fun d => decide (nAnd d (itP nc cs lv (nAnd (2 ^ n - 1) sd) x 10) = 0) && allB (fun c => okP nc cs lv se (itP nc cs lv (nAnd (2 ^ n - 1) sd) x 10) d c) nc) (d + 1))))]) S.1 S.2.1 dX12_modelsOfPart_174 hl (k := 4) rfl (nI_add _ 1) (by decide) rfl (fun ls hl => ?_)
              refine lv_goto (tgt := 64) S.1 S.2.1 dX12_modelsOfPart_177 (by decide) ?_
              exact ih64 _ (by omega) (d + 1) rfl (by omega) w_ hU gO_ H locs ls hW (lv_sub hl [1, 2, 3, 4, 0] rfl)
        exact L64 _ 0 rfl (Nat.zero_le _) w_ hU gO_ H locs ls hW (lv_sub hl [2, 4, 5, 1, 0] rfl)
      · rcases Bool.eq_false_or_eq_true (sd.testBit v) with hsv | hsv
        · refine lv_iload_n S.1 S.2.1 dX12_modelsOfPart_30 rfl (lv_at hl 3 rfl) ?_
          refine lv_aload_n S.1 S.2.1 dX12_modelsOfPart_31 rfl (lv_at hl 0 rfl) ?_
          refine j_get (ci := 11) (C := RX12) (T := TX12) (N := 17) (v := .ref (ad 58)) S (fun w h => List.mem_cons_of_mem _ (inG12 w h)) hK hW gO_ rfl 3 (by decide) (List.mem_cons_of_mem _ wfl_X12_24) (fun _ h9 => h9) rfl dX12_modelsOfPart_32 ?_
          refine lv_iload S.1 S.2.1 dX12_modelsOfPart_35 (lv_at hl 4 rfl) ?_
          refine j_iald (x := nI (b01 (se.testBit v))) S hK hW (hU.get gE (by decide)) (vp_in_nI (by omega) (by omega)) (nI_clamp (by omega)) (by rw [evA_at (by omega), evI, if_pos hsv, bI_b01]) dX12_modelsOfPart_37 ?_
          refine lv_iconst (v := nI 1) S.1 S.2.1 dX12_modelsOfPart_38 (by decide) ?_
          have hb1 := b01_lt (se.testBit v)
          refine jn_cmp_ne (tgt := 49) S (by omega) (by omega) dX12_modelsOfPart_39 (by decide) (fun c_39 => ?_) (fun c_39 => ?_)
          · refine lv_iconst (v := nI 0) S.1 S.2.1 dX12_modelsOfPart_49 (by decide) ?_
            refine jn_or S dX12_modelsOfPart_50 ?_
            refine lv_topi_to (y := nI (bsum (fun v => sd.testBit v && se.testBit v) (v + 1))) (congrArg nI (by first | exact bs_p (by rw [hsv, b01_1.mp c_39]; rfl) | exact bs_t (by rw [hsv, b01_1.mp c_39]; rfl) | exact bs_f (by rw [hsv, Bool.eq_false_iff.mpr (fun z => c_39 (b01_1.mpr z))]; rfl) | exact bs_f (by rw [hsv]; rfl))) ?_
            refine lv_istore_n (lv' := [(3, .int (nI (bsum (fun v => sd.testBit v && se.testBit v) (v + 1)))), (0, .ref (ad 55)), (1, .int (nI x)), (2, .int (nI (itP nc cs lv (nAnd (2 ^ n - 1) sd) x 10))), (4, .int (nI v))]) S.1 S.2.1 dX12_modelsOfPart_51 rfl hl (by decide) rfl (fun ls hl => ?_)
            refine lv_iinc (v := nI (v + 1)) (lv' := [(4, .int (nI (v + 1))), (3, .int (nI (bsum (fun v => sd.testBit v && se.testBit v) (v + 1)))), (0, .ref (ad 55)), (1, .int (nI x)), (2, .int (nI (itP nc cs lv (nAnd (2 ^ n - 1) sd) x 10)))]) S.1 S.2.1 dX12_modelsOfPart_52 hl (k := 4) rfl (nI_add _ 1) (by decide) rfl (fun ls hl => ?_)
            refine lv_goto (tgt := 21) S.1 S.2.1 dX12_modelsOfPart_55 (by decide) ?_
            exact ih21 _ (by omega) (v + 1) rfl (by omega) w_ hU gO_ H locs ls hW (lv_sub hl [2, 3, 4, 1, 0] rfl)
          · refine lv_iconst (v := nI 1) S.1 S.2.1 dX12_modelsOfPart_42 (by decide) ?_
            refine lv_iload S.1 S.2.1 dX12_modelsOfPart_43 (lv_at hl 4 rfl) ?_
            refine jn_shl1 S (by omega) dX12_modelsOfPart_45 ?_
            refine lv_goto (tgt := 50) S.1 S.2.1 dX12_modelsOfPart_46 (by decide) ?_
            refine jn_or S dX12_modelsOfPart_50 ?_
            refine lv_topi_to (y := nI (bsum (fun v => sd.testBit v && se.testBit v) (v + 1))) (congrArg nI (by first | exact bs_p (by rw [hsv, b01_1.mp c_39]; rfl) | exact bs_t (by rw [hsv, b01_1.mp c_39]; rfl) | exact bs_f (by rw [hsv, Bool.eq_false_iff.mpr (fun z => c_39 (b01_1.mpr z))]; rfl) | exact bs_f (by rw [hsv]; rfl))) ?_
            refine lv_istore_n (lv' := [(3, .int (nI (bsum (fun v => sd.testBit v && se.testBit v) (v + 1)))), (0, .ref (ad 55)), (1, .int (nI x)), (2, .int (nI (itP nc cs lv (nAnd (2 ^ n - 1) sd) x 10))), (4, .int (nI v))]) S.1 S.2.1 dX12_modelsOfPart_51 rfl hl (by decide) rfl (fun ls hl => ?_)
            refine lv_iinc (v := nI (v + 1)) (lv' := [(4, .int (nI (v + 1))), (3, .int (nI (bsum (fun v => sd.testBit v && se.testBit v) (v + 1)))), (0, .ref (ad 55)), (1, .int (nI x)), (2, .int (nI (itP nc cs lv (nAnd (2 ^ n - 1) sd) x 10)))]) S.1 S.2.1 dX12_modelsOfPart_52 hl (k := 4) rfl (nI_add _ 1) (by decide) rfl (fun ls hl => ?_)
            refine lv_goto (tgt := 21) S.1 S.2.1 dX12_modelsOfPart_55 (by decide) ?_
            exact ih21 _ (by omega) (v + 1) rfl (by omega) w_ hU gO_ H locs ls hW (lv_sub hl [2, 3, 4, 1, 0] rfl)
        · refine lv_iload_n S.1 S.2.1 dX12_modelsOfPart_30 rfl (lv_at hl 3 rfl) ?_
          refine lv_aload_n S.1 S.2.1 dX12_modelsOfPart_31 rfl (lv_at hl 0 rfl) ?_
          refine j_get (ci := 11) (C := RX12) (T := TX12) (N := 17) (v := .ref (ad 58)) S (fun w h => List.mem_cons_of_mem _ (inG12 w h)) hK hW gO_ rfl 3 (by decide) (List.mem_cons_of_mem _ wfl_X12_24) (fun _ h9 => h9) rfl dX12_modelsOfPart_32 ?_
          refine lv_iload S.1 S.2.1 dX12_modelsOfPart_35 (lv_at hl 4 rfl) ?_
          refine j_iald (x := (-1)) S hK hW (hU.get gE (by decide)) (vp_in_nI (by omega) (by omega)) (nI_clamp (by omega)) (by rw [evA_at (by omega), evI, if_neg (by rw [hsv]; decide)]) dX12_modelsOfPart_37 ?_
          refine lv_iconst (v := nI 1) S.1 S.2.1 dX12_modelsOfPart_38 (by decide) ?_
          have hb1 := b01_lt (se.testBit v)
          refine lv_icmp_ne (tgt := 49) S.1 S.2.1 dX12_modelsOfPart_39 (by decide) (fun c_39 => ?_) (fun c_39 => ?_)
          · refine lv_iconst (v := nI 0) S.1 S.2.1 dX12_modelsOfPart_49 (by decide) ?_
            refine jn_or S dX12_modelsOfPart_50 ?_
            refine lv_topi_to (y := nI (bsum (fun v => sd.testBit v && se.testBit v) (v + 1))) (congrArg nI (by first | exact bs_p (by rw [hsv, b01_1.mp c_39]; rfl) | exact bs_t (by rw [hsv, b01_1.mp c_39]; rfl) | exact bs_f (by rw [hsv, Bool.eq_false_iff.mpr (fun z => c_39 (b01_1.mpr z))]; rfl) | exact bs_f (by rw [hsv]; rfl))) ?_
            refine lv_istore_n (lv' := [(3, .int (nI (bsum (fun v => sd.testBit v && se.testBit v) (v + 1)))), (0, .ref (ad 55)), (1, .int (nI x)), (2, .int (nI (itP nc cs lv (nAnd (2 ^ n - 1) sd) x 10))), (4, .int (nI v))]) S.1 S.2.1 dX12_modelsOfPart_51 rfl hl (by decide) rfl (fun ls hl => ?_)
            refine lv_iinc (v := nI (v + 1)) (lv' := [(4, .int (nI (v + 1))), (3, .int (nI (bsum (fun v => sd.testBit v && se.testBit v) (v + 1)))), (0, .ref (ad 55)), (1, .int (nI x)), (2, .int (nI (itP nc cs lv (nAnd (2 ^ n - 1) sd) x 10)))]) S.1 S.2.1 dX12_modelsOfPart_52 hl (k := 4) rfl (nI_add _ 1) (by decide) rfl (fun ls hl => ?_)
            refine lv_goto (tgt := 21) S.1 S.2.1 dX12_modelsOfPart_55 (by decide) ?_
            exact ih21 _ (by omega) (v + 1) rfl (by omega) w_ hU gO_ H locs ls hW (lv_sub hl [2, 3, 4, 1, 0] rfl)
          · exact absurd c_39 (by decide)
    exact L21 _ 0 rfl (Nat.zero_le _) w_ hU gO_ H locs ls hW (lv_sub hl [3, 4, 2, 1, 0] rfl)
  · exact absurd c_5 (by decide)
/-- modelsOfPart, no such variable -/
theorem c_X12_modelsOfPart_b1 (l : Launch) (D : va_G) (cy : Nat → ClassId) {w : va_W} (ad : Nat → Nat) (th n nc : Nat) (v : Int32) (gO : w[55]? = some (ad 55, .inr (11, [.int (nI th), .ref (ad 56), .ref (ad 57), .ref (ad 58), .ref (ad 59), .ref (ad 60), .ref (ad 61), .ref (ad 62), .ref (ad 63), .ref (ad 64), .ref (ad 65), .int (nI n), .int (nI nc), .ref (ad 66), .ref (ad 71), .ref (ad 72), .ref (ad 73)]))) (hn : n ≤ 10) (hv : vB v n = false) : jM l yX12_modelsOfPart (jws yX12_modelsOfPart cX12_modelsOfPart 9 (some .long)) (jR 5 0 0) D cy w [.ref (ad 55), .int v] 0 0 (fun vv uu => vv = some (.long (lN 0)) ∧ jU w uu [55] ∧ uu[55]? = some (ad 55, .inr (11, [.int (nI 1), .ref (ad 56), .ref (ad 57), .ref (ad 58), .ref (ad 59), .ref (ad 60), .ref (ad 61), .ref (ad 62), .ref (ad 63), .ref (ad 64), .ref (ad 65), .int (nI n), .int (nI nc), .ref (ad 66), .ref (ad 71), .ref (ad 72), .ref (ad 73)]))) := by
  refine j_of (by decide) rfl (Nat.le_of_ble_eq_true rfl) ?_
  intro p e s m args below meth c A ls Q hQ S hr hK hA H locs hW hl
  have hl : lv_has ls 9 [(0, .ref (ad 55)), (1, .int v)] := hl
  refine lv_aload_n S.1 S.2.1 dX12_modelsOfPart_0 rfl (lv_at hl 0 rfl) ?_
  refine lv_iload_n S.1 S.2.1 dX12_modelsOfPart_1 rfl (lv_at hl 1 rfl) ?_
  refine j_callV (k := 55) (ci := 11) (q := (RX12, TX12, 17)) (As := [.int v]) (rest := []) S hK hA hW (c_X12_hasNoPart_b1 l D cy ad th n nc v gO   (by omega) (hv)) (jgo wm_X12_134) yk_X12_hasNoPart gO rfl rfl ⟨⟨rfl, rfl⟩, by decide, by decide⟩ rfl hl.1 rfl (Nat.le_of_ble_eq_true rfl) dX12_modelsOfPart_2 ⟨Nat.le_of_ble_eq_true rfl, Nat.le_of_ble_eq_true rfl⟩ (fun v w_ H locs hp hW => ?_)
  obtain ⟨rfl, hU1, hN1⟩ := hp
  have hU : jU w w_ [55] := jU.mono hU1 (by decide)
  have gO_ : w_[55]? = some (ad 55, .inr (11, [.int (nI 1), .ref (ad 56), .ref (ad 57), .ref (ad 58), .ref (ad 59), .ref (ad 60), .ref (ad 61), .ref (ad 62), .ref (ad 63), .ref (ad 64), .ref (ad 65), .int (nI n), .int (nI nc), .ref (ad 66), .ref (ad 71), .ref (ad 72), .ref (ad 73)])) := hN1
  clear hU1 hN1
  refine W.eq (g2 := F0 m 5 ls [.int (bI true)]) rfl ?_
  refine jb_if_eq (tgt := 10) S dX12_modelsOfPart_5 (by decide) (fun c_5 => ?_) (fun c_5 => ?_)
  · exact absurd c_5 (by decide)
  · refine lv_lconst (v := lN 0) S.1 S.2.1 dX12_modelsOfPart_8 (by decide) ?_
    subst hQ
    exact j_lret (u := w_) S hr hK hW dX12_modelsOfPart_9 ⟨by decide, by decide⟩ (⟨rfl, hU, gO_⟩)
/-- modelsOfPart, settled -/
theorem c_X12_modelsOfPart_b2 (l : Launch) (D : va_G) (cy : Nat → ClassId) {w : va_W} (ad : Nat → Nat) (th n nc : Nat) (sd se x : Nat) (gO : w[55]? = some (ad 55, .inr (11, [.int (nI th), .ref (ad 56), .ref (ad 57), .ref (ad 58), .ref (ad 59), .ref (ad 60), .ref (ad 61), .ref (ad 62), .ref (ad 63), .ref (ad 64), .ref (ad 65), .int (nI n), .int (nI nc), .ref (ad 66), .ref (ad 71), .ref (ad 72), .ref (ad 73)]))) (gE : w[58]? = some (ad 58, .inl (cy 0, 10, .inl (evA n sd se)))) (hn : n ≤ 10) (hx : x < n) (hsv : sd.testBit x = true) : jM l yX12_modelsOfPart (jws yX12_modelsOfPart cX12_modelsOfPart 9 (some .long)) (jR 5 0 0) D cy w [.ref (ad 55), .int (nI x)] 0 0 (fun vv uu => vv = some (.long (lN 0)) ∧ jU w uu [55] ∧ uu[55]? = some (ad 55, .inr (11, [.int (nI 2), .ref (ad 56), .ref (ad 57), .ref (ad 58), .ref (ad 59), .ref (ad 60), .ref (ad 61), .ref (ad 62), .ref (ad 63), .ref (ad 64), .ref (ad 65), .int (nI n), .int (nI nc), .ref (ad 66), .ref (ad 71), .ref (ad 72), .ref (ad 73)]))) := by
  refine j_of (by decide) rfl (Nat.le_of_ble_eq_true rfl) ?_
  intro p e s m args below meth c A ls Q hQ S hr hK hA H locs hW hl
  have hl : lv_has ls 9 [(0, .ref (ad 55)), (1, .int (nI x))] := hl
  refine lv_aload_n S.1 S.2.1 dX12_modelsOfPart_0 rfl (lv_at hl 0 rfl) ?_
  refine lv_iload_n S.1 S.2.1 dX12_modelsOfPart_1 rfl (lv_at hl 1 rfl) ?_
  refine j_callV (k := 55) (ci := 11) (q := (RX12, TX12, 17)) (As := [.int (nI x)]) (rest := []) S hK hA hW (c_X12_hasNoPart_b2 l D cy ad th n nc sd se x gO gE   (by omega) (by omega) (hsv)) (jgo wm_X12_134) yk_X12_hasNoPart gO rfl rfl ⟨⟨rfl, rfl⟩, by decide, by decide⟩ rfl hl.1 rfl (Nat.le_of_ble_eq_true rfl) dX12_modelsOfPart_2 ⟨Nat.le_of_ble_eq_true rfl, Nat.le_of_ble_eq_true rfl⟩ (fun v w_ H locs hp hW => ?_)
  obtain ⟨rfl, hU1, hN1⟩ := hp
  have hU : jU w w_ [55] := jU.mono hU1 (by decide)
  have gO_ : w_[55]? = some (ad 55, .inr (11, [.int (nI 2), .ref (ad 56), .ref (ad 57), .ref (ad 58), .ref (ad 59), .ref (ad 60), .ref (ad 61), .ref (ad 62), .ref (ad 63), .ref (ad 64), .ref (ad 65), .int (nI n), .int (nI nc), .ref (ad 66), .ref (ad 71), .ref (ad 72), .ref (ad 73)])) := hN1
  clear hU1 hN1
  refine W.eq (g2 := F0 m 5 ls [.int (bI true)]) rfl ?_
  refine jb_if_eq (tgt := 10) S dX12_modelsOfPart_5 (by decide) (fun c_5 => ?_) (fun c_5 => ?_)
  · exact absurd c_5 (by decide)
  · refine lv_lconst (v := lN 0) S.1 S.2.1 dX12_modelsOfPart_8 (by decide) ?_
    subst hQ
    exact j_lret (u := w_) S hr hK hW dX12_modelsOfPart_9 ⟨by decide, by decide⟩ (⟨rfl, hU, gO_⟩)
/-- projected -/
theorem c_X12_projected_ok (l : Launch) (D : va_G) (cy : Nat → ClassId) {w : va_W} (ad : Nat → Nat) (th n nc : Nat) (sd se lv : Nat) (cs : Nat → CN) (rb : Nat → Bool) (x : Nat) (gO : w[55]? = some (ad 55, .inr (11, [.int (nI th), .ref (ad 56), .ref (ad 57), .ref (ad 58), .ref (ad 59), .ref (ad 60), .ref (ad 61), .ref (ad 62), .ref (ad 63), .ref (ad 64), .ref (ad 65), .int (nI n), .int (nI nc), .ref (ad 66), .ref (ad 71), .ref (ad 72), .ref (ad 73)]))) (gE : w[58]? = some (ad 58, .inl (cy 0, 10, .inl (evA n sd se)))) (gP : w[65]? = some (ad 65, .inl (cy 3, 20, .inl (bf (dpB nc lv))))) (gC0 : w[60]? = some (ad 60, .inl (cy 2, 20, .inl (nf (ckd cs))))) (gC1 : w[61]? = some (ad 61, .inl (cy 0, 20, .inl (nf (cst cs))))) (gC2 : w[62]? = some (ad 62, .inl (cy 0, 20, .inl (nf (cot cs))))) (gC3 : w[63]? = some (ad 63, .inl (cy 0, 20, .inl (nf (cle cs))))) (gC4 : w[64]? = some (ad 64, .inl (cy 0, 20, .inl (nf (cgr cs))))) (gR : w[72]? = some (ad 72, .inl (cy 3, 1024, .inl (bf rb)))) (hn : n ≤ 10) (hsd : sd < 2 ^ n) (hse : se &&& sd = se) (hnc : nc ≤ 20) (hcs : csI nc cs) (hx : x < 2 ^ n) : jM l yX12_projected (jws yX12_projected cX12_projected 5 (some .long)) (jR 4 0 0) D cy w [.ref (ad 55), .int (nI x)] 0 0 (fun vv uu => ∃ (rb1 : Nat → Bool), vv = some (.long (lN (cnt (prjS (mdc sd se nc cs lv) x (2 ^ n)) 1024))) ∧ jU w uu [55, 72] ∧ uu[55]? = some (ad 55, .inr (11, [.int (nI 0), .ref (ad 56), .ref (ad 57), .ref (ad 58), .ref (ad 59), .ref (ad 60), .ref (ad 61), .ref (ad 62), .ref (ad 63), .ref (ad 64), .ref (ad 65), .int (nI n), .int (nI nc), .ref (ad 66), .ref (ad 71), .ref (ad 72), .ref (ad 73)])) ∧ uu[72]? = some (ad 72, .inl (cy 3, 1024, .inl (bf rb1)))) := by
  have hp2 := two_pow10 hn
  refine j_of (by decide) rfl (Nat.le_of_ble_eq_true rfl) ?_
  intro p e s m args below meth c A ls Q hQ S hr hK hA H locs hW hl
  have hl : lv_has ls 5 [(0, .ref (ad 55)), (1, .int (nI x))] := hl
  refine lv_aload_n S.1 S.2.1 dX12_projected_0 rfl (lv_at hl 0 rfl) ?_
  refine lv_iconst (v := nI 0) S.1 S.2.1 dX12_projected_1 (by decide) ?_
  refine j_put (ci := 11) (C := RX12) (T := TX12) (N := 17) (ty := .int) S (fun w h => List.mem_cons_of_mem _ (inG12 w h)) tyX12 tyX12_ok nmX12 hK hW gO rfl 0 (by decide) (List.mem_cons_of_mem _ wfl_X12_1) (fun _ h9 => h9) rfl (by decide +kernel) (rfl) (rfl) (Nat.le_of_ble_eq_true rfl) dX12_projected_2 (fun H locs w_ hU1 hN1 hW => ?_)
  have hU : jU w w_ [55, 72] := jU.mono hU1 (by decide)
  have gR_ := hU1.get gR (by decide)
  have gO_ : w_[55]? = some (ad 55, .inr (11, [.int (nI 0), .ref (ad 56), .ref (ad 57), .ref (ad 58), .ref (ad 59), .ref (ad 60), .ref (ad 61), .ref (ad 62), .ref (ad 63), .ref (ad 64), .ref (ad 65), .int (nI n), .int (nI nc), .ref (ad 66), .ref (ad 71), .ref (ad 72), .ref (ad 73)])) := hN1
  clear hU1 hN1
  refine lv_aload_n S.1 S.2.1 dX12_projected_5 rfl (lv_at hl 0 rfl) ?_
  refine lv_iload_n S.1 S.2.1 dX12_projected_6 rfl (lv_at hl 1 rfl) ?_
  refine j_callV (k := 55) (ci := 11) (q := (RX12, TX12, 17)) (As := [.int (nI x)]) (rest := []) S hK hA hW (c_X12_isSet l D cy ad 0 n nc (nI x) gO_   (by omega)) (jgo wm_X12_82) yk_X12_isSet gO_ rfl rfl ⟨⟨rfl, rfl⟩, by decide, by decide⟩ rfl hl.1 rfl (Nat.le_of_ble_eq_true rfl) dX12_projected_7 ⟨Nat.le_of_ble_eq_true rfl, Nat.le_of_ble_eq_true rfl⟩ (fun v u H locs hp hW => ?_)
  obtain ⟨rfl, rfl⟩ := hp
  refine W.eq (g2 := F0 m 10 ls [.int (bI (vB (nI x) (2 ^ n)))]) rfl ?_
  refine jb_if_ne (tgt := 20) S dX12_projected_10 (by decide) (fun c_10 => ?_) (fun c_10 => ?_)
  · refine lv_iconst (v := nI 0) S.1 S.2.1 dX12_projected_20 (by decide) ?_
    refine lv_istore_n (lv' := [(2, .int (nI 0)), (0, .ref (ad 55)), (1, .int (nI x))]) S.1 S.2.1 dX12_projected_21 rfl hl (by decide) rfl (fun ls hl => ?_)
    have gR_ : w_[72]? = some (ad 72, .inl (cy 3, 1024, .inl (bf (clrB rb 0)))) := by
      rw [clr_0]; exact gR_
    have L22 : ∀ (k : Nat) (i : Nat), 1024 - i = k → (i ≤ 1024) → ∀ (w_ : va_W), jU w w_ [55, 72] → (w_[55]? = some (ad 55, .inr (11, [.int (nI 0), .ref (ad 56), .ref (ad 57), .ref (ad 58), .ref (ad 59), .ref (ad 60), .ref (ad 61), .ref (ad 62), .ref (ad 63), .ref (ad 64), .ref (ad 65), .int (nI n), .int (nI nc), .ref (ad 66), .ref (ad 71), .ref (ad 72), .ref (ad 73)]))) → (w_[72]? = some (ad 72, .inl (cy 3, 1024, .inl (bf (clrB rb i))))) → ∀ (H : Heap) (locs : List Loc) (ls : Array Slot), jW D A s.heap w_ H locs → lv_has ls 5 [(0, .ref (ad 55)), (1, .int (nI x)), (2, .int (nI i))] → W p l e (jR 4 0 0) s m args below meth c H locs 0 0 Q (F0 m 22 ls []) := by
      intro k
      induction k using Nat.strongRecOn with
      | ind k ih22 =>
      intro i hk hi w_ hU gO_ gR_ H locs ls hW hl
      subst hk
      refine lv_iload_n S.1 S.2.1 dX12_projected_22 rfl (lv_at hl 2 rfl) ?_
      refine lv_sipush (v := nI 1024) S.1 S.2.1 dX12_projected_23 (by decide) ?_
      refine jn_cmp_ge (tgt := 42) S (by omega) (by omega) dX12_projected_26 (by decide) (fun c_26 => ?_) (fun c_26 => ?_)
      · have ei : i = 1024 := by omega
        subst ei
        refine lv_iconst (v := nI 0) S.1 S.2.1 dX12_projected_42 (by decide) ?_
        refine lv_istore_n (lv' := [(2, .int (nI 0)), (0, .ref (ad 55)), (1, .int (nI x))]) S.1 S.2.1 dX12_projected_43 rfl hl (by decide) rfl (fun ls hl => ?_)
        have gR_ : w_[72]? = some (ad 72, .inl (cy 3, 1024, .inl (bf (rowM (prjS (mdc sd se nc cs lv) x 0) rb)))) := by
          rw [prjS_0, ← row_clr]; exact gR_
        have L44 : ∀ (k : Nat) (a : Nat), 2 ^ n - a = k → (a ≤ 2 ^ n) → ∀ (w_ : va_W), jU w w_ [55, 72] → (w_[55]? = some (ad 55, .inr (11, [.int (nI 0), .ref (ad 56), .ref (ad 57), .ref (ad 58), .ref (ad 59), .ref (ad 60), .ref (ad 61), .ref (ad 62), .ref (ad 63), .ref (ad 64), .ref (ad 65), .int (nI n), .int (nI nc), .ref (ad 66), .ref (ad 71), .ref (ad 72), .ref (ad 73)]))) → (w_[72]? = some (ad 72, .inl (cy 3, 1024, .inl (bf (rowM (prjS (mdc sd se nc cs lv) x a) rb))))) → ∀ (H : Heap) (locs : List Loc) (ls : Array Slot), jW D A s.heap w_ H locs → lv_has ls 5 [(0, .ref (ad 55)), (1, .int (nI x)), (2, .int (nI a))] → W p l e (jR 4 0 0) s m args below meth c H locs 0 0 Q (F0 m 44 ls []) := by
          intro k
          induction k using Nat.strongRecOn with
          | ind k ih44 =>
          intro a hk ha w_ hU gO_ gR_ H locs ls hW hl
          subst hk
          refine lv_iload_n S.1 S.2.1 dX12_projected_44 rfl (lv_at hl 2 rfl) ?_
          refine lv_aload_n S.1 S.2.1 dX12_projected_45 rfl (lv_at hl 0 rfl) ?_
          refine j_callV (k := 55) (ci := 11) (q := (RX12, TX12, 17)) (As := []) (rest := [.int (nI a)]) S hK hA hW (c_X12_all l D cy ad 0 n nc gO_   (by omega)) (jgo wm_X12_98) yk_X12_all gO_ rfl rfl ⟨⟨rfl, rfl⟩, by decide, by decide⟩ rfl hl.1 rfl (Nat.le_of_ble_eq_true rfl) dX12_projected_46 ⟨Nat.le_of_ble_eq_true rfl, Nat.le_of_ble_eq_true rfl⟩ (fun v u H locs hp hW => ?_)
          obtain ⟨rfl, rfl⟩ := hp
          refine W.eq (g2 := F0 m 49 ls [.int (nI (2 ^ n)), .int (nI a)]) rfl ?_
          refine jn_cmp_ge (tgt := 74) S (by omega) (by omega) dX12_projected_49 (by decide) (fun c_49 => ?_) (fun c_49 => ?_)
          · have ea : a = 2 ^ n := by omega
            subst ea
            refine lv_lconst (v := lN 0) S.1 S.2.1 dX12_projected_74 (by decide) ?_
            refine lv_lstore_n (lv' := [(2, .long (lN 0)), (0, .ref (ad 55)), (1, .int (nI x))]) S.1 S.2.1 dX12_projected_75 rfl hl (by decide) rfl (fun ls hl => ?_)
            refine lv_iconst (v := nI 0) S.1 S.2.1 dX12_projected_76 (by decide) ?_
            refine lv_istore (lv' := [(4, .int (nI 0)), (2, .long (lN 0)), (0, .ref (ad 55)), (1, .int (nI x))]) S.1 S.2.1 dX12_projected_77 hl (by decide) rfl (fun ls hl => ?_)
            have L79 : ∀ (k : Nat) (i : Nat), 1024 - i = k → (i ≤ 1024) → ∀ (w_ : va_W), jU w w_ [55, 72] → (w_[55]? = some (ad 55, .inr (11, [.int (nI 0), .ref (ad 56), .ref (ad 57), .ref (ad 58), .ref (ad 59), .ref (ad 60), .ref (ad 61), .ref (ad 62), .ref (ad 63), .ref (ad 64), .ref (ad 65), .int (nI n), .int (nI nc), .ref (ad 66), .ref (ad 71), .ref (ad 72), .ref (ad 73)]))) → (w_[72]? = some (ad 72, .inl (cy 3, 1024, .inl (bf (rowM (prjS (mdc sd se nc cs lv) x (2 ^ n)) rb))))) → ∀ (H : Heap) (locs : List Loc) (ls : Array Slot), jW D A s.heap w_ H locs → lv_has ls 5 [(0, .ref (ad 55)), (2, .long (lN (cnt (prjS (mdc sd se nc cs lv) x (2 ^ n)) i))), (4, .int (nI i))] → W p l e (jR 4 0 0) s m args below meth c H locs 0 0 Q (F0 m 79 ls []) := by
              intro k
              induction k using Nat.strongRecOn with
              | ind k ih79 =>
              intro i hk hi w_ hU gO_ gR_ H locs ls hW hl
              subst hk
              refine lv_iload S.1 S.2.1 dX12_projected_79 (lv_at hl 2 rfl) ?_
              refine lv_sipush (v := nI 1024) S.1 S.2.1 dX12_projected_81 (by decide) ?_
              refine jn_cmp_ge (tgt := 111) S (by omega) (by omega) dX12_projected_84 (by decide) (fun c_84 => ?_) (fun c_84 => ?_)
              · refine lv_lload_n S.1 S.2.1 dX12_projected_111 rfl (lv_at hl 1 rfl) ?_
                subst hQ
                refine j_lret (u := w_) S hr hK hW dX12_projected_112 ⟨by decide, by decide⟩ ?_
                have ei : i = 1024 := by omega
                subst ei
                exact ⟨_, rfl, hU, gO_, gR_⟩
              · refine lv_lload_n S.1 S.2.1 dX12_projected_87 rfl (lv_at hl 1 rfl) ?_
                refine lv_aload_n S.1 S.2.1 dX12_projected_88 rfl (lv_at hl 0 rfl) ?_
                refine j_get (ci := 11) (C := RX12) (T := TX12) (N := 17) (v := .ref (ad 72)) S (fun w h => List.mem_cons_of_mem _ (inG12 w h)) hK hW gO_ rfl 15 (by decide) (List.mem_cons_of_mem _ wfl_X12_58) (fun _ h9 => h9) rfl dX12_projected_89 ?_
                refine lv_iload S.1 S.2.1 dX12_projected_92 (lv_at hl 2 rfl) ?_
                refine j_zald (x := bI ((rowM (prjS (mdc sd se nc cs lv) x (2 ^ n)) rb) i)) S hK hW gR_ (vp_in_nI (by omega) (by omega)) (nI_clamp (by omega)) (rfl) dX12_projected_94 ?_
                refine jb_if_eq (tgt := 102) S dX12_projected_95 (by decide) (fun c_95 => ?_) (fun c_95 => ?_)
                · refine lv_lconst (v := lN 0) S.1 S.2.1 dX12_projected_102 (by decide) ?_
                  refine jnl_add S dX12_projected_103 ?_
                  refine lv_topl_to (y := lN (cnt (prjS (mdc sd se nc cs lv) x (2 ^ n)) (i + 1))) (congrArg lN (by first | exact (cnt_s1 (by rw [row_at (by omega)] at c_95; exact c_95)).symm | exact (cnt_s0 (by rw [row_at (by omega)] at c_95; exact c_95)).symm)) ?_
                  refine lv_lstore_n (lv' := [(2, .long (lN (cnt (prjS (mdc sd se nc cs lv) x (2 ^ n)) (i + 1)))), (0, .ref (ad 55)), (4, .int (nI i))]) S.1 S.2.1 dX12_projected_104 rfl hl (by decide) rfl (fun ls hl => ?_)
                  refine lv_iinc (v := nI (i + 1)) (lv' := [(4, .int (nI (i + 1))), (2, .long (lN (cnt (prjS (mdc sd se nc cs lv) x (2 ^ n)) (i + 1)))), (0, .ref (ad 55))]) S.1 S.2.1 dX12_projected_105 hl (k := 2) rfl (nI_add _ 1) (by decide) rfl (fun ls hl => ?_)
                  refine lv_goto (tgt := 79) S.1 S.2.1 dX12_projected_108 (by decide) ?_
                  exact ih79 _ (by omega) (i + 1) rfl (by omega) w_ hU gO_ gR_ H locs ls hW (lv_sub hl [2, 1, 0] rfl)
                · refine lv_lconst (v := lN 1) S.1 S.2.1 dX12_projected_98 (by decide) ?_
                  refine lv_goto (tgt := 103) S.1 S.2.1 dX12_projected_99 (by decide) ?_
                  refine jnl_add S dX12_projected_103 ?_
                  refine lv_topl_to (y := lN (cnt (prjS (mdc sd se nc cs lv) x (2 ^ n)) (i + 1))) (congrArg lN (by first | exact (cnt_s1 (by rw [row_at (by omega)] at c_95; exact c_95)).symm | exact (cnt_s0 (by rw [row_at (by omega)] at c_95; exact c_95)).symm)) ?_
                  refine lv_lstore_n (lv' := [(2, .long (lN (cnt (prjS (mdc sd se nc cs lv) x (2 ^ n)) (i + 1)))), (0, .ref (ad 55)), (4, .int (nI i))]) S.1 S.2.1 dX12_projected_104 rfl hl (by decide) rfl (fun ls hl => ?_)
                  refine lv_iinc (v := nI (i + 1)) (lv' := [(4, .int (nI (i + 1))), (2, .long (lN (cnt (prjS (mdc sd se nc cs lv) x (2 ^ n)) (i + 1)))), (0, .ref (ad 55))]) S.1 S.2.1 dX12_projected_105 hl (k := 2) rfl (nI_add _ 1) (by decide) rfl (fun ls hl => ?_)
                  refine lv_goto (tgt := 79) S.1 S.2.1 dX12_projected_108 (by decide) ?_
                  exact ih79 _ (by omega) (i + 1) rfl (by omega) w_ hU gO_ gR_ H locs ls hW (lv_sub hl [2, 1, 0] rfl)
            exact L79 _ 0 rfl (Nat.zero_le _) w_ hU gO_ gR_ H locs ls hW (lv_sub hl [2, 1, 0] rfl)
          · refine lv_aload_n S.1 S.2.1 dX12_projected_52 rfl (lv_at hl 0 rfl) ?_
            refine j_get (ci := 11) (C := RX12) (T := TX12) (N := 17) (v := .ref (ad 72)) S (fun w h => List.mem_cons_of_mem _ (inG12 w h)) hK hW gO_ rfl 15 (by decide) (List.mem_cons_of_mem _ wfl_X12_58) (fun _ h9 => h9) rfl dX12_projected_53 ?_
            refine lv_iload_n S.1 S.2.1 dX12_projected_56 rfl (lv_at hl 2 rfl) ?_
            refine lv_iload_n S.1 S.2.1 dX12_projected_57 rfl (lv_at hl 1 rfl) ?_
            refine jn_and S dX12_projected_58 ?_
            have hax : a &&& x < 1024 := Nat.lt_of_le_of_lt Nat.and_le_right (by omega)
            refine lv_dup2_11 S.1 S.2.1 dX12_projected_59 rfl rfl ?_
            refine j_zald (x := bI ((rowM (prjS (mdc sd se nc cs lv) x a) rb) (a &&& x))) S hK hW gR_ (vp_in_nI (by omega) (by omega)) (nI_clamp (by omega)) (rfl) dX12_projected_60 ?_
            refine lv_aload_n S.1 S.2.1 dX12_projected_61 rfl (lv_at hl 0 rfl) ?_
            refine lv_iload_n S.1 S.2.1 dX12_projected_62 rfl (lv_at hl 2 rfl) ?_
            refine j_callV (k := 55) (ci := 11) (q := (RX12, TX12, 17)) (As := [.int (nI a)]) (rest := [.int (bI ((rowM (prjS (mdc sd se nc cs lv) x a) rb) (a &&& x))), .int (nI (a &&& x)), .ref (ad 72)]) S hK hA hW (c_X12_isModel l D cy ad 0 n nc sd se lv cs a gO_ (hU.get gE (by decide)) (hU.get gP (by decide)) (hU.get gC0 (by decide)) (hU.get gC1 (by decide)) (hU.get gC2 (by decide)) (hU.get gC3 (by decide)) (hU.get gC4 (by decide))   (by omega) (hsd) (hse) (by omega) (hcs) (by omega)) (jgo wm_X12_102) yk_X12_isModel gO_ rfl rfl ⟨⟨rfl, rfl⟩, by decide, by decide⟩ rfl hl.1 rfl (Nat.le_of_ble_eq_true rfl) dX12_projected_63 ⟨Nat.le_of_ble_eq_true rfl, Nat.le_of_ble_eq_true rfl⟩ (fun v u H locs hp hW => ?_)
            obtain ⟨rfl, rfl⟩ := hp
            refine W.eq (g2 := F0 m 66 ls [.int (bI (mdc sd se nc cs lv a)), .int (bI ((rowM (prjS (mdc sd se nc cs lv) x a) rb) (a &&& x))), .int (nI (a &&& x)), .ref (ad 72)]) rfl ?_
            refine jb_or S dX12_projected_66 ?_
            refine j_zast S hK hW gR_ (vp_in_nI (by omega) (by omega)) (nI_clamp (by omega)) (bI_vnar _) dX12_projected_67 (fun H locs w_ hU1 hN1 hW => ?_)
            have hU := hU.then hU1 (by decide)
            have gO_ := hU1.get gO_ (by decide)
            have gR_ : w_[72]? = some (ad 72, .inl (cy 3, 1024, .inl (upd (bf (rowM (prjS (mdc sd se nc cs lv) x a) rb)) (a &&& x) (bI (((rowM (prjS (mdc sd se nc cs lv) x a) rb) (a &&& x)) || (mdc sd se nc cs lv a)))))) := hN1
            clear hU1 hN1
            have gR_ : w_[72]? = some (ad 72, .inl (cy 3, 1024, .inl (bf (rowM (prjS (mdc sd se nc cs lv) x (a + 1)) rb)))) := by
              rw [← row_prj2 hax]; exact gR_
            refine lv_iinc (v := nI (a + 1)) (lv' := [(2, .int (nI (a + 1))), (0, .ref (ad 55)), (1, .int (nI x))]) S.1 S.2.1 dX12_projected_68 hl (k := 2) rfl (nI_add _ 1) (by decide) rfl (fun ls hl => ?_)
            refine lv_goto (tgt := 44) S.1 S.2.1 dX12_projected_71 (by decide) ?_
            exact ih44 _ (by omega) (a + 1) rfl (by omega) w_ hU gO_ gR_ H locs ls hW (lv_sub hl [1, 2, 0] rfl)
        exact L44 _ 0 rfl (Nat.zero_le _) w_ hU gO_ gR_ H locs ls hW (lv_sub hl [1, 2, 0] rfl)
      · refine lv_aload_n S.1 S.2.1 dX12_projected_29 rfl (lv_at hl 0 rfl) ?_
        refine j_get (ci := 11) (C := RX12) (T := TX12) (N := 17) (v := .ref (ad 72)) S (fun w h => List.mem_cons_of_mem _ (inG12 w h)) hK hW gO_ rfl 15 (by decide) (List.mem_cons_of_mem _ wfl_X12_58) (fun _ h9 => h9) rfl dX12_projected_30 ?_
        refine lv_iload_n S.1 S.2.1 dX12_projected_33 rfl (lv_at hl 2 rfl) ?_
        refine lv_iconst (v := nI 0) S.1 S.2.1 dX12_projected_34 (by decide) ?_
        refine j_zast S hK hW gR_ (vp_in_nI (by omega) (by omega)) (nI_clamp (by omega)) (rfl) dX12_projected_35 (fun H locs w_ hU1 hN1 hW => ?_)
        have hU := hU.then hU1 (by decide)
        have gO_ := hU1.get gO_ (by decide)
        have gR_ : w_[72]? = some (ad 72, .inl (cy 3, 1024, .inl (upd (bf (clrB rb i)) i (nI 0)))) := hN1
        clear hU1 hN1
        have gR_ : w_[72]? = some (ad 72, .inl (cy 3, 1024, .inl (bf (clrB rb (i + 1))))) := by
          rw [← clr_upd]; exact gR_
        refine lv_iinc (v := nI (i + 1)) (lv' := [(2, .int (nI (i + 1))), (0, .ref (ad 55)), (1, .int (nI x))]) S.1 S.2.1 dX12_projected_36 hl (k := 2) rfl (nI_add _ 1) (by decide) rfl (fun ls hl => ?_)
        refine lv_goto (tgt := 22) S.1 S.2.1 dX12_projected_39 (by decide) ?_
        exact ih22 _ (by omega) (i + 1) rfl (by omega) w_ hU gO_ gR_ H locs ls hW (lv_sub hl [1, 2, 0] rfl)
    exact L22 _ 0 rfl (Nat.zero_le _) w_ hU gO_ gR_ H locs ls hW (lv_sub hl [1, 2, 0] rfl)
  · exact absurd (vB_nI hx (by omega)) (by rw [c_10]; decide)
/-- projected, wrong set -/
theorem c_X12_projected_b (l : Launch) (D : va_G) (cy : Nat → ClassId) {w : va_W} (ad : Nat → Nat) (th n nc : Nat) (v : Int32) (gO : w[55]? = some (ad 55, .inr (11, [.int (nI th), .ref (ad 56), .ref (ad 57), .ref (ad 58), .ref (ad 59), .ref (ad 60), .ref (ad 61), .ref (ad 62), .ref (ad 63), .ref (ad 64), .ref (ad 65), .int (nI n), .int (nI nc), .ref (ad 66), .ref (ad 71), .ref (ad 72), .ref (ad 73)]))) (hn : n ≤ 10) (hv : vB v (2 ^ n) = false) : jM l yX12_projected (jws yX12_projected cX12_projected 5 (some .long)) (jR 4 0 0) D cy w [.ref (ad 55), .int v] 0 0 (fun vv uu => vv = some (.long (lN 0)) ∧ jU w uu [55] ∧ uu[55]? = some (ad 55, .inr (11, [.int (nI 1), .ref (ad 56), .ref (ad 57), .ref (ad 58), .ref (ad 59), .ref (ad 60), .ref (ad 61), .ref (ad 62), .ref (ad 63), .ref (ad 64), .ref (ad 65), .int (nI n), .int (nI nc), .ref (ad 66), .ref (ad 71), .ref (ad 72), .ref (ad 73)]))) := by
  refine j_of (by decide) rfl (Nat.le_of_ble_eq_true rfl) ?_
  intro p e s m args below meth c A ls Q hQ S hr hK hA H locs hW hl
  have hl : lv_has ls 5 [(0, .ref (ad 55)), (1, .int v)] := hl
  refine lv_aload_n S.1 S.2.1 dX12_projected_0 rfl (lv_at hl 0 rfl) ?_
  refine lv_iconst (v := nI 0) S.1 S.2.1 dX12_projected_1 (by decide) ?_
  refine j_put (ci := 11) (C := RX12) (T := TX12) (N := 17) (ty := .int) S (fun w h => List.mem_cons_of_mem _ (inG12 w h)) tyX12 tyX12_ok nmX12 hK hW gO rfl 0 (by decide) (List.mem_cons_of_mem _ wfl_X12_1) (fun _ h9 => h9) rfl (by decide +kernel) (rfl) (rfl) (Nat.le_of_ble_eq_true rfl) dX12_projected_2 (fun H locs w_ hU1 hN1 hW => ?_)
  have hU : jU w w_ [55] := jU.mono hU1 (by decide)
  have gO_ : w_[55]? = some (ad 55, .inr (11, [.int (nI 0), .ref (ad 56), .ref (ad 57), .ref (ad 58), .ref (ad 59), .ref (ad 60), .ref (ad 61), .ref (ad 62), .ref (ad 63), .ref (ad 64), .ref (ad 65), .int (nI n), .int (nI nc), .ref (ad 66), .ref (ad 71), .ref (ad 72), .ref (ad 73)])) := hN1
  clear hU1 hN1
  refine lv_aload_n S.1 S.2.1 dX12_projected_5 rfl (lv_at hl 0 rfl) ?_
  refine lv_iload_n S.1 S.2.1 dX12_projected_6 rfl (lv_at hl 1 rfl) ?_
  refine j_callV (k := 55) (ci := 11) (q := (RX12, TX12, 17)) (As := [.int v]) (rest := []) S hK hA hW (c_X12_isSet l D cy ad 0 n nc v gO_   (by omega)) (jgo wm_X12_82) yk_X12_isSet gO_ rfl rfl ⟨⟨rfl, rfl⟩, by decide, by decide⟩ rfl hl.1 rfl (Nat.le_of_ble_eq_true rfl) dX12_projected_7 ⟨Nat.le_of_ble_eq_true rfl, Nat.le_of_ble_eq_true rfl⟩ (fun v u H locs hp hW => ?_)
  obtain ⟨rfl, rfl⟩ := hp
  refine W.eq (g2 := F0 m 10 ls [.int (bI (vB v (2 ^ n)))]) rfl ?_
  refine jb_if_ne (tgt := 20) S dX12_projected_10 (by decide) (fun c_10 => ?_) (fun c_10 => ?_)
  · exact absurd c_10 (by rw [hv]; decide)
  · refine lv_aload_n S.1 S.2.1 dX12_projected_13 rfl (lv_at hl 0 rfl) ?_
    refine lv_iconst (v := nI 1) S.1 S.2.1 dX12_projected_14 (by decide) ?_
    refine j_callV (k := 55) (ci := 11) (q := (RX12, TX12, 17)) (As := [.int (nI 1)]) (rest := []) S hK hA hW (c_X12_fails l D cy ad 0 n nc 1 gO_   ) (jgo wm_X12_71) yk_X12_fails gO_ rfl rfl ⟨⟨rfl, rfl⟩, by decide, by decide⟩ rfl hl.1 rfl (Nat.le_of_ble_eq_true rfl) dX12_projected_15 ⟨Nat.le_of_ble_eq_true rfl, Nat.le_of_ble_eq_true rfl⟩ (fun v w_ H locs hp hW => ?_)
    obtain ⟨rfl, hU1, hN1⟩ := hp
    have hU := hU.then hU1 (by decide)
    have gO_ : w_[55]? = some (ad 55, .inr (11, [.int (nI 1), .ref (ad 56), .ref (ad 57), .ref (ad 58), .ref (ad 59), .ref (ad 60), .ref (ad 61), .ref (ad 62), .ref (ad 63), .ref (ad 64), .ref (ad 65), .int (nI n), .int (nI nc), .ref (ad 66), .ref (ad 71), .ref (ad 72), .ref (ad 73)])) := hN1
    clear hU1 hN1
    refine W.eq (g2 := F0 m 18 ls [.int (nI 0)]) rfl ?_
    refine lv_i2l (v := lN 0) S.1 S.2.1 dX12_projected_18 (nI_l (by omega)) ?_
    subst hQ
    exact j_lret (u := w_) S hr hK hW dX12_projected_19 ⟨by decide, by decide⟩ (⟨rfl, hU, gO_⟩)
/-- implied -/
theorem c_X12_implied_ok (l : Launch) (D : va_G) (cy : Nat → ClassId) {w : va_W} (ad : Nat → Nat) (th n nc : Nat) (sd se lv : Nat) (cs : Nat → CN) (x : Nat) (gO : w[55]? = some (ad 55, .inr (11, [.int (nI th), .ref (ad 56), .ref (ad 57), .ref (ad 58), .ref (ad 59), .ref (ad 60), .ref (ad 61), .ref (ad 62), .ref (ad 63), .ref (ad 64), .ref (ad 65), .int (nI n), .int (nI nc), .ref (ad 66), .ref (ad 71), .ref (ad 72), .ref (ad 73)]))) (gE : w[58]? = some (ad 58, .inl (cy 0, 10, .inl (evA n sd se)))) (gP : w[65]? = some (ad 65, .inl (cy 3, 20, .inl (bf (dpB nc lv))))) (gC0 : w[60]? = some (ad 60, .inl (cy 2, 20, .inl (nf (ckd cs))))) (gC1 : w[61]? = some (ad 61, .inl (cy 0, 20, .inl (nf (cst cs))))) (gC2 : w[62]? = some (ad 62, .inl (cy 0, 20, .inl (nf (cot cs))))) (gC3 : w[63]? = some (ad 63, .inl (cy 0, 20, .inl (nf (cle cs))))) (gC4 : w[64]? = some (ad 64, .inl (cy 0, 20, .inl (nf (cgr cs))))) (hn : n ≤ 10) (hsd : sd < 2 ^ n) (hse : se &&& sd = se) (hnc : nc ≤ 20) (hcs : csI nc cs) (hx : x < n) : jM l yX12_implied (jws yX12_implied cX12_implied 5 (some .char)) (jR 4 0 0) D cy w [.ref (ad 55), .int (nI x)] 0 0 (fun vv uu => vv = some (.int (nI (impC (anyB (fun d => mdc sd se nc cs lv d && !d.testBit x) (2 ^ n)) (anyB (fun d => mdc sd se nc cs lv d && d.testBit x) (2 ^ n))))) ∧ jU w uu [55] ∧ uu[55]? = some (ad 55, .inr (11, [.int (nI 0), .ref (ad 56), .ref (ad 57), .ref (ad 58), .ref (ad 59), .ref (ad 60), .ref (ad 61), .ref (ad 62), .ref (ad 63), .ref (ad 64), .ref (ad 65), .int (nI n), .int (nI nc), .ref (ad 66), .ref (ad 71), .ref (ad 72), .ref (ad 73)]))) := by
  have hp2 := two_pow10 hn
  refine j_of (by decide) rfl (Nat.le_of_ble_eq_true rfl) ?_
  intro p e s m args below meth c A ls Q hQ S hr hK hA H locs hW hl
  have hl : lv_has ls 5 [(0, .ref (ad 55)), (1, .int (nI x))] := hl
  refine lv_aload_n S.1 S.2.1 dX12_implied_0 rfl (lv_at hl 0 rfl) ?_
  refine lv_iconst (v := nI 0) S.1 S.2.1 dX12_implied_1 (by decide) ?_
  refine j_put (ci := 11) (C := RX12) (T := TX12) (N := 17) (ty := .int) S (fun w h => List.mem_cons_of_mem _ (inG12 w h)) tyX12 tyX12_ok nmX12 hK hW gO rfl 0 (by decide) (List.mem_cons_of_mem _ wfl_X12_1) (fun _ h9 => h9) rfl (by decide +kernel) (rfl) (rfl) (Nat.le_of_ble_eq_true rfl) dX12_implied_2 (fun H locs w_ hU1 hN1 hW => ?_)
  have hU : jU w w_ [55] := jU.mono hU1 (by decide)
  have gO_ : w_[55]? = some (ad 55, .inr (11, [.int (nI 0), .ref (ad 56), .ref (ad 57), .ref (ad 58), .ref (ad 59), .ref (ad 60), .ref (ad 61), .ref (ad 62), .ref (ad 63), .ref (ad 64), .ref (ad 65), .int (nI n), .int (nI nc), .ref (ad 66), .ref (ad 71), .ref (ad 72), .ref (ad 73)])) := hN1
  clear hU1 hN1
  refine lv_aload_n S.1 S.2.1 dX12_implied_5 rfl (lv_at hl 0 rfl) ?_
  refine lv_iload_n S.1 S.2.1 dX12_implied_6 rfl (lv_at hl 1 rfl) ?_
  refine j_callV (k := 55) (ci := 11) (q := (RX12, TX12, 17)) (As := [.int (nI x)]) (rest := []) S hK hA hW (c_X12_isVariable l D cy ad 0 n nc (nI x) gO_   (by omega)) (jgo wm_X12_75) yk_X12_isVariable gO_ rfl rfl ⟨⟨rfl, rfl⟩, by decide, by decide⟩ rfl hl.1 rfl (Nat.le_of_ble_eq_true rfl) dX12_implied_7 ⟨Nat.le_of_ble_eq_true rfl, Nat.le_of_ble_eq_true rfl⟩ (fun v u H locs hp hW => ?_)
  obtain ⟨rfl, rfl⟩ := hp
  refine W.eq (g2 := F0 m 10 ls [.int (bI (vB (nI x) n))]) rfl ?_
  refine jb_if_ne (tgt := 20) S dX12_implied_10 (by decide) (fun c_10 => ?_) (fun c_10 => ?_)
  · refine lv_iconst (v := nI 0) S.1 S.2.1 dX12_implied_20 (by decide) ?_
    refine lv_istore_n (lv' := [(2, .int (nI 0)), (0, .ref (ad 55)), (1, .int (nI x))]) S.1 S.2.1 dX12_implied_21 rfl hl (by decide) rfl (fun ls hl => ?_)
    refine lv_iconst (v := nI 0) S.1 S.2.1 dX12_implied_22 (by decide) ?_
    refine lv_istore_n (lv' := [(3, .int (nI 0)), (2, .int (nI 0)), (0, .ref (ad 55)), (1, .int (nI x))]) S.1 S.2.1 dX12_implied_23 rfl hl (by decide) rfl (fun ls hl => ?_)
    refine lv_iconst (v := nI 0) S.1 S.2.1 dX12_implied_24 (by decide) ?_
    refine lv_istore (lv' := [(4, .int (nI 0)), (3, .int (nI 0)), (2, .int (nI 0)), (0, .ref (ad 55)), (1, .int (nI x))]) S.1 S.2.1 dX12_implied_25 hl (by decide) rfl (fun ls hl => ?_)
    have L27 : ∀ (k : Nat) (i : Nat), 2 ^ n - i = k → (i ≤ 2 ^ n) → ∀ (w_ : va_W), jU w w_ [55] → (w_[55]? = some (ad 55, .inr (11, [.int (nI 0), .ref (ad 56), .ref (ad 57), .ref (ad 58), .ref (ad 59), .ref (ad 60), .ref (ad 61), .ref (ad 62), .ref (ad 63), .ref (ad 64), .ref (ad 65), .int (nI n), .int (nI nc), .ref (ad 66), .ref (ad 71), .ref (ad 72), .ref (ad 73)]))) → ∀ (H : Heap) (locs : List Loc) (ls : Array Slot), jW D A s.heap w_ H locs → lv_has ls 5 [(0, .ref (ad 55)), (1, .int (nI x)), (2, .int (bI (anyB (fun d => mdc sd se nc cs lv d && d.testBit x) i))), (3, .int (bI (anyB (fun d => mdc sd se nc cs lv d && !d.testBit x) i))), (4, .int (nI i))] → W p l e (jR 4 0 0) s m args below meth c H locs 0 0 Q (F0 m 27 ls []) := by
      intro k
      induction k using Nat.strongRecOn with
      | ind k ih27 =>
      intro i hk hi w_ hU gO_ H locs ls hW hl
      subst hk
      refine lv_iload S.1 S.2.1 dX12_implied_27 (lv_at hl 4 rfl) ?_
      refine lv_aload_n S.1 S.2.1 dX12_implied_29 rfl (lv_at hl 0 rfl) ?_
      refine j_callV (k := 55) (ci := 11) (q := (RX12, TX12, 17)) (As := []) (rest := [.int (nI i)]) S hK hA hW (c_X12_all l D cy ad 0 n nc gO_   (by omega)) (jgo wm_X12_98) yk_X12_all gO_ rfl rfl ⟨⟨rfl, rfl⟩, by decide, by decide⟩ rfl hl.1 rfl (Nat.le_of_ble_eq_true rfl) dX12_implied_30 ⟨Nat.le_of_ble_eq_true rfl, Nat.le_of_ble_eq_true rfl⟩ (fun v u H locs hp hW => ?_)
      obtain ⟨rfl, rfl⟩ := hp
      refine W.eq (g2 := F0 m 33 ls [.int (nI (2 ^ n)), .int (nI i)]) rfl ?_
      refine jn_cmp_ge (tgt := 80) S (by omega) (by omega) dX12_implied_33 (by decide) (fun c_33 => ?_) (fun c_33 => ?_)
      · have ei : i = 2 ^ n := by omega
        subst ei
        refine lv_iload_n S.1 S.2.1 dX12_implied_80 rfl (lv_at hl 2 rfl) ?_
        refine jb_if_ne (tgt := 91) S dX12_implied_81 (by decide) (fun c_81 => ?_) (fun c_81 => ?_)
        · refine lv_iload_n S.1 S.2.1 dX12_implied_91 rfl (lv_at hl 2 rfl) ?_
          refine jb_if_eq (tgt := 104) S dX12_implied_92 (by decide) (fun c_92 => ?_) (fun c_92 => ?_)
          · refine lv_iload_n S.1 S.2.1 dX12_implied_104 rfl (lv_at hl 2 rfl) ?_
            refine jb_if_eq (tgt := 113) S dX12_implied_105 (by decide) (fun c_105 => ?_) (fun c_105 => ?_)
            · refine lv_bipush (v := nI 102) S.1 S.2.1 dX12_implied_113 (by decide) ?_
              subst hQ
              exact j_iret (u := w_) S hr ((pk_charN (by decide)).1) hK hW dX12_implied_115 ⟨by decide, by decide⟩ (⟨by first | exact absurd (c_81.symm.trans c_92) (by decide) | exact absurd (c_81.symm.trans c_105) (by decide) | (rw [c_81, c_85]; rfl) | (rw [c_81, c_96]; rfl), hU, gO_⟩)
            · refine lv_bipush (v := nI 116) S.1 S.2.1 dX12_implied_108 (by decide) ?_
              refine lv_goto (tgt := 115) S.1 S.2.1 dX12_implied_110 (by decide) ?_
              subst hQ
              exact j_iret (u := w_) S hr ((pk_charN (by decide)).1) hK hW dX12_implied_115 ⟨by decide, by decide⟩ (⟨by first | exact absurd (c_81.symm.trans c_92) (by decide) | exact absurd (c_81.symm.trans c_105) (by decide) | (rw [c_81, c_85]; rfl) | (rw [c_81, c_96]; rfl), hU, gO_⟩)
          · refine lv_iload_n S.1 S.2.1 dX12_implied_95 rfl (lv_at hl 3 rfl) ?_
            refine jb_if_eq (tgt := 104) S dX12_implied_96 (by decide) (fun c_96 => ?_) (fun c_96 => ?_)
            · refine lv_iload_n S.1 S.2.1 dX12_implied_104 rfl (lv_at hl 2 rfl) ?_
              refine jb_if_eq (tgt := 113) S dX12_implied_105 (by decide) (fun c_105 => ?_) (fun c_105 => ?_)
              · refine lv_bipush (v := nI 102) S.1 S.2.1 dX12_implied_113 (by decide) ?_
                subst hQ
                exact j_iret (u := w_) S hr ((pk_charN (by decide)).1) hK hW dX12_implied_115 ⟨by decide, by decide⟩ (⟨by first | exact absurd (c_81.symm.trans c_92) (by decide) | exact absurd (c_81.symm.trans c_105) (by decide) | (rw [c_81, c_85]; rfl) | (rw [c_81, c_96]; rfl), hU, gO_⟩)
              · refine lv_bipush (v := nI 116) S.1 S.2.1 dX12_implied_108 (by decide) ?_
                refine lv_goto (tgt := 115) S.1 S.2.1 dX12_implied_110 (by decide) ?_
                subst hQ
                exact j_iret (u := w_) S hr ((pk_charN (by decide)).1) hK hW dX12_implied_115 ⟨by decide, by decide⟩ (⟨by first | exact absurd (c_81.symm.trans c_92) (by decide) | exact absurd (c_81.symm.trans c_105) (by decide) | (rw [c_81, c_85]; rfl) | (rw [c_81, c_96]; rfl), hU, gO_⟩)
            · refine lv_bipush (v := nI 45) S.1 S.2.1 dX12_implied_99 (by decide) ?_
              refine lv_goto (tgt := 115) S.1 S.2.1 dX12_implied_101 (by decide) ?_
              subst hQ
              exact j_iret (u := w_) S hr ((pk_charN (by decide)).1) hK hW dX12_implied_115 ⟨by decide, by decide⟩ (⟨by first | exact absurd (c_81.symm.trans c_92) (by decide) | exact absurd (c_81.symm.trans c_105) (by decide) | (rw [c_81, c_85]; rfl) | (rw [c_81, c_96]; rfl), hU, gO_⟩)
        · refine lv_iload_n S.1 S.2.1 dX12_implied_84 rfl (lv_at hl 3 rfl) ?_
          refine jb_if_ne (tgt := 91) S dX12_implied_85 (by decide) (fun c_85 => ?_) (fun c_85 => ?_)
          · refine lv_iload_n S.1 S.2.1 dX12_implied_91 rfl (lv_at hl 2 rfl) ?_
            refine jb_if_eq (tgt := 104) S dX12_implied_92 (by decide) (fun c_92 => ?_) (fun c_92 => ?_)
            · refine lv_iload_n S.1 S.2.1 dX12_implied_104 rfl (lv_at hl 2 rfl) ?_
              refine jb_if_eq (tgt := 113) S dX12_implied_105 (by decide) (fun c_105 => ?_) (fun c_105 => ?_)
              · refine lv_bipush (v := nI 102) S.1 S.2.1 dX12_implied_113 (by decide) ?_
                subst hQ
                exact j_iret (u := w_) S hr ((pk_charN (by decide)).1) hK hW dX12_implied_115 ⟨by decide, by decide⟩ (⟨by first | exact absurd (c_81.symm.trans c_92) (by decide) | exact absurd (c_81.symm.trans c_105) (by decide) | (rw [c_81, c_85]; rfl) | (rw [c_81, c_96]; rfl), hU, gO_⟩)
              · refine lv_bipush (v := nI 116) S.1 S.2.1 dX12_implied_108 (by decide) ?_
                refine lv_goto (tgt := 115) S.1 S.2.1 dX12_implied_110 (by decide) ?_
                subst hQ
                exact j_iret (u := w_) S hr ((pk_charN (by decide)).1) hK hW dX12_implied_115 ⟨by decide, by decide⟩ (⟨by first | exact absurd (c_81.symm.trans c_92) (by decide) | exact absurd (c_81.symm.trans c_105) (by decide) | (rw [c_81, c_85]; rfl) | (rw [c_81, c_96]; rfl), hU, gO_⟩)
            · refine lv_iload_n S.1 S.2.1 dX12_implied_95 rfl (lv_at hl 3 rfl) ?_
              refine jb_if_eq (tgt := 104) S dX12_implied_96 (by decide) (fun c_96 => ?_) (fun c_96 => ?_)
              · refine lv_iload_n S.1 S.2.1 dX12_implied_104 rfl (lv_at hl 2 rfl) ?_
                refine jb_if_eq (tgt := 113) S dX12_implied_105 (by decide) (fun c_105 => ?_) (fun c_105 => ?_)
                · refine lv_bipush (v := nI 102) S.1 S.2.1 dX12_implied_113 (by decide) ?_
                  subst hQ
                  exact j_iret (u := w_) S hr ((pk_charN (by decide)).1) hK hW dX12_implied_115 ⟨by decide, by decide⟩ (⟨by first | exact absurd (c_81.symm.trans c_92) (by decide) | exact absurd (c_81.symm.trans c_105) (by decide) | (rw [c_81, c_85]; rfl) | (rw [c_81, c_96]; rfl), hU, gO_⟩)
                · refine lv_bipush (v := nI 116) S.1 S.2.1 dX12_implied_108 (by decide) ?_
                  refine lv_goto (tgt := 115) S.1 S.2.1 dX12_implied_110 (by decide) ?_
                  subst hQ
                  exact j_iret (u := w_) S hr ((pk_charN (by decide)).1) hK hW dX12_implied_115 ⟨by decide, by decide⟩ (⟨by first | exact absurd (c_81.symm.trans c_92) (by decide) | exact absurd (c_81.symm.trans c_105) (by decide) | (rw [c_81, c_85]; rfl) | (rw [c_81, c_96]; rfl), hU, gO_⟩)
              · refine lv_bipush (v := nI 45) S.1 S.2.1 dX12_implied_99 (by decide) ?_
                refine lv_goto (tgt := 115) S.1 S.2.1 dX12_implied_101 (by decide) ?_
                subst hQ
                exact j_iret (u := w_) S hr ((pk_charN (by decide)).1) hK hW dX12_implied_115 ⟨by decide, by decide⟩ (⟨by first | exact absurd (c_81.symm.trans c_92) (by decide) | exact absurd (c_81.symm.trans c_105) (by decide) | (rw [c_81, c_85]; rfl) | (rw [c_81, c_96]; rfl), hU, gO_⟩)
          · refine lv_bipush (v := nI 110) S.1 S.2.1 dX12_implied_88 (by decide) ?_
            subst hQ
            exact j_iret (u := w_) S hr ((pk_charN (by decide)).1) hK hW dX12_implied_90 ⟨by decide, by decide⟩ (⟨by first | exact absurd (c_81.symm.trans c_92) (by decide) | exact absurd (c_81.symm.trans c_105) (by decide) | (rw [c_81, c_85]; rfl) | (rw [c_81, c_96]; rfl), hU, gO_⟩)
      · refine lv_aload_n S.1 S.2.1 dX12_implied_36 rfl (lv_at hl 0 rfl) ?_
        refine lv_iload S.1 S.2.1 dX12_implied_37 (lv_at hl 4 rfl) ?_
        refine j_callV (k := 55) (ci := 11) (q := (RX12, TX12, 17)) (As := [.int (nI i)]) (rest := []) S hK hA hW (c_X12_isModel l D cy ad 0 n nc sd se lv cs i gO_ (hU.get gE (by decide)) (hU.get gP (by decide)) (hU.get gC0 (by decide)) (hU.get gC1 (by decide)) (hU.get gC2 (by decide)) (hU.get gC3 (by decide)) (hU.get gC4 (by decide))   (by omega) (hsd) (hse) (by omega) (hcs) (by omega)) (jgo wm_X12_102) yk_X12_isModel gO_ rfl rfl ⟨⟨rfl, rfl⟩, by decide, by decide⟩ rfl hl.1 rfl (Nat.le_of_ble_eq_true rfl) dX12_implied_39 ⟨Nat.le_of_ble_eq_true rfl, Nat.le_of_ble_eq_true rfl⟩ (fun v u H locs hp hW => ?_)
        obtain ⟨rfl, rfl⟩ := hp
        refine W.eq (g2 := F0 m 42 ls [.int (bI (mdc sd se nc cs lv i))]) rfl ?_
        refine jb_if_ne (tgt := 48) S dX12_implied_42 (by decide) (fun c_42 => ?_) (fun c_42 => ?_)
        · refine lv_iload_n S.1 S.2.1 dX12_implied_48 rfl (lv_at hl 2 rfl) ?_
          refine lv_iload S.1 S.2.1 dX12_implied_49 (lv_at hl 4 rfl) ?_
          refine lv_iload_n S.1 S.2.1 dX12_implied_51 rfl (lv_at hl 1 rfl) ?_
          refine j_callS (As := [.int (nI i), .int (nI x)]) (rest := [.int (bI (anyB (fun d => mdc sd se nc cs lv d && d.testBit x) i))]) S hK hA hW (c_X12_has l D cy i x    (by omega) (by omega)) (jgo wm_X12_7) yk_X12_has ⟨⟨rfl, rfl⟩, by decide, by decide⟩ rfl hl.1 rfl (Nat.le_of_ble_eq_true rfl) dX12_implied_52 ⟨Nat.le_of_ble_eq_true rfl, Nat.le_of_ble_eq_true rfl⟩ (fun v u H locs hp hW => ?_)
          obtain ⟨rfl, rfl⟩ := hp
          refine W.eq (g2 := F0 m 55 ls [.int (bI (i.testBit x)), .int (bI (anyB (fun d => mdc sd se nc cs lv d && d.testBit x) i))]) rfl ?_
          refine jb_or S dX12_implied_55 ?_
          refine lv_topi_to (y := bI (anyB (fun d => mdc sd se nc cs lv d && d.testBit x) (i + 1))) (congrArg bI (by show _ = (anyB _ i || (mdc sd se nc cs lv i && i.testBit x)); rw [show mdc sd se nc cs lv i = true from c_42]; rfl)) ?_
          refine lv_istore_n (lv' := [(2, .int (bI (anyB (fun d => mdc sd se nc cs lv d && d.testBit x) (i + 1)))), (0, .ref (ad 55)), (1, .int (nI x)), (3, .int (bI (anyB (fun d => mdc sd se nc cs lv d && !d.testBit x) i))), (4, .int (nI i))]) S.1 S.2.1 dX12_implied_56 rfl hl (by decide) rfl (fun ls hl => ?_)
          refine lv_iload_n S.1 S.2.1 dX12_implied_57 rfl (lv_at hl 3 rfl) ?_
          refine lv_iload S.1 S.2.1 dX12_implied_58 (lv_at hl 4 rfl) ?_
          refine lv_iload_n S.1 S.2.1 dX12_implied_60 rfl (lv_at hl 2 rfl) ?_
          refine j_callS (As := [.int (nI i), .int (nI x)]) (rest := [.int (bI (anyB (fun d => mdc sd se nc cs lv d && !d.testBit x) i))]) S hK hA hW (c_X12_has l D cy i x    (by omega) (by omega)) (jgo wm_X12_7) yk_X12_has ⟨⟨rfl, rfl⟩, by decide, by decide⟩ rfl hl.1 rfl (Nat.le_of_ble_eq_true rfl) dX12_implied_61 ⟨Nat.le_of_ble_eq_true rfl, Nat.le_of_ble_eq_true rfl⟩ (fun v u H locs hp hW => ?_)
          obtain ⟨rfl, rfl⟩ := hp
          refine W.eq (g2 := F0 m 64 ls [.int (bI (i.testBit x)), .int (bI (anyB (fun d => mdc sd se nc cs lv d && !d.testBit x) i))]) rfl ?_
          refine jb_if_ne (tgt := 71) S dX12_implied_64 (by decide) (fun c_64 => ?_) (fun c_64 => ?_)
          · refine lv_iconst (v := nI 0) S.1 S.2.1 dX12_implied_71 (by decide) ?_
            refine lv_ior S.1 S.2.1 dX12_implied_72 ?_
            refine lv_topi_to (y := bI (anyB (fun d => mdc sd se nc cs lv d && !d.testBit x) (i + 1))) (by first | exact any_o1 (by rw [c_42, c_64]; rfl) | exact any_o0 (by rw [c_42, c_64]; rfl)) ?_
            refine lv_istore_n (lv' := [(3, .int (bI (anyB (fun d => mdc sd se nc cs lv d && !d.testBit x) (i + 1)))), (2, .int (bI (anyB (fun d => mdc sd se nc cs lv d && d.testBit x) (i + 1)))), (0, .ref (ad 55)), (1, .int (nI x)), (4, .int (nI i))]) S.1 S.2.1 dX12_implied_73 rfl hl (by decide) rfl (fun ls hl => ?_)
            refine lv_iinc (v := nI (i + 1)) (lv' := [(4, .int (nI (i + 1))), (3, .int (bI (anyB (fun d => mdc sd se nc cs lv d && !d.testBit x) (i + 1)))), (2, .int (bI (anyB (fun d => mdc sd se nc cs lv d && d.testBit x) (i + 1)))), (0, .ref (ad 55)), (1, .int (nI x))]) S.1 S.2.1 dX12_implied_74 hl (k := 4) rfl (nI_add _ 1) (by decide) rfl (fun ls hl => ?_)
            refine lv_goto (tgt := 27) S.1 S.2.1 dX12_implied_77 (by decide) ?_
            exact ih27 _ (by omega) (i + 1) rfl (by omega) w_ hU gO_ H locs ls hW (lv_sub hl [3, 4, 2, 1, 0] rfl)
          · refine lv_iconst (v := nI 1) S.1 S.2.1 dX12_implied_67 (by decide) ?_
            refine lv_goto (tgt := 72) S.1 S.2.1 dX12_implied_68 (by decide) ?_
            refine lv_ior S.1 S.2.1 dX12_implied_72 ?_
            refine lv_topi_to (y := bI (anyB (fun d => mdc sd se nc cs lv d && !d.testBit x) (i + 1))) (by first | exact any_o1 (by rw [c_42, c_64]; rfl) | exact any_o0 (by rw [c_42, c_64]; rfl)) ?_
            refine lv_istore_n (lv' := [(3, .int (bI (anyB (fun d => mdc sd se nc cs lv d && !d.testBit x) (i + 1)))), (2, .int (bI (anyB (fun d => mdc sd se nc cs lv d && d.testBit x) (i + 1)))), (0, .ref (ad 55)), (1, .int (nI x)), (4, .int (nI i))]) S.1 S.2.1 dX12_implied_73 rfl hl (by decide) rfl (fun ls hl => ?_)
            refine lv_iinc (v := nI (i + 1)) (lv' := [(4, .int (nI (i + 1))), (3, .int (bI (anyB (fun d => mdc sd se nc cs lv d && !d.testBit x) (i + 1)))), (2, .int (bI (anyB (fun d => mdc sd se nc cs lv d && d.testBit x) (i + 1)))), (0, .ref (ad 55)), (1, .int (nI x))]) S.1 S.2.1 dX12_implied_74 hl (k := 4) rfl (nI_add _ 1) (by decide) rfl (fun ls hl => ?_)
            refine lv_goto (tgt := 27) S.1 S.2.1 dX12_implied_77 (by decide) ?_
            exact ih27 _ (by omega) (i + 1) rfl (by omega) w_ hU gO_ H locs ls hW (lv_sub hl [3, 4, 2, 1, 0] rfl)
        · refine lv_goto (tgt := 74) S.1 S.2.1 dX12_implied_45 (by decide) ?_
          have ef : anyB (fun d => mdc sd se nc cs lv d && !d.testBit x) (i + 1) = anyB (fun d => mdc sd se nc cs lv d && !d.testBit x) i := anyB_s (by rw [c_42]; rfl)
          have et : anyB (fun d => mdc sd se nc cs lv d && d.testBit x) (i + 1) = anyB (fun d => mdc sd se nc cs lv d && d.testBit x) i := anyB_s (by rw [c_42]; rfl)
          have hl : lv_has ls 5 [(0, .ref (ad 55)), (1, .int (nI x)), (2, .int (bI (anyB (fun d => mdc sd se nc cs lv d && d.testBit x) (i + 1)))), (3, .int (bI (anyB (fun d => mdc sd se nc cs lv d && !d.testBit x) (i + 1)))), (4, .int (nI i))] := by rw [ef, et]; exact lv_sub hl [0, 1, 2, 3, 4] rfl
          refine lv_iinc (v := nI (i + 1)) (lv' := [(4, .int (nI (i + 1))), (0, .ref (ad 55)), (1, .int (nI x)), (2, .int (bI (anyB (fun d => mdc sd se nc cs lv d && d.testBit x) (i + 1)))), (3, .int (bI (anyB (fun d => mdc sd se nc cs lv d && !d.testBit x) (i + 1))))]) S.1 S.2.1 dX12_implied_74 hl (k := 4) rfl (nI_add _ 1) (by decide) rfl (fun ls hl => ?_)
          refine lv_goto (tgt := 27) S.1 S.2.1 dX12_implied_77 (by decide) ?_
          exact ih27 _ (by omega) (i + 1) rfl (by omega) w_ hU gO_ H locs ls hW (lv_sub hl [1, 2, 3, 4, 0] rfl)
    exact L27 _ 0 rfl (Nat.zero_le _) w_ hU gO_ H locs ls hW (lv_sub hl [3, 4, 2, 1, 0] rfl)
  · exact absurd (vB_nI hx (by omega)) (by rw [c_10]; decide)
/-- implied, no such variable -/
theorem c_X12_implied_b (l : Launch) (D : va_G) (cy : Nat → ClassId) {w : va_W} (ad : Nat → Nat) (th n nc : Nat) (v : Int32) (gO : w[55]? = some (ad 55, .inr (11, [.int (nI th), .ref (ad 56), .ref (ad 57), .ref (ad 58), .ref (ad 59), .ref (ad 60), .ref (ad 61), .ref (ad 62), .ref (ad 63), .ref (ad 64), .ref (ad 65), .int (nI n), .int (nI nc), .ref (ad 66), .ref (ad 71), .ref (ad 72), .ref (ad 73)]))) (hn : n ≤ 10) (hv : vB v n = false) : jM l yX12_implied (jws yX12_implied cX12_implied 5 (some .char)) (jR 4 0 0) D cy w [.ref (ad 55), .int v] 0 0 (fun vv uu => vv = some (.int (nI 0)) ∧ jU w uu [55] ∧ uu[55]? = some (ad 55, .inr (11, [.int (nI 1), .ref (ad 56), .ref (ad 57), .ref (ad 58), .ref (ad 59), .ref (ad 60), .ref (ad 61), .ref (ad 62), .ref (ad 63), .ref (ad 64), .ref (ad 65), .int (nI n), .int (nI nc), .ref (ad 66), .ref (ad 71), .ref (ad 72), .ref (ad 73)]))) := by
  refine j_of (by decide) rfl (Nat.le_of_ble_eq_true rfl) ?_
  intro p e s m args below meth c A ls Q hQ S hr hK hA H locs hW hl
  have hl : lv_has ls 5 [(0, .ref (ad 55)), (1, .int v)] := hl
  refine lv_aload_n S.1 S.2.1 dX12_implied_0 rfl (lv_at hl 0 rfl) ?_
  refine lv_iconst (v := nI 0) S.1 S.2.1 dX12_implied_1 (by decide) ?_
  refine j_put (ci := 11) (C := RX12) (T := TX12) (N := 17) (ty := .int) S (fun w h => List.mem_cons_of_mem _ (inG12 w h)) tyX12 tyX12_ok nmX12 hK hW gO rfl 0 (by decide) (List.mem_cons_of_mem _ wfl_X12_1) (fun _ h9 => h9) rfl (by decide +kernel) (rfl) (rfl) (Nat.le_of_ble_eq_true rfl) dX12_implied_2 (fun H locs w_ hU1 hN1 hW => ?_)
  have hU : jU w w_ [55] := jU.mono hU1 (by decide)
  have gO_ : w_[55]? = some (ad 55, .inr (11, [.int (nI 0), .ref (ad 56), .ref (ad 57), .ref (ad 58), .ref (ad 59), .ref (ad 60), .ref (ad 61), .ref (ad 62), .ref (ad 63), .ref (ad 64), .ref (ad 65), .int (nI n), .int (nI nc), .ref (ad 66), .ref (ad 71), .ref (ad 72), .ref (ad 73)])) := hN1
  clear hU1 hN1
  refine lv_aload_n S.1 S.2.1 dX12_implied_5 rfl (lv_at hl 0 rfl) ?_
  refine lv_iload_n S.1 S.2.1 dX12_implied_6 rfl (lv_at hl 1 rfl) ?_
  refine j_callV (k := 55) (ci := 11) (q := (RX12, TX12, 17)) (As := [.int v]) (rest := []) S hK hA hW (c_X12_isVariable l D cy ad 0 n nc v gO_   (by omega)) (jgo wm_X12_75) yk_X12_isVariable gO_ rfl rfl ⟨⟨rfl, rfl⟩, by decide, by decide⟩ rfl hl.1 rfl (Nat.le_of_ble_eq_true rfl) dX12_implied_7 ⟨Nat.le_of_ble_eq_true rfl, Nat.le_of_ble_eq_true rfl⟩ (fun v u H locs hp hW => ?_)
  obtain ⟨rfl, rfl⟩ := hp
  refine W.eq (g2 := F0 m 10 ls [.int (bI (vB v n))]) rfl ?_
  refine jb_if_ne (tgt := 20) S dX12_implied_10 (by decide) (fun c_10 => ?_) (fun c_10 => ?_)
  · exact absurd c_10 (by rw [hv]; decide)
  · refine lv_aload_n S.1 S.2.1 dX12_implied_13 rfl (lv_at hl 0 rfl) ?_
    refine lv_iconst (v := nI 1) S.1 S.2.1 dX12_implied_14 (by decide) ?_
    refine j_callV (k := 55) (ci := 11) (q := (RX12, TX12, 17)) (As := [.int (nI 1)]) (rest := []) S hK hA hW (c_X12_fails l D cy ad 0 n nc 1 gO_   ) (jgo wm_X12_71) yk_X12_fails gO_ rfl rfl ⟨⟨rfl, rfl⟩, by decide, by decide⟩ rfl hl.1 rfl (Nat.le_of_ble_eq_true rfl) dX12_implied_15 ⟨Nat.le_of_ble_eq_true rfl, Nat.le_of_ble_eq_true rfl⟩ (fun v w_ H locs hp hW => ?_)
    obtain ⟨rfl, hU1, hN1⟩ := hp
    have hU := hU.then hU1 (by decide)
    have gO_ : w_[55]? = some (ad 55, .inr (11, [.int (nI 1), .ref (ad 56), .ref (ad 57), .ref (ad 58), .ref (ad 59), .ref (ad 60), .ref (ad 61), .ref (ad 62), .ref (ad 63), .ref (ad 64), .ref (ad 65), .int (nI n), .int (nI nc), .ref (ad 66), .ref (ad 71), .ref (ad 72), .ref (ad 73)])) := hN1
    clear hU1 hN1
    refine W.eq (g2 := F0 m 18 ls [.int (nI 0)]) rfl ?_
    refine lv_i2c (v := nI 0) S.1 S.2.1 dX12_implied_18 (by decide) ?_
    subst hQ
    exact j_iret (u := w_) S hr ((pk_charN (by decide)).1) hK hW dX12_implied_19 ⟨by decide, by decide⟩ (⟨rfl, hU, gO_⟩)
