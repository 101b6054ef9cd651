/-! THE REFERENCE: rows joined (laid by wip/whole/tools, from the specs there) -/
/-! THE REFERENCE: rows joined, fixed, freed -/
theorem cmb_a {h : Nat} {x y : Bool} (e : h = 97) : cmb h x y = (x && y) := if_pos e
theorem cmb_o {h : Nat} {x y : Bool} (e1 : ¬ h = 97) (e : h = 111) : cmb h x y = (x || y) := by unfold cmb; rw [if_neg e1, if_pos e]
theorem cmb_x {h : Nat} {x y : Bool} (e1 : ¬ h = 97) (e : ¬ h = 111) : cmb h x y = (x ^^ y) := by unfold cmb; rw [if_neg e1, if_neg e]
theorem xor_ne {x y : Bool} (h : ¬ bI x = bI y) : (x ^^ y) = true := by revert h; cases x <;> cases y <;> decide
theorem fix_lt {n x y i : Nat} (hn : n ≤ 10) (hx : x < n) (hy : y < 2) (hi : i < 1024) : (nAnd i (2 ^ x)) ||| (y <<< x) < 1024 := Nat.or_lt_two_pow (n := 10) (nAnd_lt (n := 10) hi) (by
  rw [Nat.shiftLeft_eq]
  have h1 : 2 ^ x ≤ 2 ^ 9 := Nat.pow_le_pow_right (by decide) (by omega)
  rcases (show y = 0 ∨ y = 1 by omega) with rfl | rfl
  · omega
  · omega)
/-- join -/
theorem c_X12_join_ok (l : Launch) (D : va_G) (cy : Nat → ClassId) {w : va_W} (ad : Nat → Nat) (th n nc : Nat) (od : Nat → Nat) (rb tu : Nat → Bool) (kv : Nat → Int32) (gx : Nat → Nat → Bool) (j y hw o : Nat) (gO : w[55]? = some (ad 55, .inr (11, [.int (nI th), .ref (ad 56), .ref (ad 57), .ref (ad 58), .ref (ad 59), .ref (ad 60), .ref (ad 61), .ref (ad 62), .ref (ad 63), .ref (ad 64), .ref (ad 65), .int (nI n), .int (nI nc), .ref (ad 66), .ref (ad 71), .ref (ad 72), .ref (ad 73)]))) (gD : w[59]? = some (ad 59, .inl (cy 0, 10, .inl (nf od)))) (gR : w[72]? = some (ad 72, .inl (cy 3, 1024, .inl (bf rb)))) (gU : w[73]? = some (ad 73, .inl (cy 3, 1024, .inl (bf tu)))) (gK : w[66]? = some (ad 66, .inl (cy 6, 4, .inr (.inr (.inr (.inr (kpF ad))))))) (gV : w[71]? = some (ad 71, .inl (cy 0, 4, .inl kv))) (gX : w[67 + j]? = some (ad (67 + j), .inl (cy 3, 1024, .inl (bf (gx j))))) (gY_ : w[67 + y]? = some (ad (67 + y), .inl (cy 3, 1024, .inl (bf (gx y))))) (gZ_ : w[67 + o]? = some (ad (67 + o), .inl (cy 3, 1024, .inl (bf (gx o))))) (hn : n ≤ 10) (hod : ∀ j, od j < 10) (hj : j < 4) (hy : y < 4) (ho : o < 4) (hhw : hw < 65536) (hh : howB hw) (hkv : kv j = nI n) (hkw : kv y = nI n) : jM l yX12_join (jws yX12_join cX12_join 8 (some .int)) (jR 5 0 0) D cy w [.ref (ad 55), .int (nI j), .int (nI y), .int (nI hw), .int (nI o)] 0 0 (fun vv uu => ∃ (rb1 : Nat → Bool), ∃ (tu1 : Nat → Bool), vv = some (.int (nI (sumN (nodesB (fun d => (fun a => cmb hw (gx j a) (gx y a)) (layP n od d n)) n) n))) ∧ jU w uu [55, 67 + o, 71, 72, 73] ∧ uu[55]? = some (ad 55, .inr (11, [.int (nI 0), .ref (ad 56), .ref (ad 57), .ref (ad 58), .ref (ad 59), .ref (ad 60), .ref (ad 61), .ref (ad 62), .ref (ad 63), .ref (ad 64), .ref (ad 65), .int (nI n), .int (nI nc), .ref (ad 66), .ref (ad 71), .ref (ad 72), .ref (ad 73)])) ∧ uu[67 + o]? = some (ad (67 + o), .inl (cy 3, 1024, .inl (bf (rowM (rowM (fun a => cmb hw (gx j a) (gx y a)) rb) (gx o))))) ∧ uu[71]? = some (ad 71, .inl (cy 0, 4, .inl (upd kv o (nI n)))) ∧ uu[72]? = some (ad 72, .inl (cy 3, 1024, .inl (bf rb1))) ∧ uu[73]? = some (ad 73, .inl (cy 3, 1024, .inl (bf tu1)))) := by
  refine j_of (by decide) rfl (Nat.le_of_ble_eq_true rfl) ?_
  intro p e s m args below meth c A ls Q hQ S hr hK hA H locs hW hl
  have hl : lv_has ls 8 [(0, .ref (ad 55)), (1, .int (nI j)), (2, .int (nI y)), (3, .int (nI hw)), (4, .int (nI o))] := hl
  refine lv_aload_n S.1 S.2.1 dX12_join_0 rfl (lv_at hl 0 rfl) ?_
  refine lv_iconst (v := nI 0) S.1 S.2.1 dX12_join_1 (by decide) ?_
  refine j_put (ci := 11) (C := RX12) (T := TX12) (N := 17) (ty := .int) S (fun w h => List.mem_cons_of_mem _ (inG12 w h)) tyX12 tyX12_ok nmX12 hK hW gO rfl 0 (by decide) (List.mem_cons_of_mem _ wfl_X12_1) (fun _ h9 => h9) rfl (by decide +kernel) (rfl) (rfl) (Nat.le_of_ble_eq_true rfl) dX12_join_2 (fun H locs w_ hU1 hN1 hW => ?_)
  have hU : jU w w_ [55, 67 + o, 71, 72, 73] := jU.mono hU1 (by first | decide | (simp; done) | (simp; omega))
  have gR_ := hU1.get gR (by first | decide | (simp; done) | (simp; omega))
  have gU_ := hU1.get gU (by first | decide | (simp; done) | (simp; omega))
  have gV_ := hU1.get gV (by first | decide | (simp; done) | (simp; omega))
  have gX_ := hU1.get gX (by first | decide | (simp; done) | (simp; omega))
  have gY_ := hU1.get gY_ (by first | decide | (simp; done) | (simp; omega))
  have gZ_ := hU1.get gZ_ (by first | decide | (simp; done) | (simp; omega))
  have gO_ : w_[55]? = some (ad 55, .inr (11, [.int (nI 0), .ref (ad 56), .ref (ad 57), .ref (ad 58), .ref (ad 59), .ref (ad 60), .ref (ad 61), .ref (ad 62), .ref (ad 63), .ref (ad 64), .ref (ad 65), .int (nI n), .int (nI nc), .ref (ad 66), .ref (ad 71), .ref (ad 72), .ref (ad 73)])) := hN1
  clear hU1 hN1
  refine lv_iload_n S.1 S.2.1 dX12_join_5 rfl (lv_at hl 1 rfl) ?_
  refine j_callS (As := [.int (nI j)]) (rest := []) S hK hA hW (c_X12_isSlot l D cy (nI j)    ) (jgo wm_X12_162) yk_X12_isSlot ⟨⟨rfl, rfl⟩, by decide, by decide⟩ rfl hl.1 rfl (Nat.le_of_ble_eq_true rfl) dX12_join_6 ⟨Nat.le_of_ble_eq_true rfl, Nat.le_of_ble_eq_true rfl⟩ (fun v u H locs hp hW => ?_)
  obtain ⟨rfl, rfl⟩ := hp
  refine W.eq (g2 := F0 m 9 ls [.int (bI (vB (nI j) 4))]) rfl ?_
  refine jb_if_eq (tgt := 45) S dX12_join_9 (by decide) (fun c_9 => ?_) (fun c_9 => ?_)
  · exact absurd (vB_nI hj (by decide)) (by rw [c_9]; decide)
  · refine lv_iload_n S.1 S.2.1 dX12_join_12 rfl (lv_at hl 2 rfl) ?_
    refine j_callS (As := [.int (nI y)]) (rest := []) S hK hA hW (c_X12_isSlot l D cy (nI y)    ) (jgo wm_X12_162) yk_X12_isSlot ⟨⟨rfl, rfl⟩, by decide, by decide⟩ rfl hl.1 rfl (Nat.le_of_ble_eq_true rfl) dX12_join_13 ⟨Nat.le_of_ble_eq_true rfl, Nat.le_of_ble_eq_true rfl⟩ (fun v u H locs hp hW => ?_)
    obtain ⟨rfl, rfl⟩ := hp
    refine W.eq (g2 := F0 m 16 ls [.int (bI (vB (nI y) 4))]) rfl ?_
    refine jb_if_eq (tgt := 45) S dX12_join_16 (by decide) (fun c_16 => ?_) (fun c_16 => ?_)
    · exact absurd (vB_nI hy (by decide)) (by rw [c_16]; decide)
    · refine lv_iload S.1 S.2.1 dX12_join_19 (lv_at hl 4 rfl) ?_
      refine j_callS (As := [.int (nI o)]) (rest := []) S hK hA hW (c_X12_isSlot l D cy (nI o)    ) (jgo wm_X12_162) yk_X12_isSlot ⟨⟨rfl, rfl⟩, by decide, by decide⟩ rfl hl.1 rfl (Nat.le_of_ble_eq_true rfl) dX12_join_21 ⟨Nat.le_of_ble_eq_true rfl, Nat.le_of_ble_eq_true rfl⟩ (fun v u H locs hp hW => ?_)
      obtain ⟨rfl, rfl⟩ := hp
      refine W.eq (g2 := F0 m 24 ls [.int (bI (vB (nI o) 4))]) rfl ?_
      refine jb_if_eq (tgt := 45) S dX12_join_24 (by decide) (fun c_24 => ?_) (fun c_24 => ?_)
      · exact absurd (vB_nI ho (by decide)) (by rw [c_24]; decide)
      · refine lv_iload_n S.1 S.2.1 dX12_join_27 rfl (lv_at hl 3 rfl) ?_
        refine lv_bipush (v := nI 97) S.1 S.2.1 dX12_join_28 (by decide) ?_
        refine jn_cmp_eq (tgt := 51) S (by omega) (by omega) dX12_join_30 (by decide) (fun c_30 => ?_) (fun c_30 => ?_)
        · refine lv_aload_n S.1 S.2.1 dX12_join_51 rfl (lv_at hl 0 rfl) ?_
          refine j_get (ci := 11) (C := RX12) (T := TX12) (N := 17) (v := .ref (ad 71)) S (fun w h => List.mem_cons_of_mem _ (inG12 w h)) hK hW gO_ rfl 14 (by decide) (List.mem_cons_of_mem _ wfl_X12_55) (fun _ h9 => h9) rfl dX12_join_52 ?_
          refine lv_iload_n S.1 S.2.1 dX12_join_55 rfl (lv_at hl 1 rfl) ?_
          refine j_iald (x := nI n) S hK hW gV_ (vp_in_nI (by omega) (by omega)) (nI_clamp (by omega)) (hkv) dX12_join_56 ?_
          refine jn_if_lt (tgt := 69) S (by omega) dX12_join_57 (by decide) ?_
          refine lv_aload_n S.1 S.2.1 dX12_join_60 rfl (lv_at hl 0 rfl) ?_
          refine j_get (ci := 11) (C := RX12) (T := TX12) (N := 17) (v := .ref (ad 71)) S (fun w h => List.mem_cons_of_mem _ (inG12 w h)) hK hW gO_ rfl 14 (by decide) (List.mem_cons_of_mem _ wfl_X12_55) (fun _ h9 => h9) rfl dX12_join_61 ?_
          refine lv_iload_n S.1 S.2.1 dX12_join_64 rfl (lv_at hl 2 rfl) ?_
          refine j_iald (x := nI n) S hK hW gV_ (vp_in_nI (by omega) (by omega)) (nI_clamp (by omega)) (hkw) dX12_join_65 ?_
          refine jn_if_ge (tgt := 75) S (by omega) dX12_join_66 (by decide) ?_
          refine lv_aload_n S.1 S.2.1 dX12_join_75 rfl (lv_at hl 0 rfl) ?_
          refine j_get (ci := 11) (C := RX12) (T := TX12) (N := 17) (v := .ref (ad 71)) S (fun w h => List.mem_cons_of_mem _ (inG12 w h)) hK hW gO_ rfl 14 (by decide) (List.mem_cons_of_mem _ wfl_X12_55) (fun _ h9 => h9) rfl dX12_join_76 ?_
          refine lv_iload_n S.1 S.2.1 dX12_join_79 rfl (lv_at hl 1 rfl) ?_
          refine j_iald (x := nI n) S hK hW gV_ (vp_in_nI (by omega) (by omega)) (nI_clamp (by omega)) (hkv) dX12_join_80 ?_
          refine lv_aload_n S.1 S.2.1 dX12_join_81 rfl (lv_at hl 0 rfl) ?_
          refine j_get (ci := 11) (C := RX12) (T := TX12) (N := 17) (v := .int (nI n)) S (fun w h => List.mem_cons_of_mem _ (inG12 w h)) hK hW gO_ rfl 11 (by decide) (List.mem_cons_of_mem _ wfl_X12_64) (fun _ h9 => h9) rfl dX12_join_82 ?_
          refine jn_cmp_ne (tgt := 101) S (by omega) (by omega) dX12_join_85 (by decide) (fun c_85 => ?_) (fun c_85 => ?_)
          · exact absurd rfl c_85
          · refine lv_aload_n S.1 S.2.1 dX12_join_88 rfl (lv_at hl 0 rfl) ?_
            refine j_get (ci := 11) (C := RX12) (T := TX12) (N := 17) (v := .ref (ad 71)) S (fun w h => List.mem_cons_of_mem _ (inG12 w h)) hK hW gO_ rfl 14 (by decide) (List.mem_cons_of_mem _ wfl_X12_55) (fun _ h9 => h9) rfl dX12_join_89 ?_
            refine lv_iload_n S.1 S.2.1 dX12_join_92 rfl (lv_at hl 2 rfl) ?_
            refine j_iald (x := nI n) S hK hW gV_ (vp_in_nI (by omega) (by omega)) (nI_clamp (by omega)) (hkw) dX12_join_93 ?_
            refine lv_aload_n S.1 S.2.1 dX12_join_94 rfl (lv_at hl 0 rfl) ?_
            refine j_get (ci := 11) (C := RX12) (T := TX12) (N := 17) (v := .int (nI n)) S (fun w h => List.mem_cons_of_mem _ (inG12 w h)) hK hW gO_ rfl 11 (by decide) (List.mem_cons_of_mem _ wfl_X12_64) (fun _ h9 => h9) rfl dX12_join_95 ?_
            refine jn_cmp_eq (tgt := 107) S (by omega) (by omega) dX12_join_98 (by decide) (fun c_98 => ?_) (fun c_98 => ?_)
            · refine lv_iconst (v := nI 0) S.1 S.2.1 dX12_join_107 (by decide) ?_
              refine lv_istore (lv' := [(5, .int (nI 0)), (0, .ref (ad 55)), (1, .int (nI j)), (2, .int (nI y)), (3, .int (nI hw)), (4, .int (nI o))]) S.1 S.2.1 dX12_join_108 hl (by decide) rfl (fun ls hl => ?_)
              have gR_ : w_[72]? = some (ad 72, .inl (cy 3, 1024, .inl (bf (mixF (fun a => cmb hw (gx j a) (gx y a)) rb 0)))) := by
                rw [mixF_0]; exact gR_
              have L110 : ∀ (k : Nat) (a1 : Nat), 1024 - a1 = k → (a1 ≤ 1024) → ∀ (w_ : va_W), jU w w_ [55, 67 + o, 71, 72, 73] → (w_[55]? = some (ad 55, .inr (11, [.int (nI 0), .ref (ad 56), .ref (ad 57), .ref (ad 58), .ref (ad 59), .ref (ad 60), .ref (ad 61), .ref (ad 62), .ref (ad 63), .ref (ad 64), .ref (ad 65), .int (nI n), .int (nI nc), .ref (ad 66), .ref (ad 71), .ref (ad 72), .ref (ad 73)]))) → (w_[72]? = some (ad 72, .inl (cy 3, 1024, .inl (bf (mixF (fun a => cmb hw (gx j a) (gx y a)) rb a1))))) → (w_[67 + o]? = some (ad (67 + o), .inl (cy 3, 1024, .inl (bf (gx o))))) → (w_[71]? = some (ad 71, .inl (cy 0, 4, .inl kv))) → (w_[73]? = some (ad 73, .inl (cy 3, 1024, .inl (bf tu)))) → (w_[67 + j]? = some (ad (67 + j), .inl (cy 3, 1024, .inl (bf (gx j))))) → (w_[67 + y]? = some (ad (67 + y), .inl (cy 3, 1024, .inl (bf (gx y))))) → ∀ (H : Heap) (locs : List Loc) (ls : Array Slot), jW D A s.heap w_ H locs → lv_has ls 8 [(0, .ref (ad 55)), (1, .int (nI j)), (2, .int (nI y)), (3, .int (nI hw)), (4, .int (nI o)), (5, .int (nI a1))] → W p l e (jR 5 0 0) s m args below meth c H locs 0 0 Q (F0 m 110 ls []) := by
                intro k
                induction k using Nat.strongRecOn with
                | ind k ih110 =>
                intro a1 hk ha1 w_ hU gO_ gR_ gZ_ gV_ gU_ gX_ gY_ H locs ls hW hl
                subst hk
                refine lv_iload S.1 S.2.1 dX12_join_110 (lv_at hl 5 rfl) ?_
                refine lv_sipush (v := nI 1024) S.1 S.2.1 dX12_join_112 (by decide) ?_
                refine jn_cmp_ge (tgt := 213) S (by omega) (by omega) dX12_join_115 (by decide) (fun c_115 => ?_) (fun c_115 => ?_)
                · have ea : a1 = 1024 := by omega
                  subst ea
                  refine lv_iconst (v := nI 0) S.1 S.2.1 dX12_join_213 (by decide) ?_
                  refine lv_istore (lv' := [(5, .int (nI 0)), (0, .ref (ad 55)), (1, .int (nI j)), (2, .int (nI y)), (3, .int (nI hw)), (4, .int (nI o))]) S.1 S.2.1 dX12_join_214 hl (by decide) rfl (fun ls hl => ?_)
                  have gR_ : w_[72]? = some (ad 72, .inl (cy 3, 1024, .inl (bf (rowM (fun a => cmb hw (gx j a) (gx y a)) rb)))) := by
                    exact gR_
                  have gZ_ : w_[67 + o]? = some (ad (67 + o), .inl (cy 3, 1024, .inl (bf (mixF (rowM (fun a => cmb hw (gx j a) (gx y a)) rb) (gx o) 0)))) := by
                    rw [mixF_0]; exact gZ_
                  have L216 : ∀ (k : Nat) (a2 : Nat), 1024 - a2 = k → (a2 ≤ 1024) → ∀ (w_ : va_W), jU w w_ [55, 67 + o, 71, 72, 73] → (w_[55]? = some (ad 55, .inr (11, [.int (nI 0), .ref (ad 56), .ref (ad 57), .ref (ad 58), .ref (ad 59), .ref (ad 60), .ref (ad 61), .ref (ad 62), .ref (ad 63), .ref (ad 64), .ref (ad 65), .int (nI n), .int (nI nc), .ref (ad 66), .ref (ad 71), .ref (ad 72), .ref (ad 73)]))) → (w_[72]? = some (ad 72, .inl (cy 3, 1024, .inl (bf (rowM (fun a => cmb hw (gx j a) (gx y a)) rb))))) → (w_[67 + o]? = some (ad (67 + o), .inl (cy 3, 1024, .inl (bf (mixF (rowM (fun a => cmb hw (gx j a) (gx y a)) rb) (gx o) a2))))) → (w_[71]? = some (ad 71, .inl (cy 0, 4, .inl kv))) → (w_[73]? = some (ad 73, .inl (cy 3, 1024, .inl (bf tu)))) → ∀ (H : Heap) (locs : List Loc) (ls : Array Slot), jW D A s.heap w_ H locs → lv_has ls 8 [(0, .ref (ad 55)), (4, .int (nI o)), (5, .int (nI a2))] → W p l e (jR 5 0 0) s m args below meth c H locs 0 0 Q (F0 m 216 ls []) := by
                    intro k
                    induction k using Nat.strongRecOn with
                    | ind k ih216 =>
                    intro a2 hk ha2 w_ hU gO_ gR_ gZ_ gV_ gU_ H locs ls hW hl
                    subst hk
                    refine lv_iload S.1 S.2.1 dX12_join_216 (lv_at hl 2 rfl) ?_
                    refine lv_sipush (v := nI 1024) S.1 S.2.1 dX12_join_218 (by decide) ?_
                    refine jn_cmp_ge (tgt := 247) S (by omega) (by omega) dX12_join_221 (by decide) (fun c_221 => ?_) (fun c_221 => ?_)
                    · have eb : a2 = 1024 := by omega
                      subst eb
                      refine lv_aload_n S.1 S.2.1 dX12_join_247 rfl (lv_at hl 0 rfl) ?_
                      refine j_get (ci := 11) (C := RX12) (T := TX12) (N := 17) (v := .ref (ad 71)) S (fun w h => List.mem_cons_of_mem _ (inG12 w h)) hK hW gO_ rfl 14 (by decide) (List.mem_cons_of_mem _ wfl_X12_55) (fun _ h9 => h9) rfl dX12_join_248 ?_
                      refine lv_iload S.1 S.2.1 dX12_join_251 (lv_at hl 1 rfl) ?_
                      refine lv_aload_n S.1 S.2.1 dX12_join_253 rfl (lv_at hl 0 rfl) ?_
                      refine j_get (ci := 11) (C := RX12) (T := TX12) (N := 17) (v := .int (nI n)) S (fun w h => List.mem_cons_of_mem _ (inG12 w h)) hK hW gO_ rfl 11 (by decide) (List.mem_cons_of_mem _ wfl_X12_64) (fun _ h9 => h9) rfl dX12_join_254 ?_
                      refine j_iast S hK hW gV_ (vp_in_nI (by omega) (by omega)) (nI_clamp (by omega)) dX12_join_257 (fun H locs w_ hU1 hN1 hW => ?_)
                      have hU := hU.then hU1 (by first | decide | (simp; done) | (simp; omega))
                      have gO_ := hU1.get gO_ (by first | decide | (simp; done) | (simp; omega))
                      have gR_ := hU1.get gR_ (by first | decide | (simp; done) | (simp; omega))
                      have gZ_ := hU1.get gZ_ (by first | decide | (simp; done) | (simp; omega))
                      have gU_ := hU1.get gU_ (by first | decide | (simp; done) | (simp; omega))
                      have gV_ : w_[71]? = some (ad 71, .inl (cy 0, 4, .inl (upd kv o (nI n)))) := hN1
                      clear hU1 hN1
                      refine lv_aload_n S.1 S.2.1 dX12_join_258 rfl (lv_at hl 0 rfl) ?_
                      refine j_callV (k := 55) (ci := 11) (q := (RX12, TX12, 17)) (As := []) (rest := []) S hK hA hW (c_X12_nodesOfRow l D cy ad 0 n nc od (rowM (fun a => cmb hw (gx j a) (gx y a)) rb) tu gO_ (hU.get gD (by first | decide | (simp; done) | (simp; omega))) gR_ gU_   (by omega) (hod)) (jgo wm_X12_153) yk_X12_nodesOfRow gO_ rfl rfl ⟨⟨rfl, rfl⟩, by decide, by decide⟩ rfl hl.1 rfl (Nat.le_of_ble_eq_true rfl) dX12_join_259 ⟨Nat.le_of_ble_eq_true rfl, Nat.le_of_ble_eq_true rfl⟩ (fun v w_ H locs hp hW => ?_)
                      obtain ⟨rfl, hU1, hN1⟩ := hp
                      have hU := hU.then hU1 (by first | decide | (simp; done) | (simp; omega))
                      have gO_ := hU1.get gO_ (by first | decide | (simp; done) | (simp; omega))
                      have gR_ := hU1.get gR_ (by first | decide | (simp; done) | (simp; omega))
                      have gZ_ := hU1.get gZ_ (by first | decide | (simp; done) | (simp; omega))
                      have gV_ := hU1.get gV_ (by first | decide | (simp; done) | (simp; omega))
                      have gU_ : w_[73]? = some (ad 73, .inl (cy 3, 1024, .inl (bf (mixF (fun d => (rowM (fun a => cmb hw (gx j a) (gx y a)) rb) (layP n od d n)) tu (2 ^ n))))) := hN1
                      clear hU1 hN1
                      refine W.eq (g2 := F0 m 262 ls [.int (nI (sumN (nodesB (fun d => (rowM (fun a => cmb hw (gx j a) (gx y a)) rb) (layP n od d n)) n) n))]) rfl ?_
                      refine lv_topi_to (y := nI (sumN (nodesB (fun d => (fun a => cmb hw (gx j a) (gx y a)) (layP n od d n)) n) n)) (congrArg nI (sumN_congr (fun j hj => nodesB_congr hj (fun i _ => row_at (layP_lt hod))))) ?_
                      subst hQ
                      exact j_iret (u := w_) S hr (rfl) hK hW dX12_join_262 ⟨by decide, by decide⟩ (⟨_, _, rfl, hU, gO_, gZ_, gV_, gR_, gU_⟩)
                    · refine lv_aload_n S.1 S.2.1 dX12_join_224 rfl (lv_at hl 0 rfl) ?_
                      refine j_get (ci := 11) (C := RX12) (T := TX12) (N := 17) (v := .ref (ad 66)) S (fun w h => List.mem_cons_of_mem _ (inG12 w h)) hK hW gO_ rfl 13 (by decide) (List.mem_cons_of_mem _ wfl_X12_52) (fun _ h9 => h9) rfl dX12_join_225 ?_
                      refine lv_iload S.1 S.2.1 dX12_join_228 (lv_at hl 1 rfl) ?_
                      refine j_aaldB (x := .ref (ad (67 + o))) S hK hW (hU.get gK (by first | decide | (simp; done) | (simp; omega))) (vp_in_nI (by omega) (by omega)) (nI_clamp (by omega)) (kp_at ho) dX12_join_230 ?_
                      refine lv_iload S.1 S.2.1 dX12_join_231 (lv_at hl 2 rfl) ?_
                      refine lv_aload_n S.1 S.2.1 dX12_join_233 rfl (lv_at hl 0 rfl) ?_
                      refine j_get (ci := 11) (C := RX12) (T := TX12) (N := 17) (v := .ref (ad 72)) S (fun w h => List.mem_cons_of_mem _ (inG12 w h)) hK hW gO_ rfl 15 (by decide) (List.mem_cons_of_mem _ wfl_X12_58) (fun _ h9 => h9) rfl dX12_join_234 ?_
                      refine lv_iload S.1 S.2.1 dX12_join_237 (lv_at hl 2 rfl) ?_
                      refine j_zald (x := bI ((rowM (fun a => cmb hw (gx j a) (gx y a)) rb) a2)) S hK hW gR_ (vp_in_nI (by omega) (by omega)) (nI_clamp (by omega)) (rfl) dX12_join_239 ?_
                      refine j_zast S hK hW gZ_ (vp_in_nI (by omega) (by omega)) (nI_clamp (by omega)) (bI_vnar _) dX12_join_240 (fun H locs w_ hU1 hN1 hW => ?_)
                      have hU := hU.then hU1 (by first | decide | (simp; done) | (simp; omega))
                      have gO_ := hU1.get gO_ (by first | decide | (simp; done) | (simp; omega))
                      have gR_ := hU1.get gR_ (by first | decide | (simp; done) | (simp; omega))
                      have gV_ := hU1.get gV_ (by first | decide | (simp; done) | (simp; omega))
                      have gU_ := hU1.get gU_ (by first | decide | (simp; done) | (simp; omega))
                      have gZ_ : w_[67 + o]? = some (ad (67 + o), .inl (cy 3, 1024, .inl (upd (bf (mixF (rowM (fun a => cmb hw (gx j a) (gx y a)) rb) (gx o) a2)) a2 (bI ((rowM (fun a => cmb hw (gx j a) (gx y a)) rb) a2))))) := hN1
                      clear hU1 hN1
                      have gZ_ : w_[67 + o]? = some (ad (67 + o), .inl (cy 3, 1024, .inl (bf (mixF (rowM (fun a => cmb hw (gx j a) (gx y a)) rb) (gx o) (a2 + 1))))) := by
                        rw [← mixF_upd (g := (rowM (fun a => cmb hw (gx j a) (gx y a)) rb)) (b := (rowM (fun a => cmb hw (gx j a) (gx y a)) rb) a2) rfl]; exact gZ_
                      refine lv_iinc (v := nI (a2 + 1)) (lv' := [(5, .int (nI (a2 + 1))), (0, .ref (ad 55)), (4, .int (nI o))]) S.1 S.2.1 dX12_join_241 hl (k := 2) rfl (nI_add _ 1) (by decide) rfl (fun ls hl => ?_)
                      refine lv_goto (tgt := 216) S.1 S.2.1 dX12_join_244 (by decide) ?_
                      exact ih216 _ (by omega) (a2 + 1) rfl (by omega) w_ hU gO_ gR_ gZ_ gV_ gU_ H locs ls hW (lv_sub hl [1, 2, 0] rfl)
                  exact L216 _ 0 rfl (Nat.zero_le _) w_ hU gO_ gR_ gZ_ gV_ gU_ H locs ls hW (lv_sub hl [1, 5, 0] rfl)
                · refine lv_aload_n S.1 S.2.1 dX12_join_118 rfl (lv_at hl 0 rfl) ?_
                  refine j_get (ci := 11) (C := RX12) (T := TX12) (N := 17) (v := .ref (ad 66)) S (fun w h => List.mem_cons_of_mem _ (inG12 w h)) hK hW gO_ rfl 13 (by decide) (List.mem_cons_of_mem _ wfl_X12_52) (fun _ h9 => h9) rfl dX12_join_119 ?_
                  refine lv_iload_n S.1 S.2.1 dX12_join_122 rfl (lv_at hl 1 rfl) ?_
                  refine j_aaldB (x := .ref (ad (67 + j))) S hK hW (hU.get gK (by first | decide | (simp; done) | (simp; omega))) (vp_in_nI (by omega) (by omega)) (nI_clamp (by omega)) (kp_at hj) dX12_join_123 ?_
                  refine lv_iload S.1 S.2.1 dX12_join_124 (lv_at hl 5 rfl) ?_
                  refine j_zald (x := bI (gx j a1)) S hK hW gX_ (vp_in_nI (by omega) (by omega)) (nI_clamp (by omega)) (rfl) dX12_join_126 ?_
                  refine lv_istore (lv' := [(6, .int (bI (gx j a1))), (0, .ref (ad 55)), (1, .int (nI j)), (2, .int (nI y)), (3, .int (nI hw)), (4, .int (nI o)), (5, .int (nI a1))]) S.1 S.2.1 dX12_join_127 hl (by decide) rfl (fun ls hl => ?_)
                  refine lv_aload_n S.1 S.2.1 dX12_join_129 rfl (lv_at hl 1 rfl) ?_
                  refine j_get (ci := 11) (C := RX12) (T := TX12) (N := 17) (v := .ref (ad 66)) S (fun w h => List.mem_cons_of_mem _ (inG12 w h)) hK hW gO_ rfl 13 (by decide) (List.mem_cons_of_mem _ wfl_X12_52) (fun _ h9 => h9) rfl dX12_join_130 ?_
                  refine lv_iload_n S.1 S.2.1 dX12_join_133 rfl (lv_at hl 3 rfl) ?_
                  refine j_aaldB (x := .ref (ad (67 + y))) S hK hW (hU.get gK (by first | decide | (simp; done) | (simp; omega))) (vp_in_nI (by omega) (by omega)) (nI_clamp (by omega)) (kp_at hy) dX12_join_134 ?_
                  refine lv_iload S.1 S.2.1 dX12_join_135 (lv_at hl 6 rfl) ?_
                  refine j_zald (x := bI (gx y a1)) S hK hW gY_ (vp_in_nI (by omega) (by omega)) (nI_clamp (by omega)) (rfl) dX12_join_137 ?_
                  refine lv_istore (lv' := [(7, .int (bI (gx y a1))), (6, .int (bI (gx j a1))), (0, .ref (ad 55)), (1, .int (nI j)), (2, .int (nI y)), (3, .int (nI hw)), (4, .int (nI o)), (5, .int (nI a1))]) S.1 S.2.1 dX12_join_138 hl (by decide) rfl (fun ls hl => ?_)
                  refine lv_aload_n S.1 S.2.1 dX12_join_140 rfl (lv_at hl 2 rfl) ?_
                  refine j_get (ci := 11) (C := RX12) (T := TX12) (N := 17) (v := .ref (ad 72)) S (fun w h => List.mem_cons_of_mem _ (inG12 w h)) hK hW gO_ rfl 15 (by decide) (List.mem_cons_of_mem _ wfl_X12_58) (fun _ h9 => h9) rfl dX12_join_141 ?_
                  refine lv_iload S.1 S.2.1 dX12_join_144 (lv_at hl 7 rfl) ?_
                  refine lv_iload_n S.1 S.2.1 dX12_join_146 rfl (lv_at hl 5 rfl) ?_
                  refine lv_bipush (v := nI 97) S.1 S.2.1 dX12_join_147 (by decide) ?_
                  refine jn_cmp_ne (tgt := 170) S (by omega) (by omega) dX12_join_149 (by decide) (fun c_149 => ?_) (fun c_149 => ?_)
                  · refine lv_iload_n S.1 S.2.1 dX12_join_170 rfl (lv_at hl 5 rfl) ?_
                    refine lv_bipush (v := nI 111) S.1 S.2.1 dX12_join_171 (by decide) ?_
                    refine jn_cmp_ne (tgt := 194) S (by omega) (by omega) dX12_join_173 (by decide) (fun c_173 => ?_) (fun c_173 => ?_)
                    · refine lv_iload S.1 S.2.1 dX12_join_194 (lv_at hl 1 rfl) ?_
                      refine lv_iload S.1 S.2.1 dX12_join_196 (lv_at hl 0 rfl) ?_
                      refine lv_icmp_eq (tgt := 205) S.1 S.2.1 dX12_join_198 (by decide) (fun c_198 => ?_) (fun c_198 => ?_)
                      · refine lv_iconst (v := nI 0) S.1 S.2.1 dX12_join_205 (by decide) ?_
                        refine j_zast S hK hW gR_ (vp_in_nI (by omega) (by omega)) (nI_clamp (by omega)) (rfl) dX12_join_206 (fun H locs w_ hU1 hN1 hW => ?_)
                        have hU := hU.then hU1 (by first | decide | (simp; done) | (simp; omega))
                        have gO_ := hU1.get gO_ (by first | decide | (simp; done) | (simp; omega))
                        have gZ_ := hU1.get gZ_ (by first | decide | (simp; done) | (simp; omega))
                        have gV_ := hU1.get gV_ (by first | decide | (simp; done) | (simp; omega))
                        have gU_ := hU1.get gU_ (by first | decide | (simp; done) | (simp; omega))
                        have gX_ := hU1.get gX_ (by first | decide | (simp; done) | (simp; omega))
                        have gY_ := hU1.get gY_ (by first | decide | (simp; done) | (simp; omega))
                        have gR_ : w_[72]? = some (ad 72, .inl (cy 3, 1024, .inl (upd (bf (mixF (fun a => cmb hw (gx j a) (gx y a)) rb a1)) a1 (nI 0)))) := hN1
                        clear hU1 hN1
                        have gR_ : w_[72]? = some (ad 72, .inl (cy 3, 1024, .inl (bf (mixF (fun a => cmb hw (gx j a) (gx y a)) rb (a1 + 1))))) := by
                          first
                          | (rw [← mixF_upd (g := (fun a => cmb hw (gx j a) (gx y a))) (b := true) (by show cmb hw (gx j a1) (gx y a1) = true; first | (rw [cmb_a c_149, c_154, c_159]; rfl) | (rw [cmb_a c_149, c_154]; rfl) | (rw [cmb_o c_149 c_173, c_178]; rfl) | (rw [cmb_o c_149 c_173, c_178, c_183]; rfl) | (rw [cmb_x c_149 c_173, bI_inj.mp c_198, Bool.xor_self]) | (rw [cmb_x c_149 c_173]; exact xor_ne c_198))]; exact gR_)
                          | (rw [← mixF_upd (g := (fun a => cmb hw (gx j a) (gx y a))) (b := false) (by show cmb hw (gx j a1) (gx y a1) = false; first | (rw [cmb_a c_149, c_154, c_159]; rfl) | (rw [cmb_a c_149, c_154]; rfl) | (rw [cmb_o c_149 c_173, c_178]; rfl) | (rw [cmb_o c_149 c_173, c_178, c_183]; rfl) | (rw [cmb_x c_149 c_173, bI_inj.mp c_198, Bool.xor_self]) | (rw [cmb_x c_149 c_173]; exact xor_ne c_198))]; exact gR_)
                        refine lv_iinc (v := nI (a1 + 1)) (lv' := [(5, .int (nI (a1 + 1))), (7, .int (bI (gx y a1))), (6, .int (bI (gx j a1))), (0, .ref (ad 55)), (1, .int (nI j)), (2, .int (nI y)), (3, .int (nI hw)), (4, .int (nI o))]) S.1 S.2.1 dX12_join_207 hl (k := 7) rfl (nI_add _ 1) (by decide) rfl (fun ls hl => ?_)
                        refine lv_goto (tgt := 110) S.1 S.2.1 dX12_join_210 (by decide) ?_
                        exact ih110 _ (by omega) (a1 + 1) rfl (by omega) w_ hU gO_ gR_ gZ_ gV_ gU_ gX_ gY_ H locs ls hW (lv_sub hl [3, 4, 5, 6, 7, 0] rfl)
                      · refine lv_iconst (v := nI 1) S.1 S.2.1 dX12_join_201 (by decide) ?_
                        refine lv_goto (tgt := 206) S.1 S.2.1 dX12_join_202 (by decide) ?_
                        refine j_zast S hK hW gR_ (vp_in_nI (by omega) (by omega)) (nI_clamp (by omega)) (rfl) dX12_join_206 (fun H locs w_ hU1 hN1 hW => ?_)
                        have hU := hU.then hU1 (by first | decide | (simp; done) | (simp; omega))
                        have gO_ := hU1.get gO_ (by first | decide | (simp; done) | (simp; omega))
                        have gZ_ := hU1.get gZ_ (by first | decide | (simp; done) | (simp; omega))
                        have gV_ := hU1.get gV_ (by first | decide | (simp; done) | (simp; omega))
                        have gU_ := hU1.get gU_ (by first | decide | (simp; done) | (simp; omega))
                        have gX_ := hU1.get gX_ (by first | decide | (simp; done) | (simp; omega))
                        have gY_ := hU1.get gY_ (by first | decide | (simp; done) | (simp; omega))
                        have gR_ : w_[72]? = some (ad 72, .inl (cy 3, 1024, .inl (upd (bf (mixF (fun a => cmb hw (gx j a) (gx y a)) rb a1)) a1 (nI 1)))) := hN1
                        clear hU1 hN1
                        have gR_ : w_[72]? = some (ad 72, .inl (cy 3, 1024, .inl (bf (mixF (fun a => cmb hw (gx j a) (gx y a)) rb (a1 + 1))))) := by
                          first
                          | (rw [← mixF_upd (g := (fun a => cmb hw (gx j a) (gx y a))) (b := true) (by show cmb hw (gx j a1) (gx y a1) = true; first | (rw [cmb_a c_149, c_154, c_159]; rfl) | (rw [cmb_a c_149, c_154]; rfl) | (rw [cmb_o c_149 c_173, c_178]; rfl) | (rw [cmb_o c_149 c_173, c_178, c_183]; rfl) | (rw [cmb_x c_149 c_173, bI_inj.mp c_198, Bool.xor_self]) | (rw [cmb_x c_149 c_173]; exact xor_ne c_198))]; exact gR_)
                          | (rw [← mixF_upd (g := (fun a => cmb hw (gx j a) (gx y a))) (b := false) (by show cmb hw (gx j a1) (gx y a1) = false; first | (rw [cmb_a c_149, c_154, c_159]; rfl) | (rw [cmb_a c_149, c_154]; rfl) | (rw [cmb_o c_149 c_173, c_178]; rfl) | (rw [cmb_o c_149 c_173, c_178, c_183]; rfl) | (rw [cmb_x c_149 c_173, bI_inj.mp c_198, Bool.xor_self]) | (rw [cmb_x c_149 c_173]; exact xor_ne c_198))]; exact gR_)
                        refine lv_iinc (v := nI (a1 + 1)) (lv' := [(5, .int (nI (a1 + 1))), (7, .int (bI (gx y a1))), (6, .int (bI (gx j a1))), (0, .ref (ad 55)), (1, .int (nI j)), (2, .int (nI y)), (3, .int (nI hw)), (4, .int (nI o))]) S.1 S.2.1 dX12_join_207 hl (k := 7) rfl (nI_add _ 1) (by decide) rfl (fun ls hl => ?_)
                        refine lv_goto (tgt := 110) S.1 S.2.1 dX12_join_210 (by decide) ?_
                        exact ih110 _ (by omega) (a1 + 1) rfl (by omega) w_ hU gO_ gR_ gZ_ gV_ gU_ gX_ gY_ H locs ls hW (lv_sub hl [3, 4, 5, 6, 7, 0] rfl)
                    · refine lv_iload S.1 S.2.1 dX12_join_176 (lv_at hl 1 rfl) ?_
                      refine jb_if_ne (tgt := 186) S dX12_join_178 (by decide) (fun c_178 => ?_) (fun c_178 => ?_)
                      · refine lv_iconst (v := nI 1) S.1 S.2.1 dX12_join_186 (by decide) ?_
                        refine lv_goto (tgt := 206) S.1 S.2.1 dX12_join_187 (by decide) ?_
                        refine j_zast S hK hW gR_ (vp_in_nI (by omega) (by omega)) (nI_clamp (by omega)) (rfl) dX12_join_206 (fun H locs w_ hU1 hN1 hW => ?_)
                        have hU := hU.then hU1 (by first | decide | (simp; done) | (simp; omega))
                        have gO_ := hU1.get gO_ (by first | decide | (simp; done) | (simp; omega))
                        have gZ_ := hU1.get gZ_ (by first | decide | (simp; done) | (simp; omega))
                        have gV_ := hU1.get gV_ (by first | decide | (simp; done) | (simp; omega))
                        have gU_ := hU1.get gU_ (by first | decide | (simp; done) | (simp; omega))
                        have gX_ := hU1.get gX_ (by first | decide | (simp; done) | (simp; omega))
                        have gY_ := hU1.get gY_ (by first | decide | (simp; done) | (simp; omega))
                        have gR_ : w_[72]? = some (ad 72, .inl (cy 3, 1024, .inl (upd (bf (mixF (fun a => cmb hw (gx j a) (gx y a)) rb a1)) a1 (nI 1)))) := hN1
                        clear hU1 hN1
                        have gR_ : w_[72]? = some (ad 72, .inl (cy 3, 1024, .inl (bf (mixF (fun a => cmb hw (gx j a) (gx y a)) rb (a1 + 1))))) := by
                          first
                          | (rw [← mixF_upd (g := (fun a => cmb hw (gx j a) (gx y a))) (b := true) (by show cmb hw (gx j a1) (gx y a1) = true; first | (rw [cmb_a c_149, c_154, c_159]; rfl) | (rw [cmb_a c_149, c_154]; rfl) | (rw [cmb_o c_149 c_173, c_178]; rfl) | (rw [cmb_o c_149 c_173, c_178, c_183]; rfl) | (rw [cmb_x c_149 c_173, bI_inj.mp c_198, Bool.xor_self]) | (rw [cmb_x c_149 c_173]; exact xor_ne c_198))]; exact gR_)
                          | (rw [← mixF_upd (g := (fun a => cmb hw (gx j a) (gx y a))) (b := false) (by show cmb hw (gx j a1) (gx y a1) = false; first | (rw [cmb_a c_149, c_154, c_159]; rfl) | (rw [cmb_a c_149, c_154]; rfl) | (rw [cmb_o c_149 c_173, c_178]; rfl) | (rw [cmb_o c_149 c_173, c_178, c_183]; rfl) | (rw [cmb_x c_149 c_173, bI_inj.mp c_198, Bool.xor_self]) | (rw [cmb_x c_149 c_173]; exact xor_ne c_198))]; exact gR_)
                        refine lv_iinc (v := nI (a1 + 1)) (lv' := [(5, .int (nI (a1 + 1))), (7, .int (bI (gx y a1))), (6, .int (bI (gx j a1))), (0, .ref (ad 55)), (1, .int (nI j)), (2, .int (nI y)), (3, .int (nI hw)), (4, .int (nI o))]) S.1 S.2.1 dX12_join_207 hl (k := 7) rfl (nI_add _ 1) (by decide) rfl (fun ls hl => ?_)
                        refine lv_goto (tgt := 110) S.1 S.2.1 dX12_join_210 (by decide) ?_
                        exact ih110 _ (by omega) (a1 + 1) rfl (by omega) w_ hU gO_ gR_ gZ_ gV_ gU_ gX_ gY_ H locs ls hW (lv_sub hl [3, 4, 5, 6, 7, 0] rfl)
                      · refine lv_iload S.1 S.2.1 dX12_join_181 (lv_at hl 0 rfl) ?_
                        refine jb_if_eq (tgt := 190) S dX12_join_183 (by decide) (fun c_183 => ?_) (fun c_183 => ?_)
                        · refine lv_iconst (v := nI 0) S.1 S.2.1 dX12_join_190 (by decide) ?_
                          refine lv_goto (tgt := 206) S.1 S.2.1 dX12_join_191 (by decide) ?_
                          refine j_zast S hK hW gR_ (vp_in_nI (by omega) (by omega)) (nI_clamp (by omega)) (rfl) dX12_join_206 (fun H locs w_ hU1 hN1 hW => ?_)
                          have hU := hU.then hU1 (by first | decide | (simp; done) | (simp; omega))
                          have gO_ := hU1.get gO_ (by first | decide | (simp; done) | (simp; omega))
                          have gZ_ := hU1.get gZ_ (by first | decide | (simp; done) | (simp; omega))
                          have gV_ := hU1.get gV_ (by first | decide | (simp; done) | (simp; omega))
                          have gU_ := hU1.get gU_ (by first | decide | (simp; done) | (simp; omega))
                          have gX_ := hU1.get gX_ (by first | decide | (simp; done) | (simp; omega))
                          have gY_ := hU1.get gY_ (by first | decide | (simp; done) | (simp; omega))
                          have gR_ : w_[72]? = some (ad 72, .inl (cy 3, 1024, .inl (upd (bf (mixF (fun a => cmb hw (gx j a) (gx y a)) rb a1)) a1 (nI 0)))) := hN1
                          clear hU1 hN1
                          have gR_ : w_[72]? = some (ad 72, .inl (cy 3, 1024, .inl (bf (mixF (fun a => cmb hw (gx j a) (gx y a)) rb (a1 + 1))))) := by
                            first
                            | (rw [← mixF_upd (g := (fun a => cmb hw (gx j a) (gx y a))) (b := true) (by show cmb hw (gx j a1) (gx y a1) = true; first | (rw [cmb_a c_149, c_154, c_159]; rfl) | (rw [cmb_a c_149, c_154]; rfl) | (rw [cmb_o c_149 c_173, c_178]; rfl) | (rw [cmb_o c_149 c_173, c_178, c_183]; rfl) | (rw [cmb_x c_149 c_173, bI_inj.mp c_198, Bool.xor_self]) | (rw [cmb_x c_149 c_173]; exact xor_ne c_198))]; exact gR_)
                            | (rw [← mixF_upd (g := (fun a => cmb hw (gx j a) (gx y a))) (b := false) (by show cmb hw (gx j a1) (gx y a1) = false; first | (rw [cmb_a c_149, c_154, c_159]; rfl) | (rw [cmb_a c_149, c_154]; rfl) | (rw [cmb_o c_149 c_173, c_178]; rfl) | (rw [cmb_o c_149 c_173, c_178, c_183]; rfl) | (rw [cmb_x c_149 c_173, bI_inj.mp c_198, Bool.xor_self]) | (rw [cmb_x c_149 c_173]; exact xor_ne c_198))]; exact gR_)
                          refine lv_iinc (v := nI (a1 + 1)) (lv' := [(5, .int (nI (a1 + 1))), (7, .int (bI (gx y a1))), (6, .int (bI (gx j a1))), (0, .ref (ad 55)), (1, .int (nI j)), (2, .int (nI y)), (3, .int (nI hw)), (4, .int (nI o))]) S.1 S.2.1 dX12_join_207 hl (k := 7) rfl (nI_add _ 1) (by decide) rfl (fun ls hl => ?_)
                          refine lv_goto (tgt := 110) S.1 S.2.1 dX12_join_210 (by decide) ?_
                          exact ih110 _ (by omega) (a1 + 1) rfl (by omega) w_ hU gO_ gR_ gZ_ gV_ gU_ gX_ gY_ H locs ls hW (lv_sub hl [3, 4, 5, 6, 7, 0] rfl)
                        · refine lv_iconst (v := nI 1) S.1 S.2.1 dX12_join_186 (by decide) ?_
                          refine lv_goto (tgt := 206) S.1 S.2.1 dX12_join_187 (by decide) ?_
                          refine j_zast S hK hW gR_ (vp_in_nI (by omega) (by omega)) (nI_clamp (by omega)) (rfl) dX12_join_206 (fun H locs w_ hU1 hN1 hW => ?_)
                          have hU := hU.then hU1 (by first | decide | (simp; done) | (simp; omega))
                          have gO_ := hU1.get gO_ (by first | decide | (simp; done) | (simp; omega))
                          have gZ_ := hU1.get gZ_ (by first | decide | (simp; done) | (simp; omega))
                          have gV_ := hU1.get gV_ (by first | decide | (simp; done) | (simp; omega))
                          have gU_ := hU1.get gU_ (by first | decide | (simp; done) | (simp; omega))
                          have gX_ := hU1.get gX_ (by first | decide | (simp; done) | (simp; omega))
                          have gY_ := hU1.get gY_ (by first | decide | (simp; done) | (simp; omega))
                          have gR_ : w_[72]? = some (ad 72, .inl (cy 3, 1024, .inl (upd (bf (mixF (fun a => cmb hw (gx j a) (gx y a)) rb a1)) a1 (nI 1)))) := hN1
                          clear hU1 hN1
                          have gR_ : w_[72]? = some (ad 72, .inl (cy 3, 1024, .inl (bf (mixF (fun a => cmb hw (gx j a) (gx y a)) rb (a1 + 1))))) := by
                            first
                            | (rw [← mixF_upd (g := (fun a => cmb hw (gx j a) (gx y a))) (b := true) (by show cmb hw (gx j a1) (gx y a1) = true; first | (rw [cmb_a c_149, c_154, c_159]; rfl) | (rw [cmb_a c_149, c_154]; rfl) | (rw [cmb_o c_149 c_173, c_178]; rfl) | (rw [cmb_o c_149 c_173, c_178, c_183]; rfl) | (rw [cmb_x c_149 c_173, bI_inj.mp c_198, Bool.xor_self]) | (rw [cmb_x c_149 c_173]; exact xor_ne c_198))]; exact gR_)
                            | (rw [← mixF_upd (g := (fun a => cmb hw (gx j a) (gx y a))) (b := false) (by show cmb hw (gx j a1) (gx y a1) = false; first | (rw [cmb_a c_149, c_154, c_159]; rfl) | (rw [cmb_a c_149, c_154]; rfl) | (rw [cmb_o c_149 c_173, c_178]; rfl) | (rw [cmb_o c_149 c_173, c_178, c_183]; rfl) | (rw [cmb_x c_149 c_173, bI_inj.mp c_198, Bool.xor_self]) | (rw [cmb_x c_149 c_173]; exact xor_ne c_198))]; exact gR_)
                          refine lv_iinc (v := nI (a1 + 1)) (lv' := [(5, .int (nI (a1 + 1))), (7, .int (bI (gx y a1))), (6, .int (bI (gx j a1))), (0, .ref (ad 55)), (1, .int (nI j)), (2, .int (nI y)), (3, .int (nI hw)), (4, .int (nI o))]) S.1 S.2.1 dX12_join_207 hl (k := 7) rfl (nI_add _ 1) (by decide) rfl (fun ls hl => ?_)
                          refine lv_goto (tgt := 110) S.1 S.2.1 dX12_join_210 (by decide) ?_
                          exact ih110 _ (by omega) (a1 + 1) rfl (by omega) w_ hU gO_ gR_ gZ_ gV_ gU_ gX_ gY_ H locs ls hW (lv_sub hl [3, 4, 5, 6, 7, 0] rfl)
                  · refine lv_iload S.1 S.2.1 dX12_join_152 (lv_at hl 1 rfl) ?_
                    refine jb_if_eq (tgt := 166) S dX12_join_154 (by decide) (fun c_154 => ?_) (fun c_154 => ?_)
                    · refine lv_iconst (v := nI 0) S.1 S.2.1 dX12_join_166 (by decide) ?_
                      refine lv_goto (tgt := 206) S.1 S.2.1 dX12_join_167 (by decide) ?_
                      refine j_zast S hK hW gR_ (vp_in_nI (by omega) (by omega)) (nI_clamp (by omega)) (rfl) dX12_join_206 (fun H locs w_ hU1 hN1 hW => ?_)
                      have hU := hU.then hU1 (by first | decide | (simp; done) | (simp; omega))
                      have gO_ := hU1.get gO_ (by first | decide | (simp; done) | (simp; omega))
                      have gZ_ := hU1.get gZ_ (by first | decide | (simp; done) | (simp; omega))
                      have gV_ := hU1.get gV_ (by first | decide | (simp; done) | (simp; omega))
                      have gU_ := hU1.get gU_ (by first | decide | (simp; done) | (simp; omega))
                      have gX_ := hU1.get gX_ (by first | decide | (simp; done) | (simp; omega))
                      have gY_ := hU1.get gY_ (by first | decide | (simp; done) | (simp; omega))
                      have gR_ : w_[72]? = some (ad 72, .inl (cy 3, 1024, .inl (upd (bf (mixF (fun a => cmb hw (gx j a) (gx y a)) rb a1)) a1 (nI 0)))) := hN1
                      clear hU1 hN1
                      have gR_ : w_[72]? = some (ad 72, .inl (cy 3, 1024, .inl (bf (mixF (fun a => cmb hw (gx j a) (gx y a)) rb (a1 + 1))))) := by
                        first
                        | (rw [← mixF_upd (g := (fun a => cmb hw (gx j a) (gx y a))) (b := true) (by show cmb hw (gx j a1) (gx y a1) = true; first | (rw [cmb_a c_149, c_154, c_159]; rfl) | (rw [cmb_a c_149, c_154]; rfl) | (rw [cmb_o c_149 c_173, c_178]; rfl) | (rw [cmb_o c_149 c_173, c_178, c_183]; rfl) | (rw [cmb_x c_149 c_173, bI_inj.mp c_198, Bool.xor_self]) | (rw [cmb_x c_149 c_173]; exact xor_ne c_198))]; exact gR_)
                        | (rw [← mixF_upd (g := (fun a => cmb hw (gx j a) (gx y a))) (b := false) (by show cmb hw (gx j a1) (gx y a1) = false; first | (rw [cmb_a c_149, c_154, c_159]; rfl) | (rw [cmb_a c_149, c_154]; rfl) | (rw [cmb_o c_149 c_173, c_178]; rfl) | (rw [cmb_o c_149 c_173, c_178, c_183]; rfl) | (rw [cmb_x c_149 c_173, bI_inj.mp c_198, Bool.xor_self]) | (rw [cmb_x c_149 c_173]; exact xor_ne c_198))]; exact gR_)
                      refine lv_iinc (v := nI (a1 + 1)) (lv' := [(5, .int (nI (a1 + 1))), (7, .int (bI (gx y a1))), (6, .int (bI (gx j a1))), (0, .ref (ad 55)), (1, .int (nI j)), (2, .int (nI y)), (3, .int (nI hw)), (4, .int (nI o))]) S.1 S.2.1 dX12_join_207 hl (k := 7) rfl (nI_add _ 1) (by decide) rfl (fun ls hl => ?_)
                      refine lv_goto (tgt := 110) S.1 S.2.1 dX12_join_210 (by decide) ?_
                      exact ih110 _ (by omega) (a1 + 1) rfl (by omega) w_ hU gO_ gR_ gZ_ gV_ gU_ gX_ gY_ H locs ls hW (lv_sub hl [3, 4, 5, 6, 7, 0] rfl)
                    · refine lv_iload S.1 S.2.1 dX12_join_157 (lv_at hl 0 rfl) ?_
                      refine jb_if_eq (tgt := 166) S dX12_join_159 (by decide) (fun c_159 => ?_) (fun c_159 => ?_)
                      · refine lv_iconst (v := nI 0) S.1 S.2.1 dX12_join_166 (by decide) ?_
                        refine lv_goto (tgt := 206) S.1 S.2.1 dX12_join_167 (by decide) ?_
                        refine j_zast S hK hW gR_ (vp_in_nI (by omega) (by omega)) (nI_clamp (by omega)) (rfl) dX12_join_206 (fun H locs w_ hU1 hN1 hW => ?_)
                        have hU := hU.then hU1 (by first | decide | (simp; done) | (simp; omega))
                        have gO_ := hU1.get gO_ (by first | decide | (simp; done) | (simp; omega))
                        have gZ_ := hU1.get gZ_ (by first | decide | (simp; done) | (simp; omega))
                        have gV_ := hU1.get gV_ (by first | decide | (simp; done) | (simp; omega))
                        have gU_ := hU1.get gU_ (by first | decide | (simp; done) | (simp; omega))
                        have gX_ := hU1.get gX_ (by first | decide | (simp; done) | (simp; omega))
                        have gY_ := hU1.get gY_ (by first | decide | (simp; done) | (simp; omega))
                        have gR_ : w_[72]? = some (ad 72, .inl (cy 3, 1024, .inl (upd (bf (mixF (fun a => cmb hw (gx j a) (gx y a)) rb a1)) a1 (nI 0)))) := hN1
                        clear hU1 hN1
                        have gR_ : w_[72]? = some (ad 72, .inl (cy 3, 1024, .inl (bf (mixF (fun a => cmb hw (gx j a) (gx y a)) rb (a1 + 1))))) := by
                          first
                          | (rw [← mixF_upd (g := (fun a => cmb hw (gx j a) (gx y a))) (b := true) (by show cmb hw (gx j a1) (gx y a1) = true; first | (rw [cmb_a c_149, c_154, c_159]; rfl) | (rw [cmb_a c_149, c_154]; rfl) | (rw [cmb_o c_149 c_173, c_178]; rfl) | (rw [cmb_o c_149 c_173, c_178, c_183]; rfl) | (rw [cmb_x c_149 c_173, bI_inj.mp c_198, Bool.xor_self]) | (rw [cmb_x c_149 c_173]; exact xor_ne c_198))]; exact gR_)
                          | (rw [← mixF_upd (g := (fun a => cmb hw (gx j a) (gx y a))) (b := false) (by show cmb hw (gx j a1) (gx y a1) = false; first | (rw [cmb_a c_149, c_154, c_159]; rfl) | (rw [cmb_a c_149, c_154]; rfl) | (rw [cmb_o c_149 c_173, c_178]; rfl) | (rw [cmb_o c_149 c_173, c_178, c_183]; rfl) | (rw [cmb_x c_149 c_173, bI_inj.mp c_198, Bool.xor_self]) | (rw [cmb_x c_149 c_173]; exact xor_ne c_198))]; exact gR_)
                        refine lv_iinc (v := nI (a1 + 1)) (lv' := [(5, .int (nI (a1 + 1))), (7, .int (bI (gx y a1))), (6, .int (bI (gx j a1))), (0, .ref (ad 55)), (1, .int (nI j)), (2, .int (nI y)), (3, .int (nI hw)), (4, .int (nI o))]) S.1 S.2.1 dX12_join_207 hl (k := 7) rfl (nI_add _ 1) (by decide) rfl (fun ls hl => ?_)
                        refine lv_goto (tgt := 110) S.1 S.2.1 dX12_join_210 (by decide) ?_
                        exact ih110 _ (by omega) (a1 + 1) rfl (by omega) w_ hU gO_ gR_ gZ_ gV_ gU_ gX_ gY_ H locs ls hW (lv_sub hl [3, 4, 5, 6, 7, 0] rfl)
                      · refine lv_iconst (v := nI 1) S.1 S.2.1 dX12_join_162 (by decide) ?_
                        refine lv_goto (tgt := 206) S.1 S.2.1 dX12_join_163 (by decide) ?_
                        refine j_zast S hK hW gR_ (vp_in_nI (by omega) (by omega)) (nI_clamp (by omega)) (rfl) dX12_join_206 (fun H locs w_ hU1 hN1 hW => ?_)
                        have hU := hU.then hU1 (by first | decide | (simp; done) | (simp; omega))
                        have gO_ := hU1.get gO_ (by first | decide | (simp; done) | (simp; omega))
                        have gZ_ := hU1.get gZ_ (by first | decide | (simp; done) | (simp; omega))
                        have gV_ := hU1.get gV_ (by first | decide | (simp; done) | (simp; omega))
                        have gU_ := hU1.get gU_ (by first | decide | (simp; done) | (simp; omega))
                        have gX_ := hU1.get gX_ (by first | decide | (simp; done) | (simp; omega))
                        have gY_ := hU1.get gY_ (by first | decide | (simp; done) | (simp; omega))
                        have gR_ : w_[72]? = some (ad 72, .inl (cy 3, 1024, .inl (upd (bf (mixF (fun a => cmb hw (gx j a) (gx y a)) rb a1)) a1 (nI 1)))) := hN1
                        clear hU1 hN1
                        have gR_ : w_[72]? = some (ad 72, .inl (cy 3, 1024, .inl (bf (mixF (fun a => cmb hw (gx j a) (gx y a)) rb (a1 + 1))))) := by
                          first
                          | (rw [← mixF_upd (g := (fun a => cmb hw (gx j a) (gx y a))) (b := true) (by show cmb hw (gx j a1) (gx y a1) = true; first | (rw [cmb_a c_149, c_154, c_159]; rfl) | (rw [cmb_a c_149, c_154]; rfl) | (rw [cmb_o c_149 c_173, c_178]; rfl) | (rw [cmb_o c_149 c_173, c_178, c_183]; rfl) | (rw [cmb_x c_149 c_173, bI_inj.mp c_198, Bool.xor_self]) | (rw [cmb_x c_149 c_173]; exact xor_ne c_198))]; exact gR_)
                          | (rw [← mixF_upd (g := (fun a => cmb hw (gx j a) (gx y a))) (b := false) (by show cmb hw (gx j a1) (gx y a1) = false; first | (rw [cmb_a c_149, c_154, c_159]; rfl) | (rw [cmb_a c_149, c_154]; rfl) | (rw [cmb_o c_149 c_173, c_178]; rfl) | (rw [cmb_o c_149 c_173, c_178, c_183]; rfl) | (rw [cmb_x c_149 c_173, bI_inj.mp c_198, Bool.xor_self]) | (rw [cmb_x c_149 c_173]; exact xor_ne c_198))]; exact gR_)
                        refine lv_iinc (v := nI (a1 + 1)) (lv' := [(5, .int (nI (a1 + 1))), (7, .int (bI (gx y a1))), (6, .int (bI (gx j a1))), (0, .ref (ad 55)), (1, .int (nI j)), (2, .int (nI y)), (3, .int (nI hw)), (4, .int (nI o))]) S.1 S.2.1 dX12_join_207 hl (k := 7) rfl (nI_add _ 1) (by decide) rfl (fun ls hl => ?_)
                        refine lv_goto (tgt := 110) S.1 S.2.1 dX12_join_210 (by decide) ?_
                        exact ih110 _ (by omega) (a1 + 1) rfl (by omega) w_ hU gO_ gR_ gZ_ gV_ gU_ gX_ gY_ H locs ls hW (lv_sub hl [3, 4, 5, 6, 7, 0] rfl)
              exact L110 _ 0 rfl (Nat.zero_le _) w_ hU gO_ gR_ gZ_ gV_ gU_ gX_ gY_ H locs ls hW (lv_sub hl [1, 2, 3, 4, 5, 0] rfl)
            · exact absurd rfl c_98
        · refine lv_iload_n S.1 S.2.1 dX12_join_33 rfl (lv_at hl 3 rfl) ?_
          refine lv_bipush (v := nI 111) S.1 S.2.1 dX12_join_34 (by decide) ?_
          refine jn_cmp_eq (tgt := 51) S (by omega) (by omega) dX12_join_36 (by decide) (fun c_36 => ?_) (fun c_36 => ?_)
          · refine lv_aload_n S.1 S.2.1 dX12_join_51 rfl (lv_at hl 0 rfl) ?_
            refine j_get (ci := 11) (C := RX12) (T := TX12) (N := 17) (v := .ref (ad 71)) S (fun w h => List.mem_cons_of_mem _ (inG12 w h)) hK hW gO_ rfl 14 (by decide) (List.mem_cons_of_mem _ wfl_X12_55) (fun _ h9 => h9) rfl dX12_join_52 ?_
            refine lv_iload_n S.1 S.2.1 dX12_join_55 rfl (lv_at hl 1 rfl) ?_
            refine j_iald (x := nI n) S hK hW gV_ (vp_in_nI (by omega) (by omega)) (nI_clamp (by omega)) (hkv) dX12_join_56 ?_
            refine jn_if_lt (tgt := 69) S (by omega) dX12_join_57 (by decide) ?_
            refine lv_aload_n S.1 S.2.1 dX12_join_60 rfl (lv_at hl 0 rfl) ?_
            refine j_get (ci := 11) (C := RX12) (T := TX12) (N := 17) (v := .ref (ad 71)) S (fun w h => List.mem_cons_of_mem _ (inG12 w h)) hK hW gO_ rfl 14 (by decide) (List.mem_cons_of_mem _ wfl_X12_55) (fun _ h9 => h9) rfl dX12_join_61 ?_
            refine lv_iload_n S.1 S.2.1 dX12_join_64 rfl (lv_at hl 2 rfl) ?_
            refine j_iald (x := nI n) S hK hW gV_ (vp_in_nI (by omega) (by omega)) (nI_clamp (by omega)) (hkw) dX12_join_65 ?_
            refine jn_if_ge (tgt := 75) S (by omega) dX12_join_66 (by decide) ?_
            refine lv_aload_n S.1 S.2.1 dX12_join_75 rfl (lv_at hl 0 rfl) ?_
            refine j_get (ci := 11) (C := RX12) (T := TX12) (N := 17) (v := .ref (ad 71)) S (fun w h => List.mem_cons_of_mem _ (inG12 w h)) hK hW gO_ rfl 14 (by decide) (List.mem_cons_of_mem _ wfl_X12_55) (fun _ h9 => h9) rfl dX12_join_76 ?_
            refine lv_iload_n S.1 S.2.1 dX12_join_79 rfl (lv_at hl 1 rfl) ?_
            refine j_iald (x := nI n) S hK hW gV_ (vp_in_nI (by omega) (by omega)) (nI_clamp (by omega)) (hkv) dX12_join_80 ?_
            refine lv_aload_n S.1 S.2.1 dX12_join_81 rfl (lv_at hl 0 rfl) ?_
            refine j_get (ci := 11) (C := RX12) (T := TX12) (N := 17) (v := .int (nI n)) S (fun w h => List.mem_cons_of_mem _ (inG12 w h)) hK hW gO_ rfl 11 (by decide) (List.mem_cons_of_mem _ wfl_X12_64) (fun _ h9 => h9) rfl dX12_join_82 ?_
            refine jn_cmp_ne (tgt := 101) S (by omega) (by omega) dX12_join_85 (by decide) (fun c_85 => ?_) (fun c_85 => ?_)
            · exact absurd rfl c_85
            · refine lv_aload_n S.1 S.2.1 dX12_join_88 rfl (lv_at hl 0 rfl) ?_
              refine j_get (ci := 11) (C := RX12) (T := TX12) (N := 17) (v := .ref (ad 71)) S (fun w h => List.mem_cons_of_mem _ (inG12 w h)) hK hW gO_ rfl 14 (by decide) (List.mem_cons_of_mem _ wfl_X12_55) (fun _ h9 => h9) rfl dX12_join_89 ?_
              refine lv_iload_n S.1 S.2.1 dX12_join_92 rfl (lv_at hl 2 rfl) ?_
              refine j_iald (x := nI n) S hK hW gV_ (vp_in_nI (by omega) (by omega)) (nI_clamp (by omega)) (hkw) dX12_join_93 ?_
              refine lv_aload_n S.1 S.2.1 dX12_join_94 rfl (lv_at hl 0 rfl) ?_
              refine j_get (ci := 11) (C := RX12) (T := TX12) (N := 17) (v := .int (nI n)) S (fun w h => List.mem_cons_of_mem _ (inG12 w h)) hK hW gO_ rfl 11 (by decide) (List.mem_cons_of_mem _ wfl_X12_64) (fun _ h9 => h9) rfl dX12_join_95 ?_
              refine jn_cmp_eq (tgt := 107) S (by omega) (by omega) dX12_join_98 (by decide) (fun c_98 => ?_) (fun c_98 => ?_)
              · refine lv_iconst (v := nI 0) S.1 S.2.1 dX12_join_107 (by decide) ?_
                refine lv_istore (lv' := [(5, .int (nI 0)), (0, .ref (ad 55)), (1, .int (nI j)), (2, .int (nI y)), (3, .int (nI hw)), (4, .int (nI o))]) S.1 S.2.1 dX12_join_108 hl (by decide) rfl (fun ls hl => ?_)
                have gR_ : w_[72]? = some (ad 72, .inl (cy 3, 1024, .inl (bf (mixF (fun a => cmb hw (gx j a) (gx y a)) rb 0)))) := by
                  rw [mixF_0]; exact gR_
                have L110 : ∀ (k : Nat) (a1 : Nat), 1024 - a1 = k → (a1 ≤ 1024) → ∀ (w_ : va_W), jU w w_ [55, 67 + o, 71, 72, 73] → (w_[55]? = some (ad 55, .inr (11, [.int (nI 0), .ref (ad 56), .ref (ad 57), .ref (ad 58), .ref (ad 59), .ref (ad 60), .ref (ad 61), .ref (ad 62), .ref (ad 63), .ref (ad 64), .ref (ad 65), .int (nI n), .int (nI nc), .ref (ad 66), .ref (ad 71), .ref (ad 72), .ref (ad 73)]))) → (w_[72]? = some (ad 72, .inl (cy 3, 1024, .inl (bf (mixF (fun a => cmb hw (gx j a) (gx y a)) rb a1))))) → (w_[67 + o]? = some (ad (67 + o), .inl (cy 3, 1024, .inl (bf (gx o))))) → (w_[71]? = some (ad 71, .inl (cy 0, 4, .inl kv))) → (w_[73]? = some (ad 73, .inl (cy 3, 1024, .inl (bf tu)))) → (w_[67 + j]? = some (ad (67 + j), .inl (cy 3, 1024, .inl (bf (gx j))))) → (w_[67 + y]? = some (ad (67 + y), .inl (cy 3, 1024, .inl (bf (gx y))))) → ∀ (H : Heap) (locs : List Loc) (ls : Array Slot), jW D A s.heap w_ H locs → lv_has ls 8 [(0, .ref (ad 55)), (1, .int (nI j)), (2, .int (nI y)), (3, .int (nI hw)), (4, .int (nI o)), (5, .int (nI a1))] → W p l e (jR 5 0 0) s m args below meth c H locs 0 0 Q (F0 m 110 ls []) := by
                  intro k
                  induction k using Nat.strongRecOn with
                  | ind k ih110 =>
                  intro a1 hk ha1 w_ hU gO_ gR_ gZ_ gV_ gU_ gX_ gY_ H locs ls hW hl
                  subst hk
                  refine lv_iload S.1 S.2.1 dX12_join_110 (lv_at hl 5 rfl) ?_
                  refine lv_sipush (v := nI 1024) S.1 S.2.1 dX12_join_112 (by decide) ?_
                  refine jn_cmp_ge (tgt := 213) S (by omega) (by omega) dX12_join_115 (by decide) (fun c_115 => ?_) (fun c_115 => ?_)
                  · have ea : a1 = 1024 := by omega
                    subst ea
                    refine lv_iconst (v := nI 0) S.1 S.2.1 dX12_join_213 (by decide) ?_
                    refine lv_istore (lv' := [(5, .int (nI 0)), (0, .ref (ad 55)), (1, .int (nI j)), (2, .int (nI y)), (3, .int (nI hw)), (4, .int (nI o))]) S.1 S.2.1 dX12_join_214 hl (by decide) rfl (fun ls hl => ?_)
                    have gR_ : w_[72]? = some (ad 72, .inl (cy 3, 1024, .inl (bf (rowM (fun a => cmb hw (gx j a) (gx y a)) rb)))) := by
                      exact gR_
                    have gZ_ : w_[67 + o]? = some (ad (67 + o), .inl (cy 3, 1024, .inl (bf (mixF (rowM (fun a => cmb hw (gx j a) (gx y a)) rb) (gx o) 0)))) := by
                      rw [mixF_0]; exact gZ_
                    have L216 : ∀ (k : Nat) (a2 : Nat), 1024 - a2 = k → (a2 ≤ 1024) → ∀ (w_ : va_W), jU w w_ [55, 67 + o, 71, 72, 73] → (w_[55]? = some (ad 55, .inr (11, [.int (nI 0), .ref (ad 56), .ref (ad 57), .ref (ad 58), .ref (ad 59), .ref (ad 60), .ref (ad 61), .ref (ad 62), .ref (ad 63), .ref (ad 64), .ref (ad 65), .int (nI n), .int (nI nc), .ref (ad 66), .ref (ad 71), .ref (ad 72), .ref (ad 73)]))) → (w_[72]? = some (ad 72, .inl (cy 3, 1024, .inl (bf (rowM (fun a => cmb hw (gx j a) (gx y a)) rb))))) → (w_[67 + o]? = some (ad (67 + o), .inl (cy 3, 1024, .inl (bf (mixF (rowM (fun a => cmb hw (gx j a) (gx y a)) rb) (gx o) a2))))) → (w_[71]? = some (ad 71, .inl (cy 0, 4, .inl kv))) → (w_[73]? = some (ad 73, .inl (cy 3, 1024, .inl (bf tu)))) → ∀ (H : Heap) (locs : List Loc) (ls : Array Slot), jW D A s.heap w_ H locs → lv_has ls 8 [(0, .ref (ad 55)), (4, .int (nI o)), (5, .int (nI a2))] → W p l e (jR 5 0 0) s m args below meth c H locs 0 0 Q (F0 m 216 ls []) := by
                      intro k
                      induction k using Nat.strongRecOn with
                      | ind k ih216 =>
                      intro a2 hk ha2 w_ hU gO_ gR_ gZ_ gV_ gU_ H locs ls hW hl
                      subst hk
                      refine lv_iload S.1 S.2.1 dX12_join_216 (lv_at hl 2 rfl) ?_
                      refine lv_sipush (v := nI 1024) S.1 S.2.1 dX12_join_218 (by decide) ?_
                      refine jn_cmp_ge (tgt := 247) S (by omega) (by omega) dX12_join_221 (by decide) (fun c_221 => ?_) (fun c_221 => ?_)
                      · have eb : a2 = 1024 := by omega
                        subst eb
                        refine lv_aload_n S.1 S.2.1 dX12_join_247 rfl (lv_at hl 0 rfl) ?_
                        refine j_get (ci := 11) (C := RX12) (T := TX12) (N := 17) (v := .ref (ad 71)) S (fun w h => List.mem_cons_of_mem _ (inG12 w h)) hK hW gO_ rfl 14 (by decide) (List.mem_cons_of_mem _ wfl_X12_55) (fun _ h9 => h9) rfl dX12_join_248 ?_
                        refine lv_iload S.1 S.2.1 dX12_join_251 (lv_at hl 1 rfl) ?_
                        refine lv_aload_n S.1 S.2.1 dX12_join_253 rfl (lv_at hl 0 rfl) ?_
                        refine j_get (ci := 11) (C := RX12) (T := TX12) (N := 17) (v := .int (nI n)) S (fun w h => List.mem_cons_of_mem _ (inG12 w h)) hK hW gO_ rfl 11 (by decide) (List.mem_cons_of_mem _ wfl_X12_64) (fun _ h9 => h9) rfl dX12_join_254 ?_
                        refine j_iast S hK hW gV_ (vp_in_nI (by omega) (by omega)) (nI_clamp (by omega)) dX12_join_257 (fun H locs w_ hU1 hN1 hW => ?_)
                        have hU := hU.then hU1 (by first | decide | (simp; done) | (simp; omega))
                        have gO_ := hU1.get gO_ (by first | decide | (simp; done) | (simp; omega))
                        have gR_ := hU1.get gR_ (by first | decide | (simp; done) | (simp; omega))
                        have gZ_ := hU1.get gZ_ (by first | decide | (simp; done) | (simp; omega))
                        have gU_ := hU1.get gU_ (by first | decide | (simp; done) | (simp; omega))
                        have gV_ : w_[71]? = some (ad 71, .inl (cy 0, 4, .inl (upd kv o (nI n)))) := hN1
                        clear hU1 hN1
                        refine lv_aload_n S.1 S.2.1 dX12_join_258 rfl (lv_at hl 0 rfl) ?_
                        refine j_callV (k := 55) (ci := 11) (q := (RX12, TX12, 17)) (As := []) (rest := []) S hK hA hW (c_X12_nodesOfRow l D cy ad 0 n nc od (rowM (fun a => cmb hw (gx j a) (gx y a)) rb) tu gO_ (hU.get gD (by first | decide | (simp; done) | (simp; omega))) gR_ gU_   (by omega) (hod)) (jgo wm_X12_153) yk_X12_nodesOfRow gO_ rfl rfl ⟨⟨rfl, rfl⟩, by decide, by decide⟩ rfl hl.1 rfl (Nat.le_of_ble_eq_true rfl) dX12_join_259 ⟨Nat.le_of_ble_eq_true rfl, Nat.le_of_ble_eq_true rfl⟩ (fun v w_ H locs hp hW => ?_)
                        obtain ⟨rfl, hU1, hN1⟩ := hp
                        have hU := hU.then hU1 (by first | decide | (simp; done) | (simp; omega))
                        have gO_ := hU1.get gO_ (by first | decide | (simp; done) | (simp; omega))
                        have gR_ := hU1.get gR_ (by first | decide | (simp; done) | (simp; omega))
                        have gZ_ := hU1.get gZ_ (by first | decide | (simp; done) | (simp; omega))
                        have gV_ := hU1.get gV_ (by first | decide | (simp; done) | (simp; omega))
                        have gU_ : w_[73]? = some (ad 73, .inl (cy 3, 1024, .inl (bf (mixF (fun d => (rowM (fun a => cmb hw (gx j a) (gx y a)) rb) (layP n od d n)) tu (2 ^ n))))) := hN1
                        clear hU1 hN1
                        refine W.eq (g2 := F0 m 262 ls [.int (nI (sumN (nodesB (fun d => (rowM (fun a => cmb hw (gx j a) (gx y a)) rb) (layP n od d n)) n) n))]) rfl ?_
                        refine lv_topi_to (y := nI (sumN (nodesB (fun d => (fun a => cmb hw (gx j a) (gx y a)) (layP n od d n)) n) n)) (congrArg nI (sumN_congr (fun j hj => nodesB_congr hj (fun i _ => row_at (layP_lt hod))))) ?_
                        subst hQ
                        exact j_iret (u := w_) S hr (rfl) hK hW dX12_join_262 ⟨by decide, by decide⟩ (⟨_, _, rfl, hU, gO_, gZ_, gV_, gR_, gU_⟩)
                      · refine lv_aload_n S.1 S.2.1 dX12_join_224 rfl (lv_at hl 0 rfl) ?_
                        refine j_get (ci := 11) (C := RX12) (T := TX12) (N := 17) (v := .ref (ad 66)) S (fun w h => List.mem_cons_of_mem _ (inG12 w h)) hK hW gO_ rfl 13 (by decide) (List.mem_cons_of_mem _ wfl_X12_52) (fun _ h9 => h9) rfl dX12_join_225 ?_
                        refine lv_iload S.1 S.2.1 dX12_join_228 (lv_at hl 1 rfl) ?_
                        refine j_aaldB (x := .ref (ad (67 + o))) S hK hW (hU.get gK (by first | decide | (simp; done) | (simp; omega))) (vp_in_nI (by omega) (by omega)) (nI_clamp (by omega)) (kp_at ho) dX12_join_230 ?_
                        refine lv_iload S.1 S.2.1 dX12_join_231 (lv_at hl 2 rfl) ?_
                        refine lv_aload_n S.1 S.2.1 dX12_join_233 rfl (lv_at hl 0 rfl) ?_
                        refine j_get (ci := 11) (C := RX12) (T := TX12) (N := 17) (v := .ref (ad 72)) S (fun w h => List.mem_cons_of_mem _ (inG12 w h)) hK hW gO_ rfl 15 (by decide) (List.mem_cons_of_mem _ wfl_X12_58) (fun _ h9 => h9) rfl dX12_join_234 ?_
                        refine lv_iload S.1 S.2.1 dX12_join_237 (lv_at hl 2 rfl) ?_
                        refine j_zald (x := bI ((rowM (fun a => cmb hw (gx j a) (gx y a)) rb) a2)) S hK hW gR_ (vp_in_nI (by omega) (by omega)) (nI_clamp (by omega)) (rfl) dX12_join_239 ?_
                        refine j_zast S hK hW gZ_ (vp_in_nI (by omega) (by omega)) (nI_clamp (by omega)) (bI_vnar _) dX12_join_240 (fun H locs w_ hU1 hN1 hW => ?_)
                        have hU := hU.then hU1 (by first | decide | (simp; done) | (simp; omega))
                        have gO_ := hU1.get gO_ (by first | decide | (simp; done) | (simp; omega))
                        have gR_ := hU1.get gR_ (by first | decide | (simp; done) | (simp; omega))
                        have gV_ := hU1.get gV_ (by first | decide | (simp; done) | (simp; omega))
                        have gU_ := hU1.get gU_ (by first | decide | (simp; done) | (simp; omega))
                        have gZ_ : w_[67 + o]? = some (ad (67 + o), .inl (cy 3, 1024, .inl (upd (bf (mixF (rowM (fun a => cmb hw (gx j a) (gx y a)) rb) (gx o) a2)) a2 (bI ((rowM (fun a => cmb hw (gx j a) (gx y a)) rb) a2))))) := hN1
                        clear hU1 hN1
                        have gZ_ : w_[67 + o]? = some (ad (67 + o), .inl (cy 3, 1024, .inl (bf (mixF (rowM (fun a => cmb hw (gx j a) (gx y a)) rb) (gx o) (a2 + 1))))) := by
                          rw [← mixF_upd (g := (rowM (fun a => cmb hw (gx j a) (gx y a)) rb)) (b := (rowM (fun a => cmb hw (gx j a) (gx y a)) rb) a2) rfl]; exact gZ_
                        refine lv_iinc (v := nI (a2 + 1)) (lv' := [(5, .int (nI (a2 + 1))), (0, .ref (ad 55)), (4, .int (nI o))]) S.1 S.2.1 dX12_join_241 hl (k := 2) rfl (nI_add _ 1) (by decide) rfl (fun ls hl => ?_)
                        refine lv_goto (tgt := 216) S.1 S.2.1 dX12_join_244 (by decide) ?_
                        exact ih216 _ (by omega) (a2 + 1) rfl (by omega) w_ hU gO_ gR_ gZ_ gV_ gU_ H locs ls hW (lv_sub hl [1, 2, 0] rfl)
                    exact L216 _ 0 rfl (Nat.zero_le _) w_ hU gO_ gR_ gZ_ gV_ gU_ H locs ls hW (lv_sub hl [1, 5, 0] rfl)
                  · refine lv_aload_n S.1 S.2.1 dX12_join_118 rfl (lv_at hl 0 rfl) ?_
                    refine j_get (ci := 11) (C := RX12) (T := TX12) (N := 17) (v := .ref (ad 66)) S (fun w h => List.mem_cons_of_mem _ (inG12 w h)) hK hW gO_ rfl 13 (by decide) (List.mem_cons_of_mem _ wfl_X12_52) (fun _ h9 => h9) rfl dX12_join_119 ?_
                    refine lv_iload_n S.1 S.2.1 dX12_join_122 rfl (lv_at hl 1 rfl) ?_
                    refine j_aaldB (x := .ref (ad (67 + j))) S hK hW (hU.get gK (by first | decide | (simp; done) | (simp; omega))) (vp_in_nI (by omega) (by omega)) (nI_clamp (by omega)) (kp_at hj) dX12_join_123 ?_
                    refine lv_iload S.1 S.2.1 dX12_join_124 (lv_at hl 5 rfl) ?_
                    refine j_zald (x := bI (gx j a1)) S hK hW gX_ (vp_in_nI (by omega) (by omega)) (nI_clamp (by omega)) (rfl) dX12_join_126 ?_
                    refine lv_istore (lv' := [(6, .int (bI (gx j a1))), (0, .ref (ad 55)), (1, .int (nI j)), (2, .int (nI y)), (3, .int (nI hw)), (4, .int (nI o)), (5, .int (nI a1))]) S.1 S.2.1 dX12_join_127 hl (by decide) rfl (fun ls hl => ?_)
                    refine lv_aload_n S.1 S.2.1 dX12_join_129 rfl (lv_at hl 1 rfl) ?_
                    refine j_get (ci := 11) (C := RX12) (T := TX12) (N := 17) (v := .ref (ad 66)) S (fun w h => List.mem_cons_of_mem _ (inG12 w h)) hK hW gO_ rfl 13 (by decide) (List.mem_cons_of_mem _ wfl_X12_52) (fun _ h9 => h9) rfl dX12_join_130 ?_
                    refine lv_iload_n S.1 S.2.1 dX12_join_133 rfl (lv_at hl 3 rfl) ?_
                    refine j_aaldB (x := .ref (ad (67 + y))) S hK hW (hU.get gK (by first | decide | (simp; done) | (simp; omega))) (vp_in_nI (by omega) (by omega)) (nI_clamp (by omega)) (kp_at hy) dX12_join_134 ?_
                    refine lv_iload S.1 S.2.1 dX12_join_135 (lv_at hl 6 rfl) ?_
                    refine j_zald (x := bI (gx y a1)) S hK hW gY_ (vp_in_nI (by omega) (by omega)) (nI_clamp (by omega)) (rfl) dX12_join_137 ?_
                    refine lv_istore (lv' := [(7, .int (bI (gx y a1))), (6, .int (bI (gx j a1))), (0, .ref (ad 55)), (1, .int (nI j)), (2, .int (nI y)), (3, .int (nI hw)), (4, .int (nI o)), (5, .int (nI a1))]) S.1 S.2.1 dX12_join_138 hl (by decide) rfl (fun ls hl => ?_)
                    refine lv_aload_n S.1 S.2.1 dX12_join_140 rfl (lv_at hl 2 rfl) ?_
                    refine j_get (ci := 11) (C := RX12) (T := TX12) (N := 17) (v := .ref (ad 72)) S (fun w h => List.mem_cons_of_mem _ (inG12 w h)) hK hW gO_ rfl 15 (by decide) (List.mem_cons_of_mem _ wfl_X12_58) (fun _ h9 => h9) rfl dX12_join_141 ?_
                    refine lv_iload S.1 S.2.1 dX12_join_144 (lv_at hl 7 rfl) ?_
                    refine lv_iload_n S.1 S.2.1 dX12_join_146 rfl (lv_at hl 5 rfl) ?_
                    refine lv_bipush (v := nI 97) S.1 S.2.1 dX12_join_147 (by decide) ?_
                    refine jn_cmp_ne (tgt := 170) S (by omega) (by omega) dX12_join_149 (by decide) (fun c_149 => ?_) (fun c_149 => ?_)
                    · refine lv_iload_n S.1 S.2.1 dX12_join_170 rfl (lv_at hl 5 rfl) ?_
                      refine lv_bipush (v := nI 111) S.1 S.2.1 dX12_join_171 (by decide) ?_
                      refine jn_cmp_ne (tgt := 194) S (by omega) (by omega) dX12_join_173 (by decide) (fun c_173 => ?_) (fun c_173 => ?_)
                      · refine lv_iload S.1 S.2.1 dX12_join_194 (lv_at hl 1 rfl) ?_
                        refine lv_iload S.1 S.2.1 dX12_join_196 (lv_at hl 0 rfl) ?_
                        refine lv_icmp_eq (tgt := 205) S.1 S.2.1 dX12_join_198 (by decide) (fun c_198 => ?_) (fun c_198 => ?_)
                        · refine lv_iconst (v := nI 0) S.1 S.2.1 dX12_join_205 (by decide) ?_
                          refine j_zast S hK hW gR_ (vp_in_nI (by omega) (by omega)) (nI_clamp (by omega)) (rfl) dX12_join_206 (fun H locs w_ hU1 hN1 hW => ?_)
                          have hU := hU.then hU1 (by first | decide | (simp; done) | (simp; omega))
                          have gO_ := hU1.get gO_ (by first | decide | (simp; done) | (simp; omega))
                          have gZ_ := hU1.get gZ_ (by first | decide | (simp; done) | (simp; omega))
                          have gV_ := hU1.get gV_ (by first | decide | (simp; done) | (simp; omega))
                          have gU_ := hU1.get gU_ (by first | decide | (simp; done) | (simp; omega))
                          have gX_ := hU1.get gX_ (by first | decide | (simp; done) | (simp; omega))
                          have gY_ := hU1.get gY_ (by first | decide | (simp; done) | (simp; omega))
                          have gR_ : w_[72]? = some (ad 72, .inl (cy 3, 1024, .inl (upd (bf (mixF (fun a => cmb hw (gx j a) (gx y a)) rb a1)) a1 (nI 0)))) := hN1
                          clear hU1 hN1
                          have gR_ : w_[72]? = some (ad 72, .inl (cy 3, 1024, .inl (bf (mixF (fun a => cmb hw (gx j a) (gx y a)) rb (a1 + 1))))) := by
                            first
                            | (rw [← mixF_upd (g := (fun a => cmb hw (gx j a) (gx y a))) (b := true) (by show cmb hw (gx j a1) (gx y a1) = true; first | (rw [cmb_a c_149, c_154, c_159]; rfl) | (rw [cmb_a c_149, c_154]; rfl) | (rw [cmb_o c_149 c_173, c_178]; rfl) | (rw [cmb_o c_149 c_173, c_178, c_183]; rfl) | (rw [cmb_x c_149 c_173, bI_inj.mp c_198, Bool.xor_self]) | (rw [cmb_x c_149 c_173]; exact xor_ne c_198))]; exact gR_)
                            | (rw [← mixF_upd (g := (fun a => cmb hw (gx j a) (gx y a))) (b := false) (by show cmb hw (gx j a1) (gx y a1) = false; first | (rw [cmb_a c_149, c_154, c_159]; rfl) | (rw [cmb_a c_149, c_154]; rfl) | (rw [cmb_o c_149 c_173, c_178]; rfl) | (rw [cmb_o c_149 c_173, c_178, c_183]; rfl) | (rw [cmb_x c_149 c_173, bI_inj.mp c_198, Bool.xor_self]) | (rw [cmb_x c_149 c_173]; exact xor_ne c_198))]; exact gR_)
                          refine lv_iinc (v := nI (a1 + 1)) (lv' := [(5, .int (nI (a1 + 1))), (7, .int (bI (gx y a1))), (6, .int (bI (gx j a1))), (0, .ref (ad 55)), (1, .int (nI j)), (2, .int (nI y)), (3, .int (nI hw)), (4, .int (nI o))]) S.1 S.2.1 dX12_join_207 hl (k := 7) rfl (nI_add _ 1) (by decide) rfl (fun ls hl => ?_)
                          refine lv_goto (tgt := 110) S.1 S.2.1 dX12_join_210 (by decide) ?_
                          exact ih110 _ (by omega) (a1 + 1) rfl (by omega) w_ hU gO_ gR_ gZ_ gV_ gU_ gX_ gY_ H locs ls hW (lv_sub hl [3, 4, 5, 6, 7, 0] rfl)
                        · refine lv_iconst (v := nI 1) S.1 S.2.1 dX12_join_201 (by decide) ?_
                          refine lv_goto (tgt := 206) S.1 S.2.1 dX12_join_202 (by decide) ?_
                          refine j_zast S hK hW gR_ (vp_in_nI (by omega) (by omega)) (nI_clamp (by omega)) (rfl) dX12_join_206 (fun H locs w_ hU1 hN1 hW => ?_)
                          have hU := hU.then hU1 (by first | decide | (simp; done) | (simp; omega))
                          have gO_ := hU1.get gO_ (by first | decide | (simp; done) | (simp; omega))
                          have gZ_ := hU1.get gZ_ (by first | decide | (simp; done) | (simp; omega))
                          have gV_ := hU1.get gV_ (by first | decide | (simp; done) | (simp; omega))
                          have gU_ := hU1.get gU_ (by first | decide | (simp; done) | (simp; omega))
                          have gX_ := hU1.get gX_ (by first | decide | (simp; done) | (simp; omega))
                          have gY_ := hU1.get gY_ (by first | decide | (simp; done) | (simp; omega))
                          have gR_ : w_[72]? = some (ad 72, .inl (cy 3, 1024, .inl (upd (bf (mixF (fun a => cmb hw (gx j a) (gx y a)) rb a1)) a1 (nI 1)))) := hN1
                          clear hU1 hN1
                          have gR_ : w_[72]? = some (ad 72, .inl (cy 3, 1024, .inl (bf (mixF (fun a => cmb hw (gx j a) (gx y a)) rb (a1 + 1))))) := by
                            first
                            | (rw [← mixF_upd (g := (fun a => cmb hw (gx j a) (gx y a))) (b := true) (by show cmb hw (gx j a1) (gx y a1) = true; first | (rw [cmb_a c_149, c_154, c_159]; rfl) | (rw [cmb_a c_149, c_154]; rfl) | (rw [cmb_o c_149 c_173, c_178]; rfl) | (rw [cmb_o c_149 c_173, c_178, c_183]; rfl) | (rw [cmb_x c_149 c_173, bI_inj.mp c_198, Bool.xor_self]) | (rw [cmb_x c_149 c_173]; exact xor_ne c_198))]; exact gR_)
                            | (rw [← mixF_upd (g := (fun a => cmb hw (gx j a) (gx y a))) (b := false) (by show cmb hw (gx j a1) (gx y a1) = false; first | (rw [cmb_a c_149, c_154, c_159]; rfl) | (rw [cmb_a c_149, c_154]; rfl) | (rw [cmb_o c_149 c_173, c_178]; rfl) | (rw [cmb_o c_149 c_173, c_178, c_183]; rfl) | (rw [cmb_x c_149 c_173, bI_inj.mp c_198, Bool.xor_self]) | (rw [cmb_x c_149 c_173]; exact xor_ne c_198))]; exact gR_)
                          refine lv_iinc (v := nI (a1 + 1)) (lv' := [(5, .int (nI (a1 + 1))), (7, .int (bI (gx y a1))), (6, .int (bI (gx j a1))), (0, .ref (ad 55)), (1, .int (nI j)), (2, .int (nI y)), (3, .int (nI hw)), (4, .int (nI o))]) S.1 S.2.1 dX12_join_207 hl (k := 7) rfl (nI_add _ 1) (by decide) rfl (fun ls hl => ?_)
                          refine lv_goto (tgt := 110) S.1 S.2.1 dX12_join_210 (by decide) ?_
                          exact ih110 _ (by omega) (a1 + 1) rfl (by omega) w_ hU gO_ gR_ gZ_ gV_ gU_ gX_ gY_ H locs ls hW (lv_sub hl [3, 4, 5, 6, 7, 0] rfl)
                      · refine lv_iload S.1 S.2.1 dX12_join_176 (lv_at hl 1 rfl) ?_
                        refine jb_if_ne (tgt := 186) S dX12_join_178 (by decide) (fun c_178 => ?_) (fun c_178 => ?_)
                        · refine lv_iconst (v := nI 1) S.1 S.2.1 dX12_join_186 (by decide) ?_
                          refine lv_goto (tgt := 206) S.1 S.2.1 dX12_join_187 (by decide) ?_
                          refine j_zast S hK hW gR_ (vp_in_nI (by omega) (by omega)) (nI_clamp (by omega)) (rfl) dX12_join_206 (fun H locs w_ hU1 hN1 hW => ?_)
                          have hU := hU.then hU1 (by first | decide | (simp; done) | (simp; omega))
                          have gO_ := hU1.get gO_ (by first | decide | (simp; done) | (simp; omega))
                          have gZ_ := hU1.get gZ_ (by first | decide | (simp; done) | (simp; omega))
                          have gV_ := hU1.get gV_ (by first | decide | (simp; done) | (simp; omega))
                          have gU_ := hU1.get gU_ (by first | decide | (simp; done) | (simp; omega))
                          have gX_ := hU1.get gX_ (by first | decide | (simp; done) | (simp; omega))
                          have gY_ := hU1.get gY_ (by first | decide | (simp; done) | (simp; omega))
                          have gR_ : w_[72]? = some (ad 72, .inl (cy 3, 1024, .inl (upd (bf (mixF (fun a => cmb hw (gx j a) (gx y a)) rb a1)) a1 (nI 1)))) := hN1
                          clear hU1 hN1
                          have gR_ : w_[72]? = some (ad 72, .inl (cy 3, 1024, .inl (bf (mixF (fun a => cmb hw (gx j a) (gx y a)) rb (a1 + 1))))) := by
                            first
                            | (rw [← mixF_upd (g := (fun a => cmb hw (gx j a) (gx y a))) (b := true) (by show cmb hw (gx j a1) (gx y a1) = true; first | (rw [cmb_a c_149, c_154, c_159]; rfl) | (rw [cmb_a c_149, c_154]; rfl) | (rw [cmb_o c_149 c_173, c_178]; rfl) | (rw [cmb_o c_149 c_173, c_178, c_183]; rfl) | (rw [cmb_x c_149 c_173, bI_inj.mp c_198, Bool.xor_self]) | (rw [cmb_x c_149 c_173]; exact xor_ne c_198))]; exact gR_)
                            | (rw [← mixF_upd (g := (fun a => cmb hw (gx j a) (gx y a))) (b := false) (by show cmb hw (gx j a1) (gx y a1) = false; first | (rw [cmb_a c_149, c_154, c_159]; rfl) | (rw [cmb_a c_149, c_154]; rfl) | (rw [cmb_o c_149 c_173, c_178]; rfl) | (rw [cmb_o c_149 c_173, c_178, c_183]; rfl) | (rw [cmb_x c_149 c_173, bI_inj.mp c_198, Bool.xor_self]) | (rw [cmb_x c_149 c_173]; exact xor_ne c_198))]; exact gR_)
                          refine lv_iinc (v := nI (a1 + 1)) (lv' := [(5, .int (nI (a1 + 1))), (7, .int (bI (gx y a1))), (6, .int (bI (gx j a1))), (0, .ref (ad 55)), (1, .int (nI j)), (2, .int (nI y)), (3, .int (nI hw)), (4, .int (nI o))]) S.1 S.2.1 dX12_join_207 hl (k := 7) rfl (nI_add _ 1) (by decide) rfl (fun ls hl => ?_)
                          refine lv_goto (tgt := 110) S.1 S.2.1 dX12_join_210 (by decide) ?_
                          exact ih110 _ (by omega) (a1 + 1) rfl (by omega) w_ hU gO_ gR_ gZ_ gV_ gU_ gX_ gY_ H locs ls hW (lv_sub hl [3, 4, 5, 6, 7, 0] rfl)
                        · refine lv_iload S.1 S.2.1 dX12_join_181 (lv_at hl 0 rfl) ?_
                          refine jb_if_eq (tgt := 190) S dX12_join_183 (by decide) (fun c_183 => ?_) (fun c_183 => ?_)
                          · refine lv_iconst (v := nI 0) S.1 S.2.1 dX12_join_190 (by decide) ?_
                            refine lv_goto (tgt := 206) S.1 S.2.1 dX12_join_191 (by decide) ?_
                            refine j_zast S hK hW gR_ (vp_in_nI (by omega) (by omega)) (nI_clamp (by omega)) (rfl) dX12_join_206 (fun H locs w_ hU1 hN1 hW => ?_)
                            have hU := hU.then hU1 (by first | decide | (simp; done) | (simp; omega))
                            have gO_ := hU1.get gO_ (by first | decide | (simp; done) | (simp; omega))
                            have gZ_ := hU1.get gZ_ (by first | decide | (simp; done) | (simp; omega))
                            have gV_ := hU1.get gV_ (by first | decide | (simp; done) | (simp; omega))
                            have gU_ := hU1.get gU_ (by first | decide | (simp; done) | (simp; omega))
                            have gX_ := hU1.get gX_ (by first | decide | (simp; done) | (simp; omega))
                            have gY_ := hU1.get gY_ (by first | decide | (simp; done) | (simp; omega))
                            have gR_ : w_[72]? = some (ad 72, .inl (cy 3, 1024, .inl (upd (bf (mixF (fun a => cmb hw (gx j a) (gx y a)) rb a1)) a1 (nI 0)))) := hN1
                            clear hU1 hN1
                            have gR_ : w_[72]? = some (ad 72, .inl (cy 3, 1024, .inl (bf (mixF (fun a => cmb hw (gx j a) (gx y a)) rb (a1 + 1))))) := by
                              first
                              | (rw [← mixF_upd (g := (fun a => cmb hw (gx j a) (gx y a))) (b := true) (by show cmb hw (gx j a1) (gx y a1) = true; first | (rw [cmb_a c_149, c_154, c_159]; rfl) | (rw [cmb_a c_149, c_154]; rfl) | (rw [cmb_o c_149 c_173, c_178]; rfl) | (rw [cmb_o c_149 c_173, c_178, c_183]; rfl) | (rw [cmb_x c_149 c_173, bI_inj.mp c_198, Bool.xor_self]) | (rw [cmb_x c_149 c_173]; exact xor_ne c_198))]; exact gR_)
                              | (rw [← mixF_upd (g := (fun a => cmb hw (gx j a) (gx y a))) (b := false) (by show cmb hw (gx j a1) (gx y a1) = false; first | (rw [cmb_a c_149, c_154, c_159]; rfl) | (rw [cmb_a c_149, c_154]; rfl) | (rw [cmb_o c_149 c_173, c_178]; rfl) | (rw [cmb_o c_149 c_173, c_178, c_183]; rfl) | (rw [cmb_x c_149 c_173, bI_inj.mp c_198, Bool.xor_self]) | (rw [cmb_x c_149 c_173]; exact xor_ne c_198))]; exact gR_)
                            refine lv_iinc (v := nI (a1 + 1)) (lv' := [(5, .int (nI (a1 + 1))), (7, .int (bI (gx y a1))), (6, .int (bI (gx j a1))), (0, .ref (ad 55)), (1, .int (nI j)), (2, .int (nI y)), (3, .int (nI hw)), (4, .int (nI o))]) S.1 S.2.1 dX12_join_207 hl (k := 7) rfl (nI_add _ 1) (by decide) rfl (fun ls hl => ?_)
                            refine lv_goto (tgt := 110) S.1 S.2.1 dX12_join_210 (by decide) ?_
                            exact ih110 _ (by omega) (a1 + 1) rfl (by omega) w_ hU gO_ gR_ gZ_ gV_ gU_ gX_ gY_ H locs ls hW (lv_sub hl [3, 4, 5, 6, 7, 0] rfl)
                          · refine lv_iconst (v := nI 1) S.1 S.2.1 dX12_join_186 (by decide) ?_
                            refine lv_goto (tgt := 206) S.1 S.2.1 dX12_join_187 (by decide) ?_
                            refine j_zast S hK hW gR_ (vp_in_nI (by omega) (by omega)) (nI_clamp (by omega)) (rfl) dX12_join_206 (fun H locs w_ hU1 hN1 hW => ?_)
                            have hU := hU.then hU1 (by first | decide | (simp; done) | (simp; omega))
                            have gO_ := hU1.get gO_ (by first | decide | (simp; done) | (simp; omega))
                            have gZ_ := hU1.get gZ_ (by first | decide | (simp; done) | (simp; omega))
                            have gV_ := hU1.get gV_ (by first | decide | (simp; done) | (simp; omega))
                            have gU_ := hU1.get gU_ (by first | decide | (simp; done) | (simp; omega))
                            have gX_ := hU1.get gX_ (by first | decide | (simp; done) | (simp; omega))
                            have gY_ := hU1.get gY_ (by first | decide | (simp; done) | (simp; omega))
                            have gR_ : w_[72]? = some (ad 72, .inl (cy 3, 1024, .inl (upd (bf (mixF (fun a => cmb hw (gx j a) (gx y a)) rb a1)) a1 (nI 1)))) := hN1
                            clear hU1 hN1
                            have gR_ : w_[72]? = some (ad 72, .inl (cy 3, 1024, .inl (bf (mixF (fun a => cmb hw (gx j a) (gx y a)) rb (a1 + 1))))) := by
                              first
                              | (rw [← mixF_upd (g := (fun a => cmb hw (gx j a) (gx y a))) (b := true) (by show cmb hw (gx j a1) (gx y a1) = true; first | (rw [cmb_a c_149, c_154, c_159]; rfl) | (rw [cmb_a c_149, c_154]; rfl) | (rw [cmb_o c_149 c_173, c_178]; rfl) | (rw [cmb_o c_149 c_173, c_178, c_183]; rfl) | (rw [cmb_x c_149 c_173, bI_inj.mp c_198, Bool.xor_self]) | (rw [cmb_x c_149 c_173]; exact xor_ne c_198))]; exact gR_)
                              | (rw [← mixF_upd (g := (fun a => cmb hw (gx j a) (gx y a))) (b := false) (by show cmb hw (gx j a1) (gx y a1) = false; first | (rw [cmb_a c_149, c_154, c_159]; rfl) | (rw [cmb_a c_149, c_154]; rfl) | (rw [cmb_o c_149 c_173, c_178]; rfl) | (rw [cmb_o c_149 c_173, c_178, c_183]; rfl) | (rw [cmb_x c_149 c_173, bI_inj.mp c_198, Bool.xor_self]) | (rw [cmb_x c_149 c_173]; exact xor_ne c_198))]; exact gR_)
                            refine lv_iinc (v := nI (a1 + 1)) (lv' := [(5, .int (nI (a1 + 1))), (7, .int (bI (gx y a1))), (6, .int (bI (gx j a1))), (0, .ref (ad 55)), (1, .int (nI j)), (2, .int (nI y)), (3, .int (nI hw)), (4, .int (nI o))]) S.1 S.2.1 dX12_join_207 hl (k := 7) rfl (nI_add _ 1) (by decide) rfl (fun ls hl => ?_)
                            refine lv_goto (tgt := 110) S.1 S.2.1 dX12_join_210 (by decide) ?_
                            exact ih110 _ (by omega) (a1 + 1) rfl (by omega) w_ hU gO_ gR_ gZ_ gV_ gU_ gX_ gY_ H locs ls hW (lv_sub hl [3, 4, 5, 6, 7, 0] rfl)
                    · refine lv_iload S.1 S.2.1 dX12_join_152 (lv_at hl 1 rfl) ?_
                      refine jb_if_eq (tgt := 166) S dX12_join_154 (by decide) (fun c_154 => ?_) (fun c_154 => ?_)
                      · refine lv_iconst (v := nI 0) S.1 S.2.1 dX12_join_166 (by decide) ?_
                        refine lv_goto (tgt := 206) S.1 S.2.1 dX12_join_167 (by decide) ?_
                        refine j_zast S hK hW gR_ (vp_in_nI (by omega) (by omega)) (nI_clamp (by omega)) (rfl) dX12_join_206 (fun H locs w_ hU1 hN1 hW => ?_)
                        have hU := hU.then hU1 (by first | decide | (simp; done) | (simp; omega))
                        have gO_ := hU1.get gO_ (by first | decide | (simp; done) | (simp; omega))
                        have gZ_ := hU1.get gZ_ (by first | decide | (simp; done) | (simp; omega))
                        have gV_ := hU1.get gV_ (by first | decide | (simp; done) | (simp; omega))
                        have gU_ := hU1.get gU_ (by first | decide | (simp; done) | (simp; omega))
                        have gX_ := hU1.get gX_ (by first | decide | (simp; done) | (simp; omega))
                        have gY_ := hU1.get gY_ (by first | decide | (simp; done) | (simp; omega))
                        have gR_ : w_[72]? = some (ad 72, .inl (cy 3, 1024, .inl (upd (bf (mixF (fun a => cmb hw (gx j a) (gx y a)) rb a1)) a1 (nI 0)))) := hN1
                        clear hU1 hN1
                        have gR_ : w_[72]? = some (ad 72, .inl (cy 3, 1024, .inl (bf (mixF (fun a => cmb hw (gx j a) (gx y a)) rb (a1 + 1))))) := by
                          first
                          | (rw [← mixF_upd (g := (fun a => cmb hw (gx j a) (gx y a))) (b := true) (by show cmb hw (gx j a1) (gx y a1) = true; first | (rw [cmb_a c_149, c_154, c_159]; rfl) | (rw [cmb_a c_149, c_154]; rfl) | (rw [cmb_o c_149 c_173, c_178]; rfl) | (rw [cmb_o c_149 c_173, c_178, c_183]; rfl) | (rw [cmb_x c_149 c_173, bI_inj.mp c_198, Bool.xor_self]) | (rw [cmb_x c_149 c_173]; exact xor_ne c_198))]; exact gR_)
                          | (rw [← mixF_upd (g := (fun a => cmb hw (gx j a) (gx y a))) (b := false) (by show cmb hw (gx j a1) (gx y a1) = false; first | (rw [cmb_a c_149, c_154, c_159]; rfl) | (rw [cmb_a c_149, c_154]; rfl) | (rw [cmb_o c_149 c_173, c_178]; rfl) | (rw [cmb_o c_149 c_173, c_178, c_183]; rfl) | (rw [cmb_x c_149 c_173, bI_inj.mp c_198, Bool.xor_self]) | (rw [cmb_x c_149 c_173]; exact xor_ne c_198))]; exact gR_)
                        refine lv_iinc (v := nI (a1 + 1)) (lv' := [(5, .int (nI (a1 + 1))), (7, .int (bI (gx y a1))), (6, .int (bI (gx j a1))), (0, .ref (ad 55)), (1, .int (nI j)), (2, .int (nI y)), (3, .int (nI hw)), (4, .int (nI o))]) S.1 S.2.1 dX12_join_207 hl (k := 7) rfl (nI_add _ 1) (by decide) rfl (fun ls hl => ?_)
                        refine lv_goto (tgt := 110) S.1 S.2.1 dX12_join_210 (by decide) ?_
                        exact ih110 _ (by omega) (a1 + 1) rfl (by omega) w_ hU gO_ gR_ gZ_ gV_ gU_ gX_ gY_ H locs ls hW (lv_sub hl [3, 4, 5, 6, 7, 0] rfl)
                      · refine lv_iload S.1 S.2.1 dX12_join_157 (lv_at hl 0 rfl) ?_
                        refine jb_if_eq (tgt := 166) S dX12_join_159 (by decide) (fun c_159 => ?_) (fun c_159 => ?_)
                        · refine lv_iconst (v := nI 0) S.1 S.2.1 dX12_join_166 (by decide) ?_
                          refine lv_goto (tgt := 206) S.1 S.2.1 dX12_join_167 (by decide) ?_
                          refine j_zast S hK hW gR_ (vp_in_nI (by omega) (by omega)) (nI_clamp (by omega)) (rfl) dX12_join_206 (fun H locs w_ hU1 hN1 hW => ?_)
                          have hU := hU.then hU1 (by first | decide | (simp; done) | (simp; omega))
                          have gO_ := hU1.get gO_ (by first | decide | (simp; done) | (simp; omega))
                          have gZ_ := hU1.get gZ_ (by first | decide | (simp; done) | (simp; omega))
                          have gV_ := hU1.get gV_ (by first | decide | (simp; done) | (simp; omega))
                          have gU_ := hU1.get gU_ (by first | decide | (simp; done) | (simp; omega))
                          have gX_ := hU1.get gX_ (by first | decide | (simp; done) | (simp; omega))
                          have gY_ := hU1.get gY_ (by first | decide | (simp; done) | (simp; omega))
                          have gR_ : w_[72]? = some (ad 72, .inl (cy 3, 1024, .inl (upd (bf (mixF (fun a => cmb hw (gx j a) (gx y a)) rb a1)) a1 (nI 0)))) := hN1
                          clear hU1 hN1
                          have gR_ : w_[72]? = some (ad 72, .inl (cy 3, 1024, .inl (bf (mixF (fun a => cmb hw (gx j a) (gx y a)) rb (a1 + 1))))) := by
                            first
                            | (rw [← mixF_upd (g := (fun a => cmb hw (gx j a) (gx y a))) (b := true) (by show cmb hw (gx j a1) (gx y a1) = true; first | (rw [cmb_a c_149, c_154, c_159]; rfl) | (rw [cmb_a c_149, c_154]; rfl) | (rw [cmb_o c_149 c_173, c_178]; rfl) | (rw [cmb_o c_149 c_173, c_178, c_183]; rfl) | (rw [cmb_x c_149 c_173, bI_inj.mp c_198, Bool.xor_self]) | (rw [cmb_x c_149 c_173]; exact xor_ne c_198))]; exact gR_)
                            | (rw [← mixF_upd (g := (fun a => cmb hw (gx j a) (gx y a))) (b := false) (by show cmb hw (gx j a1) (gx y a1) = false; first | (rw [cmb_a c_149, c_154, c_159]; rfl) | (rw [cmb_a c_149, c_154]; rfl) | (rw [cmb_o c_149 c_173, c_178]; rfl) | (rw [cmb_o c_149 c_173, c_178, c_183]; rfl) | (rw [cmb_x c_149 c_173, bI_inj.mp c_198, Bool.xor_self]) | (rw [cmb_x c_149 c_173]; exact xor_ne c_198))]; exact gR_)
                          refine lv_iinc (v := nI (a1 + 1)) (lv' := [(5, .int (nI (a1 + 1))), (7, .int (bI (gx y a1))), (6, .int (bI (gx j a1))), (0, .ref (ad 55)), (1, .int (nI j)), (2, .int (nI y)), (3, .int (nI hw)), (4, .int (nI o))]) S.1 S.2.1 dX12_join_207 hl (k := 7) rfl (nI_add _ 1) (by decide) rfl (fun ls hl => ?_)
                          refine lv_goto (tgt := 110) S.1 S.2.1 dX12_join_210 (by decide) ?_
                          exact ih110 _ (by omega) (a1 + 1) rfl (by omega) w_ hU gO_ gR_ gZ_ gV_ gU_ gX_ gY_ H locs ls hW (lv_sub hl [3, 4, 5, 6, 7, 0] rfl)
                        · refine lv_iconst (v := nI 1) S.1 S.2.1 dX12_join_162 (by decide) ?_
                          refine lv_goto (tgt := 206) S.1 S.2.1 dX12_join_163 (by decide) ?_
                          refine j_zast S hK hW gR_ (vp_in_nI (by omega) (by omega)) (nI_clamp (by omega)) (rfl) dX12_join_206 (fun H locs w_ hU1 hN1 hW => ?_)
                          have hU := hU.then hU1 (by first | decide | (simp; done) | (simp; omega))
                          have gO_ := hU1.get gO_ (by first | decide | (simp; done) | (simp; omega))
                          have gZ_ := hU1.get gZ_ (by first | decide | (simp; done) | (simp; omega))
                          have gV_ := hU1.get gV_ (by first | decide | (simp; done) | (simp; omega))
                          have gU_ := hU1.get gU_ (by first | decide | (simp; done) | (simp; omega))
                          have gX_ := hU1.get gX_ (by first | decide | (simp; done) | (simp; omega))
                          have gY_ := hU1.get gY_ (by first | decide | (simp; done) | (simp; omega))
                          have gR_ : w_[72]? = some (ad 72, .inl (cy 3, 1024, .inl (upd (bf (mixF (fun a => cmb hw (gx j a) (gx y a)) rb a1)) a1 (nI 1)))) := hN1
                          clear hU1 hN1
                          have gR_ : w_[72]? = some (ad 72, .inl (cy 3, 1024, .inl (bf (mixF (fun a => cmb hw (gx j a) (gx y a)) rb (a1 + 1))))) := by
                            first
                            | (rw [← mixF_upd (g := (fun a => cmb hw (gx j a) (gx y a))) (b := true) (by show cmb hw (gx j a1) (gx y a1) = true; first | (rw [cmb_a c_149, c_154, c_159]; rfl) | (rw [cmb_a c_149, c_154]; rfl) | (rw [cmb_o c_149 c_173, c_178]; rfl) | (rw [cmb_o c_149 c_173, c_178, c_183]; rfl) | (rw [cmb_x c_149 c_173, bI_inj.mp c_198, Bool.xor_self]) | (rw [cmb_x c_149 c_173]; exact xor_ne c_198))]; exact gR_)
                            | (rw [← mixF_upd (g := (fun a => cmb hw (gx j a) (gx y a))) (b := false) (by show cmb hw (gx j a1) (gx y a1) = false; first | (rw [cmb_a c_149, c_154, c_159]; rfl) | (rw [cmb_a c_149, c_154]; rfl) | (rw [cmb_o c_149 c_173, c_178]; rfl) | (rw [cmb_o c_149 c_173, c_178, c_183]; rfl) | (rw [cmb_x c_149 c_173, bI_inj.mp c_198, Bool.xor_self]) | (rw [cmb_x c_149 c_173]; exact xor_ne c_198))]; exact gR_)
                          refine lv_iinc (v := nI (a1 + 1)) (lv' := [(5, .int (nI (a1 + 1))), (7, .int (bI (gx y a1))), (6, .int (bI (gx j a1))), (0, .ref (ad 55)), (1, .int (nI j)), (2, .int (nI y)), (3, .int (nI hw)), (4, .int (nI o))]) S.1 S.2.1 dX12_join_207 hl (k := 7) rfl (nI_add _ 1) (by decide) rfl (fun ls hl => ?_)
                          refine lv_goto (tgt := 110) S.1 S.2.1 dX12_join_210 (by decide) ?_
                          exact ih110 _ (by omega) (a1 + 1) rfl (by omega) w_ hU gO_ gR_ gZ_ gV_ gU_ gX_ gY_ H locs ls hW (lv_sub hl [3, 4, 5, 6, 7, 0] rfl)
                exact L110 _ 0 rfl (Nat.zero_le _) w_ hU gO_ gR_ gZ_ gV_ gU_ gX_ gY_ H locs ls hW (lv_sub hl [1, 2, 3, 4, 5, 0] rfl)
              · exact absurd rfl c_98
          · refine lv_iload_n S.1 S.2.1 dX12_join_39 rfl (lv_at hl 3 rfl) ?_
            refine lv_bipush (v := nI 120) S.1 S.2.1 dX12_join_40 (by decide) ?_
            refine jn_cmp_eq (tgt := 51) S (by omega) (by omega) dX12_join_42 (by decide) (fun c_42 => ?_) (fun c_42 => ?_)
            · refine lv_aload_n S.1 S.2.1 dX12_join_51 rfl (lv_at hl 0 rfl) ?_
              refine j_get (ci := 11) (C := RX12) (T := TX12) (N := 17) (v := .ref (ad 71)) S (fun w h => List.mem_cons_of_mem _ (inG12 w h)) hK hW gO_ rfl 14 (by decide) (List.mem_cons_of_mem _ wfl_X12_55) (fun _ h9 => h9) rfl dX12_join_52 ?_
              refine lv_iload_n S.1 S.2.1 dX12_join_55 rfl (lv_at hl 1 rfl) ?_
              refine j_iald (x := nI n) S hK hW gV_ (vp_in_nI (by omega) (by omega)) (nI_clamp (by omega)) (hkv) dX12_join_56 ?_
              refine jn_if_lt (tgt := 69) S (by omega) dX12_join_57 (by decide) ?_
              refine lv_aload_n S.1 S.2.1 dX12_join_60 rfl (lv_at hl 0 rfl) ?_
              refine j_get (ci := 11) (C := RX12) (T := TX12) (N := 17) (v := .ref (ad 71)) S (fun w h => List.mem_cons_of_mem _ (inG12 w h)) hK hW gO_ rfl 14 (by decide) (List.mem_cons_of_mem _ wfl_X12_55) (fun _ h9 => h9) rfl dX12_join_61 ?_
              refine lv_iload_n S.1 S.2.1 dX12_join_64 rfl (lv_at hl 2 rfl) ?_
              refine j_iald (x := nI n) S hK hW gV_ (vp_in_nI (by omega) (by omega)) (nI_clamp (by omega)) (hkw) dX12_join_65 ?_
              refine jn_if_ge (tgt := 75) S (by omega) dX12_join_66 (by decide) ?_
              refine lv_aload_n S.1 S.2.1 dX12_join_75 rfl (lv_at hl 0 rfl) ?_
              refine j_get (ci := 11) (C := RX12) (T := TX12) (N := 17) (v := .ref (ad 71)) S (fun w h => List.mem_cons_of_mem _ (inG12 w h)) hK hW gO_ rfl 14 (by decide) (List.mem_cons_of_mem _ wfl_X12_55) (fun _ h9 => h9) rfl dX12_join_76 ?_
              refine lv_iload_n S.1 S.2.1 dX12_join_79 rfl (lv_at hl 1 rfl) ?_
              refine j_iald (x := nI n) S hK hW gV_ (vp_in_nI (by omega) (by omega)) (nI_clamp (by omega)) (hkv) dX12_join_80 ?_
              refine lv_aload_n S.1 S.2.1 dX12_join_81 rfl (lv_at hl 0 rfl) ?_
              refine j_get (ci := 11) (C := RX12) (T := TX12) (N := 17) (v := .int (nI n)) S (fun w h => List.mem_cons_of_mem _ (inG12 w h)) hK hW gO_ rfl 11 (by decide) (List.mem_cons_of_mem _ wfl_X12_64) (fun _ h9 => h9) rfl dX12_join_82 ?_
              refine jn_cmp_ne (tgt := 101) S (by omega) (by omega) dX12_join_85 (by decide) (fun c_85 => ?_) (fun c_85 => ?_)
              · exact absurd rfl c_85
              · refine lv_aload_n S.1 S.2.1 dX12_join_88 rfl (lv_at hl 0 rfl) ?_
                refine j_get (ci := 11) (C := RX12) (T := TX12) (N := 17) (v := .ref (ad 71)) S (fun w h => List.mem_cons_of_mem _ (inG12 w h)) hK hW gO_ rfl 14 (by decide) (List.mem_cons_of_mem _ wfl_X12_55) (fun _ h9 => h9) rfl dX12_join_89 ?_
                refine lv_iload_n S.1 S.2.1 dX12_join_92 rfl (lv_at hl 2 rfl) ?_
                refine j_iald (x := nI n) S hK hW gV_ (vp_in_nI (by omega) (by omega)) (nI_clamp (by omega)) (hkw) dX12_join_93 ?_
                refine lv_aload_n S.1 S.2.1 dX12_join_94 rfl (lv_at hl 0 rfl) ?_
                refine j_get (ci := 11) (C := RX12) (T := TX12) (N := 17) (v := .int (nI n)) S (fun w h => List.mem_cons_of_mem _ (inG12 w h)) hK hW gO_ rfl 11 (by decide) (List.mem_cons_of_mem _ wfl_X12_64) (fun _ h9 => h9) rfl dX12_join_95 ?_
                refine jn_cmp_eq (tgt := 107) S (by omega) (by omega) dX12_join_98 (by decide) (fun c_98 => ?_) (fun c_98 => ?_)
                · refine lv_iconst (v := nI 0) S.1 S.2.1 dX12_join_107 (by decide) ?_
                  refine lv_istore (lv' := [(5, .int (nI 0)), (0, .ref (ad 55)), (1, .int (nI j)), (2, .int (nI y)), (3, .int (nI hw)), (4, .int (nI o))]) S.1 S.2.1 dX12_join_108 hl (by decide) rfl (fun ls hl => ?_)
                  have gR_ : w_[72]? = some (ad 72, .inl (cy 3, 1024, .inl (bf (mixF (fun a => cmb hw (gx j a) (gx y a)) rb 0)))) := by
                    rw [mixF_0]; exact gR_
                  have L110 : ∀ (k : Nat) (a1 : Nat), 1024 - a1 = k → (a1 ≤ 1024) → ∀ (w_ : va_W), jU w w_ [55, 67 + o, 71, 72, 73] → (w_[55]? = some (ad 55, .inr (11, [.int (nI 0), .ref (ad 56), .ref (ad 57), .ref (ad 58), .ref (ad 59), .ref (ad 60), .ref (ad 61), .ref (ad 62), .ref (ad 63), .ref (ad 64), .ref (ad 65), .int (nI n), .int (nI nc), .ref (ad 66), .ref (ad 71), .ref (ad 72), .ref (ad 73)]))) → (w_[72]? = some (ad 72, .inl (cy 3, 1024, .inl (bf (mixF (fun a => cmb hw (gx j a) (gx y a)) rb a1))))) → (w_[67 + o]? = some (ad (67 + o), .inl (cy 3, 1024, .inl (bf (gx o))))) → (w_[71]? = some (ad 71, .inl (cy 0, 4, .inl kv))) → (w_[73]? = some (ad 73, .inl (cy 3, 1024, .inl (bf tu)))) → (w_[67 + j]? = some (ad (67 + j), .inl (cy 3, 1024, .inl (bf (gx j))))) → (w_[67 + y]? = some (ad (67 + y), .inl (cy 3, 1024, .inl (bf (gx y))))) → ∀ (H : Heap) (locs : List Loc) (ls : Array Slot), jW D A s.heap w_ H locs → lv_has ls 8 [(0, .ref (ad 55)), (1, .int (nI j)), (2, .int (nI y)), (3, .int (nI hw)), (4, .int (nI o)), (5, .int (nI a1))] → W p l e (jR 5 0 0) s m args below meth c H locs 0 0 Q (F0 m 110 ls []) := by
                    intro k
                    induction k using Nat.strongRecOn with
                    | ind k ih110 =>
                    intro a1 hk ha1 w_ hU gO_ gR_ gZ_ gV_ gU_ gX_ gY_ H locs ls hW hl
                    subst hk
                    refine lv_iload S.1 S.2.1 dX12_join_110 (lv_at hl 5 rfl) ?_
                    refine lv_sipush (v := nI 1024) S.1 S.2.1 dX12_join_112 (by decide) ?_
                    refine jn_cmp_ge (tgt := 213) S (by omega) (by omega) dX12_join_115 (by decide) (fun c_115 => ?_) (fun c_115 => ?_)
                    · have ea : a1 = 1024 := by omega
                      subst ea
                      refine lv_iconst (v := nI 0) S.1 S.2.1 dX12_join_213 (by decide) ?_
                      refine lv_istore (lv' := [(5, .int (nI 0)), (0, .ref (ad 55)), (1, .int (nI j)), (2, .int (nI y)), (3, .int (nI hw)), (4, .int (nI o))]) S.1 S.2.1 dX12_join_214 hl (by decide) rfl (fun ls hl => ?_)
                      have gR_ : w_[72]? = some (ad 72, .inl (cy 3, 1024, .inl (bf (rowM (fun a => cmb hw (gx j a) (gx y a)) rb)))) := by
                        exact gR_
                      have gZ_ : w_[67 + o]? = some (ad (67 + o), .inl (cy 3, 1024, .inl (bf (mixF (rowM (fun a => cmb hw (gx j a) (gx y a)) rb) (gx o) 0)))) := by
                        rw [mixF_0]; exact gZ_
                      have L216 : ∀ (k : Nat) (a2 : Nat), 1024 - a2 = k → (a2 ≤ 1024) → ∀ (w_ : va_W), jU w w_ [55, 67 + o, 71, 72, 73] → (w_[55]? = some (ad 55, .inr (11, [.int (nI 0), .ref (ad 56), .ref (ad 57), .ref (ad 58), .ref (ad 59), .ref (ad 60), .ref (ad 61), .ref (ad 62), .ref (ad 63), .ref (ad 64), .ref (ad 65), .int (nI n), .int (nI nc), .ref (ad 66), .ref (ad 71), .ref (ad 72), .ref (ad 73)]))) → (w_[72]? = some (ad 72, .inl (cy 3, 1024, .inl (bf (rowM (fun a => cmb hw (gx j a) (gx y a)) rb))))) → (w_[67 + o]? = some (ad (67 + o), .inl (cy 3, 1024, .inl (bf (mixF (rowM (fun a => cmb hw (gx j a) (gx y a)) rb) (gx o) a2))))) → (w_[71]? = some (ad 71, .inl (cy 0, 4, .inl kv))) → (w_[73]? = some (ad 73, .inl (cy 3, 1024, .inl (bf tu)))) → ∀ (H : Heap) (locs : List Loc) (ls : Array Slot), jW D A s.heap w_ H locs → lv_has ls 8 [(0, .ref (ad 55)), (4, .int (nI o)), (5, .int (nI a2))] → W p l e (jR 5 0 0) s m args below meth c H locs 0 0 Q (F0 m 216 ls []) := by
                        intro k
                        induction k using Nat.strongRecOn with
                        | ind k ih216 =>
                        intro a2 hk ha2 w_ hU gO_ gR_ gZ_ gV_ gU_ H locs ls hW hl
                        subst hk
                        refine lv_iload S.1 S.2.1 dX12_join_216 (lv_at hl 2 rfl) ?_
                        refine lv_sipush (v := nI 1024) S.1 S.2.1 dX12_join_218 (by decide) ?_
                        refine jn_cmp_ge (tgt := 247) S (by omega) (by omega) dX12_join_221 (by decide) (fun c_221 => ?_) (fun c_221 => ?_)
                        · have eb : a2 = 1024 := by omega
                          subst eb
                          refine lv_aload_n S.1 S.2.1 dX12_join_247 rfl (lv_at hl 0 rfl) ?_
                          refine j_get (ci := 11) (C := RX12) (T := TX12) (N := 17) (v := .ref (ad 71)) S (fun w h => List.mem_cons_of_mem _ (inG12 w h)) hK hW gO_ rfl 14 (by decide) (List.mem_cons_of_mem _ wfl_X12_55) (fun _ h9 => h9) rfl dX12_join_248 ?_
                          refine lv_iload S.1 S.2.1 dX12_join_251 (lv_at hl 1 rfl) ?_
                          refine lv_aload_n S.1 S.2.1 dX12_join_253 rfl (lv_at hl 0 rfl) ?_
                          refine j_get (ci := 11) (C := RX12) (T := TX12) (N := 17) (v := .int (nI n)) S (fun w h => List.mem_cons_of_mem _ (inG12 w h)) hK hW gO_ rfl 11 (by decide) (List.mem_cons_of_mem _ wfl_X12_64) (fun _ h9 => h9) rfl dX12_join_254 ?_
                          refine j_iast S hK hW gV_ (vp_in_nI (by omega) (by omega)) (nI_clamp (by omega)) dX12_join_257 (fun H locs w_ hU1 hN1 hW => ?_)
                          have hU := hU.then hU1 (by first | decide | (simp; done) | (simp; omega))
                          have gO_ := hU1.get gO_ (by first | decide | (simp; done) | (simp; omega))
                          have gR_ := hU1.get gR_ (by first | decide | (simp; done) | (simp; omega))
                          have gZ_ := hU1.get gZ_ (by first | decide | (simp; done) | (simp; omega))
                          have gU_ := hU1.get gU_ (by first | decide | (simp; done) | (simp; omega))
                          have gV_ : w_[71]? = some (ad 71, .inl (cy 0, 4, .inl (upd kv o (nI n)))) := hN1
                          clear hU1 hN1
                          refine lv_aload_n S.1 S.2.1 dX12_join_258 rfl (lv_at hl 0 rfl) ?_
                          refine j_callV (k := 55) (ci := 11) (q := (RX12, TX12, 17)) (As := []) (rest := []) S hK hA hW (c_X12_nodesOfRow l D cy ad 0 n nc od (rowM (fun a => cmb hw (gx j a) (gx y a)) rb) tu gO_ (hU.get gD (by first | decide | (simp; done) | (simp; omega))) gR_ gU_   (by omega) (hod)) (jgo wm_X12_153) yk_X12_nodesOfRow gO_ rfl rfl ⟨⟨rfl, rfl⟩, by decide, by decide⟩ rfl hl.1 rfl (Nat.le_of_ble_eq_true rfl) dX12_join_259 ⟨Nat.le_of_ble_eq_true rfl, Nat.le_of_ble_eq_true rfl⟩ (fun v w_ H locs hp hW => ?_)
                          obtain ⟨rfl, hU1, hN1⟩ := hp
                          have hU := hU.then hU1 (by first | decide | (simp; done) | (simp; omega))
                          have gO_ := hU1.get gO_ (by first | decide | (simp; done) | (simp; omega))
                          have gR_ := hU1.get gR_ (by first | decide | (simp; done) | (simp; omega))
                          have gZ_ := hU1.get gZ_ (by first | decide | (simp; done) | (simp; omega))
                          have gV_ := hU1.get gV_ (by first | decide | (simp; done) | (simp; omega))
                          have gU_ : w_[73]? = some (ad 73, .inl (cy 3, 1024, .inl (bf (mixF (fun d => (rowM (fun a => cmb hw (gx j a) (gx y a)) rb) (layP n od d n)) tu (2 ^ n))))) := hN1
                          clear hU1 hN1
                          refine W.eq (g2 := F0 m 262 ls [.int (nI (sumN (nodesB (fun d => (rowM (fun a => cmb hw (gx j a) (gx y a)) rb) (layP n od d n)) n) n))]) rfl ?_
                          refine lv_topi_to (y := nI (sumN (nodesB (fun d => (fun a => cmb hw (gx j a) (gx y a)) (layP n od d n)) n) n)) (congrArg nI (sumN_congr (fun j hj => nodesB_congr hj (fun i _ => row_at (layP_lt hod))))) ?_
                          subst hQ
                          exact j_iret (u := w_) S hr (rfl) hK hW dX12_join_262 ⟨by decide, by decide⟩ (⟨_, _, rfl, hU, gO_, gZ_, gV_, gR_, gU_⟩)
                        · refine lv_aload_n S.1 S.2.1 dX12_join_224 rfl (lv_at hl 0 rfl) ?_
                          refine j_get (ci := 11) (C := RX12) (T := TX12) (N := 17) (v := .ref (ad 66)) S (fun w h => List.mem_cons_of_mem _ (inG12 w h)) hK hW gO_ rfl 13 (by decide) (List.mem_cons_of_mem _ wfl_X12_52) (fun _ h9 => h9) rfl dX12_join_225 ?_
                          refine lv_iload S.1 S.2.1 dX12_join_228 (lv_at hl 1 rfl) ?_
                          refine j_aaldB (x := .ref (ad (67 + o))) S hK hW (hU.get gK (by first | decide | (simp; done) | (simp; omega))) (vp_in_nI (by omega) (by omega)) (nI_clamp (by omega)) (kp_at ho) dX12_join_230 ?_
                          refine lv_iload S.1 S.2.1 dX12_join_231 (lv_at hl 2 rfl) ?_
                          refine lv_aload_n S.1 S.2.1 dX12_join_233 rfl (lv_at hl 0 rfl) ?_
                          refine j_get (ci := 11) (C := RX12) (T := TX12) (N := 17) (v := .ref (ad 72)) S (fun w h => List.mem_cons_of_mem _ (inG12 w h)) hK hW gO_ rfl 15 (by decide) (List.mem_cons_of_mem _ wfl_X12_58) (fun _ h9 => h9) rfl dX12_join_234 ?_
                          refine lv_iload S.1 S.2.1 dX12_join_237 (lv_at hl 2 rfl) ?_
                          refine j_zald (x := bI ((rowM (fun a => cmb hw (gx j a) (gx y a)) rb) a2)) S hK hW gR_ (vp_in_nI (by omega) (by omega)) (nI_clamp (by omega)) (rfl) dX12_join_239 ?_
                          refine j_zast S hK hW gZ_ (vp_in_nI (by omega) (by omega)) (nI_clamp (by omega)) (bI_vnar _) dX12_join_240 (fun H locs w_ hU1 hN1 hW => ?_)
                          have hU := hU.then hU1 (by first | decide | (simp; done) | (simp; omega))
                          have gO_ := hU1.get gO_ (by first | decide | (simp; done) | (simp; omega))
                          have gR_ := hU1.get gR_ (by first | decide | (simp; done) | (simp; omega))
                          have gV_ := hU1.get gV_ (by first | decide | (simp; done) | (simp; omega))
                          have gU_ := hU1.get gU_ (by first | decide | (simp; done) | (simp; omega))
                          have gZ_ : w_[67 + o]? = some (ad (67 + o), .inl (cy 3, 1024, .inl (upd (bf (mixF (rowM (fun a => cmb hw (gx j a) (gx y a)) rb) (gx o) a2)) a2 (bI ((rowM (fun a => cmb hw (gx j a) (gx y a)) rb) a2))))) := hN1
                          clear hU1 hN1
                          have gZ_ : w_[67 + o]? = some (ad (67 + o), .inl (cy 3, 1024, .inl (bf (mixF (rowM (fun a => cmb hw (gx j a) (gx y a)) rb) (gx o) (a2 + 1))))) := by
                            rw [← mixF_upd (g := (rowM (fun a => cmb hw (gx j a) (gx y a)) rb)) (b := (rowM (fun a => cmb hw (gx j a) (gx y a)) rb) a2) rfl]; exact gZ_
                          refine lv_iinc (v := nI (a2 + 1)) (lv' := [(5, .int (nI (a2 + 1))), (0, .ref (ad 55)), (4, .int (nI o))]) S.1 S.2.1 dX12_join_241 hl (k := 2) rfl (nI_add _ 1) (by decide) rfl (fun ls hl => ?_)
                          refine lv_goto (tgt := 216) S.1 S.2.1 dX12_join_244 (by decide) ?_
                          exact ih216 _ (by omega) (a2 + 1) rfl (by omega) w_ hU gO_ gR_ gZ_ gV_ gU_ H locs ls hW (lv_sub hl [1, 2, 0] rfl)
                      exact L216 _ 0 rfl (Nat.zero_le _) w_ hU gO_ gR_ gZ_ gV_ gU_ H locs ls hW (lv_sub hl [1, 5, 0] rfl)
                    · refine lv_aload_n S.1 S.2.1 dX12_join_118 rfl (lv_at hl 0 rfl) ?_
                      refine j_get (ci := 11) (C := RX12) (T := TX12) (N := 17) (v := .ref (ad 66)) S (fun w h => List.mem_cons_of_mem _ (inG12 w h)) hK hW gO_ rfl 13 (by decide) (List.mem_cons_of_mem _ wfl_X12_52) (fun _ h9 => h9) rfl dX12_join_119 ?_
                      refine lv_iload_n S.1 S.2.1 dX12_join_122 rfl (lv_at hl 1 rfl) ?_
                      refine j_aaldB (x := .ref (ad (67 + j))) S hK hW (hU.get gK (by first | decide | (simp; done) | (simp; omega))) (vp_in_nI (by omega) (by omega)) (nI_clamp (by omega)) (kp_at hj) dX12_join_123 ?_
                      refine lv_iload S.1 S.2.1 dX12_join_124 (lv_at hl 5 rfl) ?_
                      refine j_zald (x := bI (gx j a1)) S hK hW gX_ (vp_in_nI (by omega) (by omega)) (nI_clamp (by omega)) (rfl) dX12_join_126 ?_
                      refine lv_istore (lv' := [(6, .int (bI (gx j a1))), (0, .ref (ad 55)), (1, .int (nI j)), (2, .int (nI y)), (3, .int (nI hw)), (4, .int (nI o)), (5, .int (nI a1))]) S.1 S.2.1 dX12_join_127 hl (by decide) rfl (fun ls hl => ?_)
                      refine lv_aload_n S.1 S.2.1 dX12_join_129 rfl (lv_at hl 1 rfl) ?_
                      refine j_get (ci := 11) (C := RX12) (T := TX12) (N := 17) (v := .ref (ad 66)) S (fun w h => List.mem_cons_of_mem _ (inG12 w h)) hK hW gO_ rfl 13 (by decide) (List.mem_cons_of_mem _ wfl_X12_52) (fun _ h9 => h9) rfl dX12_join_130 ?_
                      refine lv_iload_n S.1 S.2.1 dX12_join_133 rfl (lv_at hl 3 rfl) ?_
                      refine j_aaldB (x := .ref (ad (67 + y))) S hK hW (hU.get gK (by first | decide | (simp; done) | (simp; omega))) (vp_in_nI (by omega) (by omega)) (nI_clamp (by omega)) (kp_at hy) dX12_join_134 ?_
                      refine lv_iload S.1 S.2.1 dX12_join_135 (lv_at hl 6 rfl) ?_
                      refine j_zald (x := bI (gx y a1)) S hK hW gY_ (vp_in_nI (by omega) (by omega)) (nI_clamp (by omega)) (rfl) dX12_join_137 ?_
                      refine lv_istore (lv' := [(7, .int (bI (gx y a1))), (6, .int (bI (gx j a1))), (0, .ref (ad 55)), (1, .int (nI j)), (2, .int (nI y)), (3, .int (nI hw)), (4, .int (nI o)), (5, .int (nI a1))]) S.1 S.2.1 dX12_join_138 hl (by decide) rfl (fun ls hl => ?_)
                      refine lv_aload_n S.1 S.2.1 dX12_join_140 rfl (lv_at hl 2 rfl) ?_
                      refine j_get (ci := 11) (C := RX12) (T := TX12) (N := 17) (v := .ref (ad 72)) S (fun w h => List.mem_cons_of_mem _ (inG12 w h)) hK hW gO_ rfl 15 (by decide) (List.mem_cons_of_mem _ wfl_X12_58) (fun _ h9 => h9) rfl dX12_join_141 ?_
                      refine lv_iload S.1 S.2.1 dX12_join_144 (lv_at hl 7 rfl) ?_
                      refine lv_iload_n S.1 S.2.1 dX12_join_146 rfl (lv_at hl 5 rfl) ?_
                      refine lv_bipush (v := nI 97) S.1 S.2.1 dX12_join_147 (by decide) ?_
                      refine jn_cmp_ne (tgt := 170) S (by omega) (by omega) dX12_join_149 (by decide) (fun c_149 => ?_) (fun c_149 => ?_)
                      · refine lv_iload_n S.1 S.2.1 dX12_join_170 rfl (lv_at hl 5 rfl) ?_
                        refine lv_bipush (v := nI 111) S.1 S.2.1 dX12_join_171 (by decide) ?_
                        refine jn_cmp_ne (tgt := 194) S (by omega) (by omega) dX12_join_173 (by decide) (fun c_173 => ?_) (fun c_173 => ?_)
                        · refine lv_iload S.1 S.2.1 dX12_join_194 (lv_at hl 1 rfl) ?_
                          refine lv_iload S.1 S.2.1 dX12_join_196 (lv_at hl 0 rfl) ?_
                          refine lv_icmp_eq (tgt := 205) S.1 S.2.1 dX12_join_198 (by decide) (fun c_198 => ?_) (fun c_198 => ?_)
                          · refine lv_iconst (v := nI 0) S.1 S.2.1 dX12_join_205 (by decide) ?_
                            refine j_zast S hK hW gR_ (vp_in_nI (by omega) (by omega)) (nI_clamp (by omega)) (rfl) dX12_join_206 (fun H locs w_ hU1 hN1 hW => ?_)
                            have hU := hU.then hU1 (by first | decide | (simp; done) | (simp; omega))
                            have gO_ := hU1.get gO_ (by first | decide | (simp; done) | (simp; omega))
                            have gZ_ := hU1.get gZ_ (by first | decide | (simp; done) | (simp; omega))
                            have gV_ := hU1.get gV_ (by first | decide | (simp; done) | (simp; omega))
                            have gU_ := hU1.get gU_ (by first | decide | (simp; done) | (simp; omega))
                            have gX_ := hU1.get gX_ (by first | decide | (simp; done) | (simp; omega))
                            have gY_ := hU1.get gY_ (by first | decide | (simp; done) | (simp; omega))
                            have gR_ : w_[72]? = some (ad 72, .inl (cy 3, 1024, .inl (upd (bf (mixF (fun a => cmb hw (gx j a) (gx y a)) rb a1)) a1 (nI 0)))) := hN1
                            clear hU1 hN1
                            have gR_ : w_[72]? = some (ad 72, .inl (cy 3, 1024, .inl (bf (mixF (fun a => cmb hw (gx j a) (gx y a)) rb (a1 + 1))))) := by
                              first
                              | (rw [← mixF_upd (g := (fun a => cmb hw (gx j a) (gx y a))) (b := true) (by show cmb hw (gx j a1) (gx y a1) = true; first | (rw [cmb_a c_149, c_154, c_159]; rfl) | (rw [cmb_a c_149, c_154]; rfl) | (rw [cmb_o c_149 c_173, c_178]; rfl) | (rw [cmb_o c_149 c_173, c_178, c_183]; rfl) | (rw [cmb_x c_149 c_173, bI_inj.mp c_198, Bool.xor_self]) | (rw [cmb_x c_149 c_173]; exact xor_ne c_198))]; exact gR_)
                              | (rw [← mixF_upd (g := (fun a => cmb hw (gx j a) (gx y a))) (b := false) (by show cmb hw (gx j a1) (gx y a1) = false; first | (rw [cmb_a c_149, c_154, c_159]; rfl) | (rw [cmb_a c_149, c_154]; rfl) | (rw [cmb_o c_149 c_173, c_178]; rfl) | (rw [cmb_o c_149 c_173, c_178, c_183]; rfl) | (rw [cmb_x c_149 c_173, bI_inj.mp c_198, Bool.xor_self]) | (rw [cmb_x c_149 c_173]; exact xor_ne c_198))]; exact gR_)
                            refine lv_iinc (v := nI (a1 + 1)) (lv' := [(5, .int (nI (a1 + 1))), (7, .int (bI (gx y a1))), (6, .int (bI (gx j a1))), (0, .ref (ad 55)), (1, .int (nI j)), (2, .int (nI y)), (3, .int (nI hw)), (4, .int (nI o))]) S.1 S.2.1 dX12_join_207 hl (k := 7) rfl (nI_add _ 1) (by decide) rfl (fun ls hl => ?_)
                            refine lv_goto (tgt := 110) S.1 S.2.1 dX12_join_210 (by decide) ?_
                            exact ih110 _ (by omega) (a1 + 1) rfl (by omega) w_ hU gO_ gR_ gZ_ gV_ gU_ gX_ gY_ H locs ls hW (lv_sub hl [3, 4, 5, 6, 7, 0] rfl)
                          · refine lv_iconst (v := nI 1) S.1 S.2.1 dX12_join_201 (by decide) ?_
                            refine lv_goto (tgt := 206) S.1 S.2.1 dX12_join_202 (by decide) ?_
                            refine j_zast S hK hW gR_ (vp_in_nI (by omega) (by omega)) (nI_clamp (by omega)) (rfl) dX12_join_206 (fun H locs w_ hU1 hN1 hW => ?_)
                            have hU := hU.then hU1 (by first | decide | (simp; done) | (simp; omega))
                            have gO_ := hU1.get gO_ (by first | decide | (simp; done) | (simp; omega))
                            have gZ_ := hU1.get gZ_ (by first | decide | (simp; done) | (simp; omega))
                            have gV_ := hU1.get gV_ (by first | decide | (simp; done) | (simp; omega))
                            have gU_ := hU1.get gU_ (by first | decide | (simp; done) | (simp; omega))
                            have gX_ := hU1.get gX_ (by first | decide | (simp; done) | (simp; omega))
                            have gY_ := hU1.get gY_ (by first | decide | (simp; done) | (simp; omega))
                            have gR_ : w_[72]? = some (ad 72, .inl (cy 3, 1024, .inl (upd (bf (mixF (fun a => cmb hw (gx j a) (gx y a)) rb a1)) a1 (nI 1)))) := hN1
                            clear hU1 hN1
                            have gR_ : w_[72]? = some (ad 72, .inl (cy 3, 1024, .inl (bf (mixF (fun a => cmb hw (gx j a) (gx y a)) rb (a1 + 1))))) := by
                              first
                              | (rw [← mixF_upd (g := (fun a => cmb hw (gx j a) (gx y a))) (b := true) (by show cmb hw (gx j a1) (gx y a1) = true; first | (rw [cmb_a c_149, c_154, c_159]; rfl) | (rw [cmb_a c_149, c_154]; rfl) | (rw [cmb_o c_149 c_173, c_178]; rfl) | (rw [cmb_o c_149 c_173, c_178, c_183]; rfl) | (rw [cmb_x c_149 c_173, bI_inj.mp c_198, Bool.xor_self]) | (rw [cmb_x c_149 c_173]; exact xor_ne c_198))]; exact gR_)
                              | (rw [← mixF_upd (g := (fun a => cmb hw (gx j a) (gx y a))) (b := false) (by show cmb hw (gx j a1) (gx y a1) = false; first | (rw [cmb_a c_149, c_154, c_159]; rfl) | (rw [cmb_a c_149, c_154]; rfl) | (rw [cmb_o c_149 c_173, c_178]; rfl) | (rw [cmb_o c_149 c_173, c_178, c_183]; rfl) | (rw [cmb_x c_149 c_173, bI_inj.mp c_198, Bool.xor_self]) | (rw [cmb_x c_149 c_173]; exact xor_ne c_198))]; exact gR_)
                            refine lv_iinc (v := nI (a1 + 1)) (lv' := [(5, .int (nI (a1 + 1))), (7, .int (bI (gx y a1))), (6, .int (bI (gx j a1))), (0, .ref (ad 55)), (1, .int (nI j)), (2, .int (nI y)), (3, .int (nI hw)), (4, .int (nI o))]) S.1 S.2.1 dX12_join_207 hl (k := 7) rfl (nI_add _ 1) (by decide) rfl (fun ls hl => ?_)
                            refine lv_goto (tgt := 110) S.1 S.2.1 dX12_join_210 (by decide) ?_
                            exact ih110 _ (by omega) (a1 + 1) rfl (by omega) w_ hU gO_ gR_ gZ_ gV_ gU_ gX_ gY_ H locs ls hW (lv_sub hl [3, 4, 5, 6, 7, 0] rfl)
                        · refine lv_iload S.1 S.2.1 dX12_join_176 (lv_at hl 1 rfl) ?_
                          refine jb_if_ne (tgt := 186) S dX12_join_178 (by decide) (fun c_178 => ?_) (fun c_178 => ?_)
                          · refine lv_iconst (v := nI 1) S.1 S.2.1 dX12_join_186 (by decide) ?_
                            refine lv_goto (tgt := 206) S.1 S.2.1 dX12_join_187 (by decide) ?_
                            refine j_zast S hK hW gR_ (vp_in_nI (by omega) (by omega)) (nI_clamp (by omega)) (rfl) dX12_join_206 (fun H locs w_ hU1 hN1 hW => ?_)
                            have hU := hU.then hU1 (by first | decide | (simp; done) | (simp; omega))
                            have gO_ := hU1.get gO_ (by first | decide | (simp; done) | (simp; omega))
                            have gZ_ := hU1.get gZ_ (by first | decide | (simp; done) | (simp; omega))
                            have gV_ := hU1.get gV_ (by first | decide | (simp; done) | (simp; omega))
                            have gU_ := hU1.get gU_ (by first | decide | (simp; done) | (simp; omega))
                            have gX_ := hU1.get gX_ (by first | decide | (simp; done) | (simp; omega))
                            have gY_ := hU1.get gY_ (by first | decide | (simp; done) | (simp; omega))
                            have gR_ : w_[72]? = some (ad 72, .inl (cy 3, 1024, .inl (upd (bf (mixF (fun a => cmb hw (gx j a) (gx y a)) rb a1)) a1 (nI 1)))) := hN1
                            clear hU1 hN1
                            have gR_ : w_[72]? = some (ad 72, .inl (cy 3, 1024, .inl (bf (mixF (fun a => cmb hw (gx j a) (gx y a)) rb (a1 + 1))))) := by
                              first
                              | (rw [← mixF_upd (g := (fun a => cmb hw (gx j a) (gx y a))) (b := true) (by show cmb hw (gx j a1) (gx y a1) = true; first | (rw [cmb_a c_149, c_154, c_159]; rfl) | (rw [cmb_a c_149, c_154]; rfl) | (rw [cmb_o c_149 c_173, c_178]; rfl) | (rw [cmb_o c_149 c_173, c_178, c_183]; rfl) | (rw [cmb_x c_149 c_173, bI_inj.mp c_198, Bool.xor_self]) | (rw [cmb_x c_149 c_173]; exact xor_ne c_198))]; exact gR_)
                              | (rw [← mixF_upd (g := (fun a => cmb hw (gx j a) (gx y a))) (b := false) (by show cmb hw (gx j a1) (gx y a1) = false; first | (rw [cmb_a c_149, c_154, c_159]; rfl) | (rw [cmb_a c_149, c_154]; rfl) | (rw [cmb_o c_149 c_173, c_178]; rfl) | (rw [cmb_o c_149 c_173, c_178, c_183]; rfl) | (rw [cmb_x c_149 c_173, bI_inj.mp c_198, Bool.xor_self]) | (rw [cmb_x c_149 c_173]; exact xor_ne c_198))]; exact gR_)
                            refine lv_iinc (v := nI (a1 + 1)) (lv' := [(5, .int (nI (a1 + 1))), (7, .int (bI (gx y a1))), (6, .int (bI (gx j a1))), (0, .ref (ad 55)), (1, .int (nI j)), (2, .int (nI y)), (3, .int (nI hw)), (4, .int (nI o))]) S.1 S.2.1 dX12_join_207 hl (k := 7) rfl (nI_add _ 1) (by decide) rfl (fun ls hl => ?_)
                            refine lv_goto (tgt := 110) S.1 S.2.1 dX12_join_210 (by decide) ?_
                            exact ih110 _ (by omega) (a1 + 1) rfl (by omega) w_ hU gO_ gR_ gZ_ gV_ gU_ gX_ gY_ H locs ls hW (lv_sub hl [3, 4, 5, 6, 7, 0] rfl)
                          · refine lv_iload S.1 S.2.1 dX12_join_181 (lv_at hl 0 rfl) ?_
                            refine jb_if_eq (tgt := 190) S dX12_join_183 (by decide) (fun c_183 => ?_) (fun c_183 => ?_)
                            · refine lv_iconst (v := nI 0) S.1 S.2.1 dX12_join_190 (by decide) ?_
                              refine lv_goto (tgt := 206) S.1 S.2.1 dX12_join_191 (by decide) ?_
                              refine j_zast S hK hW gR_ (vp_in_nI (by omega) (by omega)) (nI_clamp (by omega)) (rfl) dX12_join_206 (fun H locs w_ hU1 hN1 hW => ?_)
                              have hU := hU.then hU1 (by first | decide | (simp; done) | (simp; omega))
                              have gO_ := hU1.get gO_ (by first | decide | (simp; done) | (simp; omega))
                              have gZ_ := hU1.get gZ_ (by first | decide | (simp; done) | (simp; omega))
                              have gV_ := hU1.get gV_ (by first | decide | (simp; done) | (simp; omega))
                              have gU_ := hU1.get gU_ (by first | decide | (simp; done) | (simp; omega))
                              have gX_ := hU1.get gX_ (by first | decide | (simp; done) | (simp; omega))
                              have gY_ := hU1.get gY_ (by first | decide | (simp; done) | (simp; omega))
                              have gR_ : w_[72]? = some (ad 72, .inl (cy 3, 1024, .inl (upd (bf (mixF (fun a => cmb hw (gx j a) (gx y a)) rb a1)) a1 (nI 0)))) := hN1
                              clear hU1 hN1
                              have gR_ : w_[72]? = some (ad 72, .inl (cy 3, 1024, .inl (bf (mixF (fun a => cmb hw (gx j a) (gx y a)) rb (a1 + 1))))) := by
                                first
                                | (rw [← mixF_upd (g := (fun a => cmb hw (gx j a) (gx y a))) (b := true) (by show cmb hw (gx j a1) (gx y a1) = true; first | (rw [cmb_a c_149, c_154, c_159]; rfl) | (rw [cmb_a c_149, c_154]; rfl) | (rw [cmb_o c_149 c_173, c_178]; rfl) | (rw [cmb_o c_149 c_173, c_178, c_183]; rfl) | (rw [cmb_x c_149 c_173, bI_inj.mp c_198, Bool.xor_self]) | (rw [cmb_x c_149 c_173]; exact xor_ne c_198))]; exact gR_)
                                | (rw [← mixF_upd (g := (fun a => cmb hw (gx j a) (gx y a))) (b := false) (by show cmb hw (gx j a1) (gx y a1) = false; first | (rw [cmb_a c_149, c_154, c_159]; rfl) | (rw [cmb_a c_149, c_154]; rfl) | (rw [cmb_o c_149 c_173, c_178]; rfl) | (rw [cmb_o c_149 c_173, c_178, c_183]; rfl) | (rw [cmb_x c_149 c_173, bI_inj.mp c_198, Bool.xor_self]) | (rw [cmb_x c_149 c_173]; exact xor_ne c_198))]; exact gR_)
                              refine lv_iinc (v := nI (a1 + 1)) (lv' := [(5, .int (nI (a1 + 1))), (7, .int (bI (gx y a1))), (6, .int (bI (gx j a1))), (0, .ref (ad 55)), (1, .int (nI j)), (2, .int (nI y)), (3, .int (nI hw)), (4, .int (nI o))]) S.1 S.2.1 dX12_join_207 hl (k := 7) rfl (nI_add _ 1) (by decide) rfl (fun ls hl => ?_)
                              refine lv_goto (tgt := 110) S.1 S.2.1 dX12_join_210 (by decide) ?_
                              exact ih110 _ (by omega) (a1 + 1) rfl (by omega) w_ hU gO_ gR_ gZ_ gV_ gU_ gX_ gY_ H locs ls hW (lv_sub hl [3, 4, 5, 6, 7, 0] rfl)
                            · refine lv_iconst (v := nI 1) S.1 S.2.1 dX12_join_186 (by decide) ?_
                              refine lv_goto (tgt := 206) S.1 S.2.1 dX12_join_187 (by decide) ?_
                              refine j_zast S hK hW gR_ (vp_in_nI (by omega) (by omega)) (nI_clamp (by omega)) (rfl) dX12_join_206 (fun H locs w_ hU1 hN1 hW => ?_)
                              have hU := hU.then hU1 (by first | decide | (simp; done) | (simp; omega))
                              have gO_ := hU1.get gO_ (by first | decide | (simp; done) | (simp; omega))
                              have gZ_ := hU1.get gZ_ (by first | decide | (simp; done) | (simp; omega))
                              have gV_ := hU1.get gV_ (by first | decide | (simp; done) | (simp; omega))
                              have gU_ := hU1.get gU_ (by first | decide | (simp; done) | (simp; omega))
                              have gX_ := hU1.get gX_ (by first | decide | (simp; done) | (simp; omega))
                              have gY_ := hU1.get gY_ (by first | decide | (simp; done) | (simp; omega))
                              have gR_ : w_[72]? = some (ad 72, .inl (cy 3, 1024, .inl (upd (bf (mixF (fun a => cmb hw (gx j a) (gx y a)) rb a1)) a1 (nI 1)))) := hN1
                              clear hU1 hN1
                              have gR_ : w_[72]? = some (ad 72, .inl (cy 3, 1024, .inl (bf (mixF (fun a => cmb hw (gx j a) (gx y a)) rb (a1 + 1))))) := by
                                first
                                | (rw [← mixF_upd (g := (fun a => cmb hw (gx j a) (gx y a))) (b := true) (by show cmb hw (gx j a1) (gx y a1) = true; first | (rw [cmb_a c_149, c_154, c_159]; rfl) | (rw [cmb_a c_149, c_154]; rfl) | (rw [cmb_o c_149 c_173, c_178]; rfl) | (rw [cmb_o c_149 c_173, c_178, c_183]; rfl) | (rw [cmb_x c_149 c_173, bI_inj.mp c_198, Bool.xor_self]) | (rw [cmb_x c_149 c_173]; exact xor_ne c_198))]; exact gR_)
                                | (rw [← mixF_upd (g := (fun a => cmb hw (gx j a) (gx y a))) (b := false) (by show cmb hw (gx j a1) (gx y a1) = false; first | (rw [cmb_a c_149, c_154, c_159]; rfl) | (rw [cmb_a c_149, c_154]; rfl) | (rw [cmb_o c_149 c_173, c_178]; rfl) | (rw [cmb_o c_149 c_173, c_178, c_183]; rfl) | (rw [cmb_x c_149 c_173, bI_inj.mp c_198, Bool.xor_self]) | (rw [cmb_x c_149 c_173]; exact xor_ne c_198))]; exact gR_)
                              refine lv_iinc (v := nI (a1 + 1)) (lv' := [(5, .int (nI (a1 + 1))), (7, .int (bI (gx y a1))), (6, .int (bI (gx j a1))), (0, .ref (ad 55)), (1, .int (nI j)), (2, .int (nI y)), (3, .int (nI hw)), (4, .int (nI o))]) S.1 S.2.1 dX12_join_207 hl (k := 7) rfl (nI_add _ 1) (by decide) rfl (fun ls hl => ?_)
                              refine lv_goto (tgt := 110) S.1 S.2.1 dX12_join_210 (by decide) ?_
                              exact ih110 _ (by omega) (a1 + 1) rfl (by omega) w_ hU gO_ gR_ gZ_ gV_ gU_ gX_ gY_ H locs ls hW (lv_sub hl [3, 4, 5, 6, 7, 0] rfl)
                      · refine lv_iload S.1 S.2.1 dX12_join_152 (lv_at hl 1 rfl) ?_
                        refine jb_if_eq (tgt := 166) S dX12_join_154 (by decide) (fun c_154 => ?_) (fun c_154 => ?_)
                        · refine lv_iconst (v := nI 0) S.1 S.2.1 dX12_join_166 (by decide) ?_
                          refine lv_goto (tgt := 206) S.1 S.2.1 dX12_join_167 (by decide) ?_
                          refine j_zast S hK hW gR_ (vp_in_nI (by omega) (by omega)) (nI_clamp (by omega)) (rfl) dX12_join_206 (fun H locs w_ hU1 hN1 hW => ?_)
                          have hU := hU.then hU1 (by first | decide | (simp; done) | (simp; omega))
                          have gO_ := hU1.get gO_ (by first | decide | (simp; done) | (simp; omega))
                          have gZ_ := hU1.get gZ_ (by first | decide | (simp; done) | (simp; omega))
                          have gV_ := hU1.get gV_ (by first | decide | (simp; done) | (simp; omega))
                          have gU_ := hU1.get gU_ (by first | decide | (simp; done) | (simp; omega))
                          have gX_ := hU1.get gX_ (by first | decide | (simp; done) | (simp; omega))
                          have gY_ := hU1.get gY_ (by first | decide | (simp; done) | (simp; omega))
                          have gR_ : w_[72]? = some (ad 72, .inl (cy 3, 1024, .inl (upd (bf (mixF (fun a => cmb hw (gx j a) (gx y a)) rb a1)) a1 (nI 0)))) := hN1
                          clear hU1 hN1
                          have gR_ : w_[72]? = some (ad 72, .inl (cy 3, 1024, .inl (bf (mixF (fun a => cmb hw (gx j a) (gx y a)) rb (a1 + 1))))) := by
                            first
                            | (rw [← mixF_upd (g := (fun a => cmb hw (gx j a) (gx y a))) (b := true) (by show cmb hw (gx j a1) (gx y a1) = true; first | (rw [cmb_a c_149, c_154, c_159]; rfl) | (rw [cmb_a c_149, c_154]; rfl) | (rw [cmb_o c_149 c_173, c_178]; rfl) | (rw [cmb_o c_149 c_173, c_178, c_183]; rfl) | (rw [cmb_x c_149 c_173, bI_inj.mp c_198, Bool.xor_self]) | (rw [cmb_x c_149 c_173]; exact xor_ne c_198))]; exact gR_)
                            | (rw [← mixF_upd (g := (fun a => cmb hw (gx j a) (gx y a))) (b := false) (by show cmb hw (gx j a1) (gx y a1) = false; first | (rw [cmb_a c_149, c_154, c_159]; rfl) | (rw [cmb_a c_149, c_154]; rfl) | (rw [cmb_o c_149 c_173, c_178]; rfl) | (rw [cmb_o c_149 c_173, c_178, c_183]; rfl) | (rw [cmb_x c_149 c_173, bI_inj.mp c_198, Bool.xor_self]) | (rw [cmb_x c_149 c_173]; exact xor_ne c_198))]; exact gR_)
                          refine lv_iinc (v := nI (a1 + 1)) (lv' := [(5, .int (nI (a1 + 1))), (7, .int (bI (gx y a1))), (6, .int (bI (gx j a1))), (0, .ref (ad 55)), (1, .int (nI j)), (2, .int (nI y)), (3, .int (nI hw)), (4, .int (nI o))]) S.1 S.2.1 dX12_join_207 hl (k := 7) rfl (nI_add _ 1) (by decide) rfl (fun ls hl => ?_)
                          refine lv_goto (tgt := 110) S.1 S.2.1 dX12_join_210 (by decide) ?_
                          exact ih110 _ (by omega) (a1 + 1) rfl (by omega) w_ hU gO_ gR_ gZ_ gV_ gU_ gX_ gY_ H locs ls hW (lv_sub hl [3, 4, 5, 6, 7, 0] rfl)
                        · refine lv_iload S.1 S.2.1 dX12_join_157 (lv_at hl 0 rfl) ?_
                          refine jb_if_eq (tgt := 166) S dX12_join_159 (by decide) (fun c_159 => ?_) (fun c_159 => ?_)
                          · refine lv_iconst (v := nI 0) S.1 S.2.1 dX12_join_166 (by decide) ?_
                            refine lv_goto (tgt := 206) S.1 S.2.1 dX12_join_167 (by decide) ?_
                            refine j_zast S hK hW gR_ (vp_in_nI (by omega) (by omega)) (nI_clamp (by omega)) (rfl) dX12_join_206 (fun H locs w_ hU1 hN1 hW => ?_)
                            have hU := hU.then hU1 (by first | decide | (simp; done) | (simp; omega))
                            have gO_ := hU1.get gO_ (by first | decide | (simp; done) | (simp; omega))
                            have gZ_ := hU1.get gZ_ (by first | decide | (simp; done) | (simp; omega))
                            have gV_ := hU1.get gV_ (by first | decide | (simp; done) | (simp; omega))
                            have gU_ := hU1.get gU_ (by first | decide | (simp; done) | (simp; omega))
                            have gX_ := hU1.get gX_ (by first | decide | (simp; done) | (simp; omega))
                            have gY_ := hU1.get gY_ (by first | decide | (simp; done) | (simp; omega))
                            have gR_ : w_[72]? = some (ad 72, .inl (cy 3, 1024, .inl (upd (bf (mixF (fun a => cmb hw (gx j a) (gx y a)) rb a1)) a1 (nI 0)))) := hN1
                            clear hU1 hN1
                            have gR_ : w_[72]? = some (ad 72, .inl (cy 3, 1024, .inl (bf (mixF (fun a => cmb hw (gx j a) (gx y a)) rb (a1 + 1))))) := by
                              first
                              | (rw [← mixF_upd (g := (fun a => cmb hw (gx j a) (gx y a))) (b := true) (by show cmb hw (gx j a1) (gx y a1) = true; first | (rw [cmb_a c_149, c_154, c_159]; rfl) | (rw [cmb_a c_149, c_154]; rfl) | (rw [cmb_o c_149 c_173, c_178]; rfl) | (rw [cmb_o c_149 c_173, c_178, c_183]; rfl) | (rw [cmb_x c_149 c_173, bI_inj.mp c_198, Bool.xor_self]) | (rw [cmb_x c_149 c_173]; exact xor_ne c_198))]; exact gR_)
                              | (rw [← mixF_upd (g := (fun a => cmb hw (gx j a) (gx y a))) (b := false) (by show cmb hw (gx j a1) (gx y a1) = false; first | (rw [cmb_a c_149, c_154, c_159]; rfl) | (rw [cmb_a c_149, c_154]; rfl) | (rw [cmb_o c_149 c_173, c_178]; rfl) | (rw [cmb_o c_149 c_173, c_178, c_183]; rfl) | (rw [cmb_x c_149 c_173, bI_inj.mp c_198, Bool.xor_self]) | (rw [cmb_x c_149 c_173]; exact xor_ne c_198))]; exact gR_)
                            refine lv_iinc (v := nI (a1 + 1)) (lv' := [(5, .int (nI (a1 + 1))), (7, .int (bI (gx y a1))), (6, .int (bI (gx j a1))), (0, .ref (ad 55)), (1, .int (nI j)), (2, .int (nI y)), (3, .int (nI hw)), (4, .int (nI o))]) S.1 S.2.1 dX12_join_207 hl (k := 7) rfl (nI_add _ 1) (by decide) rfl (fun ls hl => ?_)
                            refine lv_goto (tgt := 110) S.1 S.2.1 dX12_join_210 (by decide) ?_
                            exact ih110 _ (by omega) (a1 + 1) rfl (by omega) w_ hU gO_ gR_ gZ_ gV_ gU_ gX_ gY_ H locs ls hW (lv_sub hl [3, 4, 5, 6, 7, 0] rfl)
                          · refine lv_iconst (v := nI 1) S.1 S.2.1 dX12_join_162 (by decide) ?_
                            refine lv_goto (tgt := 206) S.1 S.2.1 dX12_join_163 (by decide) ?_
                            refine j_zast S hK hW gR_ (vp_in_nI (by omega) (by omega)) (nI_clamp (by omega)) (rfl) dX12_join_206 (fun H locs w_ hU1 hN1 hW => ?_)
                            have hU := hU.then hU1 (by first | decide | (simp; done) | (simp; omega))
                            have gO_ := hU1.get gO_ (by first | decide | (simp; done) | (simp; omega))
                            have gZ_ := hU1.get gZ_ (by first | decide | (simp; done) | (simp; omega))
                            have gV_ := hU1.get gV_ (by first | decide | (simp; done) | (simp; omega))
                            have gU_ := hU1.get gU_ (by first | decide | (simp; done) | (simp; omega))
                            have gX_ := hU1.get gX_ (by first | decide | (simp; done) | (simp; omega))
                            have gY_ := hU1.get gY_ (by first | decide | (simp; done) | (simp; omega))
                            have gR_ : w_[72]? = some (ad 72, .inl (cy 3, 1024, .inl (upd (bf (mixF (fun a => cmb hw (gx j a) (gx y a)) rb a1)) a1 (nI 1)))) := hN1
                            clear hU1 hN1
                            have gR_ : w_[72]? = some (ad 72, .inl (cy 3, 1024, .inl (bf (mixF (fun a => cmb hw (gx j a) (gx y a)) rb (a1 + 1))))) := by
                              first
                              | (rw [← mixF_upd (g := (fun a => cmb hw (gx j a) (gx y a))) (b := true) (by show cmb hw (gx j a1) (gx y a1) = true; first | (rw [cmb_a c_149, c_154, c_159]; rfl) | (rw [cmb_a c_149, c_154]; rfl) | (rw [cmb_o c_149 c_173, c_178]; rfl) | (rw [cmb_o c_149 c_173, c_178, c_183]; rfl) | (rw [cmb_x c_149 c_173, bI_inj.mp c_198, Bool.xor_self]) | (rw [cmb_x c_149 c_173]; exact xor_ne c_198))]; exact gR_)
                              | (rw [← mixF_upd (g := (fun a => cmb hw (gx j a) (gx y a))) (b := false) (by show cmb hw (gx j a1) (gx y a1) = false; first | (rw [cmb_a c_149, c_154, c_159]; rfl) | (rw [cmb_a c_149, c_154]; rfl) | (rw [cmb_o c_149 c_173, c_178]; rfl) | (rw [cmb_o c_149 c_173, c_178, c_183]; rfl) | (rw [cmb_x c_149 c_173, bI_inj.mp c_198, Bool.xor_self]) | (rw [cmb_x c_149 c_173]; exact xor_ne c_198))]; exact gR_)
                            refine lv_iinc (v := nI (a1 + 1)) (lv' := [(5, .int (nI (a1 + 1))), (7, .int (bI (gx y a1))), (6, .int (bI (gx j a1))), (0, .ref (ad 55)), (1, .int (nI j)), (2, .int (nI y)), (3, .int (nI hw)), (4, .int (nI o))]) S.1 S.2.1 dX12_join_207 hl (k := 7) rfl (nI_add _ 1) (by decide) rfl (fun ls hl => ?_)
                            refine lv_goto (tgt := 110) S.1 S.2.1 dX12_join_210 (by decide) ?_
                            exact ih110 _ (by omega) (a1 + 1) rfl (by omega) w_ hU gO_ gR_ gZ_ gV_ gU_ gX_ gY_ H locs ls hW (lv_sub hl [3, 4, 5, 6, 7, 0] rfl)
                  exact L110 _ 0 rfl (Nat.zero_le _) w_ hU gO_ gR_ gZ_ gV_ gU_ gX_ gY_ H locs ls hW (lv_sub hl [1, 2, 3, 4, 5, 0] rfl)
                · exact absurd rfl c_98
            · exact absurd hh (by rintro (q | q | q); exact c_30 q; exact c_36 q; exact c_42 q)
/-- join, wrong words -/
theorem c_X12_join_b1 (l : Launch) (D : va_G) (cy : Nat → ClassId) {w : va_W} (ad : Nat → Nat) (th n nc : Nat) (v u1 u2 : Int32) (hw : Nat) (gO : w[55]? = some (ad 55, .inr (11, [.int (nI th), .ref (ad 56), .ref (ad 57), .ref (ad 58), .ref (ad 59), .ref (ad 60), .ref (ad 61), .ref (ad 62), .ref (ad 63), .ref (ad 64), .ref (ad 65), .int (nI n), .int (nI nc), .ref (ad 66), .ref (ad 71), .ref (ad 72), .ref (ad 73)]))) (hhw : hw < 65536) (hv : vB v 4 = false ∨ vB u1 4 = false ∨ vB u2 4 = false ∨ ¬ howB hw) : jM l yX12_join (jws yX12_join cX12_join 8 (some .int)) (jR 5 0 0) D cy w [.ref (ad 55), .int v, .int u1, .int (nI hw), .int u2] 0 0 (fun vv uu => vv = some (.int (nI 0)) ∧ jU w uu [55] ∧ uu[55]? = some (ad 55, .inr (11, [.int (nI 1), .ref (ad 56), .ref (ad 57), .ref (ad 58), .ref (ad 59), .ref (ad 60), .ref (ad 61), .ref (ad 62), .ref (ad 63), .ref (ad 64), .ref (ad 65), .int (nI n), .int (nI nc), .ref (ad 66), .ref (ad 71), .ref (ad 72), .ref (ad 73)]))) := by
  refine j_of (by decide) rfl (Nat.le_of_ble_eq_true rfl) ?_
  intro p e s m args below meth c A ls Q hQ S hr hK hA H locs hW hl
  have hl : lv_has ls 8 [(0, .ref (ad 55)), (1, .int v), (2, .int u1), (3, .int (nI hw)), (4, .int u2)] := hl
  refine lv_aload_n S.1 S.2.1 dX12_join_0 rfl (lv_at hl 0 rfl) ?_
  refine lv_iconst (v := nI 0) S.1 S.2.1 dX12_join_1 (by decide) ?_
  refine j_put (ci := 11) (C := RX12) (T := TX12) (N := 17) (ty := .int) S (fun w h => List.mem_cons_of_mem _ (inG12 w h)) tyX12 tyX12_ok nmX12 hK hW gO rfl 0 (by decide) (List.mem_cons_of_mem _ wfl_X12_1) (fun _ h9 => h9) rfl (by decide +kernel) (rfl) (rfl) (Nat.le_of_ble_eq_true rfl) dX12_join_2 (fun H locs w_ hU1 hN1 hW => ?_)
  have hU : jU w w_ [55] := jU.mono hU1 (by decide)
  have gO_ : w_[55]? = some (ad 55, .inr (11, [.int (nI 0), .ref (ad 56), .ref (ad 57), .ref (ad 58), .ref (ad 59), .ref (ad 60), .ref (ad 61), .ref (ad 62), .ref (ad 63), .ref (ad 64), .ref (ad 65), .int (nI n), .int (nI nc), .ref (ad 66), .ref (ad 71), .ref (ad 72), .ref (ad 73)])) := hN1
  clear hU1 hN1
  refine lv_iload_n S.1 S.2.1 dX12_join_5 rfl (lv_at hl 1 rfl) ?_
  refine j_callS (As := [.int v]) (rest := []) S hK hA hW (c_X12_isSlot l D cy v    ) (jgo wm_X12_162) yk_X12_isSlot ⟨⟨rfl, rfl⟩, by decide, by decide⟩ rfl hl.1 rfl (Nat.le_of_ble_eq_true rfl) dX12_join_6 ⟨Nat.le_of_ble_eq_true rfl, Nat.le_of_ble_eq_true rfl⟩ (fun v u H locs hp hW => ?_)
  obtain ⟨rfl, rfl⟩ := hp
  refine W.eq (g2 := F0 m 9 ls [.int (bI (vB v 4))]) rfl ?_
  refine jb_if_eq (tgt := 45) S dX12_join_9 (by decide) (fun c_9 => ?_) (fun c_9 => ?_)
  · refine lv_aload_n S.1 S.2.1 dX12_join_45 rfl (lv_at hl 0 rfl) ?_
    refine lv_iconst (v := nI 1) S.1 S.2.1 dX12_join_46 (by decide) ?_
    refine j_callV (k := 55) (ci := 11) (q := (RX12, TX12, 17)) (As := [.int (nI 1)]) (rest := []) S hK hA hW (c_X12_fails l D cy ad 0 n nc 1 gO_   ) (jgo wm_X12_71) yk_X12_fails gO_ rfl rfl ⟨⟨rfl, rfl⟩, by decide, by decide⟩ rfl hl.1 rfl (Nat.le_of_ble_eq_true rfl) dX12_join_47 ⟨Nat.le_of_ble_eq_true rfl, Nat.le_of_ble_eq_true rfl⟩ (fun v w_ H locs hp hW => ?_)
    obtain ⟨rfl, hU1, hN1⟩ := hp
    have hU := hU.then hU1 (by decide)
    have gO_ : w_[55]? = some (ad 55, .inr (11, [.int (nI 1), .ref (ad 56), .ref (ad 57), .ref (ad 58), .ref (ad 59), .ref (ad 60), .ref (ad 61), .ref (ad 62), .ref (ad 63), .ref (ad 64), .ref (ad 65), .int (nI n), .int (nI nc), .ref (ad 66), .ref (ad 71), .ref (ad 72), .ref (ad 73)])) := hN1
    clear hU1 hN1
    refine W.eq (g2 := F0 m 50 ls [.int (nI 0)]) rfl ?_
    subst hQ
    exact j_iret (u := w_) S hr (rfl) hK hW dX12_join_50 ⟨by decide, by decide⟩ (⟨rfl, hU, gO_⟩)
  · refine lv_iload_n S.1 S.2.1 dX12_join_12 rfl (lv_at hl 2 rfl) ?_
    refine j_callS (As := [.int u1]) (rest := []) S hK hA hW (c_X12_isSlot l D cy u1    ) (jgo wm_X12_162) yk_X12_isSlot ⟨⟨rfl, rfl⟩, by decide, by decide⟩ rfl hl.1 rfl (Nat.le_of_ble_eq_true rfl) dX12_join_13 ⟨Nat.le_of_ble_eq_true rfl, Nat.le_of_ble_eq_true rfl⟩ (fun v u H locs hp hW => ?_)
    obtain ⟨rfl, rfl⟩ := hp
    refine W.eq (g2 := F0 m 16 ls [.int (bI (vB u1 4))]) rfl ?_
    refine jb_if_eq (tgt := 45) S dX12_join_16 (by decide) (fun c_16 => ?_) (fun c_16 => ?_)
    · refine lv_aload_n S.1 S.2.1 dX12_join_45 rfl (lv_at hl 0 rfl) ?_
      refine lv_iconst (v := nI 1) S.1 S.2.1 dX12_join_46 (by decide) ?_
      refine j_callV (k := 55) (ci := 11) (q := (RX12, TX12, 17)) (As := [.int (nI 1)]) (rest := []) S hK hA hW (c_X12_fails l D cy ad 0 n nc 1 gO_   ) (jgo wm_X12_71) yk_X12_fails gO_ rfl rfl ⟨⟨rfl, rfl⟩, by decide, by decide⟩ rfl hl.1 rfl (Nat.le_of_ble_eq_true rfl) dX12_join_47 ⟨Nat.le_of_ble_eq_true rfl, Nat.le_of_ble_eq_true rfl⟩ (fun v w_ H locs hp hW => ?_)
      obtain ⟨rfl, hU1, hN1⟩ := hp
      have hU := hU.then hU1 (by decide)
      have gO_ : w_[55]? = some (ad 55, .inr (11, [.int (nI 1), .ref (ad 56), .ref (ad 57), .ref (ad 58), .ref (ad 59), .ref (ad 60), .ref (ad 61), .ref (ad 62), .ref (ad 63), .ref (ad 64), .ref (ad 65), .int (nI n), .int (nI nc), .ref (ad 66), .ref (ad 71), .ref (ad 72), .ref (ad 73)])) := hN1
      clear hU1 hN1
      refine W.eq (g2 := F0 m 50 ls [.int (nI 0)]) rfl ?_
      subst hQ
      exact j_iret (u := w_) S hr (rfl) hK hW dX12_join_50 ⟨by decide, by decide⟩ (⟨rfl, hU, gO_⟩)
    · refine lv_iload S.1 S.2.1 dX12_join_19 (lv_at hl 4 rfl) ?_
      refine j_callS (As := [.int u2]) (rest := []) S hK hA hW (c_X12_isSlot l D cy u2    ) (jgo wm_X12_162) yk_X12_isSlot ⟨⟨rfl, rfl⟩, by decide, by decide⟩ rfl hl.1 rfl (Nat.le_of_ble_eq_true rfl) dX12_join_21 ⟨Nat.le_of_ble_eq_true rfl, Nat.le_of_ble_eq_true rfl⟩ (fun v u H locs hp hW => ?_)
      obtain ⟨rfl, rfl⟩ := hp
      refine W.eq (g2 := F0 m 24 ls [.int (bI (vB u2 4))]) rfl ?_
      refine jb_if_eq (tgt := 45) S dX12_join_24 (by decide) (fun c_24 => ?_) (fun c_24 => ?_)
      · refine lv_aload_n S.1 S.2.1 dX12_join_45 rfl (lv_at hl 0 rfl) ?_
        refine lv_iconst (v := nI 1) S.1 S.2.1 dX12_join_46 (by decide) ?_
        refine j_callV (k := 55) (ci := 11) (q := (RX12, TX12, 17)) (As := [.int (nI 1)]) (rest := []) S hK hA hW (c_X12_fails l D cy ad 0 n nc 1 gO_   ) (jgo wm_X12_71) yk_X12_fails gO_ rfl rfl ⟨⟨rfl, rfl⟩, by decide, by decide⟩ rfl hl.1 rfl (Nat.le_of_ble_eq_true rfl) dX12_join_47 ⟨Nat.le_of_ble_eq_true rfl, Nat.le_of_ble_eq_true rfl⟩ (fun v w_ H locs hp hW => ?_)
        obtain ⟨rfl, hU1, hN1⟩ := hp
        have hU := hU.then hU1 (by decide)
        have gO_ : w_[55]? = some (ad 55, .inr (11, [.int (nI 1), .ref (ad 56), .ref (ad 57), .ref (ad 58), .ref (ad 59), .ref (ad 60), .ref (ad 61), .ref (ad 62), .ref (ad 63), .ref (ad 64), .ref (ad 65), .int (nI n), .int (nI nc), .ref (ad 66), .ref (ad 71), .ref (ad 72), .ref (ad 73)])) := hN1
        clear hU1 hN1
        refine W.eq (g2 := F0 m 50 ls [.int (nI 0)]) rfl ?_
        subst hQ
        exact j_iret (u := w_) S hr (rfl) hK hW dX12_join_50 ⟨by decide, by decide⟩ (⟨rfl, hU, gO_⟩)
      · refine lv_iload_n S.1 S.2.1 dX12_join_27 rfl (lv_at hl 3 rfl) ?_
        refine lv_bipush (v := nI 97) S.1 S.2.1 dX12_join_28 (by decide) ?_
        refine jn_cmp_eq (tgt := 51) S (by omega) (by omega) dX12_join_30 (by decide) (fun c_30 => ?_) (fun c_30 => ?_)
        · exact (by rcases hv with q | q | q | q; rw [c_9] at q; cases q; rw [c_16] at q; cases q; rw [c_24] at q; cases q; exact (q (Or.inl c_30)).elim)
        · refine lv_iload_n S.1 S.2.1 dX12_join_33 rfl (lv_at hl 3 rfl) ?_
          refine lv_bipush (v := nI 111) S.1 S.2.1 dX12_join_34 (by decide) ?_
          refine jn_cmp_eq (tgt := 51) S (by omega) (by omega) dX12_join_36 (by decide) (fun c_36 => ?_) (fun c_36 => ?_)
          · exact (by rcases hv with q | q | q | q; rw [c_9] at q; cases q; rw [c_16] at q; cases q; rw [c_24] at q; cases q; exact (q (Or.inr (Or.inl c_36))).elim)
          · refine lv_iload_n S.1 S.2.1 dX12_join_39 rfl (lv_at hl 3 rfl) ?_
            refine lv_bipush (v := nI 120) S.1 S.2.1 dX12_join_40 (by decide) ?_
            refine jn_cmp_eq (tgt := 51) S (by omega) (by omega) dX12_join_42 (by decide) (fun c_42 => ?_) (fun c_42 => ?_)
            · exact (by rcases hv with q | q | q | q; rw [c_9] at q; cases q; rw [c_16] at q; cases q; rw [c_24] at q; cases q; exact (q (Or.inr (Or.inr c_42))).elim)
            · refine lv_aload_n S.1 S.2.1 dX12_join_45 rfl (lv_at hl 0 rfl) ?_
              refine lv_iconst (v := nI 1) S.1 S.2.1 dX12_join_46 (by decide) ?_
              refine j_callV (k := 55) (ci := 11) (q := (RX12, TX12, 17)) (As := [.int (nI 1)]) (rest := []) S hK hA hW (c_X12_fails l D cy ad 0 n nc 1 gO_   ) (jgo wm_X12_71) yk_X12_fails gO_ rfl rfl ⟨⟨rfl, rfl⟩, by decide, by decide⟩ rfl hl.1 rfl (Nat.le_of_ble_eq_true rfl) dX12_join_47 ⟨Nat.le_of_ble_eq_true rfl, Nat.le_of_ble_eq_true rfl⟩ (fun v w_ H locs hp hW => ?_)
              obtain ⟨rfl, hU1, hN1⟩ := hp
              have hU := hU.then hU1 (by decide)
              have gO_ : w_[55]? = some (ad 55, .inr (11, [.int (nI 1), .ref (ad 56), .ref (ad 57), .ref (ad 58), .ref (ad 59), .ref (ad 60), .ref (ad 61), .ref (ad 62), .ref (ad 63), .ref (ad 64), .ref (ad 65), .int (nI n), .int (nI nc), .ref (ad 66), .ref (ad 71), .ref (ad 72), .ref (ad 73)])) := hN1
              clear hU1 hN1
              refine W.eq (g2 := F0 m 50 ls [.int (nI 0)]) rfl ?_
              subst hQ
              exact j_iret (u := w_) S hr (rfl) hK hW dX12_join_50 ⟨by decide, by decide⟩ (⟨rfl, hU, gO_⟩)
/-- join, nothing kept -/
theorem c_X12_join_b2 (l : Launch) (D : va_G) (cy : Nat → ClassId) {w : va_W} (ad : Nat → Nat) (th n nc : Nat) (kv : Nat → Int32) (j y hw o : Nat) (gO : w[55]? = some (ad 55, .inr (11, [.int (nI th), .ref (ad 56), .ref (ad 57), .ref (ad 58), .ref (ad 59), .ref (ad 60), .ref (ad 61), .ref (ad 62), .ref (ad 63), .ref (ad 64), .ref (ad 65), .int (nI n), .int (nI nc), .ref (ad 66), .ref (ad 71), .ref (ad 72), .ref (ad 73)]))) (gV : w[71]? = some (ad 71, .inl (cy 0, 4, .inl kv))) (hj : j < 4) (hy : y < 4) (ho : o < 4) (hhw : hw < 65536) (hh : howB hw) (hkv : kv j < 0 ∨ kv y < 0) : jM l yX12_join (jws yX12_join cX12_join 8 (some .int)) (jR 5 0 0) D cy w [.ref (ad 55), .int (nI j), .int (nI y), .int (nI hw), .int (nI o)] 0 0 (fun vv uu => vv = some (.int (nI 0)) ∧ jU w uu [55] ∧ uu[55]? = some (ad 55, .inr (11, [.int (nI 2), .ref (ad 56), .ref (ad 57), .ref (ad 58), .ref (ad 59), .ref (ad 60), .ref (ad 61), .ref (ad 62), .ref (ad 63), .ref (ad 64), .ref (ad 65), .int (nI n), .int (nI nc), .ref (ad 66), .ref (ad 71), .ref (ad 72), .ref (ad 73)]))) := by
  refine j_of (by decide) rfl (Nat.le_of_ble_eq_true rfl) ?_
  intro p e s m args below meth c A ls Q hQ S hr hK hA H locs hW hl
  have hl : lv_has ls 8 [(0, .ref (ad 55)), (1, .int (nI j)), (2, .int (nI y)), (3, .int (nI hw)), (4, .int (nI o))] := hl
  refine lv_aload_n S.1 S.2.1 dX12_join_0 rfl (lv_at hl 0 rfl) ?_
  refine lv_iconst (v := nI 0) S.1 S.2.1 dX12_join_1 (by decide) ?_
  refine j_put (ci := 11) (C := RX12) (T := TX12) (N := 17) (ty := .int) S (fun w h => List.mem_cons_of_mem _ (inG12 w h)) tyX12 tyX12_ok nmX12 hK hW gO rfl 0 (by decide) (List.mem_cons_of_mem _ wfl_X12_1) (fun _ h9 => h9) rfl (by decide +kernel) (rfl) (rfl) (Nat.le_of_ble_eq_true rfl) dX12_join_2 (fun H locs w_ hU1 hN1 hW => ?_)
  have hU : jU w w_ [55] := jU.mono hU1 (by decide)
  have gO_ : w_[55]? = some (ad 55, .inr (11, [.int (nI 0), .ref (ad 56), .ref (ad 57), .ref (ad 58), .ref (ad 59), .ref (ad 60), .ref (ad 61), .ref (ad 62), .ref (ad 63), .ref (ad 64), .ref (ad 65), .int (nI n), .int (nI nc), .ref (ad 66), .ref (ad 71), .ref (ad 72), .ref (ad 73)])) := hN1
  clear hU1 hN1
  refine lv_iload_n S.1 S.2.1 dX12_join_5 rfl (lv_at hl 1 rfl) ?_
  refine j_callS (As := [.int (nI j)]) (rest := []) S hK hA hW (c_X12_isSlot l D cy (nI j)    ) (jgo wm_X12_162) yk_X12_isSlot ⟨⟨rfl, rfl⟩, by decide, by decide⟩ rfl hl.1 rfl (Nat.le_of_ble_eq_true rfl) dX12_join_6 ⟨Nat.le_of_ble_eq_true rfl, Nat.le_of_ble_eq_true rfl⟩ (fun v u H locs hp hW => ?_)
  obtain ⟨rfl, rfl⟩ := hp
  refine W.eq (g2 := F0 m 9 ls [.int (bI (vB (nI j) 4))]) rfl ?_
  refine jb_if_eq (tgt := 45) S dX12_join_9 (by decide) (fun c_9 => ?_) (fun c_9 => ?_)
  · exact absurd (vB_nI hj (by decide)) (by rw [c_9]; decide)
  · refine lv_iload_n S.1 S.2.1 dX12_join_12 rfl (lv_at hl 2 rfl) ?_
    refine j_callS (As := [.int (nI y)]) (rest := []) S hK hA hW (c_X12_isSlot l D cy (nI y)    ) (jgo wm_X12_162) yk_X12_isSlot ⟨⟨rfl, rfl⟩, by decide, by decide⟩ rfl hl.1 rfl (Nat.le_of_ble_eq_true rfl) dX12_join_13 ⟨Nat.le_of_ble_eq_true rfl, Nat.le_of_ble_eq_true rfl⟩ (fun v u H locs hp hW => ?_)
    obtain ⟨rfl, rfl⟩ := hp
    refine W.eq (g2 := F0 m 16 ls [.int (bI (vB (nI y) 4))]) rfl ?_
    refine jb_if_eq (tgt := 45) S dX12_join_16 (by decide) (fun c_16 => ?_) (fun c_16 => ?_)
    · exact absurd (vB_nI hy (by decide)) (by rw [c_16]; decide)
    · refine lv_iload S.1 S.2.1 dX12_join_19 (lv_at hl 4 rfl) ?_
      refine j_callS (As := [.int (nI o)]) (rest := []) S hK hA hW (c_X12_isSlot l D cy (nI o)    ) (jgo wm_X12_162) yk_X12_isSlot ⟨⟨rfl, rfl⟩, by decide, by decide⟩ rfl hl.1 rfl (Nat.le_of_ble_eq_true rfl) dX12_join_21 ⟨Nat.le_of_ble_eq_true rfl, Nat.le_of_ble_eq_true rfl⟩ (fun v u H locs hp hW => ?_)
      obtain ⟨rfl, rfl⟩ := hp
      refine W.eq (g2 := F0 m 24 ls [.int (bI (vB (nI o) 4))]) rfl ?_
      refine jb_if_eq (tgt := 45) S dX12_join_24 (by decide) (fun c_24 => ?_) (fun c_24 => ?_)
      · exact absurd (vB_nI ho (by decide)) (by rw [c_24]; decide)
      · refine lv_iload_n S.1 S.2.1 dX12_join_27 rfl (lv_at hl 3 rfl) ?_
        refine lv_bipush (v := nI 97) S.1 S.2.1 dX12_join_28 (by decide) ?_
        refine jn_cmp_eq (tgt := 51) S (by omega) (by omega) dX12_join_30 (by decide) (fun c_30 => ?_) (fun c_30 => ?_)
        · refine lv_aload_n S.1 S.2.1 dX12_join_51 rfl (lv_at hl 0 rfl) ?_
          refine j_get (ci := 11) (C := RX12) (T := TX12) (N := 17) (v := .ref (ad 71)) S (fun w h => List.mem_cons_of_mem _ (inG12 w h)) hK hW gO_ rfl 14 (by decide) (List.mem_cons_of_mem _ wfl_X12_55) (fun _ h9 => h9) rfl dX12_join_52 ?_
          refine lv_iload_n S.1 S.2.1 dX12_join_55 rfl (lv_at hl 1 rfl) ?_
          refine j_iald (x := kv j) S hK hW (hU.get gV (by decide)) (vp_in_nI (by omega) (by omega)) (nI_clamp (by omega)) (rfl) dX12_join_56 ?_
          refine lv_if_lt (tgt := 69) S.1 S.2.1 dX12_join_57 (by decide) (fun c_57 => ?_) (fun c_57 => ?_)
          · refine lv_aload_n S.1 S.2.1 dX12_join_69 rfl (lv_at hl 0 rfl) ?_
            refine lv_iconst (v := nI 2) S.1 S.2.1 dX12_join_70 (by decide) ?_
            refine j_callV (k := 55) (ci := 11) (q := (RX12, TX12, 17)) (As := [.int (nI 2)]) (rest := []) S hK hA hW (c_X12_fails l D cy ad 0 n nc 2 gO_   ) (jgo wm_X12_71) yk_X12_fails gO_ rfl rfl ⟨⟨rfl, rfl⟩, by decide, by decide⟩ rfl hl.1 rfl (Nat.le_of_ble_eq_true rfl) dX12_join_71 ⟨Nat.le_of_ble_eq_true rfl, Nat.le_of_ble_eq_true rfl⟩ (fun v w_ H locs hp hW => ?_)
            obtain ⟨rfl, hU1, hN1⟩ := hp
            have hU := hU.then hU1 (by decide)
            have gO_ : w_[55]? = some (ad 55, .inr (11, [.int (nI 2), .ref (ad 56), .ref (ad 57), .ref (ad 58), .ref (ad 59), .ref (ad 60), .ref (ad 61), .ref (ad 62), .ref (ad 63), .ref (ad 64), .ref (ad 65), .int (nI n), .int (nI nc), .ref (ad 66), .ref (ad 71), .ref (ad 72), .ref (ad 73)])) := hN1
            clear hU1 hN1
            refine W.eq (g2 := F0 m 74 ls [.int (nI 0)]) rfl ?_
            subst hQ
            exact j_iret (u := w_) S hr (rfl) hK hW dX12_join_74 ⟨by decide, by decide⟩ (⟨rfl, hU, gO_⟩)
          · refine lv_aload_n S.1 S.2.1 dX12_join_60 rfl (lv_at hl 0 rfl) ?_
            refine j_get (ci := 11) (C := RX12) (T := TX12) (N := 17) (v := .ref (ad 71)) S (fun w h => List.mem_cons_of_mem _ (inG12 w h)) hK hW gO_ rfl 14 (by decide) (List.mem_cons_of_mem _ wfl_X12_55) (fun _ h9 => h9) rfl dX12_join_61 ?_
            refine lv_iload_n S.1 S.2.1 dX12_join_64 rfl (lv_at hl 2 rfl) ?_
            refine j_iald (x := kv y) S hK hW (hU.get gV (by decide)) (vp_in_nI (by omega) (by omega)) (nI_clamp (by omega)) (rfl) dX12_join_65 ?_
            refine lv_if_ge (tgt := 75) S.1 S.2.1 dX12_join_66 (by decide) (fun c_66 => ?_) (fun c_66 => ?_)
            · exact (hkv.elim (fun q => by first | exact absurd q c_57 | exact absurd q (Int32.not_lt.mpr c_57)) (fun q => by first | exact absurd q c_66 | exact absurd q (Int32.not_lt.mpr c_66)))
            · refine lv_aload_n S.1 S.2.1 dX12_join_69 rfl (lv_at hl 0 rfl) ?_
              refine lv_iconst (v := nI 2) S.1 S.2.1 dX12_join_70 (by decide) ?_
              refine j_callV (k := 55) (ci := 11) (q := (RX12, TX12, 17)) (As := [.int (nI 2)]) (rest := []) S hK hA hW (c_X12_fails l D cy ad 0 n nc 2 gO_   ) (jgo wm_X12_71) yk_X12_fails gO_ rfl rfl ⟨⟨rfl, rfl⟩, by decide, by decide⟩ rfl hl.1 rfl (Nat.le_of_ble_eq_true rfl) dX12_join_71 ⟨Nat.le_of_ble_eq_true rfl, Nat.le_of_ble_eq_true rfl⟩ (fun v w_ H locs hp hW => ?_)
              obtain ⟨rfl, hU1, hN1⟩ := hp
              have hU := hU.then hU1 (by decide)
              have gO_ : w_[55]? = some (ad 55, .inr (11, [.int (nI 2), .ref (ad 56), .ref (ad 57), .ref (ad 58), .ref (ad 59), .ref (ad 60), .ref (ad 61), .ref (ad 62), .ref (ad 63), .ref (ad 64), .ref (ad 65), .int (nI n), .int (nI nc), .ref (ad 66), .ref (ad 71), .ref (ad 72), .ref (ad 73)])) := hN1
              clear hU1 hN1
              refine W.eq (g2 := F0 m 74 ls [.int (nI 0)]) rfl ?_
              subst hQ
              exact j_iret (u := w_) S hr (rfl) hK hW dX12_join_74 ⟨by decide, by decide⟩ (⟨rfl, hU, gO_⟩)
        · refine lv_iload_n S.1 S.2.1 dX12_join_33 rfl (lv_at hl 3 rfl) ?_
          refine lv_bipush (v := nI 111) S.1 S.2.1 dX12_join_34 (by decide) ?_
          refine jn_cmp_eq (tgt := 51) S (by omega) (by omega) dX12_join_36 (by decide) (fun c_36 => ?_) (fun c_36 => ?_)
          · refine lv_aload_n S.1 S.2.1 dX12_join_51 rfl (lv_at hl 0 rfl) ?_
            refine j_get (ci := 11) (C := RX12) (T := TX12) (N := 17) (v := .ref (ad 71)) S (fun w h => List.mem_cons_of_mem _ (inG12 w h)) hK hW gO_ rfl 14 (by decide) (List.mem_cons_of_mem _ wfl_X12_55) (fun _ h9 => h9) rfl dX12_join_52 ?_
            refine lv_iload_n S.1 S.2.1 dX12_join_55 rfl (lv_at hl 1 rfl) ?_
            refine j_iald (x := kv j) S hK hW (hU.get gV (by decide)) (vp_in_nI (by omega) (by omega)) (nI_clamp (by omega)) (rfl) dX12_join_56 ?_
            refine lv_if_lt (tgt := 69) S.1 S.2.1 dX12_join_57 (by decide) (fun c_57 => ?_) (fun c_57 => ?_)
            · refine lv_aload_n S.1 S.2.1 dX12_join_69 rfl (lv_at hl 0 rfl) ?_
              refine lv_iconst (v := nI 2) S.1 S.2.1 dX12_join_70 (by decide) ?_
              refine j_callV (k := 55) (ci := 11) (q := (RX12, TX12, 17)) (As := [.int (nI 2)]) (rest := []) S hK hA hW (c_X12_fails l D cy ad 0 n nc 2 gO_   ) (jgo wm_X12_71) yk_X12_fails gO_ rfl rfl ⟨⟨rfl, rfl⟩, by decide, by decide⟩ rfl hl.1 rfl (Nat.le_of_ble_eq_true rfl) dX12_join_71 ⟨Nat.le_of_ble_eq_true rfl, Nat.le_of_ble_eq_true rfl⟩ (fun v w_ H locs hp hW => ?_)
              obtain ⟨rfl, hU1, hN1⟩ := hp
              have hU := hU.then hU1 (by decide)
              have gO_ : w_[55]? = some (ad 55, .inr (11, [.int (nI 2), .ref (ad 56), .ref (ad 57), .ref (ad 58), .ref (ad 59), .ref (ad 60), .ref (ad 61), .ref (ad 62), .ref (ad 63), .ref (ad 64), .ref (ad 65), .int (nI n), .int (nI nc), .ref (ad 66), .ref (ad 71), .ref (ad 72), .ref (ad 73)])) := hN1
              clear hU1 hN1
              refine W.eq (g2 := F0 m 74 ls [.int (nI 0)]) rfl ?_
              subst hQ
              exact j_iret (u := w_) S hr (rfl) hK hW dX12_join_74 ⟨by decide, by decide⟩ (⟨rfl, hU, gO_⟩)
            · refine lv_aload_n S.1 S.2.1 dX12_join_60 rfl (lv_at hl 0 rfl) ?_
              refine j_get (ci := 11) (C := RX12) (T := TX12) (N := 17) (v := .ref (ad 71)) S (fun w h => List.mem_cons_of_mem _ (inG12 w h)) hK hW gO_ rfl 14 (by decide) (List.mem_cons_of_mem _ wfl_X12_55) (fun _ h9 => h9) rfl dX12_join_61 ?_
              refine lv_iload_n S.1 S.2.1 dX12_join_64 rfl (lv_at hl 2 rfl) ?_
              refine j_iald (x := kv y) S hK hW (hU.get gV (by decide)) (vp_in_nI (by omega) (by omega)) (nI_clamp (by omega)) (rfl) dX12_join_65 ?_
              refine lv_if_ge (tgt := 75) S.1 S.2.1 dX12_join_66 (by decide) (fun c_66 => ?_) (fun c_66 => ?_)
              · exact (hkv.elim (fun q => by first | exact absurd q c_57 | exact absurd q (Int32.not_lt.mpr c_57)) (fun q => by first | exact absurd q c_66 | exact absurd q (Int32.not_lt.mpr c_66)))
              · refine lv_aload_n S.1 S.2.1 dX12_join_69 rfl (lv_at hl 0 rfl) ?_
                refine lv_iconst (v := nI 2) S.1 S.2.1 dX12_join_70 (by decide) ?_
                refine j_callV (k := 55) (ci := 11) (q := (RX12, TX12, 17)) (As := [.int (nI 2)]) (rest := []) S hK hA hW (c_X12_fails l D cy ad 0 n nc 2 gO_   ) (jgo wm_X12_71) yk_X12_fails gO_ rfl rfl ⟨⟨rfl, rfl⟩, by decide, by decide⟩ rfl hl.1 rfl (Nat.le_of_ble_eq_true rfl) dX12_join_71 ⟨Nat.le_of_ble_eq_true rfl, Nat.le_of_ble_eq_true rfl⟩ (fun v w_ H locs hp hW => ?_)
                obtain ⟨rfl, hU1, hN1⟩ := hp
                have hU := hU.then hU1 (by decide)
                have gO_ : w_[55]? = some (ad 55, .inr (11, [.int (nI 2), .ref (ad 56), .ref (ad 57), .ref (ad 58), .ref (ad 59), .ref (ad 60), .ref (ad 61), .ref (ad 62), .ref (ad 63), .ref (ad 64), .ref (ad 65), .int (nI n), .int (nI nc), .ref (ad 66), .ref (ad 71), .ref (ad 72), .ref (ad 73)])) := hN1
                clear hU1 hN1
                refine W.eq (g2 := F0 m 74 ls [.int (nI 0)]) rfl ?_
                subst hQ
                exact j_iret (u := w_) S hr (rfl) hK hW dX12_join_74 ⟨by decide, by decide⟩ (⟨rfl, hU, gO_⟩)
          · refine lv_iload_n S.1 S.2.1 dX12_join_39 rfl (lv_at hl 3 rfl) ?_
            refine lv_bipush (v := nI 120) S.1 S.2.1 dX12_join_40 (by decide) ?_
            refine jn_cmp_eq (tgt := 51) S (by omega) (by omega) dX12_join_42 (by decide) (fun c_42 => ?_) (fun c_42 => ?_)
            · refine lv_aload_n S.1 S.2.1 dX12_join_51 rfl (lv_at hl 0 rfl) ?_
              refine j_get (ci := 11) (C := RX12) (T := TX12) (N := 17) (v := .ref (ad 71)) S (fun w h => List.mem_cons_of_mem _ (inG12 w h)) hK hW gO_ rfl 14 (by decide) (List.mem_cons_of_mem _ wfl_X12_55) (fun _ h9 => h9) rfl dX12_join_52 ?_
              refine lv_iload_n S.1 S.2.1 dX12_join_55 rfl (lv_at hl 1 rfl) ?_
              refine j_iald (x := kv j) S hK hW (hU.get gV (by decide)) (vp_in_nI (by omega) (by omega)) (nI_clamp (by omega)) (rfl) dX12_join_56 ?_
              refine lv_if_lt (tgt := 69) S.1 S.2.1 dX12_join_57 (by decide) (fun c_57 => ?_) (fun c_57 => ?_)
              · refine lv_aload_n S.1 S.2.1 dX12_join_69 rfl (lv_at hl 0 rfl) ?_
                refine lv_iconst (v := nI 2) S.1 S.2.1 dX12_join_70 (by decide) ?_
                refine j_callV (k := 55) (ci := 11) (q := (RX12, TX12, 17)) (As := [.int (nI 2)]) (rest := []) S hK hA hW (c_X12_fails l D cy ad 0 n nc 2 gO_   ) (jgo wm_X12_71) yk_X12_fails gO_ rfl rfl ⟨⟨rfl, rfl⟩, by decide, by decide⟩ rfl hl.1 rfl (Nat.le_of_ble_eq_true rfl) dX12_join_71 ⟨Nat.le_of_ble_eq_true rfl, Nat.le_of_ble_eq_true rfl⟩ (fun v w_ H locs hp hW => ?_)
                obtain ⟨rfl, hU1, hN1⟩ := hp
                have hU := hU.then hU1 (by decide)
                have gO_ : w_[55]? = some (ad 55, .inr (11, [.int (nI 2), .ref (ad 56), .ref (ad 57), .ref (ad 58), .ref (ad 59), .ref (ad 60), .ref (ad 61), .ref (ad 62), .ref (ad 63), .ref (ad 64), .ref (ad 65), .int (nI n), .int (nI nc), .ref (ad 66), .ref (ad 71), .ref (ad 72), .ref (ad 73)])) := hN1
                clear hU1 hN1
                refine W.eq (g2 := F0 m 74 ls [.int (nI 0)]) rfl ?_
                subst hQ
                exact j_iret (u := w_) S hr (rfl) hK hW dX12_join_74 ⟨by decide, by decide⟩ (⟨rfl, hU, gO_⟩)
              · refine lv_aload_n S.1 S.2.1 dX12_join_60 rfl (lv_at hl 0 rfl) ?_
                refine j_get (ci := 11) (C := RX12) (T := TX12) (N := 17) (v := .ref (ad 71)) S (fun w h => List.mem_cons_of_mem _ (inG12 w h)) hK hW gO_ rfl 14 (by decide) (List.mem_cons_of_mem _ wfl_X12_55) (fun _ h9 => h9) rfl dX12_join_61 ?_
                refine lv_iload_n S.1 S.2.1 dX12_join_64 rfl (lv_at hl 2 rfl) ?_
                refine j_iald (x := kv y) S hK hW (hU.get gV (by decide)) (vp_in_nI (by omega) (by omega)) (nI_clamp (by omega)) (rfl) dX12_join_65 ?_
                refine lv_if_ge (tgt := 75) S.1 S.2.1 dX12_join_66 (by decide) (fun c_66 => ?_) (fun c_66 => ?_)
                · exact (hkv.elim (fun q => by first | exact absurd q c_57 | exact absurd q (Int32.not_lt.mpr c_57)) (fun q => by first | exact absurd q c_66 | exact absurd q (Int32.not_lt.mpr c_66)))
                · refine lv_aload_n S.1 S.2.1 dX12_join_69 rfl (lv_at hl 0 rfl) ?_
                  refine lv_iconst (v := nI 2) S.1 S.2.1 dX12_join_70 (by decide) ?_
                  refine j_callV (k := 55) (ci := 11) (q := (RX12, TX12, 17)) (As := [.int (nI 2)]) (rest := []) S hK hA hW (c_X12_fails l D cy ad 0 n nc 2 gO_   ) (jgo wm_X12_71) yk_X12_fails gO_ rfl rfl ⟨⟨rfl, rfl⟩, by decide, by decide⟩ rfl hl.1 rfl (Nat.le_of_ble_eq_true rfl) dX12_join_71 ⟨Nat.le_of_ble_eq_true rfl, Nat.le_of_ble_eq_true rfl⟩ (fun v w_ H locs hp hW => ?_)
                  obtain ⟨rfl, hU1, hN1⟩ := hp
                  have hU := hU.then hU1 (by decide)
                  have gO_ : w_[55]? = some (ad 55, .inr (11, [.int (nI 2), .ref (ad 56), .ref (ad 57), .ref (ad 58), .ref (ad 59), .ref (ad 60), .ref (ad 61), .ref (ad 62), .ref (ad 63), .ref (ad 64), .ref (ad 65), .int (nI n), .int (nI nc), .ref (ad 66), .ref (ad 71), .ref (ad 72), .ref (ad 73)])) := hN1
                  clear hU1 hN1
                  refine W.eq (g2 := F0 m 74 ls [.int (nI 0)]) rfl ?_
                  subst hQ
                  exact j_iret (u := w_) S hr (rfl) hK hW dX12_join_74 ⟨by decide, by decide⟩ (⟨rfl, hU, gO_⟩)
            · exact absurd hh (by rintro (q | q | q); exact c_30 q; exact c_36 q; exact c_42 q)
/-- join, other variables -/
theorem c_X12_join_b3 (l : Launch) (D : va_G) (cy : Nat → ClassId) {w : va_W} (ad : Nat → Nat) (th n nc : Nat) (kv : Nat → Int32) (j y hw o : Nat) (gO : w[55]? = some (ad 55, .inr (11, [.int (nI th), .ref (ad 56), .ref (ad 57), .ref (ad 58), .ref (ad 59), .ref (ad 60), .ref (ad 61), .ref (ad 62), .ref (ad 63), .ref (ad 64), .ref (ad 65), .int (nI n), .int (nI nc), .ref (ad 66), .ref (ad 71), .ref (ad 72), .ref (ad 73)]))) (gV : w[71]? = some (ad 71, .inl (cy 0, 4, .inl kv))) (hj : j < 4) (hy : y < 4) (ho : o < 4) (hhw : hw < 65536) (hh : howB hw) (hkv : ¬ kv j < 0) (hkw : ¬ kv y < 0) (hne : kv j ≠ nI n ∨ kv y ≠ nI n) : jM l yX12_join (jws yX12_join cX12_join 8 (some .int)) (jR 5 0 0) D cy w [.ref (ad 55), .int (nI j), .int (nI y), .int (nI hw), .int (nI o)] 0 0 (fun vv uu => vv = some (.int (nI 0)) ∧ jU w uu [55] ∧ uu[55]? = some (ad 55, .inr (11, [.int (nI 3), .ref (ad 56), .ref (ad 57), .ref (ad 58), .ref (ad 59), .ref (ad 60), .ref (ad 61), .ref (ad 62), .ref (ad 63), .ref (ad 64), .ref (ad 65), .int (nI n), .int (nI nc), .ref (ad 66), .ref (ad 71), .ref (ad 72), .ref (ad 73)]))) := by
  refine j_of (by decide) rfl (Nat.le_of_ble_eq_true rfl) ?_
  intro p e s m args below meth c A ls Q hQ S hr hK hA H locs hW hl
  have hl : lv_has ls 8 [(0, .ref (ad 55)), (1, .int (nI j)), (2, .int (nI y)), (3, .int (nI hw)), (4, .int (nI o))] := hl
  refine lv_aload_n S.1 S.2.1 dX12_join_0 rfl (lv_at hl 0 rfl) ?_
  refine lv_iconst (v := nI 0) S.1 S.2.1 dX12_join_1 (by decide) ?_
  refine j_put (ci := 11) (C := RX12) (T := TX12) (N := 17) (ty := .int) S (fun w h => List.mem_cons_of_mem _ (inG12 w h)) tyX12 tyX12_ok nmX12 hK hW gO rfl 0 (by decide) (List.mem_cons_of_mem _ wfl_X12_1) (fun _ h9 => h9) rfl (by decide +kernel) (rfl) (rfl) (Nat.le_of_ble_eq_true rfl) dX12_join_2 (fun H locs w_ hU1 hN1 hW => ?_)
  have hU : jU w w_ [55] := jU.mono hU1 (by decide)
  have gO_ : w_[55]? = some (ad 55, .inr (11, [.int (nI 0), .ref (ad 56), .ref (ad 57), .ref (ad 58), .ref (ad 59), .ref (ad 60), .ref (ad 61), .ref (ad 62), .ref (ad 63), .ref (ad 64), .ref (ad 65), .int (nI n), .int (nI nc), .ref (ad 66), .ref (ad 71), .ref (ad 72), .ref (ad 73)])) := hN1
  clear hU1 hN1
  refine lv_iload_n S.1 S.2.1 dX12_join_5 rfl (lv_at hl 1 rfl) ?_
  refine j_callS (As := [.int (nI j)]) (rest := []) S hK hA hW (c_X12_isSlot l D cy (nI j)    ) (jgo wm_X12_162) yk_X12_isSlot ⟨⟨rfl, rfl⟩, by decide, by decide⟩ rfl hl.1 rfl (Nat.le_of_ble_eq_true rfl) dX12_join_6 ⟨Nat.le_of_ble_eq_true rfl, Nat.le_of_ble_eq_true rfl⟩ (fun v u H locs hp hW => ?_)
  obtain ⟨rfl, rfl⟩ := hp
  refine W.eq (g2 := F0 m 9 ls [.int (bI (vB (nI j) 4))]) rfl ?_
  refine jb_if_eq (tgt := 45) S dX12_join_9 (by decide) (fun c_9 => ?_) (fun c_9 => ?_)
  · exact absurd (vB_nI hj (by decide)) (by rw [c_9]; decide)
  · refine lv_iload_n S.1 S.2.1 dX12_join_12 rfl (lv_at hl 2 rfl) ?_
    refine j_callS (As := [.int (nI y)]) (rest := []) S hK hA hW (c_X12_isSlot l D cy (nI y)    ) (jgo wm_X12_162) yk_X12_isSlot ⟨⟨rfl, rfl⟩, by decide, by decide⟩ rfl hl.1 rfl (Nat.le_of_ble_eq_true rfl) dX12_join_13 ⟨Nat.le_of_ble_eq_true rfl, Nat.le_of_ble_eq_true rfl⟩ (fun v u H locs hp hW => ?_)
    obtain ⟨rfl, rfl⟩ := hp
    refine W.eq (g2 := F0 m 16 ls [.int (bI (vB (nI y) 4))]) rfl ?_
    refine jb_if_eq (tgt := 45) S dX12_join_16 (by decide) (fun c_16 => ?_) (fun c_16 => ?_)
    · exact absurd (vB_nI hy (by decide)) (by rw [c_16]; decide)
    · refine lv_iload S.1 S.2.1 dX12_join_19 (lv_at hl 4 rfl) ?_
      refine j_callS (As := [.int (nI o)]) (rest := []) S hK hA hW (c_X12_isSlot l D cy (nI o)    ) (jgo wm_X12_162) yk_X12_isSlot ⟨⟨rfl, rfl⟩, by decide, by decide⟩ rfl hl.1 rfl (Nat.le_of_ble_eq_true rfl) dX12_join_21 ⟨Nat.le_of_ble_eq_true rfl, Nat.le_of_ble_eq_true rfl⟩ (fun v u H locs hp hW => ?_)
      obtain ⟨rfl, rfl⟩ := hp
      refine W.eq (g2 := F0 m 24 ls [.int (bI (vB (nI o) 4))]) rfl ?_
      refine jb_if_eq (tgt := 45) S dX12_join_24 (by decide) (fun c_24 => ?_) (fun c_24 => ?_)
      · exact absurd (vB_nI ho (by decide)) (by rw [c_24]; decide)
      · refine lv_iload_n S.1 S.2.1 dX12_join_27 rfl (lv_at hl 3 rfl) ?_
        refine lv_bipush (v := nI 97) S.1 S.2.1 dX12_join_28 (by decide) ?_
        refine jn_cmp_eq (tgt := 51) S (by omega) (by omega) dX12_join_30 (by decide) (fun c_30 => ?_) (fun c_30 => ?_)
        · refine lv_aload_n S.1 S.2.1 dX12_join_51 rfl (lv_at hl 0 rfl) ?_
          refine j_get (ci := 11) (C := RX12) (T := TX12) (N := 17) (v := .ref (ad 71)) S (fun w h => List.mem_cons_of_mem _ (inG12 w h)) hK hW gO_ rfl 14 (by decide) (List.mem_cons_of_mem _ wfl_X12_55) (fun _ h9 => h9) rfl dX12_join_52 ?_
          refine lv_iload_n S.1 S.2.1 dX12_join_55 rfl (lv_at hl 1 rfl) ?_
          refine j_iald (x := kv j) S hK hW (hU.get gV (by decide)) (vp_in_nI (by omega) (by omega)) (nI_clamp (by omega)) (rfl) dX12_join_56 ?_
          refine lv_if_lt (tgt := 69) S.1 S.2.1 dX12_join_57 (by decide) (fun c_57 => ?_) (fun c_57 => ?_)
          · first | exact absurd c_57 hkv | exact hkv c_57 | exact hkv (i32_lt.mpr c_57)
          · refine lv_aload_n S.1 S.2.1 dX12_join_60 rfl (lv_at hl 0 rfl) ?_
            refine j_get (ci := 11) (C := RX12) (T := TX12) (N := 17) (v := .ref (ad 71)) S (fun w h => List.mem_cons_of_mem _ (inG12 w h)) hK hW gO_ rfl 14 (by decide) (List.mem_cons_of_mem _ wfl_X12_55) (fun _ h9 => h9) rfl dX12_join_61 ?_
            refine lv_iload_n S.1 S.2.1 dX12_join_64 rfl (lv_at hl 2 rfl) ?_
            refine j_iald (x := kv y) S hK hW (hU.get gV (by decide)) (vp_in_nI (by omega) (by omega)) (nI_clamp (by omega)) (rfl) dX12_join_65 ?_
            refine lv_if_ge (tgt := 75) S.1 S.2.1 dX12_join_66 (by decide) (fun c_66 => ?_) (fun c_66 => ?_)
            · refine lv_aload_n S.1 S.2.1 dX12_join_75 rfl (lv_at hl 0 rfl) ?_
              refine j_get (ci := 11) (C := RX12) (T := TX12) (N := 17) (v := .ref (ad 71)) S (fun w h => List.mem_cons_of_mem _ (inG12 w h)) hK hW gO_ rfl 14 (by decide) (List.mem_cons_of_mem _ wfl_X12_55) (fun _ h9 => h9) rfl dX12_join_76 ?_
              refine lv_iload_n S.1 S.2.1 dX12_join_79 rfl (lv_at hl 1 rfl) ?_
              refine j_iald (x := kv j) S hK hW (hU.get gV (by decide)) (vp_in_nI (by omega) (by omega)) (nI_clamp (by omega)) (rfl) dX12_join_80 ?_
              refine lv_aload_n S.1 S.2.1 dX12_join_81 rfl (lv_at hl 0 rfl) ?_
              refine j_get (ci := 11) (C := RX12) (T := TX12) (N := 17) (v := .int (nI n)) S (fun w h => List.mem_cons_of_mem _ (inG12 w h)) hK hW gO_ rfl 11 (by decide) (List.mem_cons_of_mem _ wfl_X12_64) (fun _ h9 => h9) rfl dX12_join_82 ?_
              refine lv_icmp_ne (tgt := 101) S.1 S.2.1 dX12_join_85 (by decide) (fun c_85 => ?_) (fun c_85 => ?_)
              · refine lv_aload_n S.1 S.2.1 dX12_join_101 rfl (lv_at hl 0 rfl) ?_
                refine lv_iconst (v := nI 3) S.1 S.2.1 dX12_join_102 (by decide) ?_
                refine j_callV (k := 55) (ci := 11) (q := (RX12, TX12, 17)) (As := [.int (nI 3)]) (rest := []) S hK hA hW (c_X12_fails l D cy ad 0 n nc 3 gO_   ) (jgo wm_X12_71) yk_X12_fails gO_ rfl rfl ⟨⟨rfl, rfl⟩, by decide, by decide⟩ rfl hl.1 rfl (Nat.le_of_ble_eq_true rfl) dX12_join_103 ⟨Nat.le_of_ble_eq_true rfl, Nat.le_of_ble_eq_true rfl⟩ (fun v w_ H locs hp hW => ?_)
                obtain ⟨rfl, hU1, hN1⟩ := hp
                have hU := hU.then hU1 (by decide)
                have gO_ : w_[55]? = some (ad 55, .inr (11, [.int (nI 3), .ref (ad 56), .ref (ad 57), .ref (ad 58), .ref (ad 59), .ref (ad 60), .ref (ad 61), .ref (ad 62), .ref (ad 63), .ref (ad 64), .ref (ad 65), .int (nI n), .int (nI nc), .ref (ad 66), .ref (ad 71), .ref (ad 72), .ref (ad 73)])) := hN1
                clear hU1 hN1
                refine W.eq (g2 := F0 m 106 ls [.int (nI 0)]) rfl ?_
                subst hQ
                exact j_iret (u := w_) S hr (rfl) hK hW dX12_join_106 ⟨by decide, by decide⟩ (⟨rfl, hU, gO_⟩)
              · refine lv_aload_n S.1 S.2.1 dX12_join_88 rfl (lv_at hl 0 rfl) ?_
                refine j_get (ci := 11) (C := RX12) (T := TX12) (N := 17) (v := .ref (ad 71)) S (fun w h => List.mem_cons_of_mem _ (inG12 w h)) hK hW gO_ rfl 14 (by decide) (List.mem_cons_of_mem _ wfl_X12_55) (fun _ h9 => h9) rfl dX12_join_89 ?_
                refine lv_iload_n S.1 S.2.1 dX12_join_92 rfl (lv_at hl 2 rfl) ?_
                refine j_iald (x := kv y) S hK hW (hU.get gV (by decide)) (vp_in_nI (by omega) (by omega)) (nI_clamp (by omega)) (rfl) dX12_join_93 ?_
                refine lv_aload_n S.1 S.2.1 dX12_join_94 rfl (lv_at hl 0 rfl) ?_
                refine j_get (ci := 11) (C := RX12) (T := TX12) (N := 17) (v := .int (nI n)) S (fun w h => List.mem_cons_of_mem _ (inG12 w h)) hK hW gO_ rfl 11 (by decide) (List.mem_cons_of_mem _ wfl_X12_64) (fun _ h9 => h9) rfl dX12_join_95 ?_
                refine lv_icmp_eq (tgt := 107) S.1 S.2.1 dX12_join_98 (by decide) (fun c_98 => ?_) (fun c_98 => ?_)
                · exact (hne.elim (fun q => absurd c_85 q) (fun q => absurd c_98 q))
                · refine lv_aload_n S.1 S.2.1 dX12_join_101 rfl (lv_at hl 0 rfl) ?_
                  refine lv_iconst (v := nI 3) S.1 S.2.1 dX12_join_102 (by decide) ?_
                  refine j_callV (k := 55) (ci := 11) (q := (RX12, TX12, 17)) (As := [.int (nI 3)]) (rest := []) S hK hA hW (c_X12_fails l D cy ad 0 n nc 3 gO_   ) (jgo wm_X12_71) yk_X12_fails gO_ rfl rfl ⟨⟨rfl, rfl⟩, by decide, by decide⟩ rfl hl.1 rfl (Nat.le_of_ble_eq_true rfl) dX12_join_103 ⟨Nat.le_of_ble_eq_true rfl, Nat.le_of_ble_eq_true rfl⟩ (fun v w_ H locs hp hW => ?_)
                  obtain ⟨rfl, hU1, hN1⟩ := hp
                  have hU := hU.then hU1 (by decide)
                  have gO_ : w_[55]? = some (ad 55, .inr (11, [.int (nI 3), .ref (ad 56), .ref (ad 57), .ref (ad 58), .ref (ad 59), .ref (ad 60), .ref (ad 61), .ref (ad 62), .ref (ad 63), .ref (ad 64), .ref (ad 65), .int (nI n), .int (nI nc), .ref (ad 66), .ref (ad 71), .ref (ad 72), .ref (ad 73)])) := hN1
                  clear hU1 hN1
                  refine W.eq (g2 := F0 m 106 ls [.int (nI 0)]) rfl ?_
                  subst hQ
                  exact j_iret (u := w_) S hr (rfl) hK hW dX12_join_106 ⟨by decide, by decide⟩ (⟨rfl, hU, gO_⟩)
            · first | exact absurd c_66 hkw | exact absurd (Int32.not_le.mp c_66) hkw | exact hkw (i32_lt.mpr c_66)
        · refine lv_iload_n S.1 S.2.1 dX12_join_33 rfl (lv_at hl 3 rfl) ?_
          refine lv_bipush (v := nI 111) S.1 S.2.1 dX12_join_34 (by decide) ?_
          refine jn_cmp_eq (tgt := 51) S (by omega) (by omega) dX12_join_36 (by decide) (fun c_36 => ?_) (fun c_36 => ?_)
          · refine lv_aload_n S.1 S.2.1 dX12_join_51 rfl (lv_at hl 0 rfl) ?_
            refine j_get (ci := 11) (C := RX12) (T := TX12) (N := 17) (v := .ref (ad 71)) S (fun w h => List.mem_cons_of_mem _ (inG12 w h)) hK hW gO_ rfl 14 (by decide) (List.mem_cons_of_mem _ wfl_X12_55) (fun _ h9 => h9) rfl dX12_join_52 ?_
            refine lv_iload_n S.1 S.2.1 dX12_join_55 rfl (lv_at hl 1 rfl) ?_
            refine j_iald (x := kv j) S hK hW (hU.get gV (by decide)) (vp_in_nI (by omega) (by omega)) (nI_clamp (by omega)) (rfl) dX12_join_56 ?_
            refine lv_if_lt (tgt := 69) S.1 S.2.1 dX12_join_57 (by decide) (fun c_57 => ?_) (fun c_57 => ?_)
            · first | exact absurd c_57 hkv | exact hkv c_57 | exact hkv (i32_lt.mpr c_57)
            · refine lv_aload_n S.1 S.2.1 dX12_join_60 rfl (lv_at hl 0 rfl) ?_
              refine j_get (ci := 11) (C := RX12) (T := TX12) (N := 17) (v := .ref (ad 71)) S (fun w h => List.mem_cons_of_mem _ (inG12 w h)) hK hW gO_ rfl 14 (by decide) (List.mem_cons_of_mem _ wfl_X12_55) (fun _ h9 => h9) rfl dX12_join_61 ?_
              refine lv_iload_n S.1 S.2.1 dX12_join_64 rfl (lv_at hl 2 rfl) ?_
              refine j_iald (x := kv y) S hK hW (hU.get gV (by decide)) (vp_in_nI (by omega) (by omega)) (nI_clamp (by omega)) (rfl) dX12_join_65 ?_
              refine lv_if_ge (tgt := 75) S.1 S.2.1 dX12_join_66 (by decide) (fun c_66 => ?_) (fun c_66 => ?_)
              · refine lv_aload_n S.1 S.2.1 dX12_join_75 rfl (lv_at hl 0 rfl) ?_
                refine j_get (ci := 11) (C := RX12) (T := TX12) (N := 17) (v := .ref (ad 71)) S (fun w h => List.mem_cons_of_mem _ (inG12 w h)) hK hW gO_ rfl 14 (by decide) (List.mem_cons_of_mem _ wfl_X12_55) (fun _ h9 => h9) rfl dX12_join_76 ?_
                refine lv_iload_n S.1 S.2.1 dX12_join_79 rfl (lv_at hl 1 rfl) ?_
                refine j_iald (x := kv j) S hK hW (hU.get gV (by decide)) (vp_in_nI (by omega) (by omega)) (nI_clamp (by omega)) (rfl) dX12_join_80 ?_
                refine lv_aload_n S.1 S.2.1 dX12_join_81 rfl (lv_at hl 0 rfl) ?_
                refine j_get (ci := 11) (C := RX12) (T := TX12) (N := 17) (v := .int (nI n)) S (fun w h => List.mem_cons_of_mem _ (inG12 w h)) hK hW gO_ rfl 11 (by decide) (List.mem_cons_of_mem _ wfl_X12_64) (fun _ h9 => h9) rfl dX12_join_82 ?_
                refine lv_icmp_ne (tgt := 101) S.1 S.2.1 dX12_join_85 (by decide) (fun c_85 => ?_) (fun c_85 => ?_)
                · refine lv_aload_n S.1 S.2.1 dX12_join_101 rfl (lv_at hl 0 rfl) ?_
                  refine lv_iconst (v := nI 3) S.1 S.2.1 dX12_join_102 (by decide) ?_
                  refine j_callV (k := 55) (ci := 11) (q := (RX12, TX12, 17)) (As := [.int (nI 3)]) (rest := []) S hK hA hW (c_X12_fails l D cy ad 0 n nc 3 gO_   ) (jgo wm_X12_71) yk_X12_fails gO_ rfl rfl ⟨⟨rfl, rfl⟩, by decide, by decide⟩ rfl hl.1 rfl (Nat.le_of_ble_eq_true rfl) dX12_join_103 ⟨Nat.le_of_ble_eq_true rfl, Nat.le_of_ble_eq_true rfl⟩ (fun v w_ H locs hp hW => ?_)
                  obtain ⟨rfl, hU1, hN1⟩ := hp
                  have hU := hU.then hU1 (by decide)
                  have gO_ : w_[55]? = some (ad 55, .inr (11, [.int (nI 3), .ref (ad 56), .ref (ad 57), .ref (ad 58), .ref (ad 59), .ref (ad 60), .ref (ad 61), .ref (ad 62), .ref (ad 63), .ref (ad 64), .ref (ad 65), .int (nI n), .int (nI nc), .ref (ad 66), .ref (ad 71), .ref (ad 72), .ref (ad 73)])) := hN1
                  clear hU1 hN1
                  refine W.eq (g2 := F0 m 106 ls [.int (nI 0)]) rfl ?_
                  subst hQ
                  exact j_iret (u := w_) S hr (rfl) hK hW dX12_join_106 ⟨by decide, by decide⟩ (⟨rfl, hU, gO_⟩)
                · refine lv_aload_n S.1 S.2.1 dX12_join_88 rfl (lv_at hl 0 rfl) ?_
                  refine j_get (ci := 11) (C := RX12) (T := TX12) (N := 17) (v := .ref (ad 71)) S (fun w h => List.mem_cons_of_mem _ (inG12 w h)) hK hW gO_ rfl 14 (by decide) (List.mem_cons_of_mem _ wfl_X12_55) (fun _ h9 => h9) rfl dX12_join_89 ?_
                  refine lv_iload_n S.1 S.2.1 dX12_join_92 rfl (lv_at hl 2 rfl) ?_
                  refine j_iald (x := kv y) S hK hW (hU.get gV (by decide)) (vp_in_nI (by omega) (by omega)) (nI_clamp (by omega)) (rfl) dX12_join_93 ?_
                  refine lv_aload_n S.1 S.2.1 dX12_join_94 rfl (lv_at hl 0 rfl) ?_
                  refine j_get (ci := 11) (C := RX12) (T := TX12) (N := 17) (v := .int (nI n)) S (fun w h => List.mem_cons_of_mem _ (inG12 w h)) hK hW gO_ rfl 11 (by decide) (List.mem_cons_of_mem _ wfl_X12_64) (fun _ h9 => h9) rfl dX12_join_95 ?_
                  refine lv_icmp_eq (tgt := 107) S.1 S.2.1 dX12_join_98 (by decide) (fun c_98 => ?_) (fun c_98 => ?_)
                  · exact (hne.elim (fun q => absurd c_85 q) (fun q => absurd c_98 q))
                  · refine lv_aload_n S.1 S.2.1 dX12_join_101 rfl (lv_at hl 0 rfl) ?_
                    refine lv_iconst (v := nI 3) S.1 S.2.1 dX12_join_102 (by decide) ?_
                    refine j_callV (k := 55) (ci := 11) (q := (RX12, TX12, 17)) (As := [.int (nI 3)]) (rest := []) S hK hA hW (c_X12_fails l D cy ad 0 n nc 3 gO_   ) (jgo wm_X12_71) yk_X12_fails gO_ rfl rfl ⟨⟨rfl, rfl⟩, by decide, by decide⟩ rfl hl.1 rfl (Nat.le_of_ble_eq_true rfl) dX12_join_103 ⟨Nat.le_of_ble_eq_true rfl, Nat.le_of_ble_eq_true rfl⟩ (fun v w_ H locs hp hW => ?_)
                    obtain ⟨rfl, hU1, hN1⟩ := hp
                    have hU := hU.then hU1 (by decide)
                    have gO_ : w_[55]? = some (ad 55, .inr (11, [.int (nI 3), .ref (ad 56), .ref (ad 57), .ref (ad 58), .ref (ad 59), .ref (ad 60), .ref (ad 61), .ref (ad 62), .ref (ad 63), .ref (ad 64), .ref (ad 65), .int (nI n), .int (nI nc), .ref (ad 66), .ref (ad 71), .ref (ad 72), .ref (ad 73)])) := hN1
                    clear hU1 hN1
                    refine W.eq (g2 := F0 m 106 ls [.int (nI 0)]) rfl ?_
                    subst hQ
                    exact j_iret (u := w_) S hr (rfl) hK hW dX12_join_106 ⟨by decide, by decide⟩ (⟨rfl, hU, gO_⟩)
              · first | exact absurd c_66 hkw | exact absurd (Int32.not_le.mp c_66) hkw | exact hkw (i32_lt.mpr c_66)
          · refine lv_iload_n S.1 S.2.1 dX12_join_39 rfl (lv_at hl 3 rfl) ?_
            refine lv_bipush (v := nI 120) S.1 S.2.1 dX12_join_40 (by decide) ?_
            refine jn_cmp_eq (tgt := 51) S (by omega) (by omega) dX12_join_42 (by decide) (fun c_42 => ?_) (fun c_42 => ?_)
            · refine lv_aload_n S.1 S.2.1 dX12_join_51 rfl (lv_at hl 0 rfl) ?_
              refine j_get (ci := 11) (C := RX12) (T := TX12) (N := 17) (v := .ref (ad 71)) S (fun w h => List.mem_cons_of_mem _ (inG12 w h)) hK hW gO_ rfl 14 (by decide) (List.mem_cons_of_mem _ wfl_X12_55) (fun _ h9 => h9) rfl dX12_join_52 ?_
              refine lv_iload_n S.1 S.2.1 dX12_join_55 rfl (lv_at hl 1 rfl) ?_
              refine j_iald (x := kv j) S hK hW (hU.get gV (by decide)) (vp_in_nI (by omega) (by omega)) (nI_clamp (by omega)) (rfl) dX12_join_56 ?_
              refine lv_if_lt (tgt := 69) S.1 S.2.1 dX12_join_57 (by decide) (fun c_57 => ?_) (fun c_57 => ?_)
              · first | exact absurd c_57 hkv | exact hkv c_57 | exact hkv (i32_lt.mpr c_57)
              · refine lv_aload_n S.1 S.2.1 dX12_join_60 rfl (lv_at hl 0 rfl) ?_
                refine j_get (ci := 11) (C := RX12) (T := TX12) (N := 17) (v := .ref (ad 71)) S (fun w h => List.mem_cons_of_mem _ (inG12 w h)) hK hW gO_ rfl 14 (by decide) (List.mem_cons_of_mem _ wfl_X12_55) (fun _ h9 => h9) rfl dX12_join_61 ?_
                refine lv_iload_n S.1 S.2.1 dX12_join_64 rfl (lv_at hl 2 rfl) ?_
                refine j_iald (x := kv y) S hK hW (hU.get gV (by decide)) (vp_in_nI (by omega) (by omega)) (nI_clamp (by omega)) (rfl) dX12_join_65 ?_
                refine lv_if_ge (tgt := 75) S.1 S.2.1 dX12_join_66 (by decide) (fun c_66 => ?_) (fun c_66 => ?_)
                · refine lv_aload_n S.1 S.2.1 dX12_join_75 rfl (lv_at hl 0 rfl) ?_
                  refine j_get (ci := 11) (C := RX12) (T := TX12) (N := 17) (v := .ref (ad 71)) S (fun w h => List.mem_cons_of_mem _ (inG12 w h)) hK hW gO_ rfl 14 (by decide) (List.mem_cons_of_mem _ wfl_X12_55) (fun _ h9 => h9) rfl dX12_join_76 ?_
                  refine lv_iload_n S.1 S.2.1 dX12_join_79 rfl (lv_at hl 1 rfl) ?_
                  refine j_iald (x := kv j) S hK hW (hU.get gV (by decide)) (vp_in_nI (by omega) (by omega)) (nI_clamp (by omega)) (rfl) dX12_join_80 ?_
                  refine lv_aload_n S.1 S.2.1 dX12_join_81 rfl (lv_at hl 0 rfl) ?_
                  refine j_get (ci := 11) (C := RX12) (T := TX12) (N := 17) (v := .int (nI n)) S (fun w h => List.mem_cons_of_mem _ (inG12 w h)) hK hW gO_ rfl 11 (by decide) (List.mem_cons_of_mem _ wfl_X12_64) (fun _ h9 => h9) rfl dX12_join_82 ?_
                  refine lv_icmp_ne (tgt := 101) S.1 S.2.1 dX12_join_85 (by decide) (fun c_85 => ?_) (fun c_85 => ?_)
                  · refine lv_aload_n S.1 S.2.1 dX12_join_101 rfl (lv_at hl 0 rfl) ?_
                    refine lv_iconst (v := nI 3) S.1 S.2.1 dX12_join_102 (by decide) ?_
                    refine j_callV (k := 55) (ci := 11) (q := (RX12, TX12, 17)) (As := [.int (nI 3)]) (rest := []) S hK hA hW (c_X12_fails l D cy ad 0 n nc 3 gO_   ) (jgo wm_X12_71) yk_X12_fails gO_ rfl rfl ⟨⟨rfl, rfl⟩, by decide, by decide⟩ rfl hl.1 rfl (Nat.le_of_ble_eq_true rfl) dX12_join_103 ⟨Nat.le_of_ble_eq_true rfl, Nat.le_of_ble_eq_true rfl⟩ (fun v w_ H locs hp hW => ?_)
                    obtain ⟨rfl, hU1, hN1⟩ := hp
                    have hU := hU.then hU1 (by decide)
                    have gO_ : w_[55]? = some (ad 55, .inr (11, [.int (nI 3), .ref (ad 56), .ref (ad 57), .ref (ad 58), .ref (ad 59), .ref (ad 60), .ref (ad 61), .ref (ad 62), .ref (ad 63), .ref (ad 64), .ref (ad 65), .int (nI n), .int (nI nc), .ref (ad 66), .ref (ad 71), .ref (ad 72), .ref (ad 73)])) := hN1
                    clear hU1 hN1
                    refine W.eq (g2 := F0 m 106 ls [.int (nI 0)]) rfl ?_
                    subst hQ
                    exact j_iret (u := w_) S hr (rfl) hK hW dX12_join_106 ⟨by decide, by decide⟩ (⟨rfl, hU, gO_⟩)
                  · refine lv_aload_n S.1 S.2.1 dX12_join_88 rfl (lv_at hl 0 rfl) ?_
                    refine j_get (ci := 11) (C := RX12) (T := TX12) (N := 17) (v := .ref (ad 71)) S (fun w h => List.mem_cons_of_mem _ (inG12 w h)) hK hW gO_ rfl 14 (by decide) (List.mem_cons_of_mem _ wfl_X12_55) (fun _ h9 => h9) rfl dX12_join_89 ?_
                    refine lv_iload_n S.1 S.2.1 dX12_join_92 rfl (lv_at hl 2 rfl) ?_
                    refine j_iald (x := kv y) S hK hW (hU.get gV (by decide)) (vp_in_nI (by omega) (by omega)) (nI_clamp (by omega)) (rfl) dX12_join_93 ?_
                    refine lv_aload_n S.1 S.2.1 dX12_join_94 rfl (lv_at hl 0 rfl) ?_
                    refine j_get (ci := 11) (C := RX12) (T := TX12) (N := 17) (v := .int (nI n)) S (fun w h => List.mem_cons_of_mem _ (inG12 w h)) hK hW gO_ rfl 11 (by decide) (List.mem_cons_of_mem _ wfl_X12_64) (fun _ h9 => h9) rfl dX12_join_95 ?_
                    refine lv_icmp_eq (tgt := 107) S.1 S.2.1 dX12_join_98 (by decide) (fun c_98 => ?_) (fun c_98 => ?_)
                    · exact (hne.elim (fun q => absurd c_85 q) (fun q => absurd c_98 q))
                    · refine lv_aload_n S.1 S.2.1 dX12_join_101 rfl (lv_at hl 0 rfl) ?_
                      refine lv_iconst (v := nI 3) S.1 S.2.1 dX12_join_102 (by decide) ?_
                      refine j_callV (k := 55) (ci := 11) (q := (RX12, TX12, 17)) (As := [.int (nI 3)]) (rest := []) S hK hA hW (c_X12_fails l D cy ad 0 n nc 3 gO_   ) (jgo wm_X12_71) yk_X12_fails gO_ rfl rfl ⟨⟨rfl, rfl⟩, by decide, by decide⟩ rfl hl.1 rfl (Nat.le_of_ble_eq_true rfl) dX12_join_103 ⟨Nat.le_of_ble_eq_true rfl, Nat.le_of_ble_eq_true rfl⟩ (fun v w_ H locs hp hW => ?_)
                      obtain ⟨rfl, hU1, hN1⟩ := hp
                      have hU := hU.then hU1 (by decide)
                      have gO_ : w_[55]? = some (ad 55, .inr (11, [.int (nI 3), .ref (ad 56), .ref (ad 57), .ref (ad 58), .ref (ad 59), .ref (ad 60), .ref (ad 61), .ref (ad 62), .ref (ad 63), .ref (ad 64), .ref (ad 65), .int (nI n), .int (nI nc), .ref (ad 66), .ref (ad 71), .ref (ad 72), .ref (ad 73)])) := hN1
                      clear hU1 hN1
                      refine W.eq (g2 := F0 m 106 ls [.int (nI 0)]) rfl ?_
                      subst hQ
                      exact j_iret (u := w_) S hr (rfl) hK hW dX12_join_106 ⟨by decide, by decide⟩ (⟨rfl, hU, gO_⟩)
                · first | exact absurd c_66 hkw | exact absurd (Int32.not_le.mp c_66) hkw | exact hkw (i32_lt.mpr c_66)
            · exact absurd hh (by rintro (q | q | q); exact c_30 q; exact c_36 q; exact c_42 q)
