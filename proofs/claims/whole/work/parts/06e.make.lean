/-! CIRCUIT: layOut and make (laid by wip/whole/tools, from the specs there) -/
theorem lay_0 {n : Nat} {od tp : Nat → Nat} : mixN (2 ^ 0) (fun d => layP n od d 0) tp = upB tp 0 0 := by
  funext j
  unfold mixN upB
  by_cases e : j = 0
  · subst e; rfl
  · rw [if_neg e, if_neg (by have : 2 ^ 0 = 1 := rfl; omega)]
/-- layOut: the assignment of each choice -/
theorem c_X2_layOut (l : Launch) (D : va_G) (cy : Nat → ClassId) {w : va_W} (ad : Nat → Nat) (sz : Nat) (tp od : Nat → Nat) (n : Nat) (hX : w[31]? = some (ad 31, .inr (2, [.ref (ad 32), .ref (ad 34), .ref (ad 36), .ref (ad 38), .ref (ad 40), .int (nI sz)]))) (hXto : w[32]? = some (ad 32, .inr (5, [.ref (ad 33)]))) (hXta : w[33]? = some (ad 33, .inl (cy 0, 1024, .inl (nf tp)))) (hOo : w[7]? = some (ad 7, .inr (5, [.ref (ad 8)]))) (hOa : w[8]? = some (ad 8, .inl (cy 0, 10, .inl (nf od)))) (hn : n ≤ 10) (hod : ∀ j, od j < 10) : jM l yX2_layOut (jws yX2_layOut cX2_layOut 7 none) (jR 1 0 0) D cy w [.ref (ad 31), .int (nI n), .ref (ad 7)] 0 0 (fun vv uu => vv = none ∧ jU w uu [33] ∧ uu[33]? = some (ad 33, .inl (cy 0, 1024, .inl (nf (mixN (2 ^ n) (fun d => layP n od d n) tp))))) := by
  refine j_of (by decide) rfl (Nat.le_of_ble_eq_true rfl) ?_
  intro p e s m args below meth c A ls Q hQ S hr hK hA H locs hW hl
  have hl : lv_has ls 7 [(0, .ref (ad 31)), (1, .int (nI n)), (2, .ref (ad 7))] := hl
  refine lv_aload_n S.1 S.2.1 dX2_layOut_0 rfl (lv_at hl 0 rfl) ?_
  refine j_get (ci := 2) (C := RX2) (T := TX2) (N := 6) (v := .ref (ad 32)) S (fun w h => List.mem_cons_of_mem _ (inG2 w h)) hK hW hX rfl 0 (by decide) (List.mem_cons_of_mem _ wfl_X2_14) (fun _ h9 => h9) rfl dX2_layOut_1 ?_
  refine lv_iconst (v := nI 0) S.1 S.2.1 dX2_layOut_4 (by decide) ?_
  refine lv_iconst (v := nI 0) S.1 S.2.1 dX2_layOut_5 (by decide) ?_
  refine j_callV (k := 32) (ci := 5) (q := (RX6, TX6, 1)) (As := [.int (nI 0), .int (nI 0)]) (rest := []) S hK hA hW (c_X6_putN l D cy 32 33 (ad 32) (ad 33) 1024 0 tp 0 hXto hXta   (by omega) (by decide)) (jgo wm_X2_50) yk_X6_put hXto rfl rfl ⟨⟨rfl, rfl⟩, by decide, by decide⟩ rfl hl.1 rfl (Nat.le_of_ble_eq_true rfl) dX2_layOut_6 ⟨Nat.le_of_ble_eq_true rfl, Nat.le_of_ble_eq_true rfl⟩ (fun v w_ H locs hp hW => ?_)
  obtain ⟨rfl, hU1, hN1⟩ := hp
  have hU : jU w w_ [33] := jU.mono hU1 (by decide)
  have hXta_ : w_[33]? = some (ad 33, .inl (cy 0, 1024, .inl (nf (upB tp 0 0)))) := hN1
  clear hU1 hN1
  refine W.eq (g2 := F0 m 9 ls []) rfl ?_
  refine lv_iconst (v := nI 1) S.1 S.2.1 dX2_layOut_9 (by decide) ?_
  refine lv_istore_n (lv' := [(3, .int (nI 1)), (0, .ref (ad 31)), (1, .int (nI n)), (2, .ref (ad 7))]) S.1 S.2.1 dX2_layOut_10 rfl hl (by decide) rfl (fun ls hl => ?_)
  refine lv_iload_n S.1 S.2.1 dX2_layOut_11 rfl (lv_at hl 2 rfl) ?_
  refine lv_iconst (v := nI 1) S.1 S.2.1 dX2_layOut_12 (by decide) ?_
  refine lv_isub S.1 S.2.1 dX2_layOut_13 ?_
  refine lv_topi_to (y := nI n - 1) (rfl) ?_
  refine lv_istore (lv' := [(4, .int (nI n - 1)), (3, .int (nI 1)), (0, .ref (ad 31)), (1, .int (nI n)), (2, .ref (ad 7))]) S.1 S.2.1 dX2_layOut_14 hl (by decide) rfl (fun ls hl => ?_)
  have hXta_ : w_[33]? = some (ad 33, .inl (cy 0, 1024, .inl (nf (mixN (2 ^ 0) (fun d => layP n od d 0) tp)))) := by
    rw [lay_0]; exact hXta_
  have L16 : ∀ (k : Nat) (t : Nat), n - t = k → (t ≤ n) → ∀ (w_ : va_W), jU w w_ [33] → (w_[33]? = some (ad 33, .inl (cy 0, 1024, .inl (nf (mixN (2 ^ t) (fun d => layP n od d t) tp))))) → ∀ (H : Heap) (locs : List Loc) (ls : Array Slot), jW D A s.heap w_ H locs → lv_has ls 7 [(0, .ref (ad 31)), (1, .int (nI n)), (2, .ref (ad 7)), (3, .int (nI (2 ^ t))), (4, .int (nI (n - t) - 1))] → W p l e (jR 1 0 0) s m args below meth c H locs 0 0 Q (F0 m 16 ls []) := by
    intro k
    induction k using Nat.strongRecOn with
    | ind k ih16 =>
    intro t hk ht w_ hU hXta_ H locs ls hW hl
    subst hk
    refine lv_iload S.1 S.2.1 dX2_layOut_16 (lv_at hl 4 rfl) ?_
    refine lv_if_lt (tgt := 79) S.1 S.2.1 dX2_layOut_18 (by decide) (fun c_18 => ?_) (fun c_18 => ?_)
    · have htn : t = n := by have := (pI_lt (show n - t < 2 ^ 31 by omega)).mp c_18; omega
      subst hQ
      refine j_vret (u := w_) S hr hK hW dX2_layOut_79 ⟨by decide, by decide⟩ ?_
      subst htn
      exact ⟨rfl, hU, hXta_⟩
    · have htn : t < n := by
            rcases Nat.lt_or_ge t n with q | q
            · exact q
            · exact absurd ((pI_lt (show n - t < 2 ^ 31 by omega)).mpr (by omega)) c_18
      rw [pI_pos (show 0 < n - t by omega)] at hl
      have hp2 : 2 ^ (t + 1) ≤ 1024 := Nat.pow_le_pow_right (by decide) (show t + 1 ≤ 10 by omega)
      have hp3 : 2 ^ (t + 1) = 2 ^ t + 2 ^ t := by rw [Nat.pow_succ]; omega
      have hpt := Nat.two_pow_pos t
      have hod1 := hod (n - t - 1)
      refine lv_iconst (v := nI 1) S.1 S.2.1 dX2_layOut_21 (by decide) ?_
      refine lv_aload_n S.1 S.2.1 dX2_layOut_22 rfl (lv_at hl 2 rfl) ?_
      refine lv_iload S.1 S.2.1 dX2_layOut_23 (lv_at hl 4 rfl) ?_
      refine j_callV (k := 7) (ci := 5) (q := (RX6, TX6, 1)) (As := [.int (nI (n - t - 1))]) (rest := [.int (nI 1)]) S hK hA hW (c_X6_atN l D cy 7 8 (ad 7) (ad 8) 10 (n - t - 1) od (hU.get hOo (by decide)) (hU.get hOa (by decide))   (by omega) (by decide)) (jgo wm_X2_42) yk_X6_at (hU.get hOo (by decide)) rfl rfl ⟨⟨rfl, rfl⟩, by decide, by decide⟩ rfl hl.1 rfl (Nat.le_of_ble_eq_true rfl) dX2_layOut_25 ⟨Nat.le_of_ble_eq_true rfl, Nat.le_of_ble_eq_true rfl⟩ (fun v u H locs hp hW => ?_)
      obtain ⟨rfl, rfl⟩ := hp
      refine W.eq (g2 := F0 m 28 ls [.int (nI (od (n - t - 1))), .int (nI 1)]) rfl ?_
      refine jn_shl1 S (by omega) dX2_layOut_28 ?_
      refine lv_istore (lv' := [(5, .int (nI (2 ^ (od (n - t - 1))))), (0, .ref (ad 31)), (1, .int (nI n)), (2, .ref (ad 7)), (3, .int (nI (2 ^ t))), (4, .int (nI (n - t - 1)))]) S.1 S.2.1 dX2_layOut_29 hl (by decide) rfl (fun ls hl => ?_)
      refine lv_iconst (v := nI 0) S.1 S.2.1 dX2_layOut_31 (by decide) ?_
      refine lv_istore (lv' := [(6, .int (nI 0)), (5, .int (nI (2 ^ (od (n - t - 1))))), (0, .ref (ad 31)), (1, .int (nI n)), (2, .ref (ad 7)), (3, .int (nI (2 ^ t))), (4, .int (nI (n - t - 1)))]) S.1 S.2.1 dX2_layOut_32 hl (by decide) rfl (fun ls hl => ?_)
      have hXta_ : w_[33]? = some (ad 33, .inl (cy 0, 1024, .inl (nf (mixN (2 ^ t + 0) (fun d => layP n od d (t + 1)) tp)))) := by
        rw [show mixN (2 ^ t + 0) (fun d => layP n od d (t + 1)) tp = mixN (2 ^ t) (fun d => layP n od d t) tp from by
              funext d; unfold mixN; rw [Nat.add_zero]; split
              · exact layP_lo (by assumption)
              · rfl]; exact hXta_
      have L34 : ∀ (k : Nat) (j : Nat), 2 ^ t - j = k → (j ≤ 2 ^ t) → ∀ (w_ : va_W), jU w w_ [33] → (w_[33]? = some (ad 33, .inl (cy 0, 1024, .inl (nf (mixN (2 ^ t + j) (fun d => layP n od d (t + 1)) tp))))) → ∀ (H : Heap) (locs : List Loc) (ls : Array Slot), jW D A s.heap w_ H locs → lv_has ls 7 [(0, .ref (ad 31)), (1, .int (nI n)), (2, .ref (ad 7)), (3, .int (nI (2 ^ t))), (4, .int (nI (n - t - 1))), (5, .int (nI (2 ^ od (n - t - 1)))), (6, .int (nI j))] → W p l e (jR 1 0 0) s m args below meth c H locs 0 0 Q (F0 m 34 ls []) := by
        intro k
        induction k using Nat.strongRecOn with
        | ind k ih34 =>
        intro j hk hj w_ hU hXta_ H locs ls hW hl
        subst hk
        refine lv_iload S.1 S.2.1 dX2_layOut_34 (lv_at hl 6 rfl) ?_
        refine lv_iload_n S.1 S.2.1 dX2_layOut_36 rfl (lv_at hl 3 rfl) ?_
        refine jn_cmp_ge (tgt := 69) S (by omega) (by omega) dX2_layOut_37 (by decide) (fun c_37 => ?_) (fun c_37 => ?_)
        · have ej : j = 2 ^ t := by omega
          have hXta_ : w_[33]? = some (ad 33, .inl (cy 0, 1024, .inl (nf (mixN (2 ^ (t + 1)) (fun d => layP n od d (t + 1)) tp)))) := by
            rw [hp3]; rw [ej] at hXta_; exact hXta_
          refine lv_iload_n S.1 S.2.1 dX2_layOut_69 rfl (lv_at hl 3 rfl) ?_
          refine lv_iconst (v := nI 2) S.1 S.2.1 dX2_layOut_70 (by decide) ?_
          refine jn_mul S dX2_layOut_71 ?_
          refine lv_topi_to (y := nI (2 ^ (t + 1))) (congrArg nI (by rw [Nat.pow_succ])) ?_
          refine lv_istore_n (lv' := [(3, .int (nI (2 ^ (t + 1)))), (0, .ref (ad 31)), (1, .int (nI n)), (2, .ref (ad 7)), (4, .int (nI (n - t - 1))), (5, .int (nI (2 ^ od (n - t - 1)))), (6, .int (nI j))]) S.1 S.2.1 dX2_layOut_72 rfl hl (by decide) rfl (fun ls hl => ?_)
          refine lv_iinc (v := nI (n - (t + 1)) - 1) (lv' := [(4, .int (nI (n - (t + 1)) - 1)), (3, .int (nI (2 ^ (t + 1)))), (0, .ref (ad 31)), (1, .int (nI n)), (2, .ref (ad 7)), (5, .int (nI (2 ^ od (n - t - 1)))), (6, .int (nI j))]) S.1 S.2.1 dX2_layOut_73 hl (k := 4) rfl (by rw [pI_m1, show n - t - 1 = n - (t + 1) by omega]) (by decide) rfl (fun ls hl => ?_)
          refine lv_goto (tgt := 16) S.1 S.2.1 dX2_layOut_76 (by decide) ?_
          exact ih16 _ (by omega) (t + 1) rfl (by omega) w_ hU hXta_ H locs ls hW (lv_sub hl [2, 3, 4, 1, 0] rfl)
        · refine lv_aload_n S.1 S.2.1 dX2_layOut_40 rfl (lv_at hl 0 rfl) ?_
          refine j_get (ci := 2) (C := RX2) (T := TX2) (N := 6) (v := .ref (ad 32)) S (fun w h => List.mem_cons_of_mem _ (inG2 w h)) hK hW (hU.get hX (by decide)) rfl 0 (by decide) (List.mem_cons_of_mem _ wfl_X2_14) (fun _ h9 => h9) rfl dX2_layOut_41 ?_
          refine lv_iload_n S.1 S.2.1 dX2_layOut_44 rfl (lv_at hl 3 rfl) ?_
          refine lv_iload S.1 S.2.1 dX2_layOut_45 (lv_at hl 6 rfl) ?_
          refine jn_add S dX2_layOut_47 ?_
          refine lv_aload_n S.1 S.2.1 dX2_layOut_48 rfl (lv_at hl 0 rfl) ?_
          refine j_get (ci := 2) (C := RX2) (T := TX2) (N := 6) (v := .ref (ad 32)) S (fun w h => List.mem_cons_of_mem _ (inG2 w h)) hK hW (hU.get hX (by decide)) rfl 0 (by decide) (List.mem_cons_of_mem _ wfl_X2_14) (fun _ h9 => h9) rfl dX2_layOut_49 ?_
          refine lv_iload S.1 S.2.1 dX2_layOut_52 (lv_at hl 6 rfl) ?_
          refine j_callV (k := 32) (ci := 5) (q := (RX6, TX6, 1)) (As := [.int (nI j)]) (rest := [.int (nI ((2 ^ t) + j)), .ref (ad 32)]) S hK hA hW (c_X6_atN l D cy 32 33 (ad 32) (ad 33) 1024 j (mixN (2 ^ t + j) (fun d => layP n od d (t + 1)) tp) (hU.get hXto (by decide)) hXta_   (by omega) (by decide)) (jgo wm_X2_42) yk_X6_at (hU.get hXto (by decide)) rfl rfl ⟨⟨rfl, rfl⟩, by decide, by decide⟩ rfl hl.1 rfl (Nat.le_of_ble_eq_true rfl) dX2_layOut_54 ⟨Nat.le_of_ble_eq_true rfl, Nat.le_of_ble_eq_true rfl⟩ (fun v u H locs hp hW => ?_)
          obtain ⟨rfl, rfl⟩ := hp
          refine W.eq (g2 := F0 m 57 ls [.int (nI ((mixN (2 ^ t + j) (fun d => layP n od d (t + 1)) tp) j)), .int (nI ((2 ^ t) + j)), .ref (ad 32)]) rfl ?_
          refine lv_topi_to (y := nI (layP n od j t)) (by rw [mixN_lo (by omega), layP_lo (by omega)]) ?_
          refine lv_iload S.1 S.2.1 dX2_layOut_57 (lv_at hl 5 rfl) ?_
          refine jn_or S dX2_layOut_59 ?_
          refine lv_topi_to (y := nI (layP n od (2 ^ t + j) (t + 1))) (congrArg nI (by rw [layP_hi (by omega), show n - 1 - t = n - t - 1 by omega])) ?_
          refine j_callV (k := 32) (ci := 5) (q := (RX6, TX6, 1)) (As := [.int (nI ((2 ^ t) + j)), .int (nI (layP n od (2 ^ t + j) (t + 1)))]) (rest := []) S hK hA hW (c_X6_putN l D cy 32 33 (ad 32) (ad 33) 1024 ((2 ^ t) + j) (mixN (2 ^ t + j) (fun d => layP n od d (t + 1)) tp) (layP n od (2 ^ t + j) (t + 1)) (hU.get hXto (by decide)) hXta_   (by omega) (by decide)) (jgo wm_X2_50) yk_X6_put (hU.get hXto (by decide)) rfl rfl ⟨⟨rfl, rfl⟩, by decide, by decide⟩ rfl hl.1 rfl (Nat.le_of_ble_eq_true rfl) dX2_layOut_60 ⟨Nat.le_of_ble_eq_true rfl, Nat.le_of_ble_eq_true rfl⟩ (fun v w_ H locs hp hW => ?_)
          obtain ⟨rfl, hU1, hN1⟩ := hp
          have hU := hU.then hU1 (by decide)
          have hXta_ : w_[33]? = some (ad 33, .inl (cy 0, 1024, .inl (nf (upB (mixN (2 ^ t + j) (fun d => layP n od d (t + 1)) tp) ((2 ^ t) + j) (layP n od (2 ^ t + j) (t + 1)))))) := hN1
          clear hU1 hN1
          refine W.eq (g2 := F0 m 63 ls []) rfl ?_
          have hXta_ : w_[33]? = some (ad 33, .inl (cy 0, 1024, .inl (nf (mixN (2 ^ t + (j + 1)) (fun d => layP n od d (t + 1)) tp)))) := by
            rw [← Nat.add_assoc, show (fun d => layP n od d (t + 1)) = upB (fun d => layP n od d (t + 1)) (2 ^ t + j) (layP n od (2 ^ t + j) (t + 1)) from (upB_self' rfl).symm, ← mixN_s]; exact hXta_
          refine lv_iinc (v := nI (j + 1)) (lv' := [(6, .int (nI (j + 1))), (0, .ref (ad 31)), (1, .int (nI n)), (2, .ref (ad 7)), (3, .int (nI (2 ^ t))), (4, .int (nI (n - t - 1))), (5, .int (nI (2 ^ od (n - t - 1))))]) S.1 S.2.1 dX2_layOut_63 hl (k := 6) rfl (nI_add _ 1) (by decide) rfl (fun ls hl => ?_)
          refine lv_goto (tgt := 34) S.1 S.2.1 dX2_layOut_66 (by decide) ?_
          exact ih34 _ (by omega) (j + 1) rfl (by omega) w_ hU hXta_ H locs ls hW (lv_sub hl [1, 2, 3, 4, 5, 6, 0] rfl)
      exact L34 _ 0 rfl (Nat.zero_le _) w_ hU hXta_ H locs ls hW (lv_sub hl [2, 3, 4, 5, 6, 1, 0] rfl)
  exact L16 _ 0 rfl (Nat.zero_le _) w_ hU hXta_ H locs ls hW (lv_sub hl [2, 3, 4, 1, 0] rfl)
/-- make: the smallest circuit of a set -/
theorem c_X2_make (l : Launch) (D : va_G) (cy : Nat → ClassId) {w : va_W} (ka kl kw ao al aw : Nat) (n : Nat) (X : Nat → Bool) (ad : Nat → Nat) (sz : Nat) (tp fw tw yw pcn od : Nat → Nat) (hA1 : w[ka]? = some (ao, .inr (0, [.ref al, .int (nI n)]))) (hA2 : w[kl]? = some (al, .inr (6, [.ref aw]))) (hA3 : w[kw]? = some (aw, .inl (cy 1, 16, .inr (.inl (wd X))))) (hX : w[31]? = some (ad 31, .inr (2, [.ref (ad 32), .ref (ad 34), .ref (ad 36), .ref (ad 38), .ref (ad 40), .int (nI sz)]))) (hXto : w[32]? = some (ad 32, .inr (5, [.ref (ad 33)]))) (hXta : w[33]? = some (ad 33, .inl (cy 0, 1024, .inl (nf tp)))) (hXfo : w[34]? = some (ad 34, .inr (5, [.ref (ad 35)]))) (hXfa : w[35]? = some (ad 35, .inl (cy 0, 272, .inl (nf fw)))) (hXwo : w[36]? = some (ad 36, .inr (5, [.ref (ad 37)]))) (hXwa : w[37]? = some (ad 37, .inl (cy 0, 272, .inl (nf tw)))) (hXyo : w[38]? = some (ad 38, .inr (5, [.ref (ad 39)]))) (hXya : w[39]? = some (ad 39, .inl (cy 0, 272, .inl (nf yw)))) (hXpo : w[40]? = some (ad 40, .inr (5, [.ref (ad 41)]))) (hXpa : w[41]? = some (ad 41, .inl (cy 0, 10, .inl (nf pcn)))) (hOo : w[7]? = some (ad 7, .inr (5, [.ref (ad 8)]))) (hOa : w[8]? = some (ad 8, .inl (cy 0, 10, .inl (nf od)))) (hn : n ≤ 10) (hod : ∀ j, od j < 10) (hf : ∀ a, fw a < 272) (ht : ∀ a, tw a < 272) (hset : (ka < 31 ∨ 41 < ka) ∧ (kl < 31 ∨ 41 < kl) ∧ (kw < 31 ∨ 41 < kw)) : jM l yX2_make (jws yX2_make cX2_make 5 none) (jR 3 0 0) D cy w [.ref (ad 31), .ref ao, .ref (ad 7)] 0 0 (fun vv uu => ∃ (sz1 : Nat), ∃ (tp1 : Nat → Nat), ∃ (fw1 : Nat → Nat), ∃ (tw1 : Nat → Nat), ∃ (yw1 : Nat → Nat), ∃ (pcn1 : Nat → Nat), vv = none ∧ lvlI (fun d => X (layP n od d n)) n 0 sz1 tp1 fw1 tw1 yw1 pcn1 ∧ jU w uu [31, 33, 35, 37, 39, 41] ∧ uu[31]? = some (ad 31, .inr (2, [.ref (ad 32), .ref (ad 34), .ref (ad 36), .ref (ad 38), .ref (ad 40), .int (nI sz1)])) ∧ uu[33]? = some (ad 33, .inl (cy 0, 1024, .inl (nf tp1))) ∧ uu[35]? = some (ad 35, .inl (cy 0, 272, .inl (nf fw1))) ∧ uu[37]? = some (ad 37, .inl (cy 0, 272, .inl (nf tw1))) ∧ uu[39]? = some (ad 39, .inl (cy 0, 272, .inl (nf yw1))) ∧ uu[41]? = some (ad 41, .inl (cy 0, 10, .inl (nf pcn1)))) := by
  have hp2 : 2 ^ n ≤ 1024 := Nat.pow_le_pow_right (by decide) hn
  refine j_of (by decide) rfl (Nat.le_of_ble_eq_true rfl) ?_
  intro p e s m args below meth c A ls Q hQ S hr hK hA H locs hW hl
  have hl : lv_has ls 5 [(0, .ref (ad 31)), (1, .ref ao), (2, .ref (ad 7))] := hl
  refine lv_aload_n S.1 S.2.1 dX2_make_0 rfl (lv_at hl 1 rfl) ?_
  refine j_callV (k := ka) (ci := 0) (q := (RX0, TX0, 2)) (As := []) (rest := []) S hK hA hW (c_X0_variablesN l D cy ka kl kw ao al aw n X hA1 hA2 hA3   ) (jgo wm_X2_32) yk_X0_variables hA1 rfl rfl ⟨⟨rfl, rfl⟩, by decide, by decide⟩ rfl hl.1 rfl (Nat.le_of_ble_eq_true rfl) dX2_make_1 ⟨Nat.le_of_ble_eq_true rfl, Nat.le_of_ble_eq_true rfl⟩ (fun v u H locs hp hW => ?_)
  obtain ⟨rfl, rfl⟩ := hp
  refine W.eq (g2 := F0 m 4 ls [.int (nI n)]) rfl ?_
  refine lv_istore_n (lv' := [(3, .int (nI n)), (0, .ref (ad 31)), (1, .ref ao), (2, .ref (ad 7))]) S.1 S.2.1 dX2_make_4 rfl hl (by decide) rfl (fun ls hl => ?_)
  refine lv_aload_n S.1 S.2.1 dX2_make_5 rfl (lv_at hl 1 rfl) ?_
  refine lv_iload_n S.1 S.2.1 dX2_make_6 rfl (lv_at hl 0 rfl) ?_
  refine lv_aload_n S.1 S.2.1 dX2_make_7 rfl (lv_at hl 3 rfl) ?_
  refine j_callV (k := 31) (ci := 2) (q := (RX2, TX2, 6)) (As := [.int (nI n), .ref (ad 7)]) (rest := []) S hK hA hW (c_X2_layOut l D cy ad sz tp od n hX hXto hXta hOo hOa   (by omega) (by omega)) (jgo wm_X2_38) yk_X2_layOut hX rfl rfl ⟨⟨rfl, rfl⟩, by decide, by decide⟩ rfl hl.1 rfl (Nat.le_of_ble_eq_true rfl) dX2_make_8 ⟨Nat.le_of_ble_eq_true rfl, Nat.le_of_ble_eq_true rfl⟩ (fun v w_ H locs hp hW => ?_)
  obtain ⟨rfl, hU1, hN1⟩ := hp
  have hU : jU w w_ [31, 33, 35, 37, 39, 41] := jU.mono hU1 (by decide)
  have hX_ := hU1.get hX (by decide)
  have hXfa_ := hU1.get hXfa (by decide)
  have hXwa_ := hU1.get hXwa (by decide)
  have hXya_ := hU1.get hXya (by decide)
  have hXpa_ := hU1.get hXpa (by decide)
  have hXta_ : w_[33]? = some (ad 33, .inl (cy 0, 1024, .inl (nf (mixN (2 ^ n) (fun d => layP n od d n) tp)))) := hN1
  clear hU1 hN1
  refine W.eq (g2 := F0 m 11 ls []) rfl ?_
  refine lv_iconst (v := nI 0) S.1 S.2.1 dX2_make_11 (by decide) ?_
  refine lv_istore (lv' := [(4, .int (nI 0)), (3, .int (nI n)), (0, .ref (ad 31)), (1, .ref ao), (2, .ref (ad 7))]) S.1 S.2.1 dX2_make_12 hl (by decide) rfl (fun ls hl => ?_)
  have hXta_ : w_[33]? = some (ad 33, .inl (cy 0, 1024, .inl (nf (mixN 0 (fun d => if X (layP n od d n) then 1 else 0) (mixN (2 ^ n) (fun d => layP n od d n) tp))))) := by
    rw [mixN_0]; exact hXta_
  have L14 : ∀ (k : Nat) (i : Nat), 2 ^ n - i = k → (i ≤ 2 ^ n) → ∀ (w_ : va_W), jU w w_ [31, 33, 35, 37, 39, 41] → (w_[31]? = some (ad 31, .inr (2, [.ref (ad 32), .ref (ad 34), .ref (ad 36), .ref (ad 38), .ref (ad 40), .int (nI sz)]))) → (w_[33]? = some (ad 33, .inl (cy 0, 1024, .inl (nf (mixN i (fun d => if X (layP n od d n) then 1 else 0) (mixN (2 ^ n) (fun d => layP n od d n) tp)))))) → (w_[35]? = some (ad 35, .inl (cy 0, 272, .inl (nf fw)))) → (w_[37]? = some (ad 37, .inl (cy 0, 272, .inl (nf tw)))) → (w_[39]? = some (ad 39, .inl (cy 0, 272, .inl (nf yw)))) → (w_[41]? = some (ad 41, .inl (cy 0, 10, .inl (nf pcn)))) → ∀ (H : Heap) (locs : List Loc) (ls : Array Slot), jW D A s.heap w_ H locs → lv_has ls 5 [(0, .ref (ad 31)), (1, .ref ao), (2, .ref (ad 7)), (3, .int (nI n)), (4, .int (nI i))] → W p l e (jR 3 0 0) s m args below meth c H locs 0 0 Q (F0 m 14 ls []) := by
    intro k
    induction k using Nat.strongRecOn with
    | ind k ih14 =>
    intro i hk hi w_ hU hX_ hXta_ hXfa_ hXwa_ hXya_ hXpa_ H locs ls hW hl
    subst hk
    refine lv_iload S.1 S.2.1 dX2_make_14 (lv_at hl 4 rfl) ?_
    refine lv_iconst (v := nI 1) S.1 S.2.1 dX2_make_16 (by decide) ?_
    refine lv_iload_n S.1 S.2.1 dX2_make_17 rfl (lv_at hl 3 rfl) ?_
    refine jn_shl1 S (by omega) dX2_make_18 ?_
    refine jn_cmp_ge (tgt := 58) S (by omega) (by omega) dX2_make_19 (by decide) (fun c_19 => ?_) (fun c_19 => ?_)
    · have ei : i = 2 ^ n := by omega
      have hXta_ : w_[33]? = some (ad 33, .inl (cy 0, 1024, .inl (nf (mixN (2 ^ n) (fun d => if X (layP n od d n) then 1 else 0) (mixN (2 ^ n) (fun d => layP n od d n) tp))))) := by
        rw [ei] at hXta_; exact hXta_
      refine lv_aload_n S.1 S.2.1 dX2_make_58 rfl (lv_at hl 0 rfl) ?_
      refine j_get (ci := 2) (C := RX2) (T := TX2) (N := 6) (v := .ref (ad 38)) S (fun w h => List.mem_cons_of_mem _ (inG2 w h)) hK hW hX_ rfl 3 (by decide) (List.mem_cons_of_mem _ wfl_X2_26) (fun _ h9 => h9) rfl dX2_make_59 ?_
      refine lv_iconst (v := nI 0) S.1 S.2.1 dX2_make_62 (by decide) ?_
      refine lv_iconst (v := nI 0) S.1 S.2.1 dX2_make_63 (by decide) ?_
      refine j_callV (k := 38) (ci := 5) (q := (RX6, TX6, 1)) (As := [.int (nI 0), .int (nI 0)]) (rest := []) S hK hA hW (c_X6_putN l D cy 38 39 (ad 38) (ad 39) 272 0 yw 0 (hU.get hXyo (by decide)) hXya_   (by omega) (by decide)) (jgo wm_X2_50) yk_X6_put (hU.get hXyo (by decide)) rfl rfl ⟨⟨rfl, rfl⟩, by decide, by decide⟩ rfl hl.1 rfl (Nat.le_of_ble_eq_true rfl) dX2_make_64 ⟨Nat.le_of_ble_eq_true rfl, Nat.le_of_ble_eq_true rfl⟩ (fun v w_ H locs hp hW => ?_)
      obtain ⟨rfl, hU1, hN1⟩ := hp
      have hU := hU.then hU1 (by decide)
      have hX_ := hU1.get hX_ (by decide)
      have hXta_ := hU1.get hXta_ (by decide)
      have hXfa_ := hU1.get hXfa_ (by decide)
      have hXwa_ := hU1.get hXwa_ (by decide)
      have hXpa_ := hU1.get hXpa_ (by decide)
      have hXya_ : w_[39]? = some (ad 39, .inl (cy 0, 272, .inl (nf (upB yw 0 0)))) := hN1
      clear hU1 hN1
      refine W.eq (g2 := F0 m 67 ls []) rfl ?_
      refine lv_aload_n S.1 S.2.1 dX2_make_67 rfl (lv_at hl 0 rfl) ?_
      refine j_get (ci := 2) (C := RX2) (T := TX2) (N := 6) (v := .ref (ad 38)) S (fun w h => List.mem_cons_of_mem _ (inG2 w h)) hK hW hX_ rfl 3 (by decide) (List.mem_cons_of_mem _ wfl_X2_26) (fun _ h9 => h9) rfl dX2_make_68 ?_
      refine lv_iconst (v := nI 1) S.1 S.2.1 dX2_make_71 (by decide) ?_
      refine lv_iconst (v := nI 1) S.1 S.2.1 dX2_make_72 (by decide) ?_
      refine j_callV (k := 38) (ci := 5) (q := (RX6, TX6, 1)) (As := [.int (nI 1), .int (nI 1)]) (rest := []) S hK hA hW (c_X6_putN l D cy 38 39 (ad 38) (ad 39) 272 1 (upB yw 0 0) 1 (hU.get hXyo (by decide)) hXya_   (by omega) (by decide)) (jgo wm_X2_50) yk_X6_put (hU.get hXyo (by decide)) rfl rfl ⟨⟨rfl, rfl⟩, by decide, by decide⟩ rfl hl.1 rfl (Nat.le_of_ble_eq_true rfl) dX2_make_73 ⟨Nat.le_of_ble_eq_true rfl, Nat.le_of_ble_eq_true rfl⟩ (fun v w_ H locs hp hW => ?_)
      obtain ⟨rfl, hU1, hN1⟩ := hp
      have hU := hU.then hU1 (by decide)
      have hX_ := hU1.get hX_ (by decide)
      have hXta_ := hU1.get hXta_ (by decide)
      have hXfa_ := hU1.get hXfa_ (by decide)
      have hXwa_ := hU1.get hXwa_ (by decide)
      have hXpa_ := hU1.get hXpa_ (by decide)
      have hXya_ : w_[39]? = some (ad 39, .inl (cy 0, 272, .inl (nf (upB (upB yw 0 0) 1 1)))) := hN1
      clear hU1 hN1
      refine W.eq (g2 := F0 m 76 ls []) rfl ?_
      refine lv_aload_n S.1 S.2.1 dX2_make_76 rfl (lv_at hl 0 rfl) ?_
      refine lv_iconst (v := nI 2) S.1 S.2.1 dX2_make_77 (by decide) ?_
      refine j_put (ci := 2) (C := RX2) (T := TX2) (N := 6) (ty := .int) S (fun w h => List.mem_cons_of_mem _ (inG2 w h)) tyX2 tyX2_ok nmX2 hK hW hX_ rfl 5 (by decide) (List.mem_cons_of_mem _ wfl_X2_54) (fun _ h9 => h9) rfl (by decide +kernel) (rfl) (rfl) (Nat.le_of_ble_eq_true rfl) dX2_make_78 (fun H locs w_ hU1 hN1 hW => ?_)
      have hU := hU.then hU1 (by decide)
      have hXta_ := hU1.get hXta_ (by decide)
      have hXfa_ := hU1.get hXfa_ (by decide)
      have hXwa_ := hU1.get hXwa_ (by decide)
      have hXya_ := hU1.get hXya_ (by decide)
      have hXpa_ := hU1.get hXpa_ (by decide)
      have hX_ : w_[31]? = some (ad 31, .inr (2, [.ref (ad 32), .ref (ad 34), .ref (ad 36), .ref (ad 38), .ref (ad 40), .int (nI 2)])) := hN1
      clear hU1 hN1
      refine lv_iload_n S.1 S.2.1 dX2_make_81 rfl (lv_at hl 3 rfl) ?_
      refine lv_iconst (v := nI 1) S.1 S.2.1 dX2_make_82 (by decide) ?_
      refine lv_isub S.1 S.2.1 dX2_make_83 ?_
      refine lv_topi_to (y := nI n - 1) (rfl) ?_
      refine lv_istore (lv' := [(4, .int (nI n - 1)), (0, .ref (ad 31)), (1, .ref ao), (2, .ref (ad 7)), (3, .int (nI n))]) S.1 S.2.1 dX2_make_84 hl (by decide) rfl (fun ls hl => ?_)
      have L86 : ∀ (k : Nat) (q : Nat) (sz1 : Nat) (tp1 : Nat → Nat) (fw1 : Nat → Nat) (tw1 : Nat → Nat) (yw1 : Nat → Nat) (pcn1 : Nat → Nat), q = k → (q ≤ n) → (lvlI (fun d => X (layP n od d n)) n q sz1 tp1 fw1 tw1 yw1 pcn1) → ∀ (w_ : va_W), jU w w_ [31, 33, 35, 37, 39, 41] → (w_[31]? = some (ad 31, .inr (2, [.ref (ad 32), .ref (ad 34), .ref (ad 36), .ref (ad 38), .ref (ad 40), .int (nI sz1)]))) → (w_[33]? = some (ad 33, .inl (cy 0, 1024, .inl (nf tp1)))) → (w_[35]? = some (ad 35, .inl (cy 0, 272, .inl (nf fw1)))) → (w_[37]? = some (ad 37, .inl (cy 0, 272, .inl (nf tw1)))) → (w_[39]? = some (ad 39, .inl (cy 0, 272, .inl (nf yw1)))) → (w_[41]? = some (ad 41, .inl (cy 0, 10, .inl (nf pcn1)))) → ∀ (H : Heap) (locs : List Loc) (ls : Array Slot), jW D A s.heap w_ H locs → lv_has ls 5 [(0, .ref (ad 31)), (1, .ref ao), (2, .ref (ad 7)), (3, .int (nI n)), (4, .int (nI q - 1))] → W p l e (jR 3 0 0) s m args below meth c H locs 0 0 Q (F0 m 86 ls []) := by
        intro k
        induction k using Nat.strongRecOn with
        | ind k ih86 =>
        intro q sz1 tp1 fw1 tw1 yw1 pcn1 hk hq hI w_ hU hX_ hXta_ hXfa_ hXwa_ hXya_ hXpa_ H locs ls hW hl
        subst hk
        refine lv_iload S.1 S.2.1 dX2_make_86 (lv_at hl 4 rfl) ?_
        refine lv_if_lt (tgt := 103) S.1 S.2.1 dX2_make_88 (by decide) (fun c_88 => ?_) (fun c_88 => ?_)
        · have hq0 : q = 0 := (pI_lt (by omega)).mp c_88
          subst hq0
          subst hQ
          refine j_vret (u := w_) S hr hK hW dX2_make_103 ⟨by decide, by decide⟩ ?_
          exact ⟨_, _, _, _, _, _, rfl, hI, hU, hX_, hXta_, hXfa_, hXwa_, hXya_, hXpa_⟩
        · have hq0 : 0 < q := by
            rcases Nat.eq_zero_or_pos q with z | z
            · exact absurd ((pI_lt (by omega)).mpr z) c_88
            · exact z
          rw [pI_pos hq0] at hl
          have hI' : lvlI (fun d => X (layP n od d n)) n (q - 1 + 1) sz1 tp1 fw1 tw1 yw1 pcn1 := by rw [show q - 1 + 1 = q by omega]; exact hI
          have hsz94 : sz1 + cnt (newF tp1) (2 ^ (q - 1)) ≤ 272 := by
            rw [lvl_cnt (p := q - 1) (by omega) hI']
            have h1 := hI'.2.2.1
            have h2 := nodes_all (fun d => X (layP n od d n)) hn
            have h3 : sumN (nodesB (fun d => X (layP n od d n)) n) (q - 1 + 1) = sumN (nodesB (fun d => X (layP n od d n)) n) (q - 1) + nodesB (fun d => X (layP n od d n)) n (q - 1) := rfl
            omega
          refine lv_aload_n S.1 S.2.1 dX2_make_91 rfl (lv_at hl 0 rfl) ?_
          refine lv_iload S.1 S.2.1 dX2_make_92 (lv_at hl 4 rfl) ?_
          refine j_callV (k := 31) (ci := 2) (q := (RX2, TX2, 6)) (As := [.int (nI (q - 1))]) (rest := []) S hK hA hW (c_X2_mergePlace l D cy ad sz1 tp1 fw1 tw1 yw1 pcn1 (q - 1) hX_ (hU.get hXto (by decide)) hXta_ (hU.get hXfo (by decide)) hXfa_ (hU.get hXwo (by decide)) hXwa_ (hU.get hXyo (by decide)) hXya_ (hU.get hXpo (by decide)) hXpa_   (by omega) (fun j hj => by rw [show q - 1 + 1 = q by omega] at hj; exact (hI.2.1 j hj).1) (hsz94) (hI.2.2.2.2.1) (hI.2.2.2.2.2)) (jgo wm_X2_58) yk_X2_mergePlace hX_ rfl rfl ⟨⟨rfl, rfl⟩, by decide, by decide⟩ rfl hl.1 rfl (Nat.le_of_ble_eq_true rfl) dX2_make_94 ⟨Nat.le_of_ble_eq_true rfl, Nat.le_of_ble_eq_true rfl⟩ (fun v w_ H locs hp hW => ?_)
          obtain ⟨sz1_94, fw1_94, tw1_94, yw1_94, gg_94, rfl, hp94_0, hU1, hN1, hN2, hN3, hN4, hN5, hN6⟩ := hp
          have hU := hU.then hU1 (by decide)
          have hX_ : w_[31]? = some (ad 31, .inr (2, [.ref (ad 32), .ref (ad 34), .ref (ad 36), .ref (ad 38), .ref (ad 40), .int (nI sz1_94)])) := hN1
          have hXta_ : w_[33]? = some (ad 33, .inl (cy 0, 1024, .inl (nf (mixN (2 ^ (q - 1)) gg_94 tp1)))) := hN2
          have hXfa_ : w_[35]? = some (ad 35, .inl (cy 0, 272, .inl (nf fw1_94))) := hN3
          have hXwa_ : w_[37]? = some (ad 37, .inl (cy 0, 272, .inl (nf tw1_94))) := hN4
          have hXya_ : w_[39]? = some (ad 39, .inl (cy 0, 272, .inl (nf yw1_94))) := hN5
          have hXpa_ : w_[41]? = some (ad 41, .inl (cy 0, 10, .inl (nf (upB pcn1 (q - 1) (sz1_94 - sz1))))) := hN6
          clear hU1 hN1 hN2 hN3 hN4 hN5 hN6
          refine W.eq (g2 := F0 m 97 ls []) rfl ?_
          refine lv_iinc (v := nI (q - 1) - 1) (lv' := [(4, .int (nI (q - 1) - 1)), (0, .ref (ad 31)), (1, .ref ao), (2, .ref (ad 7)), (3, .int (nI n))]) S.1 S.2.1 dX2_make_97 hl (k := 4) rfl (pI_m1) (by decide) rfl (fun ls hl => ?_)
          refine lv_goto (tgt := 86) S.1 S.2.1 dX2_make_100 (by decide) ?_
          exact ih86 _ (by omega) (q - 1) sz1_94 (mixN (2 ^ (q - 1)) gg_94 tp1) fw1_94 tw1_94 yw1_94 (upB pcn1 (q - 1) (sz1_94 - sz1)) rfl (by omega) (lvl_step (p := q - 1) (by omega) (by rw [show q - 1 + 1 = q by omega]; exact hI) hp94_0) w_ hU hX_ hXta_ hXfa_ hXwa_ hXya_ hXpa_ H locs ls hW (lv_sub hl [1, 2, 3, 4, 0] rfl)
      exact L86 _ n 2 (mixN (2 ^ n) (fun d => if X (layP n od d n) then 1 else 0) (mixN (2 ^ n) (fun d => layP n od d n) tp)) fw tw (upB (upB yw 0 0) 1 1) pcn rfl (Nat.le_refl _) (lvlI_n (fun d hd => mixN_lo hd) (by rw [upB_ne (by decide), upB_same]) upB_same hf ht) w_ hU hX_ hXta_ hXfa_ hXwa_ hXya_ hXpa_ H locs ls hW (lv_sub hl [1, 2, 3, 4, 0] rfl)
    · refine lv_aload_n S.1 S.2.1 dX2_make_22 rfl (lv_at hl 0 rfl) ?_
      refine j_get (ci := 2) (C := RX2) (T := TX2) (N := 6) (v := .ref (ad 32)) S (fun w h => List.mem_cons_of_mem _ (inG2 w h)) hK hW hX_ rfl 0 (by decide) (List.mem_cons_of_mem _ wfl_X2_14) (fun _ h9 => h9) rfl dX2_make_23 ?_
      refine lv_iload S.1 S.2.1 dX2_make_26 (lv_at hl 4 rfl) ?_
      refine lv_aload_n S.1 S.2.1 dX2_make_28 rfl (lv_at hl 1 rfl) ?_
      refine lv_aload_n S.1 S.2.1 dX2_make_29 rfl (lv_at hl 0 rfl) ?_
      refine j_get (ci := 2) (C := RX2) (T := TX2) (N := 6) (v := .ref (ad 32)) S (fun w h => List.mem_cons_of_mem _ (inG2 w h)) hK hW hX_ rfl 0 (by decide) (List.mem_cons_of_mem _ wfl_X2_14) (fun _ h9 => h9) rfl dX2_make_30 ?_
      refine lv_iload S.1 S.2.1 dX2_make_33 (lv_at hl 4 rfl) ?_
      refine j_callV (k := 32) (ci := 5) (q := (RX6, TX6, 1)) (As := [.int (nI i)]) (rest := [.ref ao, .int (nI i), .ref (ad 32)]) S hK hA hW (c_X6_atN l D cy 32 33 (ad 32) (ad 33) 1024 i (mixN i (fun d => if X (layP n od d n) then 1 else 0) (mixN (2 ^ n) (fun d => layP n od d n) tp)) (hU.get hXto (by decide)) hXta_   (by omega) (by decide)) (jgo wm_X2_42) yk_X6_at (hU.get hXto (by decide)) rfl rfl ⟨⟨rfl, rfl⟩, by decide, by decide⟩ rfl hl.1 rfl (Nat.le_of_ble_eq_true rfl) dX2_make_35 ⟨Nat.le_of_ble_eq_true rfl, Nat.le_of_ble_eq_true rfl⟩ (fun v u H locs hp hW => ?_)
      obtain ⟨rfl, rfl⟩ := hp
      refine W.eq (g2 := F0 m 38 ls [.int (nI ((mixN i (fun d => if X (layP n od d n) then 1 else 0) (mixN (2 ^ n) (fun d => layP n od d n) tp)) i)), .ref ao, .int (nI i), .ref (ad 32)]) rfl ?_
      refine lv_topi_to (y := nI (layP n od i n)) (by rw [mixN_hi (Nat.le_refl _), mixN_lo (by omega)]) ?_
      refine j_callV (k := ka) (ci := 0) (q := (RX0, TX0, 2)) (As := [.int (nI (layP n od i n))]) (rest := [.int (nI i), .ref (ad 32)]) S hK hA hW (c_X0_has l D cy ka kl kw ao al aw (nI n) X (layP n od i n) (hU.get hA1 (by simp; omega)) (hU.get hA2 (by simp; omega)) (hU.get hA3 (by simp; omega))   (layP_lt hod)) (jgo wm_X2_46) yk_X0_has (hU.get hA1 (by simp; omega)) rfl rfl ⟨⟨rfl, rfl⟩, by decide, by decide⟩ rfl hl.1 rfl (Nat.le_of_ble_eq_true rfl) dX2_make_38 ⟨Nat.le_of_ble_eq_true rfl, Nat.le_of_ble_eq_true rfl⟩ (fun v u H locs hp hW => ?_)
      obtain ⟨rfl, rfl⟩ := hp
      refine W.eq (g2 := F0 m 41 ls [.int (bI (X (layP n od i n))), .int (nI i), .ref (ad 32)]) rfl ?_
      refine jb_if_eq (tgt := 48) S dX2_make_41 (by decide) (fun c_41 => ?_) (fun c_41 => ?_)
      · refine lv_iconst (v := nI 0) S.1 S.2.1 dX2_make_48 (by decide) ?_
        refine j_callV (k := 32) (ci := 5) (q := (RX6, TX6, 1)) (As := [.int (nI i), .int (nI 0)]) (rest := []) S hK hA hW (c_X6_putN l D cy 32 33 (ad 32) (ad 33) 1024 i (mixN i (fun d => if X (layP n od d n) then 1 else 0) (mixN (2 ^ n) (fun d => layP n od d n) tp)) 0 (hU.get hXto (by decide)) hXta_   (by omega) (by decide)) (jgo wm_X2_50) yk_X6_put (hU.get hXto (by decide)) rfl rfl ⟨⟨rfl, rfl⟩, by decide, by decide⟩ rfl hl.1 rfl (Nat.le_of_ble_eq_true rfl) dX2_make_49 ⟨Nat.le_of_ble_eq_true rfl, Nat.le_of_ble_eq_true rfl⟩ (fun v w_ H locs hp hW => ?_)
        obtain ⟨rfl, hU1, hN1⟩ := hp
        have hU := hU.then hU1 (by decide)
        have hX_ := hU1.get hX_ (by decide)
        have hXfa_ := hU1.get hXfa_ (by decide)
        have hXwa_ := hU1.get hXwa_ (by decide)
        have hXya_ := hU1.get hXya_ (by decide)
        have hXpa_ := hU1.get hXpa_ (by decide)
        have hXta_ : w_[33]? = some (ad 33, .inl (cy 0, 1024, .inl (nf (upB (mixN i (fun d => if X (layP n od d n) then 1 else 0) (mixN (2 ^ n) (fun d => layP n od d n) tp)) i 0)))) := hN1
        clear hU1 hN1
        refine W.eq (g2 := F0 m 52 ls []) rfl ?_
        have hXta_ : w_[33]? = some (ad 33, .inl (cy 0, 1024, .inl (nf (mixN (i + 1) (fun d => if X (layP n od d n) then 1 else 0) (mixN (2 ^ n) (fun d => layP n od d n) tp))))) := by
          rw [show (fun d => if X (layP n od d n) then 1 else 0) = upB (fun d => if X (layP n od d n) then 1 else 0) i 0 from (upB_self' (by simp [c_41])).symm, ← mixN_s]; exact hXta_
        refine lv_iinc (v := nI (i + 1)) (lv' := [(4, .int (nI (i + 1))), (0, .ref (ad 31)), (1, .ref ao), (2, .ref (ad 7)), (3, .int (nI n))]) S.1 S.2.1 dX2_make_52 hl (k := 4) rfl (nI_add _ 1) (by decide) rfl (fun ls hl => ?_)
        refine lv_goto (tgt := 14) S.1 S.2.1 dX2_make_55 (by decide) ?_
        exact ih14 _ (by omega) (i + 1) rfl (by omega) w_ hU hX_ hXta_ hXfa_ hXwa_ hXya_ hXpa_ H locs ls hW (lv_sub hl [1, 2, 3, 4, 0] rfl)
      · refine lv_iconst (v := nI 1) S.1 S.2.1 dX2_make_44 (by decide) ?_
        refine lv_goto (tgt := 49) S.1 S.2.1 dX2_make_45 (by decide) ?_
        refine j_callV (k := 32) (ci := 5) (q := (RX6, TX6, 1)) (As := [.int (nI i), .int (nI 1)]) (rest := []) S hK hA hW (c_X6_putN l D cy 32 33 (ad 32) (ad 33) 1024 i (mixN i (fun d => if X (layP n od d n) then 1 else 0) (mixN (2 ^ n) (fun d => layP n od d n) tp)) 1 (hU.get hXto (by decide)) hXta_   (by omega) (by decide)) (jgo wm_X2_50) yk_X6_put (hU.get hXto (by decide)) rfl rfl ⟨⟨rfl, rfl⟩, by decide, by decide⟩ rfl hl.1 rfl (Nat.le_of_ble_eq_true rfl) dX2_make_49 ⟨Nat.le_of_ble_eq_true rfl, Nat.le_of_ble_eq_true rfl⟩ (fun v w_ H locs hp hW => ?_)
        obtain ⟨rfl, hU1, hN1⟩ := hp
        have hU := hU.then hU1 (by decide)
        have hX_ := hU1.get hX_ (by decide)
        have hXfa_ := hU1.get hXfa_ (by decide)
        have hXwa_ := hU1.get hXwa_ (by decide)
        have hXya_ := hU1.get hXya_ (by decide)
        have hXpa_ := hU1.get hXpa_ (by decide)
        have hXta_ : w_[33]? = some (ad 33, .inl (cy 0, 1024, .inl (nf (upB (mixN i (fun d => if X (layP n od d n) then 1 else 0) (mixN (2 ^ n) (fun d => layP n od d n) tp)) i 1)))) := hN1
        clear hU1 hN1
        refine W.eq (g2 := F0 m 52 ls []) rfl ?_
        have hXta_ : w_[33]? = some (ad 33, .inl (cy 0, 1024, .inl (nf (mixN (i + 1) (fun d => if X (layP n od d n) then 1 else 0) (mixN (2 ^ n) (fun d => layP n od d n) tp))))) := by
          rw [show (fun d => if X (layP n od d n) then 1 else 0) = upB (fun d => if X (layP n od d n) then 1 else 0) i 1 from (upB_self' (by simp [c_41])).symm, ← mixN_s]; exact hXta_
        refine lv_iinc (v := nI (i + 1)) (lv' := [(4, .int (nI (i + 1))), (0, .ref (ad 31)), (1, .ref ao), (2, .ref (ad 7)), (3, .int (nI n))]) S.1 S.2.1 dX2_make_52 hl (k := 4) rfl (nI_add _ 1) (by decide) rfl (fun ls hl => ?_)
        refine lv_goto (tgt := 14) S.1 S.2.1 dX2_make_55 (by decide) ?_
        exact ih14 _ (by omega) (i + 1) rfl (by omega) w_ hU hX_ hXta_ hXfa_ hXwa_ hXya_ hXpa_ H locs ls hW (lv_sub hl [1, 2, 3, 4, 0] rfl)
  exact L14 _ 0 rfl (Nat.zero_le _) w_ hU hX_ hXta_ hXfa_ hXwa_ hXya_ hXpa_ H locs ls hW (lv_sub hl [2, 3, 4, 1, 0] rfl)
