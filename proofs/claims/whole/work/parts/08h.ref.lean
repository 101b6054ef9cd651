/-! THE REFERENCE: rows turned (laid by wip/whole/tools, from the specs there) -/
/-! THE REFERENCE: rows turned, circuits counted -/
def mixF (g rb : Nat → Bool) (i : Nat) : Nat → Bool := fun j => if j < i then g j else rb j
theorem mixF_0 (g rb : Nat → Bool) : mixF g rb 0 = rb := by funext j; unfold mixF; rw [if_neg (by omega)]
theorem mixF_upd {g rb : Nat → Bool} {i : Nat} {b : Bool} (h : g i = b) : upd (bf (mixF g rb i)) i (bI b) = bf (mixF g rb (i + 1)) := by
  funext j; unfold upd bf mixF
  by_cases e : j = i
  · subst e; rw [if_pos rfl, if_pos (by omega), h]
  · rw [if_neg e]
    by_cases q : j < i
    · rw [if_pos q, if_pos (by omega)]
    · rw [if_neg q, if_neg (by omega)]
theorem mixF_lo {g rb : Nat → Bool} {i j : Nat} (h : j < i) : mixF g rb i j = g j := if_pos h
theorem mixF_1024 (g rb : Nat → Bool) : mixF g rb 1024 = rowM g rb := rfl
/-- the assignment of a place of the turned row -/
def layQ (n : Nat) (od : Nat → Nat) (c t : Nat) : Nat := orS (fun i => if c.testBit (n - 1 - i) then 2 ^ od i else 0) t
theorem layQ_lt {n c t : Nat} {od : Nat → Nat} (h : ∀ j, od j < 10) : layQ n od c t < 1024 := orS_lt (k := 10) (fun k _ => by
  split
  · exact Nat.pow_lt_pow_right (by decide) (h _)
  · decide)
theorem layQ_s {n c t : Nat} {od : Nat → Nat} : layQ n od c t ||| (((c >>> (n - 1 - t)) &&& 1) <<< od t) = layQ n od c (t + 1) := by
  show _ = layQ n od c t ||| (if c.testBit (n - 1 - t) then 2 ^ od t else 0)
  rw [shr_and1]
  split
  · rw [Nat.one_shiftLeft]
  · rw [Nat.zero_shiftLeft]
theorem lay_rev {n c : Nat} {od : Nat → Nat} : layQ n od c n = layP n od c n := Nat.eq_of_testBit_eq (fun v => by
  apply Bool.eq_iff_iff.mpr
  unfold layQ layP
  rw [orS_bit, orS_bit]
  constructor
  · rintro ⟨i, hi, h⟩
    exact ⟨n - 1 - i, by omega, by rw [show n - 1 - (n - 1 - i) = i by omega]; exact h⟩
  · rintro ⟨i, hi, h⟩
    exact ⟨n - 1 - i, by omega, by rw [show n - 1 - (n - 1 - i) = i by omega]; exact h⟩)
theorem lay_lt2 {n c t : Nat} {od : Nat → Nat} (hod : ∀ j, j < n → od j < n) : layP n od c n < 2 ^ n := orS_lt (fun k hk => by
  split
  · exact Nat.pow_lt_pow_right (by decide) (hod _ (by omega))
  · exact Nat.two_pow_pos n)
theorem allB_more {g : Nat → Bool} {i n : Nat} (h : allB g i = false) (hi : i ≤ n) : allB g n = false := by
  induction hi with
  | refl => exact h
  | step _ ih => show (allB g _ && g _) = false; rw [ih]; rfl
theorem al_1 {g : Nat → Bool} {i : Nat} (h : allB g i = true) (h1 : g i = true) : bI (allB g (i + 1)) = nI 1 := by
  rw [show allB g (i + 1) = (allB g i && g i) from rfl, h, h1]; rfl
theorem al_0 {g : Nat → Bool} {i : Nat} (h1 : g i = false) : bI (allB g (i + 1)) = nI 0 := by
  rw [show allB g (i + 1) = (allB g i && g i) from rfl, h1, Bool.and_false]; rfl
theorem half_pow {n q : Nat} (h : q < n) : 2 ^ (n - q) / 2 = 2 ^ (n - (q + 1)) := by
  rw [show n - q = n - (q + 1) + 1 by omega, Nat.pow_succ, Nat.mul_div_cancel _ (by decide)]
theorem pow_half {n q : Nat} (h : q < n) : 2 ^ (n - q) = 2 * 2 ^ (n - (q + 1)) := by
  rw [show n - q = n - (q + 1) + 1 by omega, Nat.pow_succ, Nat.mul_comm]
theorem like_half {tu : Nat → Bool} {n q c : Nat} (h : q < n) : allB (fun i => tu (c * 2 ^ (n - q) + i) == tu (c * 2 ^ (n - q) + 2 ^ (n - (q + 1)) + i)) (2 ^ (n - (q + 1))) = sameB tu (2 ^ (n - (q + 1))) (2 * c) (2 * c + 1) := by
  unfold sameB
  apply allB_congr
  intro i _
  rw [pow_half h, show c * (2 * 2 ^ (n - (q + 1))) = 2 * c * 2 ^ (n - (q + 1)) by rw [← Nat.mul_assoc, Nat.mul_comm c 2], show (2 * c + 1) * 2 ^ (n - (q + 1)) = 2 * c * 2 ^ (n - (q + 1)) + 2 ^ (n - (q + 1)) by rw [Nat.add_mul, Nat.one_mul]]
/-- the block c is new, as far as the blocks before dq tell -/
def nwB (tu : Nat → Bool) (n q c dq : Nat) : Bool := !(sameB tu (2 ^ (n - (q + 1))) (2 * c) (2 * c + 1)) && allB (fun d => !(sameB tu (2 ^ (n - q)) d c)) dq
theorem nw_1 {tu : Nat → Bool} {n q c dq : Nat} (h : nwB tu n q c dq = true) (h1 : sameB tu (2 ^ (n - q)) dq c = false) : bI (nwB tu n q c (dq + 1)) = nI 1 := by
  unfold nwB at h ⊢
  rw [Bool.and_eq_true] at h
  rw [show allB (fun d => !(sameB tu (2 ^ (n - q)) d c)) (dq + 1) = (allB (fun d => !(sameB tu (2 ^ (n - q)) d c)) dq && !(sameB tu (2 ^ (n - q)) dq c)) from rfl, h.1, h.2, h1]; rfl
theorem nw_0 {tu : Nat → Bool} {n q c dq : Nat} (h1 : sameB tu (2 ^ (n - q)) dq c = true) : bI (nwB tu n q c (dq + 1)) = nI 0 := by
  unfold nwB
  rw [show allB (fun d => !(sameB tu (2 ^ (n - q)) d c)) (dq + 1) = (allB (fun d => !(sameB tu (2 ^ (n - q)) d c)) dq && !(sameB tu (2 ^ (n - q)) dq c)) from rfl, h1, Bool.not_true, Bool.and_false, Bool.and_false]; rfl
theorem nw_s1 {tu : Nat → Bool} {n q c : Nat} (h1 : sameB tu (2 ^ (n - (q + 1))) (2 * c) (2 * c + 1) = false) : bI (nwB tu n q c 0) = nI 1 := by unfold nwB; rw [h1]; rfl
theorem nw_s0 {tu : Nat → Bool} {n q c : Nat} (h1 : sameB tu (2 ^ (n - (q + 1))) (2 * c) (2 * c + 1) = true) : bI (nwB tu n q c 0) = nI 0 := by unfold nwB; rw [h1]; rfl
theorem nw_endf {tu : Nat → Bool} {n q c dq : Nat} (h : nwB tu n q c dq = false) (hd : dq ≤ c) : newB tu n q c = nwB tu n q c dq := by
  rw [h]
  unfold nwB at h
  unfold newB
  rcases Bool.and_eq_false_iff.mp h with z | z
  · rw [z, Bool.false_and]
  · rw [allB_more z hd, Bool.and_false]
theorem nw_ende {tu : Nat → Bool} {n q c dq : Nat} (h : dq = c) : newB tu n q c = nwB tu n q c dq := by rw [h]; rfl
/-- readsModels -/
theorem c_X12_readsModels (l : Launch) (D : va_G) (cy : Nat → ClassId) {w : va_W} (ad : Nat → Nat) (th n nc : Nat) (sd se lv : Nat) (cs : Nat → CN) (rb : Nat → Bool) (gO : w[55]? = some (ad 55, .inr (11, [.int (nI th), .ref (ad 56), .ref (ad 57), .ref (ad 58), .ref (ad 59), .ref (ad 60), .ref (ad 61), .ref (ad 62), .ref (ad 63), .ref (ad 64), .ref (ad 65), .int (nI n), .int (nI nc), .ref (ad 66), .ref (ad 71), .ref (ad 72), .ref (ad 73)]))) (gE : w[58]? = some (ad 58, .inl (cy 0, 10, .inl (evA n sd se)))) (gP : w[65]? = some (ad 65, .inl (cy 3, 20, .inl (bf (dpB nc lv))))) (gC0 : w[60]? = some (ad 60, .inl (cy 2, 20, .inl (nf (ckd cs))))) (gC1 : w[61]? = some (ad 61, .inl (cy 0, 20, .inl (nf (cst cs))))) (gC2 : w[62]? = some (ad 62, .inl (cy 0, 20, .inl (nf (cot cs))))) (gC3 : w[63]? = some (ad 63, .inl (cy 0, 20, .inl (nf (cle cs))))) (gC4 : w[64]? = some (ad 64, .inl (cy 0, 20, .inl (nf (cgr cs))))) (gR : w[72]? = some (ad 72, .inl (cy 3, 1024, .inl (bf rb)))) (hn : n ≤ 10) (hsd : sd < 2 ^ n) (hse : se &&& sd = se) (hnc : nc ≤ 20) (hcs : csI nc cs) : jM l yX12_readsModels (jws yX12_readsModels cX12_readsModels 2 none) (jR 4 0 0) D cy w [.ref (ad 55)] 0 0 (fun vv uu => vv = none ∧ jU w uu [72] ∧ uu[72]? = some (ad 72, .inl (cy 3, 1024, .inl (bf (rowM (mdl n sd se nc cs lv) rb))))) := by
  have hp2 := two_pow10 hn
  refine j_of (by decide) rfl (Nat.le_of_ble_eq_true rfl) ?_
  intro p e s m args below meth c A ls Q hQ S hr hK hA H locs hW hl
  have hl : lv_has ls 2 [(0, .ref (ad 55))] := hl
  refine lv_iconst (v := nI 0) S.1 S.2.1 dX12_readsModels_0 (by decide) ?_
  refine lv_istore_n (lv' := [(1, .int (nI 0)), (0, .ref (ad 55))]) S.1 S.2.1 dX12_readsModels_1 rfl hl (by decide) rfl (fun ls hl => ?_)
  have gR_ : w[72]? = some (ad 72, .inl (cy 3, 1024, .inl (bf (mixF (mdl n sd se nc cs lv) rb 0)))) := by
    rw [mixF_0]; exact gR
  have L2 : ∀ (k : Nat) (i : Nat), 1024 - i = k → (i ≤ 1024) → ∀ (w_ : va_W), jU w w_ [72] → (w_[72]? = some (ad 72, .inl (cy 3, 1024, .inl (bf (mixF (mdl n sd se nc cs lv) rb i))))) → ∀ (H : Heap) (locs : List Loc) (ls : Array Slot), jW D A s.heap w_ H locs → lv_has ls 2 [(0, .ref (ad 55)), (1, .int (nI i))] → W p l e (jR 4 0 0) s m args below meth c H locs 0 0 Q (F0 m 2 ls []) := by
    intro k
    induction k using Nat.strongRecOn with
    | ind k ih2 =>
    intro i hk hi w_ hU gR_ H locs ls hW hl
    subst hk
    refine lv_iload_n S.1 S.2.1 dX12_readsModels_2 rfl (lv_at hl 1 rfl) ?_
    refine lv_sipush (v := nI 1024) S.1 S.2.1 dX12_readsModels_3 (by decide) ?_
    refine jn_cmp_ge (tgt := 42) S (by omega) (by omega) dX12_readsModels_6 (by decide) (fun c_6 => ?_) (fun c_6 => ?_)
    · subst hQ
      refine j_vret (u := w_) S hr hK hW dX12_readsModels_42 ⟨by decide, by decide⟩ ?_
      have ei : i = 1024 := by omega
      subst ei
      exact ⟨rfl, hU, gR_⟩
    · refine lv_aload_n S.1 S.2.1 dX12_readsModels_9 rfl (lv_at hl 0 rfl) ?_
      refine j_get (ci := 11) (C := RX12) (T := TX12) (N := 17) (v := .ref (ad 72)) S (fun w h => List.mem_cons_of_mem _ (inG12 w h)) hK hW (hU.get gO (by decide)) rfl 15 (by decide) (List.mem_cons_of_mem _ wfl_X12_58) (fun _ h9 => h9) rfl dX12_readsModels_10 ?_
      refine lv_iload_n S.1 S.2.1 dX12_readsModels_13 rfl (lv_at hl 1 rfl) ?_
      refine lv_iload_n S.1 S.2.1 dX12_readsModels_14 rfl (lv_at hl 1 rfl) ?_
      refine lv_aload_n S.1 S.2.1 dX12_readsModels_15 rfl (lv_at hl 0 rfl) ?_
      refine j_callV (k := 55) (ci := 11) (q := (RX12, TX12, 17)) (As := []) (rest := [.int (nI i), .int (nI i), .ref (ad 72)]) S hK hA hW (c_X12_all l D cy ad th n nc (hU.get gO (by decide))   (by omega)) (jgo wm_X12_98) yk_X12_all (hU.get gO (by decide)) rfl rfl ⟨⟨rfl, rfl⟩, by decide, by decide⟩ rfl hl.1 rfl (Nat.le_of_ble_eq_true rfl) dX12_readsModels_16 ⟨Nat.le_of_ble_eq_true rfl, Nat.le_of_ble_eq_true rfl⟩ (fun v u H locs hp hW => ?_)
      obtain ⟨rfl, rfl⟩ := hp
      refine W.eq (g2 := F0 m 19 ls [.int (nI (2 ^ n)), .int (nI i), .int (nI i), .ref (ad 72)]) rfl ?_
      refine jn_cmp_ge (tgt := 34) S (by omega) (by omega) dX12_readsModels_19 (by decide) (fun c_19 => ?_) (fun c_19 => ?_)
      · refine lv_iconst (v := nI 0) S.1 S.2.1 dX12_readsModels_34 (by decide) ?_
        refine j_zast S hK hW gR_ (vp_in_nI (by omega) (by omega)) (nI_clamp (by omega)) (rfl) dX12_readsModels_35 (fun H locs w_ hU1 hN1 hW => ?_)
        have hU := hU.then hU1 (by decide)
        have gR_ : w_[72]? = some (ad 72, .inl (cy 3, 1024, .inl (upd (bf (mixF (mdl n sd se nc cs lv) rb i)) i (nI 0)))) := hN1
        clear hU1 hN1
        have gR_ : w_[72]? = some (ad 72, .inl (cy 3, 1024, .inl (bf (mixF (mdl n sd se nc cs lv) rb (i + 1))))) := by
          rw [← mixF_upd (g := (mdl n sd se nc cs lv)) (b := false) (by show (decide (i < 2 ^ n) && mdc sd se nc cs lv i) = _; first | (rw [decide_eq_true c_19, c_27]; rfl) | (rw [decide_eq_false (by omega)]; rfl))]; exact gR_
        refine lv_iinc (v := nI (i + 1)) (lv' := [(1, .int (nI (i + 1))), (0, .ref (ad 55))]) S.1 S.2.1 dX12_readsModels_36 hl (k := 1) rfl (nI_add _ 1) (by decide) rfl (fun ls hl => ?_)
        refine lv_goto (tgt := 2) S.1 S.2.1 dX12_readsModels_39 (by decide) ?_
        exact ih2 _ (by omega) (i + 1) rfl (by omega) w_ hU gR_ H locs ls hW (lv_sub hl [1, 0] rfl)
      · refine lv_aload_n S.1 S.2.1 dX12_readsModels_22 rfl (lv_at hl 0 rfl) ?_
        refine lv_iload_n S.1 S.2.1 dX12_readsModels_23 rfl (lv_at hl 1 rfl) ?_
        refine j_callV (k := 55) (ci := 11) (q := (RX12, TX12, 17)) (As := [.int (nI i)]) (rest := [.int (nI i), .ref (ad 72)]) S hK hA hW (c_X12_isModel l D cy ad th n nc sd se lv cs i (hU.get gO (by decide)) (hU.get gE (by decide)) (hU.get gP (by decide)) (hU.get gC0 (by decide)) (hU.get gC1 (by decide)) (hU.get gC2 (by decide)) (hU.get gC3 (by decide)) (hU.get gC4 (by decide))   (by omega) (hsd) (hse) (by omega) (hcs) (by omega)) (jgo wm_X12_102) yk_X12_isModel (hU.get gO (by decide)) rfl rfl ⟨⟨rfl, rfl⟩, by decide, by decide⟩ rfl hl.1 rfl (Nat.le_of_ble_eq_true rfl) dX12_readsModels_24 ⟨Nat.le_of_ble_eq_true rfl, Nat.le_of_ble_eq_true rfl⟩ (fun v u H locs hp hW => ?_)
        obtain ⟨rfl, rfl⟩ := hp
        refine W.eq (g2 := F0 m 27 ls [.int (bI (mdc sd se nc cs lv i)), .int (nI i), .ref (ad 72)]) rfl ?_
        refine jb_if_eq (tgt := 34) S dX12_readsModels_27 (by decide) (fun c_27 => ?_) (fun c_27 => ?_)
        · refine lv_iconst (v := nI 0) S.1 S.2.1 dX12_readsModels_34 (by decide) ?_
          refine j_zast S hK hW gR_ (vp_in_nI (by omega) (by omega)) (nI_clamp (by omega)) (rfl) dX12_readsModels_35 (fun H locs w_ hU1 hN1 hW => ?_)
          have hU := hU.then hU1 (by decide)
          have gR_ : w_[72]? = some (ad 72, .inl (cy 3, 1024, .inl (upd (bf (mixF (mdl n sd se nc cs lv) rb i)) i (nI 0)))) := hN1
          clear hU1 hN1
          have gR_ : w_[72]? = some (ad 72, .inl (cy 3, 1024, .inl (bf (mixF (mdl n sd se nc cs lv) rb (i + 1))))) := by
            rw [← mixF_upd (g := (mdl n sd se nc cs lv)) (b := false) (by show (decide (i < 2 ^ n) && mdc sd se nc cs lv i) = _; first | (rw [decide_eq_true c_19, c_27]; rfl) | (rw [decide_eq_false (by omega)]; rfl))]; exact gR_
          refine lv_iinc (v := nI (i + 1)) (lv' := [(1, .int (nI (i + 1))), (0, .ref (ad 55))]) S.1 S.2.1 dX12_readsModels_36 hl (k := 1) rfl (nI_add _ 1) (by decide) rfl (fun ls hl => ?_)
          refine lv_goto (tgt := 2) S.1 S.2.1 dX12_readsModels_39 (by decide) ?_
          exact ih2 _ (by omega) (i + 1) rfl (by omega) w_ hU gR_ H locs ls hW (lv_sub hl [1, 0] rfl)
        · refine lv_iconst (v := nI 1) S.1 S.2.1 dX12_readsModels_30 (by decide) ?_
          refine lv_goto (tgt := 35) S.1 S.2.1 dX12_readsModels_31 (by decide) ?_
          refine j_zast S hK hW gR_ (vp_in_nI (by omega) (by omega)) (nI_clamp (by omega)) (rfl) dX12_readsModels_35 (fun H locs w_ hU1 hN1 hW => ?_)
          have hU := hU.then hU1 (by decide)
          have gR_ : w_[72]? = some (ad 72, .inl (cy 3, 1024, .inl (upd (bf (mixF (mdl n sd se nc cs lv) rb i)) i (nI 1)))) := hN1
          clear hU1 hN1
          have gR_ : w_[72]? = some (ad 72, .inl (cy 3, 1024, .inl (bf (mixF (mdl n sd se nc cs lv) rb (i + 1))))) := by
            rw [← mixF_upd (g := (mdl n sd se nc cs lv)) (b := true) (by show (decide (i < 2 ^ n) && mdc sd se nc cs lv i) = _; first | (rw [decide_eq_true c_19, c_27]; rfl) | (rw [decide_eq_false (by omega)]; rfl))]; exact gR_
          refine lv_iinc (v := nI (i + 1)) (lv' := [(1, .int (nI (i + 1))), (0, .ref (ad 55))]) S.1 S.2.1 dX12_readsModels_36 hl (k := 1) rfl (nI_add _ 1) (by decide) rfl (fun ls hl => ?_)
          refine lv_goto (tgt := 2) S.1 S.2.1 dX12_readsModels_39 (by decide) ?_
          exact ih2 _ (by omega) (i + 1) rfl (by omega) w_ hU gR_ H locs ls hW (lv_sub hl [1, 0] rfl)
  exact L2 _ 0 rfl (Nat.zero_le _) w jU.rf gR_ H locs ls hW (lv_sub hl [1, 0] rfl)
/-- turns -/
theorem c_X12_turns (l : Launch) (D : va_G) (cy : Nat → ClassId) {w : va_W} (ad : Nat → Nat) (th n nc : Nat) (od : Nat → Nat) (rb tu : Nat → Bool) (gO : w[55]? = some (ad 55, .inr (11, [.int (nI th), .ref (ad 56), .ref (ad 57), .ref (ad 58), .ref (ad 59), .ref (ad 60), .ref (ad 61), .ref (ad 62), .ref (ad 63), .ref (ad 64), .ref (ad 65), .int (nI n), .int (nI nc), .ref (ad 66), .ref (ad 71), .ref (ad 72), .ref (ad 73)]))) (gD : w[59]? = some (ad 59, .inl (cy 0, 10, .inl (nf od)))) (gR : w[72]? = some (ad 72, .inl (cy 3, 1024, .inl (bf rb)))) (gU : w[73]? = some (ad 73, .inl (cy 3, 1024, .inl (bf tu)))) (hn : n ≤ 10) (hod : ∀ j, od j < 10) : jM l yX12_turns (jws yX12_turns cX12_turns 4 none) (jR 2 0 0) D cy w [.ref (ad 55)] 0 0 (fun vv uu => vv = none ∧ jU w uu [73] ∧ uu[73]? = some (ad 73, .inl (cy 3, 1024, .inl (bf (mixF (fun d => rb (layP n od d n)) tu (2 ^ n)))))) := by
  have hp2 := two_pow10 hn
  refine j_of (by decide) rfl (Nat.le_of_ble_eq_true rfl) ?_
  intro p e s m args below meth c A ls Q hQ S hr hK hA H locs hW hl
  have hl : lv_has ls 4 [(0, .ref (ad 55))] := hl
  refine lv_iconst (v := nI 0) S.1 S.2.1 dX12_turns_0 (by decide) ?_
  refine lv_istore_n (lv' := [(1, .int (nI 0)), (0, .ref (ad 55))]) S.1 S.2.1 dX12_turns_1 rfl hl (by decide) rfl (fun ls hl => ?_)
  have gU_ : w[73]? = some (ad 73, .inl (cy 3, 1024, .inl (bf (mixF (fun d => rb (layP n od d n)) tu 0)))) := by
    rw [mixF_0]; exact gU
  have L2 : ∀ (k : Nat) (i : Nat), 2 ^ n - i = k → (i ≤ 2 ^ n) → ∀ (w_ : va_W), jU w w_ [73] → (w_[73]? = some (ad 73, .inl (cy 3, 1024, .inl (bf (mixF (fun d => rb (layP n od d n)) tu i))))) → ∀ (H : Heap) (locs : List Loc) (ls : Array Slot), jW D A s.heap w_ H locs → lv_has ls 4 [(0, .ref (ad 55)), (1, .int (nI i))] → W p l e (jR 2 0 0) s m args below meth c H locs 0 0 Q (F0 m 2 ls []) := by
    intro k
    induction k using Nat.strongRecOn with
    | ind k ih2 =>
    intro i hk hi w_ hU gU_ H locs ls hW hl
    subst hk
    refine lv_iload_n S.1 S.2.1 dX12_turns_2 rfl (lv_at hl 1 rfl) ?_
    refine lv_aload_n S.1 S.2.1 dX12_turns_3 rfl (lv_at hl 0 rfl) ?_
    refine j_callV (k := 55) (ci := 11) (q := (RX12, TX12, 17)) (As := []) (rest := [.int (nI i)]) S hK hA hW (c_X12_all l D cy ad th n nc (hU.get gO (by decide))   (by omega)) (jgo wm_X12_98) yk_X12_all (hU.get gO (by decide)) rfl rfl ⟨⟨rfl, rfl⟩, by decide, by decide⟩ rfl hl.1 rfl (Nat.le_of_ble_eq_true rfl) dX12_turns_4 ⟨Nat.le_of_ble_eq_true rfl, Nat.le_of_ble_eq_true rfl⟩ (fun v u H locs hp hW => ?_)
    obtain ⟨rfl, rfl⟩ := hp
    refine W.eq (g2 := F0 m 7 ls [.int (nI (2 ^ n)), .int (nI i)]) rfl ?_
    refine jn_cmp_ge (tgt := 68) S (by omega) (by omega) dX12_turns_7 (by decide) (fun c_7 => ?_) (fun c_7 => ?_)
    · subst hQ
      refine j_vret (u := w_) S hr hK hW dX12_turns_68 ⟨by decide, by decide⟩ ?_
      have ei : i = 2 ^ n := by omega
      subst ei
      exact ⟨rfl, hU, gU_⟩
    · refine lv_iconst (v := nI 0) S.1 S.2.1 dX12_turns_10 (by decide) ?_
      refine lv_istore_n (lv' := [(2, .int (nI 0)), (0, .ref (ad 55)), (1, .int (nI i))]) S.1 S.2.1 dX12_turns_11 rfl hl (by decide) rfl (fun ls hl => ?_)
      refine lv_iconst (v := nI 0) S.1 S.2.1 dX12_turns_12 (by decide) ?_
      refine lv_istore_n (lv' := [(3, .int (nI 0)), (2, .int (nI 0)), (0, .ref (ad 55)), (1, .int (nI i))]) S.1 S.2.1 dX12_turns_13 rfl hl (by decide) rfl (fun ls hl => ?_)
      have L14 : ∀ (k : Nat) (kk : Nat), n - kk = k → (kk ≤ n) → ∀ (w_ : va_W), jU w w_ [73] → (w_[73]? = some (ad 73, .inl (cy 3, 1024, .inl (bf (mixF (fun d => rb (layP n od d n)) tu i))))) → ∀ (H : Heap) (locs : List Loc) (ls : Array Slot), jW D A s.heap w_ H locs → lv_has ls 4 [(0, .ref (ad 55)), (1, .int (nI i)), (2, .int (nI (layQ n od i kk))), (3, .int (nI kk))] → W p l e (jR 2 0 0) s m args below meth c H locs 0 0 Q (F0 m 14 ls []) := by
        intro k
        induction k using Nat.strongRecOn with
        | ind k ih14 =>
        intro kk hk hkk w_ hU gU_ H locs ls hW hl
        subst hk
        refine lv_iload_n S.1 S.2.1 dX12_turns_14 rfl (lv_at hl 3 rfl) ?_
        refine lv_aload_n S.1 S.2.1 dX12_turns_15 rfl (lv_at hl 0 rfl) ?_
        refine j_get (ci := 11) (C := RX12) (T := TX12) (N := 17) (v := .int (nI n)) S (fun w h => List.mem_cons_of_mem _ (inG12 w h)) hK hW (hU.get gO (by decide)) rfl 11 (by decide) (List.mem_cons_of_mem _ wfl_X12_64) (fun _ h9 => h9) rfl dX12_turns_16 ?_
        refine jn_cmp_ge (tgt := 50) S (by omega) (by omega) dX12_turns_19 (by decide) (fun c_19 => ?_) (fun c_19 => ?_)
        · have ek : kk = n := by omega
          have hl : lv_has ls 4 [(0, .ref (ad 55)), (1, .int (nI i)), (2, .int (nI (layQ n od i n)))] := by rw [ek] at hl; exact lv_sub hl [0, 1, 2] rfl
          refine lv_aload_n S.1 S.2.1 dX12_turns_50 rfl (lv_at hl 0 rfl) ?_
          refine j_get (ci := 11) (C := RX12) (T := TX12) (N := 17) (v := .ref (ad 73)) S (fun w h => List.mem_cons_of_mem _ (inG12 w h)) hK hW (hU.get gO (by decide)) rfl 16 (by decide) (List.mem_cons_of_mem _ wfl_X12_61) (fun _ h9 => h9) rfl dX12_turns_51 ?_
          refine lv_iload_n S.1 S.2.1 dX12_turns_54 rfl (lv_at hl 1 rfl) ?_
          refine lv_aload_n S.1 S.2.1 dX12_turns_55 rfl (lv_at hl 0 rfl) ?_
          refine j_get (ci := 11) (C := RX12) (T := TX12) (N := 17) (v := .ref (ad 72)) S (fun w h => List.mem_cons_of_mem _ (inG12 w h)) hK hW (hU.get gO (by decide)) rfl 15 (by decide) (List.mem_cons_of_mem _ wfl_X12_58) (fun _ h9 => h9) rfl dX12_turns_56 ?_
          have hll := layQ_lt (n := n) (c := i) (t := n) hod
          refine lv_iload_n S.1 S.2.1 dX12_turns_59 rfl (lv_at hl 2 rfl) ?_
          refine j_zald (x := bI (rb (layQ n od i n))) S hK hW (hU.get gR (by decide)) (vp_in_nI (by omega) (by omega)) (nI_clamp (by omega)) (rfl) dX12_turns_60 ?_
          refine j_zast S hK hW gU_ (vp_in_nI (by omega) (by omega)) (nI_clamp (by omega)) (bI_vnar _) dX12_turns_61 (fun H locs w_ hU1 hN1 hW => ?_)
          have hU := hU.then hU1 (by decide)
          have gU_ : w_[73]? = some (ad 73, .inl (cy 3, 1024, .inl (upd (bf (mixF (fun d => rb (layP n od d n)) tu i)) i (bI (rb (layQ n od i n)))))) := hN1
          clear hU1 hN1
          have gU_ : w_[73]? = some (ad 73, .inl (cy 3, 1024, .inl (bf (mixF (fun d => rb (layP n od d n)) tu (i + 1))))) := by
            rw [← mixF_upd (g := (fun d => rb (layP n od d n))) (b := rb (layQ n od i n)) (by rw [lay_rev])]; exact gU_
          refine lv_iinc (v := nI (i + 1)) (lv' := [(1, .int (nI (i + 1))), (0, .ref (ad 55)), (2, .int (nI (layQ n od i n)))]) S.1 S.2.1 dX12_turns_62 hl (k := 1) rfl (nI_add _ 1) (by decide) rfl (fun ls hl => ?_)
          refine lv_goto (tgt := 2) S.1 S.2.1 dX12_turns_65 (by decide) ?_
          exact ih2 _ (by omega) (i + 1) rfl (by omega) w_ hU gU_ H locs ls hW (lv_sub hl [1, 0] rfl)
        · refine lv_iload_n S.1 S.2.1 dX12_turns_22 rfl (lv_at hl 2 rfl) ?_
          refine lv_iload_n S.1 S.2.1 dX12_turns_23 rfl (lv_at hl 1 rfl) ?_
          refine lv_aload_n S.1 S.2.1 dX12_turns_24 rfl (lv_at hl 0 rfl) ?_
          refine j_get (ci := 11) (C := RX12) (T := TX12) (N := 17) (v := .int (nI n)) S (fun w h => List.mem_cons_of_mem _ (inG12 w h)) hK hW (hU.get gO (by decide)) rfl 11 (by decide) (List.mem_cons_of_mem _ wfl_X12_64) (fun _ h9 => h9) rfl dX12_turns_25 ?_
          refine lv_iconst (v := nI 1) S.1 S.2.1 dX12_turns_28 (by decide) ?_
          refine jn_sub S (by omega) dX12_turns_29 ?_
          refine lv_iload_n S.1 S.2.1 dX12_turns_30 rfl (lv_at hl 3 rfl) ?_
          refine jn_sub S (by omega) dX12_turns_31 ?_
          refine jn_shr S (by omega) (by omega) dX12_turns_32 ?_
          refine lv_iconst (v := nI 1) S.1 S.2.1 dX12_turns_33 (by decide) ?_
          refine jn_and S dX12_turns_34 ?_
          refine lv_aload_n S.1 S.2.1 dX12_turns_35 rfl (lv_at hl 0 rfl) ?_
          refine j_get (ci := 11) (C := RX12) (T := TX12) (N := 17) (v := .ref (ad 59)) S (fun w h => List.mem_cons_of_mem _ (inG12 w h)) hK hW (hU.get gO (by decide)) rfl 4 (by decide) (List.mem_cons_of_mem _ wfl_X12_27) (fun _ h9 => h9) rfl dX12_turns_36 ?_
          refine lv_iload_n S.1 S.2.1 dX12_turns_39 rfl (lv_at hl 3 rfl) ?_
          have hok := hod kk
          refine j_iald (x := nI (od kk)) S hK hW (hU.get gD (by decide)) (vp_in_nI (by omega) (by omega)) (nI_clamp (by omega)) (rfl) dX12_turns_40 ?_
          refine jn_shl S (by omega) dX12_turns_41 ?_
          refine jn_or S dX12_turns_42 ?_
          refine lv_topi_to (y := nI (layQ n od i (kk + 1))) (congrArg nI layQ_s) ?_
          refine lv_istore_n (lv' := [(2, .int (nI (layQ n od i (kk + 1)))), (0, .ref (ad 55)), (1, .int (nI i)), (3, .int (nI kk))]) S.1 S.2.1 dX12_turns_43 rfl hl (by decide) rfl (fun ls hl => ?_)
          refine lv_iinc (v := nI (kk + 1)) (lv' := [(3, .int (nI (kk + 1))), (2, .int (nI (layQ n od i (kk + 1)))), (0, .ref (ad 55)), (1, .int (nI i))]) S.1 S.2.1 dX12_turns_44 hl (k := 3) rfl (nI_add _ 1) (by decide) rfl (fun ls hl => ?_)
          refine lv_goto (tgt := 14) S.1 S.2.1 dX12_turns_47 (by decide) ?_
          exact ih14 _ (by omega) (kk + 1) rfl (by omega) w_ hU gU_ H locs ls hW (lv_sub hl [2, 3, 1, 0] rfl)
      exact L14 _ 0 rfl (Nat.zero_le _) w_ hU gU_ H locs ls hW (lv_sub hl [2, 3, 1, 0] rfl)
  exact L2 _ 0 rfl (Nat.zero_le _) w jU.rf gU_ H locs ls hW (lv_sub hl [1, 0] rfl)
/-- areLike -/
theorem c_X12_areLike (l : Launch) (D : va_G) (cy : Nat → ClassId) {w : va_W} (ad : Nat → Nat) (th n nc : Nat) (tu : Nat → Bool) (fr1 ot ln : Nat) (gO : w[55]? = some (ad 55, .inr (11, [.int (nI th), .ref (ad 56), .ref (ad 57), .ref (ad 58), .ref (ad 59), .ref (ad 60), .ref (ad 61), .ref (ad 62), .ref (ad 63), .ref (ad 64), .ref (ad 65), .int (nI n), .int (nI nc), .ref (ad 66), .ref (ad 71), .ref (ad 72), .ref (ad 73)]))) (gU : w[73]? = some (ad 73, .inl (cy 3, 1024, .inl (bf tu)))) (hf : fr1 + ln ≤ 1024) (ho : ot + ln ≤ 1024) : jM l yX12_areLike (jws yX12_areLike cX12_areLike 6 (some .boolean)) (jR 0 0 0) D cy w [.ref (ad 55), .int (nI fr1), .int (nI ot), .int (nI ln)] 0 0 (fun vv uu => vv = some (.int (bI (allB (fun i => tu (fr1 + i) == tu (ot + i)) ln))) ∧ w = uu) := by
  refine j_of (by decide) rfl (Nat.le_of_ble_eq_true rfl) ?_
  intro p e s m args below meth c A ls Q hQ S hr hK hA H locs hW hl
  have hl : lv_has ls 6 [(0, .ref (ad 55)), (1, .int (nI fr1)), (2, .int (nI ot)), (3, .int (nI ln))] := hl
  refine lv_iconst (v := nI 1) S.1 S.2.1 dX12_areLike_0 (by decide) ?_
  refine lv_istore (lv' := [(4, .int (nI 1)), (0, .ref (ad 55)), (1, .int (nI fr1)), (2, .int (nI ot)), (3, .int (nI ln))]) S.1 S.2.1 dX12_areLike_1 hl (by decide) rfl (fun ls hl => ?_)
  refine lv_iconst (v := nI 0) S.1 S.2.1 dX12_areLike_3 (by decide) ?_
  refine lv_istore (lv' := [(5, .int (nI 0)), (4, .int (nI 1)), (0, .ref (ad 55)), (1, .int (nI fr1)), (2, .int (nI ot)), (3, .int (nI ln))]) S.1 S.2.1 dX12_areLike_4 hl (by decide) rfl (fun ls hl => ?_)
  have L6 : ∀ (k : Nat) (kk : Nat), ln - kk = k → (kk ≤ ln) → ∀ (H : Heap) (locs : List Loc) (ls : Array Slot), jW D A s.heap w H locs → lv_has ls 6 [(0, .ref (ad 55)), (1, .int (nI fr1)), (2, .int (nI ot)), (3, .int (nI ln)), (4, .int (bI (allB (fun i => tu (fr1 + i) == tu (ot + i)) kk))), (5, .int (nI kk))] → W p l e (jR 0 0 0) s m args below meth c H locs 0 0 Q (F0 m 6 ls []) := by
    intro k
    induction k using Nat.strongRecOn with
    | ind k ih6 =>
    intro kk hk hkk H locs ls hW hl
    subst hk
    refine lv_iload S.1 S.2.1 dX12_areLike_6 (lv_at hl 4 rfl) ?_
    refine jb_if_eq (tgt := 51) S dX12_areLike_8 (by decide) (fun c_8 => ?_) (fun c_8 => ?_)
    · refine lv_iload S.1 S.2.1 dX12_areLike_51 (lv_at hl 4 rfl) ?_
      subst hQ
      exact j_iret (u := w) S hr (bI_nar _) hK hW dX12_areLike_53 ⟨by decide, by decide⟩ (⟨by first | (rw [show kk = ln by omega]) | (rw [c_8, allB_more c_8 hkk]), rfl⟩)
    · refine lv_iload S.1 S.2.1 dX12_areLike_11 (lv_at hl 5 rfl) ?_
      refine lv_iload_n S.1 S.2.1 dX12_areLike_13 rfl (lv_at hl 3 rfl) ?_
      refine jn_cmp_ge (tgt := 51) S (by omega) (by omega) dX12_areLike_14 (by decide) (fun c_14 => ?_) (fun c_14 => ?_)
      · refine lv_iload S.1 S.2.1 dX12_areLike_51 (lv_at hl 4 rfl) ?_
        subst hQ
        exact j_iret (u := w) S hr (bI_nar _) hK hW dX12_areLike_53 ⟨by decide, by decide⟩ (⟨by first | (rw [show kk = ln by omega]) | (rw [c_8, allB_more c_8 hkk]), rfl⟩)
      · refine lv_aload_n S.1 S.2.1 dX12_areLike_17 rfl (lv_at hl 0 rfl) ?_
        refine j_get (ci := 11) (C := RX12) (T := TX12) (N := 17) (v := .ref (ad 73)) S (fun w h => List.mem_cons_of_mem _ (inG12 w h)) hK hW gO rfl 16 (by decide) (List.mem_cons_of_mem _ wfl_X12_61) (fun _ h9 => h9) rfl dX12_areLike_18 ?_
        refine lv_iload_n S.1 S.2.1 dX12_areLike_21 rfl (lv_at hl 1 rfl) ?_
        refine lv_iload S.1 S.2.1 dX12_areLike_22 (lv_at hl 5 rfl) ?_
        refine jn_add S dX12_areLike_24 ?_
        refine j_zald (x := bI (tu (fr1 + kk))) S hK hW gU (vp_in_nI (by omega) (by omega)) (nI_clamp (by omega)) (rfl) dX12_areLike_25 ?_
        refine lv_aload_n S.1 S.2.1 dX12_areLike_26 rfl (lv_at hl 0 rfl) ?_
        refine j_get (ci := 11) (C := RX12) (T := TX12) (N := 17) (v := .ref (ad 73)) S (fun w h => List.mem_cons_of_mem _ (inG12 w h)) hK hW gO rfl 16 (by decide) (List.mem_cons_of_mem _ wfl_X12_61) (fun _ h9 => h9) rfl dX12_areLike_27 ?_
        refine lv_iload_n S.1 S.2.1 dX12_areLike_30 rfl (lv_at hl 2 rfl) ?_
        refine lv_iload S.1 S.2.1 dX12_areLike_31 (lv_at hl 5 rfl) ?_
        refine jn_add S dX12_areLike_33 ?_
        refine j_zald (x := bI (tu (ot + kk))) S hK hW gU (vp_in_nI (by omega) (by omega)) (nI_clamp (by omega)) (rfl) dX12_areLike_34 ?_
        refine lv_icmp_ne (tgt := 42) S.1 S.2.1 dX12_areLike_35 (by decide) (fun c_35 => ?_) (fun c_35 => ?_)
        · refine lv_iconst (v := nI 0) S.1 S.2.1 dX12_areLike_42 (by decide) ?_
          refine lv_istore (lv' := [(4, .int (nI 0)), (0, .ref (ad 55)), (1, .int (nI fr1)), (2, .int (nI ot)), (3, .int (nI ln)), (5, .int (nI kk))]) S.1 S.2.1 dX12_areLike_43 hl (by decide) rfl (fun ls hl => ?_)
          have e0 : bI (allB (fun i => tu (fr1 + i) == tu (ot + i)) (kk + 1)) = nI 0 := al_0 (beq_false_of_ne (fun z => c_35 (congrArg bI z)))
          have hl : lv_has ls 6 [(0, .ref (ad 55)), (1, .int (nI fr1)), (2, .int (nI ot)), (3, .int (nI ln)), (4, .int (bI (allB (fun i => tu (fr1 + i) == tu (ot + i)) (kk + 1)))), (5, .int (nI kk))] := by rw [e0]; exact lv_sub hl [1, 2, 3, 4, 0, 5] rfl
          refine lv_iinc (v := nI (kk + 1)) (lv' := [(5, .int (nI (kk + 1))), (0, .ref (ad 55)), (1, .int (nI fr1)), (2, .int (nI ot)), (3, .int (nI ln)), (4, .int (bI (allB (fun i => tu (fr1 + i) == tu (ot + i)) (kk + 1))))]) S.1 S.2.1 dX12_areLike_45 hl (k := 5) rfl (nI_add _ 1) (by decide) rfl (fun ls hl => ?_)
          refine lv_goto (tgt := 6) S.1 S.2.1 dX12_areLike_48 (by decide) ?_
          exact ih6 _ (by omega) (kk + 1) rfl (by omega) H locs ls hW (lv_sub hl [1, 2, 3, 4, 5, 0] rfl)
        · refine lv_iconst (v := nI 1) S.1 S.2.1 dX12_areLike_38 (by decide) ?_
          refine lv_goto (tgt := 43) S.1 S.2.1 dX12_areLike_39 (by decide) ?_
          refine lv_istore (lv' := [(4, .int (nI 1)), (0, .ref (ad 55)), (1, .int (nI fr1)), (2, .int (nI ot)), (3, .int (nI ln)), (5, .int (nI kk))]) S.1 S.2.1 dX12_areLike_43 hl (by decide) rfl (fun ls hl => ?_)
          have e0 : bI (allB (fun i => tu (fr1 + i) == tu (ot + i)) (kk + 1)) = nI 1 := al_1 c_8 (by rw [bI_inj.mp c_35]; exact beq_self_eq_true _)
          have hl : lv_has ls 6 [(0, .ref (ad 55)), (1, .int (nI fr1)), (2, .int (nI ot)), (3, .int (nI ln)), (4, .int (bI (allB (fun i => tu (fr1 + i) == tu (ot + i)) (kk + 1)))), (5, .int (nI kk))] := by rw [e0]; exact lv_sub hl [1, 2, 3, 4, 0, 5] rfl
          refine lv_iinc (v := nI (kk + 1)) (lv' := [(5, .int (nI (kk + 1))), (0, .ref (ad 55)), (1, .int (nI fr1)), (2, .int (nI ot)), (3, .int (nI ln)), (4, .int (bI (allB (fun i => tu (fr1 + i) == tu (ot + i)) (kk + 1))))]) S.1 S.2.1 dX12_areLike_45 hl (k := 5) rfl (nI_add _ 1) (by decide) rfl (fun ls hl => ?_)
          refine lv_goto (tgt := 6) S.1 S.2.1 dX12_areLike_48 (by decide) ?_
          exact ih6 _ (by omega) (kk + 1) rfl (by omega) H locs ls hW (lv_sub hl [1, 2, 3, 4, 5, 0] rfl)
  exact L6 _ 0 rfl (Nat.zero_le _) H locs ls hW (lv_sub hl [2, 3, 4, 5, 1, 0] rfl)
