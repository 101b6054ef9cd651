/-! THE REFERENCE: parts (laid by wip/whole/tools, from the specs there) -/
/-! THE REFERENCE: parts -/
def jnd (cs : Nat → CN) (op c : Nat) : Nat := mbs (cs c) &&& op
/-- a set grown by one constraint -/
def grwN (cs : Nat → CN) (lv op c s : Nat) : Nat := if lv.testBit c = true ∧ jnd cs op c &&& s ≠ 0 then s ||| jnd cs op c else s
def subE (a b : Nat) : Prop := ∀ j, a.testBit j = true → b.testBit j = true
theorem grwN_t {cs : Nat → CN} {lv op c s : Nat} (h1 : lv.testBit c = true) (h2 : jnd cs op c &&& s ≠ 0) : s ||| jnd cs op c = grwN cs lv op c s := (if_pos ⟨h1, h2⟩).symm
theorem grwN_f1 {cs : Nat → CN} {lv op c s : Nat} (h1 : lv.testBit c = false) : s ||| 0 = grwN cs lv op c s := by
  rw [Nat.or_zero]; exact (if_neg (fun q => by rw [q.1] at h1; cases h1)).symm
theorem grwN_f2 {cs : Nat → CN} {lv op c s : Nat} (h2 : jnd cs op c &&& s = 0) : s ||| 0 = grwN cs lv op c s := by
  rw [Nat.or_zero]; exact (if_neg (fun q => q.2 h2)).symm
theorem grwN_le {cs : Nat → CN} {lv op c s : Nat} : s ≤ grwN cs lv op c s := by
  unfold grwN; split
  · exact Nat.left_le_or
  · exact Nat.le_refl _
theorem jnd_lt {cs : Nat → CN} {op c : Nat} (hop : op < 1024) : jnd cs op c < 1024 := Nat.lt_of_le_of_lt Nat.and_le_right hop
theorem grwN_lt {cs : Nat → CN} {lv op c s : Nat} (hop : op < 1024) (hs : s < 1024) : grwN cs lv op c s < 1024 := by
  unfold grwN; split
  · exact Nat.or_lt_two_pow (n := 10) hs (jnd_lt hop)
  · exact hs
theorem grwN_has {cs : Nat → CN} {lv op c s v : Nat} (h : s.testBit v = true) : (grwN cs lv op c s).testBit v = true := by
  unfold grwN; split
  · rw [Nat.testBit_or, h, Bool.true_or]
  · exact h
theorem ne0_bit {x : Nat} (h : x ≠ 0) : ∃ j, x.testBit j = true := Classical.byContradiction (fun q => h (Nat.eq_of_testBit_eq (fun i => by
  rw [Nat.zero_testBit]; cases z : x.testBit i
  · rfl
  · exact absurd ⟨i, z⟩ q)))
theorem stp_bit {nc lv op x j : Nat} {cs : Nat → CN} : (stpP nc cs lv op x).testBit j = true ↔ (x.testBit j = true ∨ (op.testBit j = true ∧ ∃ c, c < nc ∧ lv.testBit c = true ∧ mbs (cs c) &&& x ≠ 0 ∧ (mbs (cs c)).testBit j = true)) := by
  unfold stpP
  rw [Nat.testBit_or, Bool.or_eq_true, Nat.testBit_and, Bool.and_eq_true]
  constructor
  · rintro (h | ⟨h1, h2⟩)
    · exact Or.inl h
    · obtain ⟨c, hc, h⟩ := orS_bit.mp h1
      refine Or.inr ⟨h2, c, hc, ?_⟩
      split at h
      · next q =>
        rw [touchN, bsum_bit, decide_eq_true hc, Bool.true_and, Bool.and_eq_true] at q
        exact ⟨q.2, of_decide_eq_true q.1, h⟩
      · rw [Nat.zero_testBit] at h; cases h
  · rintro (h | ⟨h2, c, hc, h3, h4, h5⟩)
    · exact Or.inl h
    · refine Or.inr ⟨orS_bit.mpr ⟨c, hc, ?_⟩, h2⟩
      rw [if_pos (by rw [touchN, bsum_bit, decide_eq_true hc, h3, decide_eq_true h4]; rfl)]
      exact h5
theorem grwN_sub {nc lv op c s T : Nat} {cs : Nat → CN} (hT : stpP nc cs lv op T = T) (hc : c < nc) (hs : subE s T) : subE (grwN cs lv op c s) T := by
  intro j hj
  unfold grwN at hj
  split at hj
  · next q =>
    rw [Nat.testBit_or, Bool.or_eq_true] at hj
    rcases hj with h | h
    · exact hs j h
    · rw [← hT]
      unfold jnd at h q
      rw [Nat.testBit_and, Bool.and_eq_true] at h
      refine stp_bit.mpr (Or.inr ⟨h.2, c, hc, q.1, ?_, h.1⟩)
      obtain ⟨i, hi⟩ := ne0_bit q.2
      rw [Nat.testBit_and, Nat.testBit_and, Bool.and_eq_true, Bool.and_eq_true] at hi
      exact tb_ne0 (v := i) (by rw [Nat.testBit_and, hi.1.1, hs i hi.2]; rfl)
  · exact hs j hj
theorem it_op {nc lv op v : Nat} {cs : Nat → CN} (hv : op.testBit v = true) (r : Nat) : subE (itP nc cs lv op v r) op := by
  induction r with
  | zero =>
    intro j hj
    rw [itP, pow_bit, decide_eq_true_eq] at hj
    rw [← hj]; exact hv
  | succ r ih =>
    intro j hj
    rcases stp_bit.mp hj with h | ⟨h, _⟩
    · exact ih j h
    · exact h
theorem it_least {nc lv op v s : Nat} {cs : Nat → CN} (hv : op.testBit v = true) (hs : s.testBit v = true) (hcl : ∀ c, c < nc → grwN cs lv op c s = s) (r : Nat) : subE (itP nc cs lv op v r) s := by
  induction r with
  | zero =>
    intro j hj
    rw [itP, pow_bit, decide_eq_true_eq] at hj
    rw [← hj]; exact hs
  | succ r ih =>
    intro j hj
    rcases stp_bit.mp hj with h | ⟨h, c, hc, h3, h4, h5⟩
    · exact ih j h
    · obtain ⟨i, hi⟩ := ne0_bit h4
      rw [Nat.testBit_and, Bool.and_eq_true] at hi
      rw [← hcl c hc, grwN, if_pos ⟨h3, tb_ne0 (v := i) (by rw [jnd, Nat.testBit_and, Nat.testBit_and, hi.1, it_op hv r i hi.2, ih i hi.2]; rfl)⟩, Nat.testBit_or, jnd, Nat.testBit_and, h5, h]
      simp
theorem subE_eq {a b : Nat} (h1 : subE a b) (h2 : subE b a) : a = b := Nat.eq_of_testBit_eq (fun j => by
  cases z : a.testBit j
  · cases y : b.testBit j
    · rfl
    · rw [h2 j y] at z; cases z
  · exact (h1 j z).symm)
theorem cnt_grow {a b : Nat} (h : subE a b) (hne : a ≠ b) (hb : b < 1024) : cnt a.testBit 10 < cnt b.testBit 10 := by
  have hex : ∃ j, b.testBit j = true ∧ a.testBit j = false := Classical.byContradiction (fun q => hne (subE_eq h (fun j hj => by
    cases z : a.testBit j
    · exact absurd ⟨j, hj, z⟩ q
    · rfl)))
  obtain ⟨j, h1, h2⟩ := hex
  have hj : j < 10 := Nat.lt_of_not_le (fun q => by
    rw [Nat.testBit_lt_two_pow (Nat.lt_of_lt_of_le hb (show 2 ^ 10 ≤ 2 ^ j from Nat.pow_le_pow_right (by decide) q))] at h1; cases h1)
  have hle : ∀ N, cnt (upB a.testBit j true) N ≤ cnt b.testBit N := fun N => by
    induction N with
    | zero => exact Nat.le_refl _
    | succ N ih =>
      simp only [cnt]
      by_cases e : N = j
      · subst e; rw [upB_same, h1]; simp; exact ih
      · rw [upB_ne e]
        cases z : a.testBit N
        · simp; omega
        · rw [h N z]; simp; exact ih
  have := hle 10
  rw [cnt_up hj h2] at this
  omega
theorem itP_closed {nc lv op v : Nat} {cs : Nat → CN} (hop : op < 1024) (hv : v < 10) : stpP nc cs lv op (itP nc cs lv op v 10) = itP nc cs lv op v 10 := by
  have key : ∀ r, stpP nc cs lv op (itP nc cs lv op v r) = itP nc cs lv op v r ∨ r + 1 ≤ cnt (itP nc cs lv op v r).testBit 10 := by
    intro r
    induction r with
    | zero =>
      refine Or.inr ?_
      have h0 : (itP nc cs lv op v 0).testBit v = true := itP_ne0
      have := cnt_zero (S := (itP nc cs lv op v 0).testBit) (n := 10)
      rcases Nat.eq_zero_or_pos (cnt (itP nc cs lv op v 0).testBit 10) with q | q
      · rw [this.mp q v hv] at h0; cases h0
      · exact q
    | succ r ih =>
      rcases ih with q | q
      · refine Or.inl ?_
        have e : itP nc cs lv op v (r + 1) = itP nc cs lv op v r := q
        rw [e]; exact q
      · by_cases e : itP nc cs lv op v (r + 1) = itP nc cs lv op v r
        · refine Or.inl ?_
          rw [e]; exact e
        · refine Or.inr ?_
          have hg := cnt_grow (a := itP nc cs lv op v r) (b := itP nc cs lv op v (r + 1)) (fun j hj => stp_bit.mpr (Or.inl hj)) (fun z => e z.symm) (itP_lt hop hv _)
          omega
  rcases key 10 with q | q
  · exact q
  · have := cnt_le (itP nc cs lv op v 10).testBit 10
    omega
theorem part_is {nc lv op v s : Nat} {cs : Nat → CN} (hv : op.testBit v = true) (h1 : s.testBit v = true) (h2 : subE s (itP nc cs lv op v 10)) (h3 : ∀ c, c < nc → grwN cs lv op c s = s) : s = itP nc cs lv op v 10 := subE_eq h2 (it_least hv h1 h3 10)
theorem op_bit {n sd v : Nat} : (nAnd (2 ^ n - 1) sd).testBit v = (decide (v < n) && !sd.testBit v) := by rw [nAnd_bit, Nat.testBit_two_pow_sub_one]
theorem op_free {n sd : Nat} : bsum (fun u => !sd.testBit u) n = nAnd (2 ^ n - 1) sd := Nat.eq_of_testBit_eq (fun v => by rw [bsum_bit, op_bit])
theorem jnd_i {cs : Nat → CN} {op c a : Nat} (h : a = jnd cs op c) : nI a = nI (jnd cs op c) := congrArg nI h
theorem bs_t {g : Nat → Bool} {n : Nat} (h : g n = true) : bsum g n ||| 1 <<< n = bsum g (n + 1) := by
  simp only [bsum]; rw [if_pos h, Nat.one_shiftLeft]; exact bsum_or g n
theorem bs_p {g : Nat → Bool} {n : Nat} (h : g n = true) : bsum g n ||| 2 ^ n = bsum g (n + 1) := by
  simp only [bsum]; rw [if_pos h]; exact bsum_or g n
theorem bs_f {g : Nat → Bool} {n : Nat} (h : g n = false) : bsum g n ||| 0 = bsum g (n + 1) := by
  simp only [bsum]; rw [if_neg (by rw [h]; decide), Nat.or_zero, Nat.add_zero]
theorem pow_lt2' {v n : Nat} (hv : v < n) (hn : n ≤ 10) : 2 ^ v < 1024 := Nat.lt_of_lt_of_le (Nat.pow_lt_pow_right (by decide) hv) (two_pow10 hn)
theorem itP_sub0 {nc lv op v : Nat} {cs : Nat → CN} : subE (2 ^ v) (itP nc cs lv op v 10) := fun j hj => by
  rw [pow_bit, decide_eq_true_eq] at hj
  rw [← hj]; exact itP_ne0
theorem grw_keep {cs : Nat → CN} {lv op c s t : Nat} (hle : s ≤ t) (h : s = t → ∀ d, d < c → grwN cs lv op d t = t) (e : s = grwN cs lv op c t) : ∀ d, d < c + 1 → grwN cs lv op d (grwN cs lv op c t) = grwN cs lv op c t := by
  have h1 : t ≤ grwN cs lv op c t := grwN_le
  have e1 : s = t := by omega
  have e2 : grwN cs lv op c t = t := by omega
  intro d hd
  rw [e2]
  rcases Nat.lt_or_ge d c with q | q
  · exact h e1 d q
  · rw [show d = c by omega]; exact e2
theorem part_dec {s b t : Nat} (hle : s ≤ t) (hne : ¬ b = s) (ht : t < 1024) : 2 * (1024 - t) + (if s = t then 0 else 1) < 2 * (1024 - s) + (if b = s then 0 else 1) := by
  rw [if_neg hne]
  split <;> omega
/-- free -/
theorem c_X12_free (l : Launch) (D : va_G) (cy : Nat → ClassId) {w : va_W} (ad : Nat → Nat) (th n nc : Nat) (sd se : Nat) (gO : w[55]? = some (ad 55, .inr (11, [.int (nI th), .ref (ad 56), .ref (ad 57), .ref (ad 58), .ref (ad 59), .ref (ad 60), .ref (ad 61), .ref (ad 62), .ref (ad 63), .ref (ad 64), .ref (ad 65), .int (nI n), .int (nI nc), .ref (ad 66), .ref (ad 71), .ref (ad 72), .ref (ad 73)]))) (gE : w[58]? = some (ad 58, .inl (cy 0, 10, .inl (evA n sd se)))) (hn : n ≤ 10) : jM l yX12_free (jws yX12_free cX12_free 3 (some .int)) (jR 0 0 0) D cy w [.ref (ad 55)] 0 0 (fun vv uu => vv = some (.int (nI (nAnd (2 ^ n - 1) sd))) ∧ w = uu) := by
  refine j_of (by decide) rfl (Nat.le_of_ble_eq_true rfl) ?_
  intro p e s m args below meth c A ls Q hQ S hr hK hA H locs hW hl
  have hl : lv_has ls 3 [(0, .ref (ad 55))] := hl
  refine lv_iconst (v := nI 0) S.1 S.2.1 dX12_free_0 (by decide) ?_
  refine lv_istore_n (lv' := [(1, .int (nI 0)), (0, .ref (ad 55))]) S.1 S.2.1 dX12_free_1 rfl hl (by decide) rfl (fun ls hl => ?_)
  refine lv_iconst (v := nI 0) S.1 S.2.1 dX12_free_2 (by decide) ?_
  refine lv_istore_n (lv' := [(2, .int (nI 0)), (1, .int (nI 0)), (0, .ref (ad 55))]) S.1 S.2.1 dX12_free_3 rfl hl (by decide) rfl (fun ls hl => ?_)
  have L4 : ∀ (k : Nat) (v : Nat), n - v = k → (v ≤ n) → ∀ (H : Heap) (locs : List Loc) (ls : Array Slot), jW D A s.heap w H locs → lv_has ls 3 [(0, .ref (ad 55)), (1, .int (nI (bsum (fun u => !sd.testBit u) v))), (2, .int (nI v))] → W p l e (jR 0 0 0) s m args below meth c H locs 0 0 Q (F0 m 4 ls []) := by
    intro k
    induction k using Nat.strongRecOn with
    | ind k ih4 =>
    intro v hk hv H locs ls hW hl
    subst hk
    refine lv_iload_n S.1 S.2.1 dX12_free_4 rfl (lv_at hl 2 rfl) ?_
    refine lv_aload_n S.1 S.2.1 dX12_free_5 rfl (lv_at hl 0 rfl) ?_
    refine j_get (ci := 11) (C := RX12) (T := TX12) (N := 17) (v := .int (nI n)) S (fun w h => List.mem_cons_of_mem _ (inG12 w h)) hK hW gO rfl 11 (by decide) (List.mem_cons_of_mem _ wfl_X12_64) (fun _ h9 => h9) rfl dX12_free_6 ?_
    refine jn_cmp_ge (tgt := 37) S (by omega) (by omega) dX12_free_9 (by decide) (fun c_9 => ?_) (fun c_9 => ?_)
    · refine lv_iload_n S.1 S.2.1 dX12_free_37 rfl (lv_at hl 1 rfl) ?_
      subst hQ
      refine j_iret (u := w) S hr (rfl) hK hW dX12_free_38 ⟨by decide, by decide⟩ ?_
      have ev : v = n := by omega
      subst ev
      exact ⟨congrArg (fun z => some (Value.int (nI z))) op_free, rfl⟩
    · rcases Bool.eq_false_or_eq_true (sd.testBit v) with hsv | hsv
      · refine lv_iload_n S.1 S.2.1 dX12_free_12 rfl (lv_at hl 1 rfl) ?_
        refine lv_aload_n S.1 S.2.1 dX12_free_13 rfl (lv_at hl 0 rfl) ?_
        refine j_get (ci := 11) (C := RX12) (T := TX12) (N := 17) (v := .ref (ad 58)) S (fun w h => List.mem_cons_of_mem _ (inG12 w h)) hK hW gO rfl 3 (by decide) (List.mem_cons_of_mem _ wfl_X12_24) (fun _ h9 => h9) rfl dX12_free_14 ?_
        refine lv_iload_n S.1 S.2.1 dX12_free_17 rfl (lv_at hl 2 rfl) ?_
        refine j_iald (x := nI (b01 (se.testBit v))) S hK hW gE (vp_in_nI (by omega) (by omega)) (nI_clamp (by omega)) (by rw [evA_at (by omega), evI, if_pos hsv, bI_b01]) dX12_free_18 ?_
        have hb1 := b01_lt (se.testBit v)
        refine jn_if_ge (tgt := 28) S (by omega) dX12_free_19 (by decide) ?_
        refine lv_iconst (v := nI 0) S.1 S.2.1 dX12_free_28 (by decide) ?_
        refine jn_or S dX12_free_29 ?_
        refine lv_topi_to (y := nI (bsum (fun u => !sd.testBit u) (v + 1))) (congrArg nI (by first | exact bs_f (by rw [hsv]; rfl) | exact bs_t (by rw [hsv]; rfl))) ?_
        refine lv_istore_n (lv' := [(1, .int (nI (bsum (fun u => !sd.testBit u) (v + 1)))), (0, .ref (ad 55)), (2, .int (nI v))]) S.1 S.2.1 dX12_free_30 rfl hl (by decide) rfl (fun ls hl => ?_)
        refine lv_iinc (v := nI (v + 1)) (lv' := [(2, .int (nI (v + 1))), (1, .int (nI (bsum (fun u => !sd.testBit u) (v + 1)))), (0, .ref (ad 55))]) S.1 S.2.1 dX12_free_31 hl (k := 2) rfl (nI_add _ 1) (by decide) rfl (fun ls hl => ?_)
        refine lv_goto (tgt := 4) S.1 S.2.1 dX12_free_34 (by decide) ?_
        exact ih4 _ (by omega) (v + 1) rfl (by omega) H locs ls hW (lv_sub hl [2, 1, 0] rfl)
      · refine lv_iload_n S.1 S.2.1 dX12_free_12 rfl (lv_at hl 1 rfl) ?_
        refine lv_aload_n S.1 S.2.1 dX12_free_13 rfl (lv_at hl 0 rfl) ?_
        refine j_get (ci := 11) (C := RX12) (T := TX12) (N := 17) (v := .ref (ad 58)) S (fun w h => List.mem_cons_of_mem _ (inG12 w h)) hK hW gO rfl 3 (by decide) (List.mem_cons_of_mem _ wfl_X12_24) (fun _ h9 => h9) rfl dX12_free_14 ?_
        refine lv_iload_n S.1 S.2.1 dX12_free_17 rfl (lv_at hl 2 rfl) ?_
        refine j_iald (x := (-1)) S hK hW gE (vp_in_nI (by omega) (by omega)) (nI_clamp (by omega)) (by rw [evA_at (by omega), evI, if_neg (by rw [hsv]; decide)]) dX12_free_18 ?_
        have hb1 := b01_lt (se.testBit v)
        refine lv_if_ge (tgt := 28) S.1 S.2.1 dX12_free_19 (by decide) (fun c_19 => ?_) (fun c_19 => ?_)
        · first | exact absurd c_19 (by decide) | exact absurd (by decide) c_19
        · refine lv_iconst (v := nI 1) S.1 S.2.1 dX12_free_22 (by decide) ?_
          refine lv_iload_n S.1 S.2.1 dX12_free_23 rfl (lv_at hl 2 rfl) ?_
          refine jn_shl1 S (by omega) dX12_free_24 ?_
          refine lv_goto (tgt := 29) S.1 S.2.1 dX12_free_25 (by decide) ?_
          refine jn_or S dX12_free_29 ?_
          refine lv_topi_to (y := nI (bsum (fun u => !sd.testBit u) (v + 1))) (congrArg nI (by first | exact bs_p (by rw [hsv]; rfl) | exact bs_t (by rw [hsv]; rfl))) ?_
          refine lv_istore_n (lv' := [(1, .int (nI (bsum (fun u => !sd.testBit u) (v + 1)))), (0, .ref (ad 55)), (2, .int (nI v))]) S.1 S.2.1 dX12_free_30 rfl hl (by decide) rfl (fun ls hl => ?_)
          refine lv_iinc (v := nI (v + 1)) (lv' := [(2, .int (nI (v + 1))), (1, .int (nI (bsum (fun u => !sd.testBit u) (v + 1)))), (0, .ref (ad 55))]) S.1 S.2.1 dX12_free_31 hl (k := 2) rfl (nI_add _ 1) (by decide) rfl (fun ls hl => ?_)
          refine lv_goto (tgt := 4) S.1 S.2.1 dX12_free_34 (by decide) ?_
          exact ih4 _ (by omega) (v + 1) rfl (by omega) H locs ls hW (lv_sub hl [2, 1, 0] rfl)
  exact L4 _ 0 rfl (Nat.zero_le _) H locs ls hW (lv_sub hl [2, 1, 0] rfl)
/-- lowest -/
theorem c_X12_lowest (l : Launch) (D : va_G) (cy : Nat → ClassId) {w : va_W} (sq v r0 : Nat) (hs : sq < 1024) (hr : r0 < v) (hv : v ≤ 10) (hb : sq.testBit r0 = true) : jM l yX12_lowest (jws yX12_lowest cX12_lowest 2 (some .int)) (jR 1 0 0) D cy w [.int (nI sq)] 0 0 (fun vv uu => vv = some (.int (nI (lowN sq v))) ∧ w = uu) := by
  refine j_of (by decide) rfl (Nat.le_of_ble_eq_true rfl) ?_
  intro p e s m args below meth c A ls Q hQ S hr hK hA H locs hW hl
  have hl : lv_has ls 2 [(0, .int (nI sq))] := hl
  refine lv_iconst (v := nI 0) S.1 S.2.1 dX12_lowest_0 (by decide) ?_
  refine lv_istore_n (lv' := [(1, .int (nI 0)), (0, .int (nI sq))]) S.1 S.2.1 dX12_lowest_1 rfl hl (by decide) rfl (fun ls hl => ?_)
  have L2 : ∀ (k : Nat) (y : Nat), 10 - y = k → (y ≤ r0) → (∀ j, j < y → sq.testBit j = false) → ∀ (H : Heap) (locs : List Loc) (ls : Array Slot), jW D A s.heap w H locs → lv_has ls 2 [(0, .int (nI sq)), (1, .int (nI y))] → W p l e (jR 1 0 0) s m args below meth c H locs 0 0 Q (F0 m 2 ls []) := by
    intro k
    induction k using Nat.strongRecOn with
    | ind k ih2 =>
    intro y hk hy hno H locs ls hW hl
    subst hk
    refine lv_iload_n S.1 S.2.1 dX12_lowest_2 rfl (lv_at hl 0 rfl) ?_
    refine lv_iload_n S.1 S.2.1 dX12_lowest_3 rfl (lv_at hl 1 rfl) ?_
    refine j_callS (As := [.int (nI sq), .int (nI y)]) (rest := []) S hK hA hW (c_X12_has l D cy sq y    (by omega) (by omega)) (jgo wm_X12_7) yk_X12_has ⟨⟨rfl, rfl⟩, by decide, by decide⟩ rfl hl.1 rfl (Nat.le_of_ble_eq_true rfl) dX12_lowest_4 ⟨Nat.le_of_ble_eq_true rfl, Nat.le_of_ble_eq_true rfl⟩ (fun v u H locs hp hW => ?_)
    obtain ⟨rfl, rfl⟩ := hp
    refine W.eq (g2 := F0 m 7 ls [.int (bI (sq.testBit y))]) rfl ?_
    refine jb_if_ne (tgt := 16) S dX12_lowest_7 (by decide) (fun c_7 => ?_) (fun c_7 => ?_)
    · refine lv_iload_n S.1 S.2.1 dX12_lowest_16 rfl (lv_at hl 1 rfl) ?_
      subst hQ
      exact j_iret (u := w) S hr (rfl) hK hW dX12_lowest_17 ⟨by decide, by decide⟩ (⟨congrArg (fun z => some (Value.int (nI z))) (lowN_is (by omega) hno (Or.inr c_7)).symm, rfl⟩)
    · refine lv_iinc (v := nI (y + 1)) (lv' := [(1, .int (nI (y + 1))), (0, .int (nI sq))]) S.1 S.2.1 dX12_lowest_10 hl (k := 1) rfl (nI_add _ 1) (by decide) rfl (fun ls hl => ?_)
      refine lv_goto (tgt := 2) S.1 S.2.1 dX12_lowest_13 (by decide) ?_
      exact ih2 _ (by omega) (y + 1) rfl (by rcases Nat.lt_or_eq_of_le hy with q | q; exact q; rw [q, hb] at c_7; cases c_7) (fun j h => by rcases Nat.lt_or_ge j y with q | q; exact hno j q; rw [show j = y by omega]; exact c_7) H locs ls hW (lv_sub hl [1, 0] rfl)
  exact L2 _ 0 rfl (Nat.zero_le _) (fun j h => absurd h (by omega)) H locs ls hW (lv_sub hl [1, 0] rfl)
/-- part -/
theorem c_X12_part (l : Launch) (D : va_G) (cy : Nat → ClassId) {w : va_W} (ad : Nat → Nat) (th n nc : Nat) (sd se lv : Nat) (cs : Nat → CN) (v : Nat) (gO : w[55]? = some (ad 55, .inr (11, [.int (nI th), .ref (ad 56), .ref (ad 57), .ref (ad 58), .ref (ad 59), .ref (ad 60), .ref (ad 61), .ref (ad 62), .ref (ad 63), .ref (ad 64), .ref (ad 65), .int (nI n), .int (nI nc), .ref (ad 66), .ref (ad 71), .ref (ad 72), .ref (ad 73)]))) (gE : w[58]? = some (ad 58, .inl (cy 0, 10, .inl (evA n sd se)))) (gP : w[65]? = some (ad 65, .inl (cy 3, 20, .inl (bf (dpB nc lv))))) (gC0 : w[60]? = some (ad 60, .inl (cy 2, 20, .inl (nf (ckd cs))))) (gC1 : w[61]? = some (ad 61, .inl (cy 0, 20, .inl (nf (cst cs))))) (gC2 : w[62]? = some (ad 62, .inl (cy 0, 20, .inl (nf (cot cs))))) (gC3 : w[63]? = some (ad 63, .inl (cy 0, 20, .inl (nf (cle cs))))) (gC4 : w[64]? = some (ad 64, .inl (cy 0, 20, .inl (nf (cgr cs))))) (hn : n ≤ 10) (hnc : nc ≤ 20) (hcs : csI nc cs) (hv : v < n) (hsv : sd.testBit v = false) : jM l yX12_part (jws yX12_part cX12_part 6 (some .int)) (jR 1 0 0) D cy w [.ref (ad 55), .int (nI v)] 0 0 (fun vv uu => vv = some (.int (nI (itP nc cs lv (nAnd (2 ^ n - 1) sd) v 10))) ∧ w = uu) := by
  have hp2 := two_pow10 hn
  have hop : nAnd (2 ^ n - 1) sd < 1024 := nAnd_lt (n := 10) (by omega)
  have hvo : (nAnd (2 ^ n - 1) sd).testBit v = true := by rw [op_bit, hsv, decide_eq_true hv]; rfl
  have hcl := itP_closed (nc := nc) (cs := cs) (lv := lv) (v := v) hop (by omega)
  refine j_of (by decide) rfl (Nat.le_of_ble_eq_true rfl) ?_
  intro p e s m args below meth c A ls Q hQ S hr hK hA H locs hW hl
  have hl : lv_has ls 6 [(0, .ref (ad 55)), (1, .int (nI v))] := hl
  refine lv_iconst (v := nI 1) S.1 S.2.1 dX12_part_0 (by decide) ?_
  refine lv_iload_n S.1 S.2.1 dX12_part_1 rfl (lv_at hl 1 rfl) ?_
  refine jn_shl1 S (by omega) dX12_part_2 ?_
  refine lv_istore_n (lv' := [(2, .int (nI (2 ^ v))), (0, .ref (ad 55)), (1, .int (nI v))]) S.1 S.2.1 dX12_part_3 rfl hl (by decide) rfl (fun ls hl => ?_)
  refine lv_iconst (v := nI 0) S.1 S.2.1 dX12_part_4 (by decide) ?_
  refine lv_istore_n (lv' := [(3, .int (nI 0)), (2, .int (nI (2 ^ v))), (0, .ref (ad 55)), (1, .int (nI v))]) S.1 S.2.1 dX12_part_5 rfl hl (by decide) rfl (fun ls hl => ?_)
  have L6 : ∀ (k : Nat) (su : Nat) (be : Nat), 2 * (1024 - su) + (if be = su then 0 else 1) = k → (su < 1024) → (be < 1024) → (su.testBit v = true) → (subE su (itP nc cs lv (nAnd (2 ^ n - 1) sd) v 10)) → (be = su → ∀ co, co < nc → grwN cs lv (nAnd (2 ^ n - 1) sd) co su = su) → ∀ (H : Heap) (locs : List Loc) (ls : Array Slot), jW D A s.heap w H locs → lv_has ls 6 [(0, .ref (ad 55)), (1, .int (nI v)), (2, .int (nI su)), (3, .int (nI be))] → W p l e (jR 1 0 0) s m args below meth c H locs 0 0 Q (F0 m 6 ls []) := by
    intro k
    induction k using Nat.strongRecOn with
    | ind k ih6 =>
    intro su be hk hsl hsb hsh hss hse_ H locs ls hW hl
    subst hk
    refine lv_iload_n S.1 S.2.1 dX12_part_6 rfl (lv_at hl 3 rfl) ?_
    refine lv_iload_n S.1 S.2.1 dX12_part_7 rfl (lv_at hl 2 rfl) ?_
    refine jn_cmp_eq (tgt := 82) S (by omega) (by omega) dX12_part_8 (by decide) (fun c_8 => ?_) (fun c_8 => ?_)
    · refine lv_iload_n S.1 S.2.1 dX12_part_82 rfl (lv_at hl 2 rfl) ?_
      subst hQ
      refine j_iret (u := w) S hr (rfl) hK hW dX12_part_83 ⟨by decide, by decide⟩ ?_
      subst c_8
      exact ⟨congrArg (fun z => some (Value.int (nI z))) (part_is hvo hsh hss (hse_ rfl)), rfl⟩
    · refine lv_iload_n S.1 S.2.1 dX12_part_11 rfl (lv_at hl 2 rfl) ?_
      refine lv_istore_n (lv' := [(3, .int (nI su)), (0, .ref (ad 55)), (1, .int (nI v)), (2, .int (nI su))]) S.1 S.2.1 dX12_part_12 rfl hl (by decide) rfl (fun ls hl => ?_)
      refine lv_iconst (v := nI 0) S.1 S.2.1 dX12_part_13 (by decide) ?_
      refine lv_istore (lv' := [(4, .int (nI 0)), (3, .int (nI su)), (0, .ref (ad 55)), (1, .int (nI v)), (2, .int (nI su))]) S.1 S.2.1 dX12_part_14 hl (by decide) rfl (fun ls hl => ?_)
      have L16 : ∀ (k : Nat) (co : Nat) (te : Nat), nc - co = k → (co ≤ nc) → (te < 1024) → (su ≤ te) → (te.testBit v = true) → (subE te (itP nc cs lv (nAnd (2 ^ n - 1) sd) v 10)) → (su = te → ∀ d, d < co → grwN cs lv (nAnd (2 ^ n - 1) sd) d te = te) → ∀ (H : Heap) (locs : List Loc) (ls : Array Slot), jW D A s.heap w H locs → lv_has ls 6 [(0, .ref (ad 55)), (1, .int (nI v)), (2, .int (nI te)), (3, .int (nI su)), (4, .int (nI co))] → W p l e (jR 1 0 0) s m args below meth c H locs 0 0 Q (F0 m 16 ls []) := by
        intro k
        induction k using Nat.strongRecOn with
        | ind k ih16 =>
        intro co te hk hc htl hle hth hts htc H locs ls hW hl
        subst hk
        refine lv_iload S.1 S.2.1 dX12_part_16 (lv_at hl 4 rfl) ?_
        refine lv_aload_n S.1 S.2.1 dX12_part_18 rfl (lv_at hl 0 rfl) ?_
        refine j_get (ci := 11) (C := RX12) (T := TX12) (N := 17) (v := .int (nI nc)) S (fun w h => List.mem_cons_of_mem _ (inG12 w h)) hK hW gO rfl 12 (by decide) (List.mem_cons_of_mem _ wfl_X12_79) (fun _ h9 => h9) rfl dX12_part_19 ?_
        refine jn_cmp_ge (tgt := 79) S (by omega) (by omega) dX12_part_22 (by decide) (fun c_22 => ?_) (fun c_22 => ?_)
        · refine lv_goto (tgt := 6) S.1 S.2.1 dX12_part_79 (by decide) ?_
          exact ih6 _ (part_dec hle c_8 htl) te su rfl (htl) (by omega) (hth) (hts) (fun e => by subst e; exact fun d hd => htc rfl d (by omega)) H locs ls hW (lv_sub hl [0, 1, 2, 3] rfl)
        · refine lv_aload_n S.1 S.2.1 dX12_part_25 rfl (lv_at hl 0 rfl) ?_
          refine j_get (ci := 11) (C := RX12) (T := TX12) (N := 17) (v := .ref (ad 61)) S (fun w h => List.mem_cons_of_mem _ (inG12 w h)) hK hW gO rfl 6 (by decide) (List.mem_cons_of_mem _ wfl_X12_34) (fun _ h9 => h9) rfl dX12_part_26 ?_
          refine lv_iload S.1 S.2.1 dX12_part_29 (lv_at hl 4 rfl) ?_
          refine j_iald (x := nI ((cs co).2.1)) S hK hW gC1 (vp_in_nI (by omega) (by omega)) (nI_clamp (by omega)) (rfl) dX12_part_31 ?_
          refine lv_aload_n S.1 S.2.1 dX12_part_32 rfl (lv_at hl 0 rfl) ?_
          refine j_get (ci := 11) (C := RX12) (T := TX12) (N := 17) (v := .ref (ad 62)) S (fun w h => List.mem_cons_of_mem _ (inG12 w h)) hK hW gO rfl 7 (by decide) (List.mem_cons_of_mem _ wfl_X12_37) (fun _ h9 => h9) rfl dX12_part_33 ?_
          refine lv_iload S.1 S.2.1 dX12_part_36 (lv_at hl 4 rfl) ?_
          refine j_iald (x := nI ((cs co).2.2.1)) S hK hW gC2 (vp_in_nI (by omega) (by omega)) (nI_clamp (by omega)) (rfl) dX12_part_38 ?_
          obtain ⟨hok, ho0⟩ := hcs co (by omega)
          obtain ⟨hk1, hs1, hs2, hs3, hs4⟩ := hok
          refine jn_or S dX12_part_39 ?_
          refine lv_aload_n S.1 S.2.1 dX12_part_40 rfl (lv_at hl 0 rfl) ?_
          refine j_callV (k := 55) (ci := 11) (q := (RX12, TX12, 17)) (As := []) (rest := [.int (nI (((cs co).2.1) ||| ((cs co).2.2.1)))]) S hK hA hW (c_X12_free l D cy ad th n nc sd se gO gE   (by omega)) (jgo wm_X12_125) yk_X12_free gO rfl rfl ⟨⟨rfl, rfl⟩, by decide, by decide⟩ rfl hl.1 rfl (Nat.le_of_ble_eq_true rfl) dX12_part_41 ⟨Nat.le_of_ble_eq_true rfl, Nat.le_of_ble_eq_true rfl⟩ (fun v u H locs hp hW => ?_)
          obtain ⟨rfl, rfl⟩ := hp
          refine W.eq (g2 := F0 m 44 ls [.int (nI (nAnd (2 ^ n - 1) sd)), .int (nI (((cs co).2.1) ||| ((cs co).2.2.1)))]) rfl ?_
          refine jn_and S dX12_part_44 ?_
          refine lv_topi_to (y := nI (jnd cs (nAnd (2 ^ n - 1) sd) co)) (rfl) ?_
          refine lv_istore (lv' := [(5, .int (nI (jnd cs (nAnd (2 ^ n - 1) sd) co))), (0, .ref (ad 55)), (1, .int (nI v)), (2, .int (nI te)), (3, .int (nI su)), (4, .int (nI co))]) S.1 S.2.1 dX12_part_45 hl (by decide) rfl (fun ls hl => ?_)
          refine lv_iload_n S.1 S.2.1 dX12_part_47 rfl (lv_at hl 3 rfl) ?_
          refine lv_aload_n S.1 S.2.1 dX12_part_48 rfl (lv_at hl 1 rfl) ?_
          refine j_get (ci := 11) (C := RX12) (T := TX12) (N := 17) (v := .ref (ad 65)) S (fun w h => List.mem_cons_of_mem _ (inG12 w h)) hK hW gO rfl 10 (by decide) (List.mem_cons_of_mem _ wfl_X12_46) (fun _ h9 => h9) rfl dX12_part_49 ?_
          refine lv_iload S.1 S.2.1 dX12_part_52 (lv_at hl 5 rfl) ?_
          refine j_zald (x := bI (dpB nc lv co)) S hK hW gP (vp_in_nI (by omega) (by omega)) (nI_clamp (by omega)) (rfl) dX12_part_54 ?_
          refine jb_if_ne (tgt := 70) S dX12_part_55 (by decide) (fun c_55 => ?_) (fun c_55 => ?_)
          · refine lv_iconst (v := nI 0) S.1 S.2.1 dX12_part_70 (by decide) ?_
            refine jn_or S dX12_part_71 ?_
            refine lv_topi_to (y := nI (grwN cs lv (nAnd (2 ^ n - 1) sd) co te)) (congrArg nI (by first | exact grwN_t (by rw [dpB_at (by omega)] at c_55; simpa using c_55) c_62 | exact grwN_f2 c_62 | exact grwN_f1 (by rw [dpB_at (by omega)] at c_55; simpa using c_55))) ?_
            refine lv_istore_n (lv' := [(2, .int (nI (grwN cs lv (nAnd (2 ^ n - 1) sd) co te))), (5, .int (nI (jnd cs (nAnd (2 ^ n - 1) sd) co))), (0, .ref (ad 55)), (1, .int (nI v)), (3, .int (nI su)), (4, .int (nI co))]) S.1 S.2.1 dX12_part_72 rfl hl (by decide) rfl (fun ls hl => ?_)
            refine lv_iinc (v := nI (co + 1)) (lv' := [(4, .int (nI (co + 1))), (2, .int (nI (grwN cs lv (nAnd (2 ^ n - 1) sd) co te))), (5, .int (nI (jnd cs (nAnd (2 ^ n - 1) sd) co))), (0, .ref (ad 55)), (1, .int (nI v)), (3, .int (nI su))]) S.1 S.2.1 dX12_part_73 hl (k := 5) rfl (nI_add _ 1) (by decide) rfl (fun ls hl => ?_)
            refine lv_goto (tgt := 16) S.1 S.2.1 dX12_part_76 (by decide) ?_
            exact ih16 _ (by omega) (co + 1) (grwN cs lv (nAnd (2 ^ n - 1) sd) co te) rfl (by omega) (grwN_lt hop htl) (Nat.le_trans hle grwN_le) (grwN_has hth) (grwN_sub hcl (by omega) hts) (fun e d hd => grw_keep hle (fun e2 => htc e2) e d hd) H locs ls hW (lv_sub hl [3, 4, 1, 5, 0] rfl)
          · refine lv_iload S.1 S.2.1 dX12_part_58 (lv_at hl 0 rfl) ?_
            refine lv_iload_n S.1 S.2.1 dX12_part_60 rfl (lv_at hl 3 rfl) ?_
            have hjl := jnd_lt (cs := cs) (c := co) hop
            have h62 : jnd cs (nAnd (2 ^ n - 1) sd) co &&& te < 1024 := and_lt10 htl
            refine jn_and S dX12_part_61 ?_
            refine jn_if_eq (tgt := 70) S (by omega) dX12_part_62 (by decide) (fun c_62 => ?_) (fun c_62 => ?_)
            · refine lv_iconst (v := nI 0) S.1 S.2.1 dX12_part_70 (by decide) ?_
              refine jn_or S dX12_part_71 ?_
              refine lv_topi_to (y := nI (grwN cs lv (nAnd (2 ^ n - 1) sd) co te)) (congrArg nI (by first | exact grwN_t (by rw [dpB_at (by omega)] at c_55; simpa using c_55) c_62 | exact grwN_f2 c_62 | exact grwN_f1 (by rw [dpB_at (by omega)] at c_55; simpa using c_55))) ?_
              refine lv_istore_n (lv' := [(2, .int (nI (grwN cs lv (nAnd (2 ^ n - 1) sd) co te))), (5, .int (nI (jnd cs (nAnd (2 ^ n - 1) sd) co))), (0, .ref (ad 55)), (1, .int (nI v)), (3, .int (nI su)), (4, .int (nI co))]) S.1 S.2.1 dX12_part_72 rfl hl (by decide) rfl (fun ls hl => ?_)
              refine lv_iinc (v := nI (co + 1)) (lv' := [(4, .int (nI (co + 1))), (2, .int (nI (grwN cs lv (nAnd (2 ^ n - 1) sd) co te))), (5, .int (nI (jnd cs (nAnd (2 ^ n - 1) sd) co))), (0, .ref (ad 55)), (1, .int (nI v)), (3, .int (nI su))]) S.1 S.2.1 dX12_part_73 hl (k := 5) rfl (nI_add _ 1) (by decide) rfl (fun ls hl => ?_)
              refine lv_goto (tgt := 16) S.1 S.2.1 dX12_part_76 (by decide) ?_
              exact ih16 _ (by omega) (co + 1) (grwN cs lv (nAnd (2 ^ n - 1) sd) co te) rfl (by omega) (grwN_lt hop htl) (Nat.le_trans hle grwN_le) (grwN_has hth) (grwN_sub hcl (by omega) hts) (fun e d hd => grw_keep hle (fun e2 => htc e2) e d hd) H locs ls hW (lv_sub hl [3, 4, 1, 5, 0] rfl)
            · refine lv_iload S.1 S.2.1 dX12_part_65 (lv_at hl 0 rfl) ?_
              refine lv_goto (tgt := 71) S.1 S.2.1 dX12_part_67 (by decide) ?_
              refine jn_or S dX12_part_71 ?_
              refine lv_topi_to (y := nI (grwN cs lv (nAnd (2 ^ n - 1) sd) co te)) (congrArg nI (by first | exact grwN_t (by rw [dpB_at (by omega)] at c_55; simpa using c_55) c_62 | exact grwN_f2 c_62 | exact grwN_f1 (by rw [dpB_at (by omega)] at c_55; simpa using c_55))) ?_
              refine lv_istore_n (lv' := [(2, .int (nI (grwN cs lv (nAnd (2 ^ n - 1) sd) co te))), (5, .int (nI (jnd cs (nAnd (2 ^ n - 1) sd) co))), (0, .ref (ad 55)), (1, .int (nI v)), (3, .int (nI su)), (4, .int (nI co))]) S.1 S.2.1 dX12_part_72 rfl hl (by decide) rfl (fun ls hl => ?_)
              refine lv_iinc (v := nI (co + 1)) (lv' := [(4, .int (nI (co + 1))), (2, .int (nI (grwN cs lv (nAnd (2 ^ n - 1) sd) co te))), (5, .int (nI (jnd cs (nAnd (2 ^ n - 1) sd) co))), (0, .ref (ad 55)), (1, .int (nI v)), (3, .int (nI su))]) S.1 S.2.1 dX12_part_73 hl (k := 5) rfl (nI_add _ 1) (by decide) rfl (fun ls hl => ?_)
              refine lv_goto (tgt := 16) S.1 S.2.1 dX12_part_76 (by decide) ?_
              exact ih16 _ (by omega) (co + 1) (grwN cs lv (nAnd (2 ^ n - 1) sd) co te) rfl (by omega) (grwN_lt hop htl) (Nat.le_trans hle grwN_le) (grwN_has hth) (grwN_sub hcl (by omega) hts) (fun e d hd => grw_keep hle (fun e2 => htc e2) e d hd) H locs ls hW (lv_sub hl [3, 4, 1, 5, 0] rfl)
      exact L16 _ 0 su rfl (Nat.zero_le _) (hsl) (Nat.le_refl _) (hsh) (hss) (fun _ d h => absurd h (by omega)) H locs ls hW (lv_sub hl [2, 3, 4, 1, 0] rfl)
  exact L6 _ (2 ^ v) 0 rfl (pow_lt2' hv hn) (by decide) (by rw [pow_bit]; simp) (itP_sub0) (fun e => absurd e (by have := Nat.two_pow_pos v; omega)) H locs ls hW (lv_sub hl [2, 3, 1, 0] rfl)
