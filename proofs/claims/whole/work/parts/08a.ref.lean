/-! THE REFERENCE: words, small answers, addVariable, setWeights (laid by wip/whole/tools, from the specs there) -/
/-! THE REFERENCE: what its rows hold -/
def bf (f : Nat → Bool) : Nat → Int32 := fun v => bI (f v)
theorem bf_upd (f : Nat → Bool) (i : Nat) (b : Bool) : upd (bf f) i (bI b) = bf (upB f i b) := by
  funext j; unfold upd bf upB; split <;> rfl
def ckd (cs : Nat → CN) : Nat → Nat := fun c => (cs c).1
def cst (cs : Nat → CN) : Nat → Nat := fun c => (cs c).2.1
def cot (cs : Nat → CN) : Nat → Nat := fun c => (cs c).2.2.1
def cle (cs : Nat → CN) : Nat → Nat := fun c => (cs c).2.2.2.1
def cgr (cs : Nat → CN) : Nat → Nat := fun c => (cs c).2.2.2.2
def evA (n sd se : Nat) : Nat → Int32 := fun v => if v < n then evI sd se v else nI 0
def dpB (nc lv : Nat) : Nat → Bool := fun c => decide (c < nc) && !lv.testBit c
/-- the rows that are kept -/
def kpF (ad : Nat → Nat) : Nat → Option Nat := fun j => if j < 4 then some (ad (67 + j)) else none
def csI (nc : Nat) (cs : Nat → CN) : Prop := ∀ j, j < nc → okC (cs j) ∧ ((cs j).1 ≠ 111 → (cs j).2.2.1 = 0)
theorem btw_vB {v : Int32} {n : Nat} (hn : n < 2 ^ 31) : (decide (nI 0 ≤ v) && decide (v ≤ nI n - 1)) = vB v n := by
  unfold vB
  have h0 : (nI 0).toInt = 0 := nI_toInt (by decide)
  have h1 : (nI n - 1).toInt = (n : Int) - 1 := by
    rcases Nat.eq_zero_or_pos n with q | q
    · subst q; decide
    · rw [pI_pos q, nI_toInt (by omega)]; omega
  rw [← Bool.decide_and]
  apply decide_eq_decide.mpr
  rw [Int32.le_iff_toInt_le, Int32.le_iff_toInt_le, h0, h1]
  omega
theorem btw_k {v : Int32} {k : Nat} (hk : k + 1 < 2 ^ 31) : (decide (nI 0 ≤ v) && decide (v ≤ nI k)) = vB v (k + 1) := by
  have := btw_vB (v := v) (n := k + 1) hk
  rw [pI_pos (by omega), Nat.add_sub_cancel] at this
  exact this
theorem evA_add {n sd se : Nat} (h : sd < 2 ^ n) : upd (evA n sd se) n (-1) = evA (n + 1) sd se := by
  funext v
  unfold upd evA
  by_cases e : v = n
  · subst e
    rw [if_pos rfl, if_pos (by omega), evI, Nat.testBit_lt_two_pow h]; rfl
  · rw [if_neg e]
    by_cases q : v < n
    · rw [if_pos q, if_pos (by omega)]
    · rw [if_neg q, if_neg (by omega)]
theorem evI_set {sd se v x : Nat} {e : Int32} (he : ev3 e) : evI (evSd sd x e) (evSe se x e) v = if v = x then e else evI sd se v := by
  by_cases q : v = x
  · subst q
    rw [if_pos rfl]
    unfold evI evSd evSe
    rcases he with rfl | rfl | rfl
    · rw [if_pos rfl, nAnd_pow_v, if_neg (by decide)]
    · rw [if_neg (show ¬ (nI 0 = -1) by decide), Nat.testBit_or, pow_bit, if_neg (show ¬ (nI 0 = nI 1) by decide), nAnd_pow_v, decide_eq_true rfl, Bool.or_true]; rfl
    · rw [if_neg (show ¬ (nI 1 = -1) by decide), Nat.testBit_or, pow_bit, if_pos rfl, Nat.testBit_or, pow_bit, decide_eq_true rfl, Bool.or_true, Bool.or_true]; rfl
  · rw [if_neg q]
    have h1 : (evSd sd x e).testBit v = sd.testBit v := by
      unfold evSd; split
      · rw [nAnd_pow_bit, decide_eq_false (fun z => q z.symm)]; simp
      · rw [Nat.testBit_or, pow_bit, decide_eq_false (fun z => q z.symm), Bool.or_false]
    have h2 : (evSe se x e).testBit v = se.testBit v := by
      unfold evSe; split
      · rw [Nat.testBit_or, pow_bit, decide_eq_false (fun z => q z.symm), Bool.or_false]
      · rw [nAnd_pow_bit, decide_eq_false (fun z => q z.symm)]; simp
    unfold evI; rw [h1, h2]
theorem evA_set {n sd se x : Nat} {e : Int32} (he : ev3 e) (hx : x < n) : upd (evA n sd se) x e = evA n (evSd sd x e) (evSe se x e) := by
  funext v
  unfold upd evA
  rw [evI_set he]
  by_cases q : v = x
  · rw [if_pos q, if_pos (by omega), if_pos q]
  · rw [if_neg q, if_neg q]
theorem evA_at {n sd se v : Nat} (h : v < n) : evA n sd se v = evI sd se v := if_pos h
theorem dpB_at {nc lv c : Nat} (h : c < nc) : dpB nc lv c = !lv.testBit c := by unfold dpB; rw [decide_eq_true h]; rfl
theorem dpB_drop {nc lv j : Nat} (h : j < nc) : upB (dpB nc lv) j true = dpB nc (nAnd lv (2 ^ j)) := by
  funext c
  unfold upB dpB
  by_cases e : c = j
  · subst e; rw [if_pos rfl, nAnd_pow_v, decide_eq_true h]; rfl
  · rw [if_neg e, nAnd_pow_bit, decide_eq_false (show ¬ j = c from fun q => e q.symm)]; simp
theorem dpB_add {nc lv : Nat} : dpB (nc + 1) (lv ||| 2 ^ nc) = dpB nc lv := by
  funext c
  unfold dpB
  rw [Nat.testBit_or, pow_bit]
  by_cases e : c = nc
  · subst e; simp
  · rw [decide_eq_false (show ¬ nc = c from fun q => e q.symm), Bool.or_false]
    congr 1
    exact decide_eq_decide.mpr (by omega)
theorem ev_all {n sd se a : Nat} (hsd : sd < 2 ^ n) (hse : se &&& sd = se) : a &&& sd = se ↔ ∀ v, v < n → sd.testBit v = true → a.testBit v = se.testBit v := by
  constructor
  · intro h v _ hv
    have := congrArg (fun z => z.testBit v) h
    simp only [Nat.testBit_and, hv, Bool.and_true] at this
    exact this
  · intro h
    apply Nat.eq_of_testBit_eq
    intro v
    rw [← hse, Nat.testBit_and, Nat.testBit_and]
    cases hv : sd.testBit v
    · rw [Bool.and_false, Bool.and_false]
    · rcases Nat.lt_or_ge v n with q | q
      · rw [h v q hv]
      · rw [Nat.testBit_lt_two_pow (Nat.lt_of_lt_of_le hsd (Nat.pow_le_pow_right (by decide) q))] at hv; cases hv
theorem bI_b01 (b : Bool) : bI b = nI (b01 b) := by cases b <;> rfl
theorem bI_n1 {b : Bool} : bI b = nI 1 ↔ b = true := by cases b <;> decide
theorem bI_n0 {b : Bool} : bI b = nI 0 ↔ b = false := by cases b <;> decide
theorem b01_1 {b : Bool} : b01 b = 1 ↔ b = true := by cases b <;> decide
theorem or_0 {a b : Nat} : a ||| b = 0 ↔ a = 0 ∧ b = 0 := by
  constructor
  · intro h
    have hb : ∀ v, a.testBit v = false ∧ b.testBit v = false := fun v => by
      have := congrArg (fun z => z.testBit v) h
      simp only [Nat.testBit_or, Nat.zero_testBit] at this
      revert this; cases a.testBit v <;> cases b.testBit v <;> simp
    exact ⟨Nat.eq_of_testBit_eq (fun v => by rw [(hb v).1, Nat.zero_testBit]), Nat.eq_of_testBit_eq (fun v => by rw [(hb v).2, Nat.zero_testBit])⟩
  · rintro ⟨rfl, rfl⟩; rfl
theorem vp_narC {k : Nat} (h : k < 65536) : vp_nar .char (nI k) = nI k := by unfold vp_nar; rw [(pk_charN h).1]
/-- fails -/
theorem c_X12_fails (l : Launch) (D : va_G) (cy : Nat → ClassId) {w : va_W} (ad : Nat → Nat) (th n nc : Nat) (cd : Nat) (gO : w[55]? = some (ad 55, .inr (11, [.int (nI th), .ref (ad 56), .ref (ad 57), .ref (ad 58), .ref (ad 59), .ref (ad 60), .ref (ad 61), .ref (ad 62), .ref (ad 63), .ref (ad 64), .ref (ad 65), .int (nI n), .int (nI nc), .ref (ad 66), .ref (ad 71), .ref (ad 72), .ref (ad 73)]))) : jM l yX12_fails (jws yX12_fails cX12_fails 2 (some .int)) (jR 0 0 0) D cy w [.ref (ad 55), .int (nI cd)] 0 0 (fun vv uu => vv = some (.int (nI 0)) ∧ jU w uu [55] ∧ uu[55]? = some (ad 55, .inr (11, [.int (nI cd), .ref (ad 56), .ref (ad 57), .ref (ad 58), .ref (ad 59), .ref (ad 60), .ref (ad 61), .ref (ad 62), .ref (ad 63), .ref (ad 64), .ref (ad 65), .int (nI n), .int (nI nc), .ref (ad 66), .ref (ad 71), .ref (ad 72), .ref (ad 73)]))) := by
  refine j_of (by decide) rfl (Nat.le_of_ble_eq_true rfl) ?_
  intro p e s m args below meth c A ls Q hQ S hr hK hA H locs hW hl
  have hl : lv_has ls 2 [(0, .ref (ad 55)), (1, .int (nI cd))] := hl
  refine lv_aload_n S.1 S.2.1 dX12_fails_0 rfl (lv_at hl 0 rfl) ?_
  refine lv_iload_n S.1 S.2.1 dX12_fails_1 rfl (lv_at hl 1 rfl) ?_
  refine j_put (ci := 11) (C := RX12) (T := TX12) (N := 17) (ty := .int) S (fun w h => List.mem_cons_of_mem _ (inG12 w h)) tyX12 tyX12_ok nmX12 hK hW gO rfl 0 (by decide) (List.mem_cons_of_mem _ wfl_X12_1) (fun _ h9 => h9) rfl (by decide +kernel) (rfl) (rfl) (Nat.le_of_ble_eq_true rfl) dX12_fails_2 (fun H locs w_ hU1 hN1 hW => ?_)
  have hU : jU w w_ [55] := jU.mono hU1 (by decide)
  have gO_ : w_[55]? = some (ad 55, .inr (11, [.int (nI cd), .ref (ad 56), .ref (ad 57), .ref (ad 58), .ref (ad 59), .ref (ad 60), .ref (ad 61), .ref (ad 62), .ref (ad 63), .ref (ad 64), .ref (ad 65), .int (nI n), .int (nI nc), .ref (ad 66), .ref (ad 71), .ref (ad 72), .ref (ad 73)])) := hN1
  clear hU1 hN1
  refine lv_iconst (v := nI 0) S.1 S.2.1 dX12_fails_5 (by decide) ?_
  subst hQ
  exact j_iret (u := w_) S hr (rfl) hK hW dX12_fails_6 ⟨by decide, by decide⟩ (⟨rfl, hU, gO_⟩)
/-- thrown -/
theorem c_X12_thrown (l : Launch) (D : va_G) (cy : Nat → ClassId) {w : va_W} (ad : Nat → Nat) (th n nc : Nat) (gO : w[55]? = some (ad 55, .inr (11, [.int (nI th), .ref (ad 56), .ref (ad 57), .ref (ad 58), .ref (ad 59), .ref (ad 60), .ref (ad 61), .ref (ad 62), .ref (ad 63), .ref (ad 64), .ref (ad 65), .int (nI n), .int (nI nc), .ref (ad 66), .ref (ad 71), .ref (ad 72), .ref (ad 73)]))) : jM l yX12_thrown (jws yX12_thrown cX12_thrown 1 (some .int)) (jR 0 0 0) D cy w [.ref (ad 55)] 0 0 (fun vv uu => vv = some (.int (nI th)) ∧ w = uu) := by
  refine j_of (by decide) rfl (Nat.le_of_ble_eq_true rfl) ?_
  intro p e s m args below meth c A ls Q hQ S hr hK hA H locs hW hl
  have hl : lv_has ls 1 [(0, .ref (ad 55))] := hl
  refine lv_aload_n S.1 S.2.1 dX12_thrown_0 rfl (lv_at hl 0 rfl) ?_
  refine j_get (ci := 11) (C := RX12) (T := TX12) (N := 17) (v := .int (nI th)) S (fun w h => List.mem_cons_of_mem _ (inG12 w h)) hK hW gO rfl 0 (by decide) (List.mem_cons_of_mem _ wfl_X12_1) (fun _ h9 => h9) rfl dX12_thrown_1 ?_
  subst hQ
  exact j_iret (u := w) S hr (rfl) hK hW dX12_thrown_4 ⟨by decide, by decide⟩ (⟨rfl, rfl⟩)
/-- isBetween -/
theorem c_X12_isBetween (l : Launch) (D : va_G) (cy : Nat → ClassId) {w : va_W} (v lo hi : Int32) : jM l yX12_isBetween (jws yX12_isBetween cX12_isBetween 3 (some .boolean)) (jR 0 0 0) D cy w [.int v, .int lo, .int hi] 0 0 (fun vv uu => vv = some (.int (bI (decide (lo ≤ v) && decide (v ≤ hi)))) ∧ w = uu) := by
  refine j_of (by decide) rfl (Nat.le_of_ble_eq_true rfl) ?_
  intro p e s m args below meth c A ls Q hQ S hr hK hA H locs hW hl
  have hl : lv_has ls 3 [(0, .int v), (1, .int lo), (2, .int hi)] := hl
  refine lv_iload_n S.1 S.2.1 dX12_isBetween_0 rfl (lv_at hl 1 rfl) ?_
  refine lv_iload_n S.1 S.2.1 dX12_isBetween_1 rfl (lv_at hl 0 rfl) ?_
  refine lv_icmp_gt (tgt := 14) S.1 S.2.1 dX12_isBetween_2 (by decide) (fun c_2 => ?_) (fun c_2 => ?_)
  · refine lv_iconst (v := nI 0) S.1 S.2.1 dX12_isBetween_14 (by decide) ?_
    subst hQ
    exact j_iret (u := w) S hr (rfl) hK hW dX12_isBetween_15 ⟨by decide, by decide⟩ (⟨by first | exact bI_T (and_tt (decide_eq_true (i32_le.mpr c_2)) (decide_eq_true (i32_le.mpr c_7))) | exact bI_T (and_tt (decide_eq_true c_2) (decide_eq_true c_7)) | exact bI_F (and_f1 (decide_eq_false (fun q => i32_le.mp q c_2))) | exact bI_F (and_f2 (decide_eq_false (fun q => i32_le.mp q c_7))) , rfl⟩)
  · refine lv_iload_n S.1 S.2.1 dX12_isBetween_5 rfl (lv_at hl 0 rfl) ?_
    refine lv_iload_n S.1 S.2.1 dX12_isBetween_6 rfl (lv_at hl 2 rfl) ?_
    refine lv_icmp_gt (tgt := 14) S.1 S.2.1 dX12_isBetween_7 (by decide) (fun c_7 => ?_) (fun c_7 => ?_)
    · refine lv_iconst (v := nI 0) S.1 S.2.1 dX12_isBetween_14 (by decide) ?_
      subst hQ
      exact j_iret (u := w) S hr (rfl) hK hW dX12_isBetween_15 ⟨by decide, by decide⟩ (⟨by first | exact bI_T (and_tt (decide_eq_true (i32_le.mpr c_2)) (decide_eq_true (i32_le.mpr c_7))) | exact bI_T (and_tt (decide_eq_true c_2) (decide_eq_true c_7)) | exact bI_F (and_f1 (decide_eq_false (fun q => i32_le.mp q c_2))) | exact bI_F (and_f2 (decide_eq_false (fun q => i32_le.mp q c_7))) , rfl⟩)
    · refine lv_iconst (v := nI 1) S.1 S.2.1 dX12_isBetween_10 (by decide) ?_
      refine lv_goto (tgt := 15) S.1 S.2.1 dX12_isBetween_11 (by decide) ?_
      subst hQ
      exact j_iret (u := w) S hr (rfl) hK hW dX12_isBetween_15 ⟨by decide, by decide⟩ (⟨by first | exact bI_T (and_tt (decide_eq_true (i32_le.mpr c_2)) (decide_eq_true (i32_le.mpr c_7))) | exact bI_T (and_tt (decide_eq_true c_2) (decide_eq_true c_7)) | exact bI_F (and_f1 (decide_eq_false (fun q => i32_le.mp q c_2))) | exact bI_F (and_f2 (decide_eq_false (fun q => i32_le.mp q c_7))) , rfl⟩)
/-- has -/
theorem c_X12_has (l : Launch) (D : va_G) (cy : Nat → ClassId) {w : va_W} (x v : Nat) (hx : x < 2 ^ 31) (hv : v < 32) : jM l yX12_has (jws yX12_has cX12_has 2 (some .boolean)) (jR 0 0 0) D cy w [.int (nI x), .int (nI v)] 0 0 (fun vv uu => vv = some (.int (bI (x.testBit v))) ∧ w = uu) := by
  refine j_of (by decide) rfl (Nat.le_of_ble_eq_true rfl) ?_
  intro p e s m args below meth c A ls Q hQ S hr hK hA H locs hW hl
  have hl : lv_has ls 2 [(0, .int (nI x)), (1, .int (nI v))] := hl
  refine lv_iload_n S.1 S.2.1 dX12_has_0 rfl (lv_at hl 0 rfl) ?_
  refine lv_iload_n S.1 S.2.1 dX12_has_1 rfl (lv_at hl 1 rfl) ?_
  refine jn_shr S (by omega) (by omega) dX12_has_2 ?_
  refine lv_iconst (v := nI 1) S.1 S.2.1 dX12_has_3 (by decide) ?_
  refine jn_and S dX12_has_4 ?_
  refine lv_topi_to (y := nI (b01 (x.testBit v))) (by rw [nI_bit, bI_b01]) ?_
  refine lv_iconst (v := nI 1) S.1 S.2.1 dX12_has_5 (by decide) ?_
  have hb := b01_lt (x.testBit v)
  refine jn_cmp_ne (tgt := 13) S (by omega) (by omega) dX12_has_6 (by decide) (fun c_6 => ?_) (fun c_6 => ?_)
  · refine lv_iconst (v := nI 0) S.1 S.2.1 dX12_has_13 (by decide) ?_
    subst hQ
    exact j_iret (u := w) S hr (rfl) hK hW dX12_has_14 ⟨by decide, by decide⟩ (⟨by first | exact bI_T (b01_1.mp c_6) | exact bI_F (Bool.eq_false_iff.mpr (fun q => c_6 (b01_1.mpr q))), rfl⟩)
  · refine lv_iconst (v := nI 1) S.1 S.2.1 dX12_has_9 (by decide) ?_
    refine lv_goto (tgt := 14) S.1 S.2.1 dX12_has_10 (by decide) ?_
    subst hQ
    exact j_iret (u := w) S hr (rfl) hK hW dX12_has_14 ⟨by decide, by decide⟩ (⟨by first | exact bI_T (b01_1.mp c_6) | exact bI_F (Bool.eq_false_iff.mpr (fun q => c_6 (b01_1.mpr q))), rfl⟩)
/-- size -/
theorem c_X12_size (l : Launch) (D : va_G) (cy : Nat → ClassId) {w : va_W} (x : Nat) (hx : x < 1024) : jM l yX12_size (jws yX12_size cX12_size 3 (some .int)) (jR 1 0 0) D cy w [.int (nI x)] 0 0 (fun vv uu => vv = some (.int (nI (cnt x.testBit 10))) ∧ w = uu) := by
  refine j_of (by decide) rfl (Nat.le_of_ble_eq_true rfl) ?_
  intro p e s m args below meth c A ls Q hQ S hr hK hA H locs hW hl
  have hl : lv_has ls 3 [(0, .int (nI x))] := hl
  refine lv_iconst (v := nI 0) S.1 S.2.1 dX12_size_0 (by decide) ?_
  refine lv_istore_n (lv' := [(1, .int (nI 0)), (0, .int (nI x))]) S.1 S.2.1 dX12_size_1 rfl hl (by decide) rfl (fun ls hl => ?_)
  refine lv_iconst (v := nI 0) S.1 S.2.1 dX12_size_2 (by decide) ?_
  refine lv_istore_n (lv' := [(2, .int (nI 0)), (1, .int (nI 0)), (0, .int (nI x))]) S.1 S.2.1 dX12_size_3 rfl hl (by decide) rfl (fun ls hl => ?_)
  have L4 : ∀ (k : Nat) (v : Nat), 10 - v = k → (v ≤ 10) → ∀ (H : Heap) (locs : List Loc) (ls : Array Slot), jW D A s.heap w H locs → lv_has ls 3 [(0, .int (nI x)), (1, .int (nI (cnt x.testBit v))), (2, .int (nI v))] → W p l e (jR 1 0 0) s m args below meth c H locs 0 0 Q (F0 m 4 ls []) := by
    intro k
    induction k using Nat.strongRecOn with
    | ind k ih4 =>
    intro v hk hv H locs ls hW hl
    subst hk
    refine lv_iload_n S.1 S.2.1 dX12_size_4 rfl (lv_at hl 2 rfl) ?_
    refine lv_bipush (v := nI 10) S.1 S.2.1 dX12_size_5 (by decide) ?_
    refine jn_cmp_ge (tgt := 32) S (by omega) (by omega) dX12_size_7 (by decide) (fun c_7 => ?_) (fun c_7 => ?_)
    · refine lv_iload_n S.1 S.2.1 dX12_size_32 rfl (lv_at hl 1 rfl) ?_
      subst hQ
      refine j_iret (u := w) S hr (rfl) hK hW dX12_size_33 ⟨by decide, by decide⟩ ?_
      have ev : v = 10 := by omega
      subst ev
      exact ⟨rfl, rfl⟩
    · refine lv_iload_n S.1 S.2.1 dX12_size_10 rfl (lv_at hl 1 rfl) ?_
      refine lv_iload_n S.1 S.2.1 dX12_size_11 rfl (lv_at hl 0 rfl) ?_
      refine lv_iload_n S.1 S.2.1 dX12_size_12 rfl (lv_at hl 2 rfl) ?_
      refine j_callS (As := [.int (nI x), .int (nI v)]) (rest := [.int (nI (cnt x.testBit v))]) S hK hA hW (c_X12_has l D cy x v    (by omega) (by omega)) (jgo wm_X12_7) yk_X12_has ⟨⟨rfl, rfl⟩, by decide, by decide⟩ rfl hl.1 rfl (Nat.le_of_ble_eq_true rfl) dX12_size_13 ⟨Nat.le_of_ble_eq_true rfl, Nat.le_of_ble_eq_true rfl⟩ (fun v u H locs hp hW => ?_)
      obtain ⟨rfl, rfl⟩ := hp
      refine W.eq (g2 := F0 m 16 ls [.int (bI (x.testBit v)), .int (nI (cnt x.testBit v))]) rfl ?_
      refine jb_if_eq (tgt := 23) S dX12_size_16 (by decide) (fun c_16 => ?_) (fun c_16 => ?_)
      · refine lv_iconst (v := nI 0) S.1 S.2.1 dX12_size_23 (by decide) ?_
        refine jn_add S dX12_size_24 ?_
        refine lv_topi_to (y := nI (cnt x.testBit (v + 1))) (congrArg nI (by first | exact (cnt_s1 c_16).symm | exact (cnt_s0 c_16).symm)) ?_
        refine lv_istore_n (lv' := [(1, .int (nI (cnt x.testBit (v + 1)))), (0, .int (nI x)), (2, .int (nI v))]) S.1 S.2.1 dX12_size_25 rfl hl (by decide) rfl (fun ls hl => ?_)
        refine lv_iinc (v := nI (v + 1)) (lv' := [(2, .int (nI (v + 1))), (1, .int (nI (cnt x.testBit (v + 1)))), (0, .int (nI x))]) S.1 S.2.1 dX12_size_26 hl (k := 2) rfl (nI_add _ 1) (by decide) rfl (fun ls hl => ?_)
        refine lv_goto (tgt := 4) S.1 S.2.1 dX12_size_29 (by decide) ?_
        exact ih4 _ (by omega) (v + 1) rfl (by omega) H locs ls hW (lv_sub hl [2, 1, 0] rfl)
      · refine lv_iconst (v := nI 1) S.1 S.2.1 dX12_size_19 (by decide) ?_
        refine lv_goto (tgt := 24) S.1 S.2.1 dX12_size_20 (by decide) ?_
        refine jn_add S dX12_size_24 ?_
        refine lv_topi_to (y := nI (cnt x.testBit (v + 1))) (congrArg nI (by first | exact (cnt_s1 c_16).symm | exact (cnt_s0 c_16).symm)) ?_
        refine lv_istore_n (lv' := [(1, .int (nI (cnt x.testBit (v + 1)))), (0, .int (nI x)), (2, .int (nI v))]) S.1 S.2.1 dX12_size_25 rfl hl (by decide) rfl (fun ls hl => ?_)
        refine lv_iinc (v := nI (v + 1)) (lv' := [(2, .int (nI (v + 1))), (1, .int (nI (cnt x.testBit (v + 1)))), (0, .int (nI x))]) S.1 S.2.1 dX12_size_26 hl (k := 2) rfl (nI_add _ 1) (by decide) rfl (fun ls hl => ?_)
        refine lv_goto (tgt := 4) S.1 S.2.1 dX12_size_29 (by decide) ?_
        exact ih4 _ (by omega) (v + 1) rfl (by omega) H locs ls hW (lv_sub hl [2, 1, 0] rfl)
  exact L4 _ 0 rfl (by decide) H locs ls hW (lv_sub hl [2, 1, 0] rfl)
/-- isVariable -/
theorem c_X12_isVariable (l : Launch) (D : va_G) (cy : Nat → ClassId) {w : va_W} (ad : Nat → Nat) (th n nc : Nat) (v : Int32) (gO : w[55]? = some (ad 55, .inr (11, [.int (nI th), .ref (ad 56), .ref (ad 57), .ref (ad 58), .ref (ad 59), .ref (ad 60), .ref (ad 61), .ref (ad 62), .ref (ad 63), .ref (ad 64), .ref (ad 65), .int (nI n), .int (nI nc), .ref (ad 66), .ref (ad 71), .ref (ad 72), .ref (ad 73)]))) (hn : n ≤ 10) : jM l yX12_isVariable (jws yX12_isVariable cX12_isVariable 2 (some .boolean)) (jR 1 0 0) D cy w [.ref (ad 55), .int v] 0 0 (fun vv uu => vv = some (.int (bI (vB v n))) ∧ w = uu) := by
  refine j_of (by decide) rfl (Nat.le_of_ble_eq_true rfl) ?_
  intro p e s m args below meth c A ls Q hQ S hr hK hA H locs hW hl
  have hl : lv_has ls 2 [(0, .ref (ad 55)), (1, .int v)] := hl
  refine lv_iload_n S.1 S.2.1 dX12_isVariable_0 rfl (lv_at hl 1 rfl) ?_
  refine lv_iconst (v := nI 0) S.1 S.2.1 dX12_isVariable_1 (by decide) ?_
  refine lv_aload_n S.1 S.2.1 dX12_isVariable_2 rfl (lv_at hl 0 rfl) ?_
  refine j_get (ci := 11) (C := RX12) (T := TX12) (N := 17) (v := .int (nI n)) S (fun w h => List.mem_cons_of_mem _ (inG12 w h)) hK hW gO rfl 11 (by decide) (List.mem_cons_of_mem _ wfl_X12_64) (fun _ h9 => h9) rfl dX12_isVariable_3 ?_
  refine lv_iconst (v := nI 1) S.1 S.2.1 dX12_isVariable_6 (by decide) ?_
  refine lv_isub S.1 S.2.1 dX12_isVariable_7 ?_
  refine lv_topi_to (y := nI n - 1) (rfl) ?_
  refine j_callS (As := [.int v, .int (nI 0), .int (nI n - 1)]) (rest := []) S hK hA hW (c_X12_isBetween l D cy v (nI 0) (nI n - 1)    ) (jgo wm_X12_67) yk_X12_isBetween ⟨⟨rfl, rfl⟩, by decide, by decide⟩ rfl hl.1 rfl (Nat.le_of_ble_eq_true rfl) dX12_isVariable_8 ⟨Nat.le_of_ble_eq_true rfl, Nat.le_of_ble_eq_true rfl⟩ (fun v u H locs hp hW => ?_)
  obtain ⟨rfl, rfl⟩ := hp
  refine W.eq (g2 := F0 m 11 ls [.int (bI (decide ((nI 0) ≤ v) && decide (v ≤ (nI n - 1))))]) rfl ?_
  refine lv_topi_to (y := bI (vB v n)) (by rw [btw_vB (by omega)]) ?_
  subst hQ
  exact j_iret (u := w) S hr (bI_nar _) hK hW dX12_isVariable_11 ⟨by decide, by decide⟩ (⟨rfl, rfl⟩)
/-- isConstraint -/
theorem c_X12_isConstraint (l : Launch) (D : va_G) (cy : Nat → ClassId) {w : va_W} (ad : Nat → Nat) (th n nc : Nat) (v : Int32) (gO : w[55]? = some (ad 55, .inr (11, [.int (nI th), .ref (ad 56), .ref (ad 57), .ref (ad 58), .ref (ad 59), .ref (ad 60), .ref (ad 61), .ref (ad 62), .ref (ad 63), .ref (ad 64), .ref (ad 65), .int (nI n), .int (nI nc), .ref (ad 66), .ref (ad 71), .ref (ad 72), .ref (ad 73)]))) (hnc : nc ≤ 20) : jM l yX12_isConstraint (jws yX12_isConstraint cX12_isConstraint 2 (some .boolean)) (jR 1 0 0) D cy w [.ref (ad 55), .int v] 0 0 (fun vv uu => vv = some (.int (bI (vB v nc))) ∧ w = uu) := by
  refine j_of (by decide) rfl (Nat.le_of_ble_eq_true rfl) ?_
  intro p e s m args below meth c A ls Q hQ S hr hK hA H locs hW hl
  have hl : lv_has ls 2 [(0, .ref (ad 55)), (1, .int v)] := hl
  refine lv_iload_n S.1 S.2.1 dX12_isConstraint_0 rfl (lv_at hl 1 rfl) ?_
  refine lv_iconst (v := nI 0) S.1 S.2.1 dX12_isConstraint_1 (by decide) ?_
  refine lv_aload_n S.1 S.2.1 dX12_isConstraint_2 rfl (lv_at hl 0 rfl) ?_
  refine j_get (ci := 11) (C := RX12) (T := TX12) (N := 17) (v := .int (nI nc)) S (fun w h => List.mem_cons_of_mem _ (inG12 w h)) hK hW gO rfl 12 (by decide) (List.mem_cons_of_mem _ wfl_X12_79) (fun _ h9 => h9) rfl dX12_isConstraint_3 ?_
  refine lv_iconst (v := nI 1) S.1 S.2.1 dX12_isConstraint_6 (by decide) ?_
  refine lv_isub S.1 S.2.1 dX12_isConstraint_7 ?_
  refine lv_topi_to (y := nI nc - 1) (rfl) ?_
  refine j_callS (As := [.int v, .int (nI 0), .int (nI nc - 1)]) (rest := []) S hK hA hW (c_X12_isBetween l D cy v (nI 0) (nI nc - 1)    ) (jgo wm_X12_67) yk_X12_isBetween ⟨⟨rfl, rfl⟩, by decide, by decide⟩ rfl hl.1 rfl (Nat.le_of_ble_eq_true rfl) dX12_isConstraint_8 ⟨Nat.le_of_ble_eq_true rfl, Nat.le_of_ble_eq_true rfl⟩ (fun v u H locs hp hW => ?_)
  obtain ⟨rfl, rfl⟩ := hp
  refine W.eq (g2 := F0 m 11 ls [.int (bI (decide ((nI 0) ≤ v) && decide (v ≤ (nI nc - 1))))]) rfl ?_
  refine lv_topi_to (y := bI (vB v nc)) (by rw [btw_vB (by omega)]) ?_
  subst hQ
  exact j_iret (u := w) S hr (bI_nar _) hK hW dX12_isConstraint_11 ⟨by decide, by decide⟩ (⟨rfl, rfl⟩)
/-- isSet -/
theorem c_X12_isSet (l : Launch) (D : va_G) (cy : Nat → ClassId) {w : va_W} (ad : Nat → Nat) (th n nc : Nat) (v : Int32) (gO : w[55]? = some (ad 55, .inr (11, [.int (nI th), .ref (ad 56), .ref (ad 57), .ref (ad 58), .ref (ad 59), .ref (ad 60), .ref (ad 61), .ref (ad 62), .ref (ad 63), .ref (ad 64), .ref (ad 65), .int (nI n), .int (nI nc), .ref (ad 66), .ref (ad 71), .ref (ad 72), .ref (ad 73)]))) (hn : n ≤ 10) : jM l yX12_isSet (jws yX12_isSet cX12_isSet 2 (some .boolean)) (jR 0 0 0) D cy w [.ref (ad 55), .int v] 0 0 (fun vv uu => vv = some (.int (bI (vB v (2 ^ n)))) ∧ w = uu) := by
  have hp2 := two_pow10 hn
  refine j_of (by decide) rfl (Nat.le_of_ble_eq_true rfl) ?_
  intro p e s m args below meth c A ls Q hQ S hr hK hA H locs hW hl
  have hl : lv_has ls 2 [(0, .ref (ad 55)), (1, .int v)] := hl
  refine lv_iload_n S.1 S.2.1 dX12_isSet_0 rfl (lv_at hl 1 rfl) ?_
  refine lv_if_lt (tgt := 18) S.1 S.2.1 dX12_isSet_1 (by decide) (fun c_1 => ?_) (fun c_1 => ?_)
  · refine lv_iconst (v := nI 0) S.1 S.2.1 dX12_isSet_18 (by decide) ?_
    subst hQ
    exact j_iret (u := w) S hr (rfl) hK hW dX12_isSet_19 ⟨by decide, by decide⟩ (⟨by first | exact bI_T (vB_in c_1 (Classical.not_not.mp (fun q => c_11 (i32_le.mpr q))) (by omega)) | exact bI_F (vB_neg c_1) | exact bI_F (vB_ge (i32_le.mp c_11) (by omega)), rfl⟩)
  · refine lv_iload_n S.1 S.2.1 dX12_isSet_4 rfl (lv_at hl 1 rfl) ?_
    refine lv_iconst (v := nI 1) S.1 S.2.1 dX12_isSet_5 (by decide) ?_
    refine lv_aload_n S.1 S.2.1 dX12_isSet_6 rfl (lv_at hl 0 rfl) ?_
    refine j_get (ci := 11) (C := RX12) (T := TX12) (N := 17) (v := .int (nI n)) S (fun w h => List.mem_cons_of_mem _ (inG12 w h)) hK hW gO rfl 11 (by decide) (List.mem_cons_of_mem _ wfl_X12_64) (fun _ h9 => h9) rfl dX12_isSet_7 ?_
    refine jn_shl1 S (by omega) dX12_isSet_10 ?_
    refine lv_icmp_ge (tgt := 18) S.1 S.2.1 dX12_isSet_11 (by decide) (fun c_11 => ?_) (fun c_11 => ?_)
    · refine lv_iconst (v := nI 0) S.1 S.2.1 dX12_isSet_18 (by decide) ?_
      subst hQ
      exact j_iret (u := w) S hr (rfl) hK hW dX12_isSet_19 ⟨by decide, by decide⟩ (⟨by first | exact bI_T (vB_in c_1 (Classical.not_not.mp (fun q => c_11 (i32_le.mpr q))) (by omega)) | exact bI_F (vB_neg c_1) | exact bI_F (vB_ge (i32_le.mp c_11) (by omega)), rfl⟩)
    · refine lv_iconst (v := nI 1) S.1 S.2.1 dX12_isSet_14 (by decide) ?_
      refine lv_goto (tgt := 19) S.1 S.2.1 dX12_isSet_15 (by decide) ?_
      subst hQ
      exact j_iret (u := w) S hr (rfl) hK hW dX12_isSet_19 ⟨by decide, by decide⟩ (⟨by first | exact bI_T (vB_in c_1 (Classical.not_not.mp (fun q => c_11 (i32_le.mpr q))) (by omega)) | exact bI_F (vB_neg c_1) | exact bI_F (vB_ge (i32_le.mp c_11) (by omega)), rfl⟩)
/-- all -/
theorem c_X12_all (l : Launch) (D : va_G) (cy : Nat → ClassId) {w : va_W} (ad : Nat → Nat) (th n nc : Nat) (gO : w[55]? = some (ad 55, .inr (11, [.int (nI th), .ref (ad 56), .ref (ad 57), .ref (ad 58), .ref (ad 59), .ref (ad 60), .ref (ad 61), .ref (ad 62), .ref (ad 63), .ref (ad 64), .ref (ad 65), .int (nI n), .int (nI nc), .ref (ad 66), .ref (ad 71), .ref (ad 72), .ref (ad 73)]))) (hn : n ≤ 10) : jM l yX12_all (jws yX12_all cX12_all 1 (some .int)) (jR 0 0 0) D cy w [.ref (ad 55)] 0 0 (fun vv uu => vv = some (.int (nI (2 ^ n))) ∧ w = uu) := by
  refine j_of (by decide) rfl (Nat.le_of_ble_eq_true rfl) ?_
  intro p e s m args below meth c A ls Q hQ S hr hK hA H locs hW hl
  have hl : lv_has ls 1 [(0, .ref (ad 55))] := hl
  refine lv_iconst (v := nI 1) S.1 S.2.1 dX12_all_0 (by decide) ?_
  refine lv_aload_n S.1 S.2.1 dX12_all_1 rfl (lv_at hl 0 rfl) ?_
  refine j_get (ci := 11) (C := RX12) (T := TX12) (N := 17) (v := .int (nI n)) S (fun w h => List.mem_cons_of_mem _ (inG12 w h)) hK hW gO rfl 11 (by decide) (List.mem_cons_of_mem _ wfl_X12_64) (fun _ h9 => h9) rfl dX12_all_2 ?_
  refine jn_shl1 S (by omega) dX12_all_5 ?_
  subst hQ
  exact j_iret (u := w) S hr (rfl) hK hW dX12_all_6 ⟨by decide, by decide⟩ (⟨rfl, rfl⟩)
/-- assignmentAt -/
theorem c_X12_assignmentAt (l : Launch) (D : va_G) (cy : Nat → ClassId) {w : va_W} (pp wi : Nat) (hw : wi ≤ 10) (hp : pp < 1024) : jM l yX12_assignmentAt (jws yX12_assignmentAt cX12_assignmentAt 4 (some .int)) (jR 0 0 0) D cy w [.int (nI pp), .int (nI wi)] 0 0 (fun vv uu => vv = some (.int (nI (revN wi pp))) ∧ w = uu) := by
  refine j_of (by decide) rfl (Nat.le_of_ble_eq_true rfl) ?_
  intro p e s m args below meth c A ls Q hQ S hr hK hA H locs hW hl
  have hl : lv_has ls 4 [(0, .int (nI pp)), (1, .int (nI wi))] := hl
  refine lv_iconst (v := nI 0) S.1 S.2.1 dX12_assignmentAt_0 (by decide) ?_
  refine lv_istore_n (lv' := [(2, .int (nI 0)), (0, .int (nI pp)), (1, .int (nI wi))]) S.1 S.2.1 dX12_assignmentAt_1 rfl hl (by decide) rfl (fun ls hl => ?_)
  refine lv_iconst (v := nI 0) S.1 S.2.1 dX12_assignmentAt_2 (by decide) ?_
  refine lv_istore_n (lv' := [(3, .int (nI 0)), (2, .int (nI 0)), (0, .int (nI pp)), (1, .int (nI wi))]) S.1 S.2.1 dX12_assignmentAt_3 rfl hl (by decide) rfl (fun ls hl => ?_)
  have L4 : ∀ (k : Nat) (v : Nat), wi - v = k → (v ≤ wi) → ∀ (H : Heap) (locs : List Loc) (ls : Array Slot), jW D A s.heap w H locs → lv_has ls 4 [(0, .int (nI pp)), (1, .int (nI wi)), (2, .int (nI (bsum (fun v => pp.testBit (wi - 1 - v)) v))), (3, .int (nI v))] → W p l e (jR 0 0 0) s m args below meth c H locs 0 0 Q (F0 m 4 ls []) := by
    intro k
    induction k using Nat.strongRecOn with
    | ind k ih4 =>
    intro v hk hv H locs ls hW hl
    subst hk
    refine lv_iload_n S.1 S.2.1 dX12_assignmentAt_4 rfl (lv_at hl 3 rfl) ?_
    refine lv_iload_n S.1 S.2.1 dX12_assignmentAt_5 rfl (lv_at hl 1 rfl) ?_
    refine jn_cmp_ge (tgt := 29) S (by omega) (by omega) dX12_assignmentAt_6 (by decide) (fun c_6 => ?_) (fun c_6 => ?_)
    · refine lv_iload_n S.1 S.2.1 dX12_assignmentAt_29 rfl (lv_at hl 2 rfl) ?_
      subst hQ
      refine j_iret (u := w) S hr (rfl) hK hW dX12_assignmentAt_30 ⟨by decide, by decide⟩ ?_
      have ev : v = wi := by omega
      subst ev
      exact ⟨rfl, rfl⟩
    · refine lv_iload_n S.1 S.2.1 dX12_assignmentAt_9 rfl (lv_at hl 2 rfl) ?_
      refine lv_iload_n S.1 S.2.1 dX12_assignmentAt_10 rfl (lv_at hl 0 rfl) ?_
      refine lv_iload_n S.1 S.2.1 dX12_assignmentAt_11 rfl (lv_at hl 1 rfl) ?_
      refine lv_iconst (v := nI 1) S.1 S.2.1 dX12_assignmentAt_12 (by decide) ?_
      refine jn_sub S (by omega) dX12_assignmentAt_13 ?_
      refine lv_iload_n S.1 S.2.1 dX12_assignmentAt_14 rfl (lv_at hl 3 rfl) ?_
      refine jn_sub S (by omega) dX12_assignmentAt_15 ?_
      refine jn_shr S (by omega) (by omega) dX12_assignmentAt_16 ?_
      refine lv_iconst (v := nI 1) S.1 S.2.1 dX12_assignmentAt_17 (by decide) ?_
      refine jn_and S dX12_assignmentAt_18 ?_
      refine lv_iload_n S.1 S.2.1 dX12_assignmentAt_19 rfl (lv_at hl 3 rfl) ?_
      refine jn_shl S (by omega) dX12_assignmentAt_20 ?_
      refine jn_or S dX12_assignmentAt_21 ?_
      refine lv_topi_to (y := nI (bsum (fun v => pp.testBit (wi - 1 - v)) (v + 1))) (congrArg nI (by rw [shr_and1]; simp only [bsum]; split; rw [Nat.one_shiftLeft, bsum_or]; rw [Nat.zero_shiftLeft, Nat.or_zero, Nat.add_zero])) ?_
      refine lv_istore_n (lv' := [(2, .int (nI (bsum (fun v => pp.testBit (wi - 1 - v)) (v + 1)))), (0, .int (nI pp)), (1, .int (nI wi)), (3, .int (nI v))]) S.1 S.2.1 dX12_assignmentAt_22 rfl hl (by decide) rfl (fun ls hl => ?_)
      refine lv_iinc (v := nI (v + 1)) (lv' := [(3, .int (nI (v + 1))), (2, .int (nI (bsum (fun v => pp.testBit (wi - 1 - v)) (v + 1)))), (0, .int (nI pp)), (1, .int (nI wi))]) S.1 S.2.1 dX12_assignmentAt_23 hl (k := 3) rfl (nI_add _ 1) (by decide) rfl (fun ls hl => ?_)
      refine lv_goto (tgt := 4) S.1 S.2.1 dX12_assignmentAt_26 (by decide) ?_
      exact ih4 _ (by omega) (v + 1) rfl (by omega) H locs ls hW (lv_sub hl [2, 3, 1, 0] rfl)
  exact L4 _ 0 rfl (Nat.zero_le _) H locs ls hW (lv_sub hl [2, 3, 1, 0] rfl)
/-- addVariable -/
theorem c_X12_addVariable_ok (l : Launch) (D : va_G) (cy : Nat → ClassId) {w : va_W} (ad : Nat → Nat) (th n nc : Nat) (sd se : Nat) (wf wt od : Nat → Nat) (gO : w[55]? = some (ad 55, .inr (11, [.int (nI th), .ref (ad 56), .ref (ad 57), .ref (ad 58), .ref (ad 59), .ref (ad 60), .ref (ad 61), .ref (ad 62), .ref (ad 63), .ref (ad 64), .ref (ad 65), .int (nI n), .int (nI nc), .ref (ad 66), .ref (ad 71), .ref (ad 72), .ref (ad 73)]))) (gF : w[56]? = some (ad 56, .inl (cy 0, 10, .inl (nf wf)))) (gT : w[57]? = some (ad 57, .inl (cy 0, 10, .inl (nf wt)))) (gE : w[58]? = some (ad 58, .inl (cy 0, 10, .inl (evA n sd se)))) (gD : w[59]? = some (ad 59, .inl (cy 0, 10, .inl (nf od)))) (hn : n < 10) (hsd : sd < 2 ^ n) : jM l yX12_addVariable (jws yX12_addVariable cX12_addVariable 1 (some .int)) (jR 1 0 0) D cy w [.ref (ad 55)] 0 0 (fun vv uu => vv = some (.int (nI n)) ∧ jU w uu [55, 56, 57, 58, 59] ∧ uu[55]? = some (ad 55, .inr (11, [.int (nI 0), .ref (ad 56), .ref (ad 57), .ref (ad 58), .ref (ad 59), .ref (ad 60), .ref (ad 61), .ref (ad 62), .ref (ad 63), .ref (ad 64), .ref (ad 65), .int (nI (n + 1)), .int (nI nc), .ref (ad 66), .ref (ad 71), .ref (ad 72), .ref (ad 73)])) ∧ uu[56]? = some (ad 56, .inl (cy 0, 10, .inl (nf (upB wf n 1)))) ∧ uu[57]? = some (ad 57, .inl (cy 0, 10, .inl (nf (upB wt n 1)))) ∧ uu[58]? = some (ad 58, .inl (cy 0, 10, .inl (evA (n + 1) sd se))) ∧ uu[59]? = some (ad 59, .inl (cy 0, 10, .inl (nf (upB od n n))))) := by
  refine j_of (by decide) rfl (Nat.le_of_ble_eq_true rfl) ?_
  intro p e s m args below meth c A ls Q hQ S hr hK hA H locs hW hl
  have hl : lv_has ls 1 [(0, .ref (ad 55))] := hl
  refine lv_aload_n S.1 S.2.1 dX12_addVariable_0 rfl (lv_at hl 0 rfl) ?_
  refine lv_iconst (v := nI 0) S.1 S.2.1 dX12_addVariable_1 (by decide) ?_
  refine j_put (ci := 11) (C := RX12) (T := TX12) (N := 17) (ty := .int) S (fun w h => List.mem_cons_of_mem _ (inG12 w h)) tyX12 tyX12_ok nmX12 hK hW gO rfl 0 (by decide) (List.mem_cons_of_mem _ wfl_X12_1) (fun _ h9 => h9) rfl (by decide +kernel) (rfl) (rfl) (Nat.le_of_ble_eq_true rfl) dX12_addVariable_2 (fun H locs w_ hU1 hN1 hW => ?_)
  have hU : jU w w_ [55, 56, 57, 58, 59] := jU.mono hU1 (by decide)
  have gF_ := hU1.get gF (by decide)
  have gT_ := hU1.get gT (by decide)
  have gE_ := hU1.get gE (by decide)
  have gD_ := hU1.get gD (by decide)
  have gO_ : w_[55]? = some (ad 55, .inr (11, [.int (nI 0), .ref (ad 56), .ref (ad 57), .ref (ad 58), .ref (ad 59), .ref (ad 60), .ref (ad 61), .ref (ad 62), .ref (ad 63), .ref (ad 64), .ref (ad 65), .int (nI n), .int (nI nc), .ref (ad 66), .ref (ad 71), .ref (ad 72), .ref (ad 73)])) := hN1
  clear hU1 hN1
  refine lv_aload_n S.1 S.2.1 dX12_addVariable_5 rfl (lv_at hl 0 rfl) ?_
  refine j_get (ci := 11) (C := RX12) (T := TX12) (N := 17) (v := .int (nI n)) S (fun w h => List.mem_cons_of_mem _ (inG12 w h)) hK hW gO_ rfl 11 (by decide) (List.mem_cons_of_mem _ wfl_X12_64) (fun _ h9 => h9) rfl dX12_addVariable_6 ?_
  refine lv_bipush (v := nI 10) S.1 S.2.1 dX12_addVariable_9 (by decide) ?_
  refine jn_cmp_ne (tgt := 20) S (by omega) (by omega) dX12_addVariable_11 (by decide) (fun c_11 => ?_) (fun c_11 => ?_)
  · refine lv_aload_n S.1 S.2.1 dX12_addVariable_20 rfl (lv_at hl 0 rfl) ?_
    refine j_get (ci := 11) (C := RX12) (T := TX12) (N := 17) (v := .ref (ad 56)) S (fun w h => List.mem_cons_of_mem _ (inG12 w h)) hK hW gO_ rfl 1 (by decide) (List.mem_cons_of_mem _ wfl_X12_17) (fun _ h9 => h9) rfl dX12_addVariable_21 ?_
    refine lv_aload_n S.1 S.2.1 dX12_addVariable_24 rfl (lv_at hl 0 rfl) ?_
    refine j_get (ci := 11) (C := RX12) (T := TX12) (N := 17) (v := .int (nI n)) S (fun w h => List.mem_cons_of_mem _ (inG12 w h)) hK hW gO_ rfl 11 (by decide) (List.mem_cons_of_mem _ wfl_X12_64) (fun _ h9 => h9) rfl dX12_addVariable_25 ?_
    refine lv_iconst (v := nI 1) S.1 S.2.1 dX12_addVariable_28 (by decide) ?_
    refine j_iast S hK hW gF_ (vp_in_nI (by omega) (by omega)) (nI_clamp (by omega)) dX12_addVariable_29 (fun H locs w_ hU1 hN1 hW => ?_)
    have hU := hU.then hU1 (by decide)
    have gT_ := hU1.get gT_ (by decide)
    have gE_ := hU1.get gE_ (by decide)
    have gD_ := hU1.get gD_ (by decide)
    have gO_ := hU1.get gO_ (by decide)
    have gF_ : w_[56]? = some (ad 56, .inl (cy 0, 10, .inl (upd (nf wf) n (nI 1)))) := hN1
    clear hU1 hN1
    refine lv_aload_n S.1 S.2.1 dX12_addVariable_30 rfl (lv_at hl 0 rfl) ?_
    refine j_get (ci := 11) (C := RX12) (T := TX12) (N := 17) (v := .ref (ad 57)) S (fun w h => List.mem_cons_of_mem _ (inG12 w h)) hK hW gO_ rfl 2 (by decide) (List.mem_cons_of_mem _ wfl_X12_21) (fun _ h9 => h9) rfl dX12_addVariable_31 ?_
    refine lv_aload_n S.1 S.2.1 dX12_addVariable_34 rfl (lv_at hl 0 rfl) ?_
    refine j_get (ci := 11) (C := RX12) (T := TX12) (N := 17) (v := .int (nI n)) S (fun w h => List.mem_cons_of_mem _ (inG12 w h)) hK hW gO_ rfl 11 (by decide) (List.mem_cons_of_mem _ wfl_X12_64) (fun _ h9 => h9) rfl dX12_addVariable_35 ?_
    refine lv_iconst (v := nI 1) S.1 S.2.1 dX12_addVariable_38 (by decide) ?_
    refine j_iast S hK hW gT_ (vp_in_nI (by omega) (by omega)) (nI_clamp (by omega)) dX12_addVariable_39 (fun H locs w_ hU1 hN1 hW => ?_)
    have hU := hU.then hU1 (by decide)
    have gF_ := hU1.get gF_ (by decide)
    have gE_ := hU1.get gE_ (by decide)
    have gD_ := hU1.get gD_ (by decide)
    have gO_ := hU1.get gO_ (by decide)
    have gT_ : w_[57]? = some (ad 57, .inl (cy 0, 10, .inl (upd (nf wt) n (nI 1)))) := hN1
    clear hU1 hN1
    refine lv_aload_n S.1 S.2.1 dX12_addVariable_40 rfl (lv_at hl 0 rfl) ?_
    refine j_get (ci := 11) (C := RX12) (T := TX12) (N := 17) (v := .ref (ad 58)) S (fun w h => List.mem_cons_of_mem _ (inG12 w h)) hK hW gO_ rfl 3 (by decide) (List.mem_cons_of_mem _ wfl_X12_24) (fun _ h9 => h9) rfl dX12_addVariable_41 ?_
    refine lv_aload_n S.1 S.2.1 dX12_addVariable_44 rfl (lv_at hl 0 rfl) ?_
    refine j_get (ci := 11) (C := RX12) (T := TX12) (N := 17) (v := .int (nI n)) S (fun w h => List.mem_cons_of_mem _ (inG12 w h)) hK hW gO_ rfl 11 (by decide) (List.mem_cons_of_mem _ wfl_X12_64) (fun _ h9 => h9) rfl dX12_addVariable_45 ?_
    refine lv_iconst (v := (-1)) S.1 S.2.1 dX12_addVariable_48 (by decide) ?_
    refine j_iast S hK hW gE_ (vp_in_nI (by omega) (by omega)) (nI_clamp (by omega)) dX12_addVariable_49 (fun H locs w_ hU1 hN1 hW => ?_)
    have hU := hU.then hU1 (by decide)
    have gF_ := hU1.get gF_ (by decide)
    have gT_ := hU1.get gT_ (by decide)
    have gD_ := hU1.get gD_ (by decide)
    have gO_ := hU1.get gO_ (by decide)
    have gE_ : w_[58]? = some (ad 58, .inl (cy 0, 10, .inl (upd (evA n sd se) n (-1)))) := hN1
    clear hU1 hN1
    refine lv_aload_n S.1 S.2.1 dX12_addVariable_50 rfl (lv_at hl 0 rfl) ?_
    refine j_get (ci := 11) (C := RX12) (T := TX12) (N := 17) (v := .ref (ad 59)) S (fun w h => List.mem_cons_of_mem _ (inG12 w h)) hK hW gO_ rfl 4 (by decide) (List.mem_cons_of_mem _ wfl_X12_27) (fun _ h9 => h9) rfl dX12_addVariable_51 ?_
    refine lv_aload_n S.1 S.2.1 dX12_addVariable_54 rfl (lv_at hl 0 rfl) ?_
    refine j_get (ci := 11) (C := RX12) (T := TX12) (N := 17) (v := .int (nI n)) S (fun w h => List.mem_cons_of_mem _ (inG12 w h)) hK hW gO_ rfl 11 (by decide) (List.mem_cons_of_mem _ wfl_X12_64) (fun _ h9 => h9) rfl dX12_addVariable_55 ?_
    refine lv_aload_n S.1 S.2.1 dX12_addVariable_58 rfl (lv_at hl 0 rfl) ?_
    refine j_get (ci := 11) (C := RX12) (T := TX12) (N := 17) (v := .int (nI n)) S (fun w h => List.mem_cons_of_mem _ (inG12 w h)) hK hW gO_ rfl 11 (by decide) (List.mem_cons_of_mem _ wfl_X12_64) (fun _ h9 => h9) rfl dX12_addVariable_59 ?_
    refine j_iast S hK hW gD_ (vp_in_nI (by omega) (by omega)) (nI_clamp (by omega)) dX12_addVariable_62 (fun H locs w_ hU1 hN1 hW => ?_)
    have hU := hU.then hU1 (by decide)
    have gF_ := hU1.get gF_ (by decide)
    have gT_ := hU1.get gT_ (by decide)
    have gE_ := hU1.get gE_ (by decide)
    have gO_ := hU1.get gO_ (by decide)
    have gD_ : w_[59]? = some (ad 59, .inl (cy 0, 10, .inl (upd (nf od) n (nI n)))) := hN1
    clear hU1 hN1
    refine lv_aload_n S.1 S.2.1 dX12_addVariable_63 rfl (lv_at hl 0 rfl) ?_
    refine lv_dup S.1 S.2.1 dX12_addVariable_64 rfl ?_
    refine j_get (ci := 11) (C := RX12) (T := TX12) (N := 17) (v := .int (nI n)) S (fun w h => List.mem_cons_of_mem _ (inG12 w h)) hK hW gO_ rfl 11 (by decide) (List.mem_cons_of_mem _ wfl_X12_64) (fun _ h9 => h9) rfl dX12_addVariable_65 ?_
    refine lv_iconst (v := nI 1) S.1 S.2.1 dX12_addVariable_68 (by decide) ?_
    refine jn_add S dX12_addVariable_69 ?_
    refine j_put (ci := 11) (C := RX12) (T := TX12) (N := 17) (ty := .int) S (fun w h => List.mem_cons_of_mem _ (inG12 w h)) tyX12 tyX12_ok nmX12 hK hW gO_ rfl 11 (by decide) (List.mem_cons_of_mem _ wfl_X12_64) (fun _ h9 => h9) rfl (by decide +kernel) (rfl) (rfl) (Nat.le_of_ble_eq_true rfl) dX12_addVariable_70 (fun H locs w_ hU1 hN1 hW => ?_)
    have hU := hU.then hU1 (by decide)
    have gF_ := hU1.get gF_ (by decide)
    have gT_ := hU1.get gT_ (by decide)
    have gE_ := hU1.get gE_ (by decide)
    have gD_ := hU1.get gD_ (by decide)
    have gO_ : w_[55]? = some (ad 55, .inr (11, [.int (nI 0), .ref (ad 56), .ref (ad 57), .ref (ad 58), .ref (ad 59), .ref (ad 60), .ref (ad 61), .ref (ad 62), .ref (ad 63), .ref (ad 64), .ref (ad 65), .int (nI (n + 1)), .int (nI nc), .ref (ad 66), .ref (ad 71), .ref (ad 72), .ref (ad 73)])) := hN1
    clear hU1 hN1
    refine lv_aload_n S.1 S.2.1 dX12_addVariable_73 rfl (lv_at hl 0 rfl) ?_
    refine j_get (ci := 11) (C := RX12) (T := TX12) (N := 17) (v := .int (nI (n + 1))) S (fun w h => List.mem_cons_of_mem _ (inG12 w h)) hK hW gO_ rfl 11 (by decide) (List.mem_cons_of_mem _ wfl_X12_64) (fun _ h9 => h9) rfl dX12_addVariable_74 ?_
    refine lv_iconst (v := nI 1) S.1 S.2.1 dX12_addVariable_77 (by decide) ?_
    refine jn_sub S (by omega) dX12_addVariable_78 ?_
    subst hQ
    exact j_iret (u := w_) S hr (rfl) hK hW dX12_addVariable_79 ⟨by decide, by decide⟩ (⟨rfl, hU, gO_, by rw [← nf_upd]; exact gF_, by rw [← nf_upd]; exact gT_, by rw [← evA_add hsd]; exact gE_, by rw [← nf_upd]; exact gD_⟩)
  · exact absurd c_11 (by omega)
/-- addVariable, full -/
theorem c_X12_addVariable_b (l : Launch) (D : va_G) (cy : Nat → ClassId) {w : va_W} (ad : Nat → Nat) (th n nc : Nat) (gO : w[55]? = some (ad 55, .inr (11, [.int (nI th), .ref (ad 56), .ref (ad 57), .ref (ad 58), .ref (ad 59), .ref (ad 60), .ref (ad 61), .ref (ad 62), .ref (ad 63), .ref (ad 64), .ref (ad 65), .int (nI n), .int (nI nc), .ref (ad 66), .ref (ad 71), .ref (ad 72), .ref (ad 73)]))) (hn : n = 10) : jM l yX12_addVariable (jws yX12_addVariable cX12_addVariable 1 (some .int)) (jR 1 0 0) D cy w [.ref (ad 55)] 0 0 (fun vv uu => vv = some (.int (nI 0)) ∧ jU w uu [55] ∧ uu[55]? = some (ad 55, .inr (11, [.int (nI 1), .ref (ad 56), .ref (ad 57), .ref (ad 58), .ref (ad 59), .ref (ad 60), .ref (ad 61), .ref (ad 62), .ref (ad 63), .ref (ad 64), .ref (ad 65), .int (nI n), .int (nI nc), .ref (ad 66), .ref (ad 71), .ref (ad 72), .ref (ad 73)]))) := by
  refine j_of (by decide) rfl (Nat.le_of_ble_eq_true rfl) ?_
  intro p e s m args below meth c A ls Q hQ S hr hK hA H locs hW hl
  have hl : lv_has ls 1 [(0, .ref (ad 55))] := hl
  refine lv_aload_n S.1 S.2.1 dX12_addVariable_0 rfl (lv_at hl 0 rfl) ?_
  refine lv_iconst (v := nI 0) S.1 S.2.1 dX12_addVariable_1 (by decide) ?_
  refine j_put (ci := 11) (C := RX12) (T := TX12) (N := 17) (ty := .int) S (fun w h => List.mem_cons_of_mem _ (inG12 w h)) tyX12 tyX12_ok nmX12 hK hW gO rfl 0 (by decide) (List.mem_cons_of_mem _ wfl_X12_1) (fun _ h9 => h9) rfl (by decide +kernel) (rfl) (rfl) (Nat.le_of_ble_eq_true rfl) dX12_addVariable_2 (fun H locs w_ hU1 hN1 hW => ?_)
  have hU : jU w w_ [55] := jU.mono hU1 (by decide)
  have gO_ : w_[55]? = some (ad 55, .inr (11, [.int (nI 0), .ref (ad 56), .ref (ad 57), .ref (ad 58), .ref (ad 59), .ref (ad 60), .ref (ad 61), .ref (ad 62), .ref (ad 63), .ref (ad 64), .ref (ad 65), .int (nI n), .int (nI nc), .ref (ad 66), .ref (ad 71), .ref (ad 72), .ref (ad 73)])) := hN1
  clear hU1 hN1
  refine lv_aload_n S.1 S.2.1 dX12_addVariable_5 rfl (lv_at hl 0 rfl) ?_
  refine j_get (ci := 11) (C := RX12) (T := TX12) (N := 17) (v := .int (nI n)) S (fun w h => List.mem_cons_of_mem _ (inG12 w h)) hK hW gO_ rfl 11 (by decide) (List.mem_cons_of_mem _ wfl_X12_64) (fun _ h9 => h9) rfl dX12_addVariable_6 ?_
  refine lv_bipush (v := nI 10) S.1 S.2.1 dX12_addVariable_9 (by decide) ?_
  refine jn_cmp_ne (tgt := 20) S (by omega) (by omega) dX12_addVariable_11 (by decide) (fun c_11 => ?_) (fun c_11 => ?_)
  · exact absurd hn c_11
  · refine lv_aload_n S.1 S.2.1 dX12_addVariable_14 rfl (lv_at hl 0 rfl) ?_
    refine lv_iconst (v := nI 1) S.1 S.2.1 dX12_addVariable_15 (by decide) ?_
    refine j_callV (k := 55) (ci := 11) (q := (RX12, TX12, 17)) (As := [.int (nI 1)]) (rest := []) S hK hA hW (c_X12_fails l D cy ad 0 n nc 1 gO_   ) (jgo wm_X12_71) yk_X12_fails gO_ rfl rfl ⟨⟨rfl, rfl⟩, by decide, by decide⟩ rfl hl.1 rfl (Nat.le_of_ble_eq_true rfl) dX12_addVariable_16 ⟨Nat.le_of_ble_eq_true rfl, Nat.le_of_ble_eq_true rfl⟩ (fun v w_ H locs hp hW => ?_)
    obtain ⟨rfl, hU1, hN1⟩ := hp
    have hU := hU.then hU1 (by decide)
    have gO_ : w_[55]? = some (ad 55, .inr (11, [.int (nI 1), .ref (ad 56), .ref (ad 57), .ref (ad 58), .ref (ad 59), .ref (ad 60), .ref (ad 61), .ref (ad 62), .ref (ad 63), .ref (ad 64), .ref (ad 65), .int (nI n), .int (nI nc), .ref (ad 66), .ref (ad 71), .ref (ad 72), .ref (ad 73)])) := hN1
    clear hU1 hN1
    refine W.eq (g2 := F0 m 19 ls [.int (nI 0)]) rfl ?_
    subst hQ
    exact j_iret (u := w_) S hr (rfl) hK hW dX12_addVariable_19 ⟨by decide, by decide⟩ (⟨rfl, hU, gO_⟩)
/-- setWeights -/
theorem c_X12_setWeights_ok (l : Launch) (D : va_G) (cy : Nat → ClassId) {w : va_W} (ad : Nat → Nat) (th n nc : Nat) (wf wt : Nat → Nat) (x a b : Nat) (gO : w[55]? = some (ad 55, .inr (11, [.int (nI th), .ref (ad 56), .ref (ad 57), .ref (ad 58), .ref (ad 59), .ref (ad 60), .ref (ad 61), .ref (ad 62), .ref (ad 63), .ref (ad 64), .ref (ad 65), .int (nI n), .int (nI nc), .ref (ad 66), .ref (ad 71), .ref (ad 72), .ref (ad 73)]))) (gF : w[56]? = some (ad 56, .inl (cy 0, 10, .inl (nf wf)))) (gT : w[57]? = some (ad 57, .inl (cy 0, 10, .inl (nf wt)))) (hn : n ≤ 10) (hx : x < n) (ha : a < 10) (hb : b < 10) : jM l yX12_setWeights (jws yX12_setWeights cX12_setWeights 5 (some .int)) (jR 2 0 0) D cy w [.ref (ad 55), .int (nI x), .int (nI a), .int (nI b)] 0 0 (fun vv uu => vv = some (.int (nI (10 * wf x + wt x))) ∧ jU w uu [55, 56, 57] ∧ uu[55]? = some (ad 55, .inr (11, [.int (nI 0), .ref (ad 56), .ref (ad 57), .ref (ad 58), .ref (ad 59), .ref (ad 60), .ref (ad 61), .ref (ad 62), .ref (ad 63), .ref (ad 64), .ref (ad 65), .int (nI n), .int (nI nc), .ref (ad 66), .ref (ad 71), .ref (ad 72), .ref (ad 73)])) ∧ uu[56]? = some (ad 56, .inl (cy 0, 10, .inl (nf (upB wf x a)))) ∧ uu[57]? = some (ad 57, .inl (cy 0, 10, .inl (nf (upB wt x b))))) := by
  refine j_of (by decide) rfl (Nat.le_of_ble_eq_true rfl) ?_
  intro p e s m args below meth c A ls Q hQ S hr hK hA H locs hW hl
  have hl : lv_has ls 5 [(0, .ref (ad 55)), (1, .int (nI x)), (2, .int (nI a)), (3, .int (nI b))] := hl
  refine lv_aload_n S.1 S.2.1 dX12_setWeights_0 rfl (lv_at hl 0 rfl) ?_
  refine lv_iconst (v := nI 0) S.1 S.2.1 dX12_setWeights_1 (by decide) ?_
  refine j_put (ci := 11) (C := RX12) (T := TX12) (N := 17) (ty := .int) S (fun w h => List.mem_cons_of_mem _ (inG12 w h)) tyX12 tyX12_ok nmX12 hK hW gO rfl 0 (by decide) (List.mem_cons_of_mem _ wfl_X12_1) (fun _ h9 => h9) rfl (by decide +kernel) (rfl) (rfl) (Nat.le_of_ble_eq_true rfl) dX12_setWeights_2 (fun H locs w_ hU1 hN1 hW => ?_)
  have hU : jU w w_ [55, 56, 57] := jU.mono hU1 (by decide)
  have gF_ := hU1.get gF (by decide)
  have gT_ := hU1.get gT (by decide)
  have gO_ : w_[55]? = some (ad 55, .inr (11, [.int (nI 0), .ref (ad 56), .ref (ad 57), .ref (ad 58), .ref (ad 59), .ref (ad 60), .ref (ad 61), .ref (ad 62), .ref (ad 63), .ref (ad 64), .ref (ad 65), .int (nI n), .int (nI nc), .ref (ad 66), .ref (ad 71), .ref (ad 72), .ref (ad 73)])) := hN1
  clear hU1 hN1
  refine lv_aload_n S.1 S.2.1 dX12_setWeights_5 rfl (lv_at hl 0 rfl) ?_
  refine lv_iload_n S.1 S.2.1 dX12_setWeights_6 rfl (lv_at hl 1 rfl) ?_
  refine j_callV (k := 55) (ci := 11) (q := (RX12, TX12, 17)) (As := [.int (nI x)]) (rest := []) S hK hA hW (c_X12_isVariable l D cy ad 0 n nc (nI x) gO_   (by omega)) (jgo wm_X12_75) yk_X12_isVariable gO_ rfl rfl ⟨⟨rfl, rfl⟩, by decide, by decide⟩ rfl hl.1 rfl (Nat.le_of_ble_eq_true rfl) dX12_setWeights_7 ⟨Nat.le_of_ble_eq_true rfl, Nat.le_of_ble_eq_true rfl⟩ (fun v u H locs hp hW => ?_)
  obtain ⟨rfl, rfl⟩ := hp
  refine W.eq (g2 := F0 m 10 ls [.int (bI (vB (nI x) n))]) rfl ?_
  refine jb_if_ne (tgt := 19) S dX12_setWeights_10 (by decide) (fun c_10 => ?_) (fun c_10 => ?_)
  · refine lv_iload_n S.1 S.2.1 dX12_setWeights_19 rfl (lv_at hl 2 rfl) ?_
    refine lv_iconst (v := nI 0) S.1 S.2.1 dX12_setWeights_20 (by decide) ?_
    refine lv_bipush (v := nI 9) S.1 S.2.1 dX12_setWeights_21 (by decide) ?_
    refine j_callS (As := [.int (nI a), .int (nI 0), .int (nI 9)]) (rest := []) S hK hA hW (c_X12_isBetween l D cy (nI a) (nI 0) (nI 9)    ) (jgo wm_X12_67) yk_X12_isBetween ⟨⟨rfl, rfl⟩, by decide, by decide⟩ rfl hl.1 rfl (Nat.le_of_ble_eq_true rfl) dX12_setWeights_23 ⟨Nat.le_of_ble_eq_true rfl, Nat.le_of_ble_eq_true rfl⟩ (fun v u H locs hp hW => ?_)
    obtain ⟨rfl, rfl⟩ := hp
    refine W.eq (g2 := F0 m 26 ls [.int (bI (decide ((nI 0) ≤ (nI a)) && decide ((nI a) ≤ (nI 9))))]) rfl ?_
    refine lv_topi_to (y := bI (vB (nI a) 10)) (by rw [btw_k (k := 9) (by decide)]) ?_
    refine jb_if_eq (tgt := 39) S dX12_setWeights_26 (by decide) (fun c_26 => ?_) (fun c_26 => ?_)
    · exact absurd (vB_nI ha (by decide)) (by rw [c_26]; decide)
    · refine lv_iload_n S.1 S.2.1 dX12_setWeights_29 rfl (lv_at hl 3 rfl) ?_
      refine lv_iconst (v := nI 0) S.1 S.2.1 dX12_setWeights_30 (by decide) ?_
      refine lv_bipush (v := nI 9) S.1 S.2.1 dX12_setWeights_31 (by decide) ?_
      refine j_callS (As := [.int (nI b), .int (nI 0), .int (nI 9)]) (rest := []) S hK hA hW (c_X12_isBetween l D cy (nI b) (nI 0) (nI 9)    ) (jgo wm_X12_67) yk_X12_isBetween ⟨⟨rfl, rfl⟩, by decide, by decide⟩ rfl hl.1 rfl (Nat.le_of_ble_eq_true rfl) dX12_setWeights_33 ⟨Nat.le_of_ble_eq_true rfl, Nat.le_of_ble_eq_true rfl⟩ (fun v u H locs hp hW => ?_)
      obtain ⟨rfl, rfl⟩ := hp
      refine W.eq (g2 := F0 m 36 ls [.int (bI (decide ((nI 0) ≤ (nI b)) && decide ((nI b) ≤ (nI 9))))]) rfl ?_
      refine lv_topi_to (y := bI (vB (nI b) 10)) (by rw [btw_k (k := 9) (by decide)]) ?_
      refine jb_if_ne (tgt := 45) S dX12_setWeights_36 (by decide) (fun c_36 => ?_) (fun c_36 => ?_)
      · refine lv_bipush (v := nI 10) S.1 S.2.1 dX12_setWeights_45 (by decide) ?_
        refine lv_aload_n S.1 S.2.1 dX12_setWeights_47 rfl (lv_at hl 0 rfl) ?_
        refine j_get (ci := 11) (C := RX12) (T := TX12) (N := 17) (v := .ref (ad 56)) S (fun w h => List.mem_cons_of_mem _ (inG12 w h)) hK hW gO_ rfl 1 (by decide) (List.mem_cons_of_mem _ wfl_X12_17) (fun _ h9 => h9) rfl dX12_setWeights_48 ?_
        refine lv_iload_n S.1 S.2.1 dX12_setWeights_51 rfl (lv_at hl 1 rfl) ?_
        refine j_iald (x := nI (wf x)) S hK hW gF_ (vp_in_nI (by omega) (by omega)) (nI_clamp (by omega)) (rfl) dX12_setWeights_52 ?_
        refine jn_mul S dX12_setWeights_53 ?_
        refine lv_aload_n S.1 S.2.1 dX12_setWeights_54 rfl (lv_at hl 0 rfl) ?_
        refine j_get (ci := 11) (C := RX12) (T := TX12) (N := 17) (v := .ref (ad 57)) S (fun w h => List.mem_cons_of_mem _ (inG12 w h)) hK hW gO_ rfl 2 (by decide) (List.mem_cons_of_mem _ wfl_X12_21) (fun _ h9 => h9) rfl dX12_setWeights_55 ?_
        refine lv_iload_n S.1 S.2.1 dX12_setWeights_58 rfl (lv_at hl 1 rfl) ?_
        refine j_iald (x := nI (wt x)) S hK hW gT_ (vp_in_nI (by omega) (by omega)) (nI_clamp (by omega)) (rfl) dX12_setWeights_59 ?_
        refine jn_add S dX12_setWeights_60 ?_
        refine lv_istore (lv' := [(4, .int (nI ((10 * (wf x)) + (wt x)))), (0, .ref (ad 55)), (1, .int (nI x)), (2, .int (nI a)), (3, .int (nI b))]) S.1 S.2.1 dX12_setWeights_61 hl (by decide) rfl (fun ls hl => ?_)
        refine lv_aload_n S.1 S.2.1 dX12_setWeights_63 rfl (lv_at hl 1 rfl) ?_
        refine j_get (ci := 11) (C := RX12) (T := TX12) (N := 17) (v := .ref (ad 56)) S (fun w h => List.mem_cons_of_mem _ (inG12 w h)) hK hW gO_ rfl 1 (by decide) (List.mem_cons_of_mem _ wfl_X12_17) (fun _ h9 => h9) rfl dX12_setWeights_64 ?_
        refine lv_iload_n S.1 S.2.1 dX12_setWeights_67 rfl (lv_at hl 2 rfl) ?_
        refine lv_iload_n S.1 S.2.1 dX12_setWeights_68 rfl (lv_at hl 3 rfl) ?_
        refine j_iast S hK hW gF_ (vp_in_nI (by omega) (by omega)) (nI_clamp (by omega)) dX12_setWeights_69 (fun H locs w_ hU1 hN1 hW => ?_)
        have hU := hU.then hU1 (by decide)
        have gT_ := hU1.get gT_ (by decide)
        have gO_ := hU1.get gO_ (by decide)
        have gF_ : w_[56]? = some (ad 56, .inl (cy 0, 10, .inl (upd (nf wf) x (nI a)))) := hN1
        clear hU1 hN1
        refine lv_aload_n S.1 S.2.1 dX12_setWeights_70 rfl (lv_at hl 1 rfl) ?_
        refine j_get (ci := 11) (C := RX12) (T := TX12) (N := 17) (v := .ref (ad 57)) S (fun w h => List.mem_cons_of_mem _ (inG12 w h)) hK hW gO_ rfl 2 (by decide) (List.mem_cons_of_mem _ wfl_X12_21) (fun _ h9 => h9) rfl dX12_setWeights_71 ?_
        refine lv_iload_n S.1 S.2.1 dX12_setWeights_74 rfl (lv_at hl 2 rfl) ?_
        refine lv_iload_n S.1 S.2.1 dX12_setWeights_75 rfl (lv_at hl 4 rfl) ?_
        refine j_iast S hK hW gT_ (vp_in_nI (by omega) (by omega)) (nI_clamp (by omega)) dX12_setWeights_76 (fun H locs w_ hU1 hN1 hW => ?_)
        have hU := hU.then hU1 (by decide)
        have gF_ := hU1.get gF_ (by decide)
        have gO_ := hU1.get gO_ (by decide)
        have gT_ : w_[57]? = some (ad 57, .inl (cy 0, 10, .inl (upd (nf wt) x (nI b)))) := hN1
        clear hU1 hN1
        refine lv_iload S.1 S.2.1 dX12_setWeights_77 (lv_at hl 0 rfl) ?_
        subst hQ
        exact j_iret (u := w_) S hr (rfl) hK hW dX12_setWeights_79 ⟨by decide, by decide⟩ (⟨rfl, hU, gO_, by rw [← nf_upd]; exact gF_, by rw [← nf_upd]; exact gT_⟩)
      · exact absurd (vB_nI hb (by decide)) (by rw [c_36]; decide)
  · exact absurd (vB_nI hx (by omega)) (by rw [c_10]; decide)
/-- setWeights, no such variable -/
theorem c_X12_setWeights_b1 (l : Launch) (D : va_G) (cy : Nat → ClassId) {w : va_W} (ad : Nat → Nat) (th n nc : Nat) (v u1 u2 : Int32) (gO : w[55]? = some (ad 55, .inr (11, [.int (nI th), .ref (ad 56), .ref (ad 57), .ref (ad 58), .ref (ad 59), .ref (ad 60), .ref (ad 61), .ref (ad 62), .ref (ad 63), .ref (ad 64), .ref (ad 65), .int (nI n), .int (nI nc), .ref (ad 66), .ref (ad 71), .ref (ad 72), .ref (ad 73)]))) (hn : n ≤ 10) (hv : vB v n = false) : jM l yX12_setWeights (jws yX12_setWeights cX12_setWeights 5 (some .int)) (jR 2 0 0) D cy w [.ref (ad 55), .int v, .int u1, .int u2] 0 0 (fun vv uu => vv = some (.int (nI 0)) ∧ jU w uu [55] ∧ uu[55]? = some (ad 55, .inr (11, [.int (nI 1), .ref (ad 56), .ref (ad 57), .ref (ad 58), .ref (ad 59), .ref (ad 60), .ref (ad 61), .ref (ad 62), .ref (ad 63), .ref (ad 64), .ref (ad 65), .int (nI n), .int (nI nc), .ref (ad 66), .ref (ad 71), .ref (ad 72), .ref (ad 73)]))) := by
  refine j_of (by decide) rfl (Nat.le_of_ble_eq_true rfl) ?_
  intro p e s m args below meth c A ls Q hQ S hr hK hA H locs hW hl
  have hl : lv_has ls 5 [(0, .ref (ad 55)), (1, .int v), (2, .int u1), (3, .int u2)] := hl
  refine lv_aload_n S.1 S.2.1 dX12_setWeights_0 rfl (lv_at hl 0 rfl) ?_
  refine lv_iconst (v := nI 0) S.1 S.2.1 dX12_setWeights_1 (by decide) ?_
  refine j_put (ci := 11) (C := RX12) (T := TX12) (N := 17) (ty := .int) S (fun w h => List.mem_cons_of_mem _ (inG12 w h)) tyX12 tyX12_ok nmX12 hK hW gO rfl 0 (by decide) (List.mem_cons_of_mem _ wfl_X12_1) (fun _ h9 => h9) rfl (by decide +kernel) (rfl) (rfl) (Nat.le_of_ble_eq_true rfl) dX12_setWeights_2 (fun H locs w_ hU1 hN1 hW => ?_)
  have hU : jU w w_ [55] := jU.mono hU1 (by decide)
  have gO_ : w_[55]? = some (ad 55, .inr (11, [.int (nI 0), .ref (ad 56), .ref (ad 57), .ref (ad 58), .ref (ad 59), .ref (ad 60), .ref (ad 61), .ref (ad 62), .ref (ad 63), .ref (ad 64), .ref (ad 65), .int (nI n), .int (nI nc), .ref (ad 66), .ref (ad 71), .ref (ad 72), .ref (ad 73)])) := hN1
  clear hU1 hN1
  refine lv_aload_n S.1 S.2.1 dX12_setWeights_5 rfl (lv_at hl 0 rfl) ?_
  refine lv_iload_n S.1 S.2.1 dX12_setWeights_6 rfl (lv_at hl 1 rfl) ?_
  refine j_callV (k := 55) (ci := 11) (q := (RX12, TX12, 17)) (As := [.int v]) (rest := []) S hK hA hW (c_X12_isVariable l D cy ad 0 n nc v gO_   (by omega)) (jgo wm_X12_75) yk_X12_isVariable gO_ rfl rfl ⟨⟨rfl, rfl⟩, by decide, by decide⟩ rfl hl.1 rfl (Nat.le_of_ble_eq_true rfl) dX12_setWeights_7 ⟨Nat.le_of_ble_eq_true rfl, Nat.le_of_ble_eq_true rfl⟩ (fun v u H locs hp hW => ?_)
  obtain ⟨rfl, rfl⟩ := hp
  refine W.eq (g2 := F0 m 10 ls [.int (bI (vB v n))]) rfl ?_
  refine jb_if_ne (tgt := 19) S dX12_setWeights_10 (by decide) (fun c_10 => ?_) (fun c_10 => ?_)
  · exact absurd c_10 (by rw [hv]; decide)
  · refine lv_aload_n S.1 S.2.1 dX12_setWeights_13 rfl (lv_at hl 0 rfl) ?_
    refine lv_iconst (v := nI 1) S.1 S.2.1 dX12_setWeights_14 (by decide) ?_
    refine j_callV (k := 55) (ci := 11) (q := (RX12, TX12, 17)) (As := [.int (nI 1)]) (rest := []) S hK hA hW (c_X12_fails l D cy ad 0 n nc 1 gO_   ) (jgo wm_X12_71) yk_X12_fails gO_ rfl rfl ⟨⟨rfl, rfl⟩, by decide, by decide⟩ rfl hl.1 rfl (Nat.le_of_ble_eq_true rfl) dX12_setWeights_15 ⟨Nat.le_of_ble_eq_true rfl, Nat.le_of_ble_eq_true rfl⟩ (fun v w_ H locs hp hW => ?_)
    obtain ⟨rfl, hU1, hN1⟩ := hp
    have hU := hU.then hU1 (by decide)
    have gO_ : w_[55]? = some (ad 55, .inr (11, [.int (nI 1), .ref (ad 56), .ref (ad 57), .ref (ad 58), .ref (ad 59), .ref (ad 60), .ref (ad 61), .ref (ad 62), .ref (ad 63), .ref (ad 64), .ref (ad 65), .int (nI n), .int (nI nc), .ref (ad 66), .ref (ad 71), .ref (ad 72), .ref (ad 73)])) := hN1
    clear hU1 hN1
    refine W.eq (g2 := F0 m 18 ls [.int (nI 0)]) rfl ?_
    subst hQ
    exact j_iret (u := w_) S hr (rfl) hK hW dX12_setWeights_18 ⟨by decide, by decide⟩ (⟨rfl, hU, gO_⟩)
/-- setWeights, wrong weights -/
theorem c_X12_setWeights_b2 (l : Launch) (D : va_G) (cy : Nat → ClassId) {w : va_W} (ad : Nat → Nat) (th n nc : Nat) (x : Nat) (u1 u2 : Int32) (gO : w[55]? = some (ad 55, .inr (11, [.int (nI th), .ref (ad 56), .ref (ad 57), .ref (ad 58), .ref (ad 59), .ref (ad 60), .ref (ad 61), .ref (ad 62), .ref (ad 63), .ref (ad 64), .ref (ad 65), .int (nI n), .int (nI nc), .ref (ad 66), .ref (ad 71), .ref (ad 72), .ref (ad 73)]))) (hn : n ≤ 10) (hx : x < n) (hv : vB u1 10 = false ∨ vB u2 10 = false) : jM l yX12_setWeights (jws yX12_setWeights cX12_setWeights 5 (some .int)) (jR 2 0 0) D cy w [.ref (ad 55), .int (nI x), .int u1, .int u2] 0 0 (fun vv uu => vv = some (.int (nI 0)) ∧ jU w uu [55] ∧ uu[55]? = some (ad 55, .inr (11, [.int (nI 2), .ref (ad 56), .ref (ad 57), .ref (ad 58), .ref (ad 59), .ref (ad 60), .ref (ad 61), .ref (ad 62), .ref (ad 63), .ref (ad 64), .ref (ad 65), .int (nI n), .int (nI nc), .ref (ad 66), .ref (ad 71), .ref (ad 72), .ref (ad 73)]))) := by
  refine j_of (by decide) rfl (Nat.le_of_ble_eq_true rfl) ?_
  intro p e s m args below meth c A ls Q hQ S hr hK hA H locs hW hl
  have hl : lv_has ls 5 [(0, .ref (ad 55)), (1, .int (nI x)), (2, .int u1), (3, .int u2)] := hl
  refine lv_aload_n S.1 S.2.1 dX12_setWeights_0 rfl (lv_at hl 0 rfl) ?_
  refine lv_iconst (v := nI 0) S.1 S.2.1 dX12_setWeights_1 (by decide) ?_
  refine j_put (ci := 11) (C := RX12) (T := TX12) (N := 17) (ty := .int) S (fun w h => List.mem_cons_of_mem _ (inG12 w h)) tyX12 tyX12_ok nmX12 hK hW gO rfl 0 (by decide) (List.mem_cons_of_mem _ wfl_X12_1) (fun _ h9 => h9) rfl (by decide +kernel) (rfl) (rfl) (Nat.le_of_ble_eq_true rfl) dX12_setWeights_2 (fun H locs w_ hU1 hN1 hW => ?_)
  have hU : jU w w_ [55] := jU.mono hU1 (by decide)
  have gO_ : w_[55]? = some (ad 55, .inr (11, [.int (nI 0), .ref (ad 56), .ref (ad 57), .ref (ad 58), .ref (ad 59), .ref (ad 60), .ref (ad 61), .ref (ad 62), .ref (ad 63), .ref (ad 64), .ref (ad 65), .int (nI n), .int (nI nc), .ref (ad 66), .ref (ad 71), .ref (ad 72), .ref (ad 73)])) := hN1
  clear hU1 hN1
  refine lv_aload_n S.1 S.2.1 dX12_setWeights_5 rfl (lv_at hl 0 rfl) ?_
  refine lv_iload_n S.1 S.2.1 dX12_setWeights_6 rfl (lv_at hl 1 rfl) ?_
  refine j_callV (k := 55) (ci := 11) (q := (RX12, TX12, 17)) (As := [.int (nI x)]) (rest := []) S hK hA hW (c_X12_isVariable l D cy ad 0 n nc (nI x) gO_   (by omega)) (jgo wm_X12_75) yk_X12_isVariable gO_ rfl rfl ⟨⟨rfl, rfl⟩, by decide, by decide⟩ rfl hl.1 rfl (Nat.le_of_ble_eq_true rfl) dX12_setWeights_7 ⟨Nat.le_of_ble_eq_true rfl, Nat.le_of_ble_eq_true rfl⟩ (fun v u H locs hp hW => ?_)
  obtain ⟨rfl, rfl⟩ := hp
  refine W.eq (g2 := F0 m 10 ls [.int (bI (vB (nI x) n))]) rfl ?_
  refine jb_if_ne (tgt := 19) S dX12_setWeights_10 (by decide) (fun c_10 => ?_) (fun c_10 => ?_)
  · refine lv_iload_n S.1 S.2.1 dX12_setWeights_19 rfl (lv_at hl 2 rfl) ?_
    refine lv_iconst (v := nI 0) S.1 S.2.1 dX12_setWeights_20 (by decide) ?_
    refine lv_bipush (v := nI 9) S.1 S.2.1 dX12_setWeights_21 (by decide) ?_
    refine j_callS (As := [.int u1, .int (nI 0), .int (nI 9)]) (rest := []) S hK hA hW (c_X12_isBetween l D cy u1 (nI 0) (nI 9)    ) (jgo wm_X12_67) yk_X12_isBetween ⟨⟨rfl, rfl⟩, by decide, by decide⟩ rfl hl.1 rfl (Nat.le_of_ble_eq_true rfl) dX12_setWeights_23 ⟨Nat.le_of_ble_eq_true rfl, Nat.le_of_ble_eq_true rfl⟩ (fun v u H locs hp hW => ?_)
    obtain ⟨rfl, rfl⟩ := hp
    refine W.eq (g2 := F0 m 26 ls [.int (bI (decide ((nI 0) ≤ u1) && decide (u1 ≤ (nI 9))))]) rfl ?_
    refine lv_topi_to (y := bI (vB u1 10)) (by rw [btw_k (k := 9) (by decide)]) ?_
    refine jb_if_eq (tgt := 39) S dX12_setWeights_26 (by decide) (fun c_26 => ?_) (fun c_26 => ?_)
    · refine lv_aload_n S.1 S.2.1 dX12_setWeights_39 rfl (lv_at hl 0 rfl) ?_
      refine lv_iconst (v := nI 2) S.1 S.2.1 dX12_setWeights_40 (by decide) ?_
      refine j_callV (k := 55) (ci := 11) (q := (RX12, TX12, 17)) (As := [.int (nI 2)]) (rest := []) S hK hA hW (c_X12_fails l D cy ad 0 n nc 2 gO_   ) (jgo wm_X12_71) yk_X12_fails gO_ rfl rfl ⟨⟨rfl, rfl⟩, by decide, by decide⟩ rfl hl.1 rfl (Nat.le_of_ble_eq_true rfl) dX12_setWeights_41 ⟨Nat.le_of_ble_eq_true rfl, Nat.le_of_ble_eq_true rfl⟩ (fun v w_ H locs hp hW => ?_)
      obtain ⟨rfl, hU1, hN1⟩ := hp
      have hU := hU.then hU1 (by decide)
      have gO_ : w_[55]? = some (ad 55, .inr (11, [.int (nI 2), .ref (ad 56), .ref (ad 57), .ref (ad 58), .ref (ad 59), .ref (ad 60), .ref (ad 61), .ref (ad 62), .ref (ad 63), .ref (ad 64), .ref (ad 65), .int (nI n), .int (nI nc), .ref (ad 66), .ref (ad 71), .ref (ad 72), .ref (ad 73)])) := hN1
      clear hU1 hN1
      refine W.eq (g2 := F0 m 44 ls [.int (nI 0)]) rfl ?_
      subst hQ
      exact j_iret (u := w_) S hr (rfl) hK hW dX12_setWeights_44 ⟨by decide, by decide⟩ (⟨rfl, hU, gO_⟩)
    · refine lv_iload_n S.1 S.2.1 dX12_setWeights_29 rfl (lv_at hl 3 rfl) ?_
      refine lv_iconst (v := nI 0) S.1 S.2.1 dX12_setWeights_30 (by decide) ?_
      refine lv_bipush (v := nI 9) S.1 S.2.1 dX12_setWeights_31 (by decide) ?_
      refine j_callS (As := [.int u2, .int (nI 0), .int (nI 9)]) (rest := []) S hK hA hW (c_X12_isBetween l D cy u2 (nI 0) (nI 9)    ) (jgo wm_X12_67) yk_X12_isBetween ⟨⟨rfl, rfl⟩, by decide, by decide⟩ rfl hl.1 rfl (Nat.le_of_ble_eq_true rfl) dX12_setWeights_33 ⟨Nat.le_of_ble_eq_true rfl, Nat.le_of_ble_eq_true rfl⟩ (fun v u H locs hp hW => ?_)
      obtain ⟨rfl, rfl⟩ := hp
      refine W.eq (g2 := F0 m 36 ls [.int (bI (decide ((nI 0) ≤ u2) && decide (u2 ≤ (nI 9))))]) rfl ?_
      refine lv_topi_to (y := bI (vB u2 10)) (by rw [btw_k (k := 9) (by decide)]) ?_
      refine jb_if_ne (tgt := 45) S dX12_setWeights_36 (by decide) (fun c_36 => ?_) (fun c_36 => ?_)
      · exact (by rcases hv with q | q; rw [c_26] at q; cases q; rw [c_36] at q; cases q)
      · refine lv_aload_n S.1 S.2.1 dX12_setWeights_39 rfl (lv_at hl 0 rfl) ?_
        refine lv_iconst (v := nI 2) S.1 S.2.1 dX12_setWeights_40 (by decide) ?_
        refine j_callV (k := 55) (ci := 11) (q := (RX12, TX12, 17)) (As := [.int (nI 2)]) (rest := []) S hK hA hW (c_X12_fails l D cy ad 0 n nc 2 gO_   ) (jgo wm_X12_71) yk_X12_fails gO_ rfl rfl ⟨⟨rfl, rfl⟩, by decide, by decide⟩ rfl hl.1 rfl (Nat.le_of_ble_eq_true rfl) dX12_setWeights_41 ⟨Nat.le_of_ble_eq_true rfl, Nat.le_of_ble_eq_true rfl⟩ (fun v w_ H locs hp hW => ?_)
        obtain ⟨rfl, hU1, hN1⟩ := hp
        have hU := hU.then hU1 (by decide)
        have gO_ : w_[55]? = some (ad 55, .inr (11, [.int (nI 2), .ref (ad 56), .ref (ad 57), .ref (ad 58), .ref (ad 59), .ref (ad 60), .ref (ad 61), .ref (ad 62), .ref (ad 63), .ref (ad 64), .ref (ad 65), .int (nI n), .int (nI nc), .ref (ad 66), .ref (ad 71), .ref (ad 72), .ref (ad 73)])) := hN1
        clear hU1 hN1
        refine W.eq (g2 := F0 m 44 ls [.int (nI 0)]) rfl ?_
        subst hQ
        exact j_iret (u := w_) S hr (rfl) hK hW dX12_setWeights_44 ⟨by decide, by decide⟩ (⟨rfl, hU, gO_⟩)
  · exact absurd (vB_nI hx (by omega)) (by rw [c_10]; decide)
