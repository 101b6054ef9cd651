/-! COUNTFALL: helpers, first part (laid by wip/whole/tools, from the specs there) -/
/-! COUNTFALL, numbers of its helpers -/
theorem lN_ne0 {b : Nat} (h0 : 0 < b) (hb : b < 2 ^ 63) : ¬ lN b = 0 := fun h => by
  have := (pk_lEQ hb (by decide : 0 < 2 ^ 63)).mp h
  omega
/-- products while a variable is multiplied in: i assignments done -/
def mulF (wf wt pr : Nat → Nat) (v i : Nat) : Nat → Nat := fun a => if a < i ∨ (2 ^ v ≤ a ∧ a < 2 ^ v + i) then prodN wf wt a (v + 1) else if a < 2 ^ v then prodN wf wt a v else pr a
theorem mulF_at {wf wt pr : Nat → Nat} {v i a : Nat} : mulF wf wt pr v i a = if a < i ∨ (2 ^ v ≤ a ∧ a < 2 ^ v + i) then prodN wf wt a (v + 1) else if a < 2 ^ v then prodN wf wt a v else pr a := rfl
theorem prodN_congr {wf wt : Nat → Nat} {a b k : Nat} (h : ∀ j, j < k → a.testBit j = b.testBit j) : prodN wf wt a k = prodN wf wt b k := by
  induction k with
  | zero => rfl
  | succ k ih => simp only [prodN]; rw [ih (fun j hj => h j (by omega)), h k (by omega)]
theorem prodN_lo {wf wt : Nat → Nat} {a v : Nat} (h : a < 2 ^ v) : prodN wf wt a (v + 1) = prodN wf wt a v * wf v := by
  simp only [prodN]; rw [Nat.testBit_lt_two_pow h]; rfl
theorem prodN_hi {wf wt : Nat → Nat} {a v : Nat} (h : a < 2 ^ v) : prodN wf wt (2 ^ v + a) (v + 1) = prodN wf wt a v * wt v := by
  simp only [prodN]
  rw [Nat.testBit_two_pow_add_eq, Nat.testBit_lt_two_pow h, prodN_congr (b := a) (fun j hj => Nat.testBit_two_pow_add_gt hj a)]; rfl
theorem mulF_0 {wf wt pr : Nat → Nat} {v : Nat} : mulF wf wt pr v 0 = mixN (2 ^ v) (fun a => prodN wf wt a v) pr := by
  funext a; rw [mulF_at, if_neg (by omega)]; rfl
theorem mulF_e {wf wt pr : Nat → Nat} {v : Nat} : mulF wf wt pr v (2 ^ v) = mixN (2 ^ (v + 1)) (fun a => prodN wf wt a (v + 1)) pr := by
  have hp : 2 ^ (v + 1) = 2 ^ v + 2 ^ v := by rw [Nat.pow_succ]; omega
  funext a; rw [mulF_at]
  show _ = if a < 2 ^ (v + 1) then _ else _
  by_cases h : a < 2 ^ (v + 1)
  · rw [if_pos (by omega), if_pos h]
  · rw [if_neg (by omega), if_neg (by omega), if_neg h]
theorem mulF_r {wf wt pr : Nat → Nat} {v i : Nat} (h : i < 2 ^ v) : mulF wf wt pr v i i = prodN wf wt i v := by
  rw [mulF_at, if_neg (by omega), if_pos h]
theorem mulF_s {wf wt pr : Nat → Nat} {v i : Nat} (h : i < 2 ^ v) : upB (upB (mulF wf wt pr v i) i (prodN wf wt i v * wf v)) (2 ^ v + i) (prodN wf wt i v * wt v) = mulF wf wt pr v (i + 1) := by
  funext a
  rw [mulF_at]
  unfold upB
  by_cases e1 : a = 2 ^ v + i
  · rw [if_pos e1, if_pos (by omega), e1, prodN_hi h]
  · rw [if_neg e1]
    show (if a = i then _ else mulF wf wt pr v i a) = _
    by_cases e2 : a = i
    · rw [if_pos e2, if_pos (by omega), e2, prodN_lo h]
    · rw [if_neg e2, mulF_at]
      by_cases e3 : a < i ∨ (2 ^ v ≤ a ∧ a < 2 ^ v + i)
      · rw [if_pos e3, if_pos (by omega)]
      · rw [if_neg e3, if_neg (show ¬ (a < i + 1 ∨ (2 ^ v ≤ a ∧ a < 2 ^ v + (i + 1))) by omega)]
theorem prd_0 {wf wt pr : Nat → Nat} : mixN (2 ^ 0) (fun d => prodN wf wt d 0) pr = upB pr 0 1 := by
  funext j
  unfold mixN upB
  by_cases e : j = 0
  · subst e; rfl
  · rw [if_neg e, if_neg (by have : 2 ^ 0 = 1 := rfl; omega)]
theorem prodN_le {wf wt : Nat → Nat} (hf : ∀ j, wf j ≤ 9) (ht : ∀ j, wt j ≤ 9) (a k : Nat) : prodN wf wt a k ≤ 9 ^ k := by
  induction k with
  | zero => exact Nat.le_refl _
  | succ k ih =>
    simp only [prodN]; rw [Nat.pow_succ]
    refine Nat.mul_le_mul ih ?_
    split
    · exact ht k
    · exact hf k
/-- the assignment that comes next -/
def folN : Nat → Nat → Nat
  | 0, x => x
  | k + 1, x => if (x ^^^ 2 ^ k).testBit k then x ^^^ 2 ^ k else folN k (x ^^^ 2 ^ k)
theorem xor_lt10 {x k : Nat} (h : x < 1024) (hk : k < 10) : x ^^^ 2 ^ k < 1024 := Nat.xor_lt_two_pow (n := 10) h (Nat.pow_lt_pow_right (by decide) hk)
/-- a part grown a round -/
def stpP (nc : Nat) (cs : Nat → CN) (lv op x : Nat) : Nat := x ||| (memN cs nc (touchN cs lv nc x) &&& op)
def itP (nc : Nat) (cs : Nat → CN) (lv op v : Nat) : Nat → Nat
  | 0 => 2 ^ v
  | r + 1 => stpP nc cs lv op (itP nc cs lv op v r)
theorem stpP_lt {nc : Nat} {cs : Nat → CN} {lv op x : Nat} (hop : op < 1024) (hx : x < 1024) : stpP nc cs lv op x < 1024 := Nat.or_lt_two_pow (n := 10) hx (Nat.and_lt_two_pow (n := 10) _ hop)
theorem itP_lt {nc : Nat} {cs : Nat → CN} {lv op v : Nat} (hop : op < 1024) (hv : v < 10) (r : Nat) : itP nc cs lv op v r < 1024 := by
  induction r with
  | zero => exact Nat.pow_lt_pow_right (by decide) hv
  | succ r ih => exact stpP_lt hop ih
theorem itP_fix {nc : Nat} {cs : Nat → CN} {lv op v r : Nat} (h : itP nc cs lv op v (r + 1) = itP nc cs lv op v r) (k : Nat) : itP nc cs lv op v (r + k) = itP nc cs lv op v r := by
  induction k with
  | zero => rfl
  | succ k ih =>
    show stpP nc cs lv op (itP nc cs lv op v (r + k)) = _
    rw [ih]; exact h
/-- the lowest one of a set, or n -/
def lowN (x : Nat) : Nat → Nat
  | 0 => 0
  | k + 1 => if lowN x k < k then lowN x k else if x.testBit k then k else k + 1
theorem lowN_is {x n r : Nat} (hr : r ≤ n) (h1 : ∀ j, j < r → x.testBit j = false) (h2 : r = n ∨ x.testBit r = true) : lowN x n = r := by
  induction n with
  | zero => simp only [lowN]; omega
  | succ k ih =>
    simp only [lowN]
    rcases Nat.lt_or_ge r k with q | q
    · rw [ih (by omega) (h2.imp (fun e => by omega) id), if_pos q]
    · have hk : lowN x k = k := by
        have : ∀ m, m ≤ k → lowN x m = m := by
          intro m
          induction m with
          | zero => intro _; rfl
          | succ m im =>
            intro hm
            simp only [lowN]
            rw [im (by omega), if_neg (by omega), if_neg (by rw [h1 m (by omega)]; decide)]
        exact this k (Nat.le_refl _)
      rw [hk, if_neg (by omega)]
      rcases Nat.lt_or_ge k r with z | z
      · rw [if_neg (by rw [h1 k z]; decide)]; omega
      · rw [show r = k by omega] at h2
        rw [if_pos (h2.resolve_left (by omega))]; omega
theorem lowN_le (x n : Nat) : lowN x n ≤ n := by
  induction n with
  | zero => exact Nat.le_refl _
  | succ k ih => simp only [lowN]; split; omega; split <;> omega
theorem lrm_step {d r B : Nat} (h0 : 0 < r) (hle : r ≤ d) (i : Nat) (h : d * r * 2 ^ i ≤ B) : r * (d % r) * 2 ^ (i + 1) ≤ B := by
  have h1 := Nat.div_add_mod d r
  have h2 : 1 ≤ d / r := Nat.div_pos hle h0
  have h3 : r * 1 ≤ r * (d / r) := Nat.mul_le_mul_left _ h2
  have h4 := Nat.mod_lt d h0
  have h5 : 2 * (d % r) ≤ d := by omega
  have h6 : r * (2 * (d % r)) ≤ r * d := Nat.mul_le_mul_left _ h5
  have h7 : r * (2 * (d % r)) * 2 ^ i ≤ r * d * 2 ^ i := Nat.mul_le_mul_right _ h6
  have e1 : r * (d % r) * 2 ^ (i + 1) = r * (2 * (d % r)) * 2 ^ i := by rw [Nat.pow_succ]; simp only [Nat.mul_comm, Nat.mul_left_comm, Nat.mul_assoc]
  rw [e1]
  rw [Nat.mul_comm d r] at h
  omega
theorem lrm_end {d r : Nat} (h0 : 0 < d) (h : d * r * 2 ^ 200 ≤ 2 ^ 84) : r = 0 := by
  rcases Nat.eq_zero_or_pos r with q | q
  · exact q
  · have : 1 * 2 ^ 200 ≤ d * r * 2 ^ 200 := Nat.mul_le_mul_right _ (Nat.mul_pos h0 q)
    omega
theorem dec_skip {f : Nat → Bool} {i : Nat} (h : f i = false) : (fun d => decide (d < i + 1) && f d) = fun d => decide (d < i) && f d := by
  funext d
  by_cases e : d = i
  · subst e; rw [h, Bool.and_false, Bool.and_false]
  · congr 1
    exact decide_eq_decide.mpr (by omega)
theorem dec_add {f : Nat → Bool} {i : Nat} (h : f i = true) : (fun d => decide (d < i + 1) && f d) = upB (fun d => decide (d < i) && f d) i true := by
  funext d
  unfold upB
  by_cases e : d = i
  · subst e; rw [h, if_pos rfl]; simp
  · rw [if_neg e]; congr 1
    exact decide_eq_decide.mpr (by omega)
theorem dec_0 {f : Nat → Bool} : (fun d => decide (d < 0) && f d) = fun _ => false := by funext d; simp
theorem mdc_at {sd se nc lv a : Nat} {cs : Nat → CN} : mdc sd se nc cs lv a = (decide (a &&& sd = se) && metN cs nc lv a) := rfl
/-- tell -/
theorem c_X11_tell (l : Launch) (D : va_G) (cy : Nat → ClassId) {w : va_W} (ad : Nat → Nat) (n sd se : Nat) (fr : Bool) (nc lv : Nat) (tf : Nat → Option Nat)  (pq cq : Nat) (cn : CN) (hO : w[0]? = some (ad 0, .inr (10, [.int (nI n), .ref (ad 1), .ref (ad 3), .ref (ad 5), .int (nI sd), .int (nI se), .ref (ad 7), .ref (ad 9), .ref (ad 11), .ref (ad 20), .int (bI fr), .ref (ad 23), .ref (ad 26), .ref (ad 31), .ref (ad 42)]))) (hC : w[9]? = some (ad 9, .inr (4, [.ref (ad 10), .int (nI nc), .int (nI lv)]))) (hT : w[10]? = some (ad 10, .inl (cy 5, 20, .inr (.inr (.inr (.inr tf)))))) (hm : nc < 20) (hq : w[pq]? = some (cq, .inr (cobj cn))) (okq : okC cn) (hpq : 76 ≤ pq) : jM l yX11_tell (jws yX11_tell cX11_tell 2 (some .int)) (jR 1 0 0) D cy w [.ref (ad 0), .ref cq] 0 0 (fun vv uu => vv = some (.int (nI nc)) ∧ jU w uu [0, 9, 10] ∧ uu[0]? = some (ad 0, .inr (10, [.int (nI n), .ref (ad 1), .ref (ad 3), .ref (ad 5), .int (nI sd), .int (nI se), .ref (ad 7), .ref (ad 9), .ref (ad 11), .ref (ad 20), .int (bI false), .ref (ad 23), .ref (ad 26), .ref (ad 31), .ref (ad 42)])) ∧ uu[9]? = some (ad 9, .inr (4, [.ref (ad 10), .int (nI (nc + 1)), .int (nI (lv ||| 2 ^ nc))])) ∧ uu[10]? = some (ad 10, .inl (cy 5, 20, .inr (.inr (.inr (.inr (va_up tf nc (some cq)))))))) := by
  refine j_of (by decide) rfl (Nat.le_of_ble_eq_true rfl) ?_
  intro p e s m args below meth c A ls Q hQ S hr hK hA H locs hW hl
  have hl : lv_has ls 2 [(0, .ref (ad 0)), (1, .ref cq)] := hl
  refine lv_aload_n S.1 S.2.1 dX11_tell_0 rfl (lv_at hl 0 rfl) ?_
  refine lv_iconst (v := nI 0) S.1 S.2.1 dX11_tell_1 (by decide) ?_
  refine j_put (ci := 10) (C := RX11) (T := TX11) (N := 15) (ty := .boolean) S (fun w h => List.mem_cons_of_mem _ (inG11 w h)) tyX11 tyX11_ok nmX11 hK hW hO rfl 10 (by decide) (List.mem_cons_of_mem _ wfl_X11_94) (fun _ h9 => h9) rfl (by decide +kernel) (rfl) (rfl) (Nat.le_of_ble_eq_true rfl) dX11_tell_2 (fun H locs w_ hU1 hN1 hW => ?_)
  have hU : jU w w_ [0, 9, 10] := jU.mono hU1 (by decide)
  have hC_ := hU1.get hC (by decide)
  have hT_ := hU1.get hT (by decide)
  have hO_ : w_[0]? = some (ad 0, .inr (10, [.int (nI n), .ref (ad 1), .ref (ad 3), .ref (ad 5), .int (nI sd), .int (nI se), .ref (ad 7), .ref (ad 9), .ref (ad 11), .ref (ad 20), .int (nI 0), .ref (ad 23), .ref (ad 26), .ref (ad 31), .ref (ad 42)])) := hN1
  clear hU1 hN1
  refine lv_aload_n S.1 S.2.1 dX11_tell_5 rfl (lv_at hl 0 rfl) ?_
  refine j_get (ci := 10) (C := RX11) (T := TX11) (N := 15) (v := .ref (ad 9)) S (fun w h => List.mem_cons_of_mem _ (inG11 w h)) hK hW hO_ rfl 7 (by decide) (List.mem_cons_of_mem _ wfl_X11_34) (fun _ h9 => h9) rfl dX11_tell_6 ?_
  refine lv_aload_n S.1 S.2.1 dX11_tell_9 rfl (lv_at hl 1 rfl) ?_
  refine j_callV (k := 9) (ci := 4) (q := (RX5, TX5, 3)) (As := [.ref cq]) (rest := []) S hK hA hW (c_X5_add l D cy ad nc lv tf pq cq cn hC_ hT_   (by omega) (hU.get hq (by simp; omega)) (okq)) (jgo wm_X11_357) yk_X5_add hC_ rfl rfl ⟨⟨rfl, rfl⟩, by decide, by decide⟩ rfl hl.1 rfl (Nat.le_of_ble_eq_true rfl) dX11_tell_10 ⟨Nat.le_of_ble_eq_true rfl, Nat.le_of_ble_eq_true rfl⟩ (fun v w_ H locs hp hW => ?_)
  obtain ⟨rfl, hU1, hN1, hN2⟩ := hp
  have hU := hU.then hU1 (by decide)
  have hO_ := hU1.get hO_ (by decide)
  have hC_ : w_[9]? = some (ad 9, .inr (4, [.ref (ad 10), .int (nI (nc + 1)), .int (nI (lv ||| 2 ^ nc))])) := hN1
  have hT_ : w_[10]? = some (ad 10, .inl (cy 5, 20, .inr (.inr (.inr (.inr (va_up tf nc (some cq))))))) := hN2
  clear hU1 hN1 hN2
  refine W.eq (g2 := F0 m 13 ls [.int (nI nc)]) rfl ?_
  subst hQ
  exact j_iret (u := w_) S hr (rfl) hK hW dX11_tell_13 ⟨by decide, by decide⟩ (⟨rfl, hU, hO_, hC_, hT_⟩)
/-- multiplyWeights -/
theorem c_X11_multiplyWeights (l : Launch) (D : va_G) (cy : Nat → ClassId) {w : va_W} (ad : Nat → Nat) (n sd se : Nat) (fr : Bool) (wf wt pr : Nat → Nat) (hO : w[0]? = some (ad 0, .inr (10, [.int (nI n), .ref (ad 1), .ref (ad 3), .ref (ad 5), .int (nI sd), .int (nI se), .ref (ad 7), .ref (ad 9), .ref (ad 11), .ref (ad 20), .int (bI fr), .ref (ad 23), .ref (ad 26), .ref (ad 31), .ref (ad 42)]))) (hFo : w[1]? = some (ad 1, .inr (5, [.ref (ad 2)]))) (hFa : w[2]? = some (ad 2, .inl (cy 0, 10, .inl (nf wf)))) (hGo : w[3]? = some (ad 3, .inr (5, [.ref (ad 4)]))) (hGa : w[4]? = some (ad 4, .inl (cy 0, 10, .inl (nf wt)))) (hDo : w[5]? = some (ad 5, .inr (6, [.ref (ad 6)]))) (hDa : w[6]? = some (ad 6, .inl (cy 1, 1024, .inr (.inl (lf pr))))) (hn : n ≤ 10) (hwf : ∀ j, wf j ≤ 9) (hwt : ∀ j, wt j ≤ 9) : jM l yX11_multiplyWeights (jws yX11_multiplyWeights cX11_multiplyWeights 10 none) (jR 1 0 0) D cy w [.ref (ad 0)] 0 0 (fun vv uu => vv = none ∧ jU w uu [6] ∧ uu[6]? = some (ad 6, .inl (cy 1, 1024, .inr (.inl (lf (mixN (2 ^ n) (fun d => prodN wf wt d n) pr)))))) := by
  refine j_of (by decide) rfl (Nat.le_of_ble_eq_true rfl) ?_
  intro p e s m args below meth c A ls Q hQ S hr hK hA H locs hW hl
  have hl : lv_has ls 10 [(0, .ref (ad 0))] := hl
  refine lv_aload_n S.1 S.2.1 dX11_multiplyWeights_0 rfl (lv_at hl 0 rfl) ?_
  refine j_get (ci := 10) (C := RX11) (T := TX11) (N := 15) (v := .ref (ad 5)) S (fun w h => List.mem_cons_of_mem _ (inG11 w h)) hK hW hO rfl 3 (by decide) (List.mem_cons_of_mem _ wfl_X11_24) (fun _ h9 => h9) rfl dX11_multiplyWeights_1 ?_
  refine lv_iconst (v := nI 0) S.1 S.2.1 dX11_multiplyWeights_4 (by decide) ?_
  refine lv_lconst (v := lN 1) S.1 S.2.1 dX11_multiplyWeights_5 (by decide) ?_
  refine j_callV (k := 5) (ci := 6) (q := (RX7, TX7, 1)) (As := [.int (nI 0), .long (lN 1)]) (rest := []) S hK hA hW (c_X7_putN l D cy 5 6 (ad 5) (ad 6) 1024 0 pr 1 hDo hDa   (by omega) (by decide)) (jgo wm_X11_73) yk_X7_put hDo rfl rfl ⟨⟨rfl, rfl⟩, by decide, by decide⟩ rfl hl.1 rfl (Nat.le_of_ble_eq_true rfl) dX11_multiplyWeights_6 ⟨Nat.le_of_ble_eq_true rfl, Nat.le_of_ble_eq_true rfl⟩ (fun v w_ H locs hp hW => ?_)
  obtain ⟨rfl, hU1, hN1⟩ := hp
  have hU : jU w w_ [6] := jU.mono hU1 (by decide)
  have hDa_ : w_[6]? = some (ad 6, .inl (cy 1, 1024, .inr (.inl (lf (upB pr 0 1))))) := hN1
  clear hU1 hN1
  refine W.eq (g2 := F0 m 9 ls []) rfl ?_
  refine lv_iconst (v := nI 0) S.1 S.2.1 dX11_multiplyWeights_9 (by decide) ?_
  refine lv_istore_n (lv' := [(1, .int (nI 0)), (0, .ref (ad 0))]) S.1 S.2.1 dX11_multiplyWeights_10 rfl hl (by decide) rfl (fun ls hl => ?_)
  have hDa_ : w_[6]? = some (ad 6, .inl (cy 1, 1024, .inr (.inl (lf (mixN (2 ^ 0) (fun d => prodN wf wt d 0) pr))))) := by
    rw [prd_0]; exact hDa_
  have L11 : ∀ (k : Nat) (v : Nat), n - v = k → (v ≤ n) → ∀ (w_ : va_W), jU w w_ [6] → (w_[6]? = some (ad 6, .inl (cy 1, 1024, .inr (.inl (lf (mixN (2 ^ v) (fun d => prodN wf wt d v) pr)))))) → ∀ (H : Heap) (locs : List Loc) (ls : Array Slot), jW D A s.heap w_ H locs → lv_has ls 10 [(0, .ref (ad 0)), (1, .int (nI v))] → W p l e (jR 1 0 0) s m args below meth c H locs 0 0 Q (F0 m 11 ls []) := by
    intro k
    induction k using Nat.strongRecOn with
    | ind k ih11 =>
    intro v hk hv w_ hU hDa_ H locs ls hW hl
    subst hk
    refine lv_iload_n S.1 S.2.1 dX11_multiplyWeights_11 rfl (lv_at hl 1 rfl) ?_
    refine lv_aload_n S.1 S.2.1 dX11_multiplyWeights_12 rfl (lv_at hl 0 rfl) ?_
    refine j_get (ci := 10) (C := RX11) (T := TX11) (N := 15) (v := .int (nI n)) S (fun w h => List.mem_cons_of_mem _ (inG11 w h)) hK hW (hU.get hO (by decide)) rfl 0 (by decide) (List.mem_cons_of_mem _ wfl_X11_77) (fun _ h9 => h9) rfl dX11_multiplyWeights_13 ?_
    refine jn_cmp_ge (tgt := 105) S (by omega) (by omega) dX11_multiplyWeights_16 (by decide) (fun c_16 => ?_) (fun c_16 => ?_)
    · subst hQ
      refine j_vret (u := w_) S hr hK hW dX11_multiplyWeights_105 ⟨by decide, by decide⟩ ?_
      have ev : v = n := by omega
      exact ⟨rfl, hU, by rw [ev] at hDa_; exact hDa_⟩
    · have hp2 : 2 ^ (v + 1) ≤ 1024 := Nat.pow_le_pow_right (by decide) (show v + 1 ≤ 10 by omega)
      have hp3 : 2 ^ (v + 1) = 2 ^ v + 2 ^ v := by rw [Nat.pow_succ]; omega
      have hpt := Nat.two_pow_pos v
      have hw1 := hwf v
      have hw2 := hwt v
      refine lv_iconst (v := nI 1) S.1 S.2.1 dX11_multiplyWeights_19 (by decide) ?_
      refine lv_iload_n S.1 S.2.1 dX11_multiplyWeights_20 rfl (lv_at hl 1 rfl) ?_
      refine jn_shl1 S (by omega) dX11_multiplyWeights_21 ?_
      refine lv_istore_n (lv' := [(2, .int (nI (2 ^ v))), (0, .ref (ad 0)), (1, .int (nI v))]) S.1 S.2.1 dX11_multiplyWeights_22 rfl hl (by decide) rfl (fun ls hl => ?_)
      refine lv_aload_n S.1 S.2.1 dX11_multiplyWeights_23 rfl (lv_at hl 1 rfl) ?_
      refine j_get (ci := 10) (C := RX11) (T := TX11) (N := 15) (v := .ref (ad 1)) S (fun w h => List.mem_cons_of_mem _ (inG11 w h)) hK hW (hU.get hO (by decide)) rfl 1 (by decide) (List.mem_cons_of_mem _ wfl_X11_14) (fun _ h9 => h9) rfl dX11_multiplyWeights_24 ?_
      refine lv_iload_n S.1 S.2.1 dX11_multiplyWeights_27 rfl (lv_at hl 2 rfl) ?_
      refine j_callV (k := 1) (ci := 5) (q := (RX6, TX6, 1)) (As := [.int (nI v)]) (rest := []) S hK hA hW (c_X6_atN l D cy 1 2 (ad 1) (ad 2) 10 v wf (hU.get hFo (by decide)) (hU.get hFa (by decide))   (by omega) (by decide)) (jgo wm_X11_106) yk_X6_at (hU.get hFo (by decide)) rfl rfl ⟨⟨rfl, rfl⟩, by decide, by decide⟩ rfl hl.1 rfl (Nat.le_of_ble_eq_true rfl) dX11_multiplyWeights_28 ⟨Nat.le_of_ble_eq_true rfl, Nat.le_of_ble_eq_true rfl⟩ (fun v u H locs hp hW => ?_)
      obtain ⟨rfl, rfl⟩ := hp
      refine W.eq (g2 := F0 m 31 ls [.int (nI (wf v))]) rfl ?_
      refine lv_i2l (v := lN (wf v)) S.1 S.2.1 dX11_multiplyWeights_31 (nI_l (by omega)) ?_
      refine lv_lstore_n (lv' := [(3, .long (lN (wf v))), (2, .int (nI (2 ^ v))), (0, .ref (ad 0)), (1, .int (nI v))]) S.1 S.2.1 dX11_multiplyWeights_32 rfl hl (by decide) rfl (fun ls hl => ?_)
      refine lv_aload_n S.1 S.2.1 dX11_multiplyWeights_33 rfl (lv_at hl 2 rfl) ?_
      refine j_get (ci := 10) (C := RX11) (T := TX11) (N := 15) (v := .ref (ad 3)) S (fun w h => List.mem_cons_of_mem _ (inG11 w h)) hK hW (hU.get hO (by decide)) rfl 2 (by decide) (List.mem_cons_of_mem _ wfl_X11_18) (fun _ h9 => h9) rfl dX11_multiplyWeights_34 ?_
      refine lv_iload_n S.1 S.2.1 dX11_multiplyWeights_37 rfl (lv_at hl 3 rfl) ?_
      refine j_callV (k := 3) (ci := 5) (q := (RX6, TX6, 1)) (As := [.int (nI v)]) (rest := []) S hK hA hW (c_X6_atN l D cy 3 4 (ad 3) (ad 4) 10 v wt (hU.get hGo (by decide)) (hU.get hGa (by decide))   (by omega) (by decide)) (jgo wm_X11_106) yk_X6_at (hU.get hGo (by decide)) rfl rfl ⟨⟨rfl, rfl⟩, by decide, by decide⟩ rfl hl.1 rfl (Nat.le_of_ble_eq_true rfl) dX11_multiplyWeights_38 ⟨Nat.le_of_ble_eq_true rfl, Nat.le_of_ble_eq_true rfl⟩ (fun v u H locs hp hW => ?_)
      obtain ⟨rfl, rfl⟩ := hp
      refine W.eq (g2 := F0 m 41 ls [.int (nI (wt v))]) rfl ?_
      refine lv_i2l (v := lN (wt v)) S.1 S.2.1 dX11_multiplyWeights_41 (nI_l (by omega)) ?_
      refine lv_lstore (lv' := [(5, .long (lN (wt v))), (3, .long (lN (wf v))), (2, .int (nI (2 ^ v))), (0, .ref (ad 0)), (1, .int (nI v))]) S.1 S.2.1 dX11_multiplyWeights_42 hl (by decide) rfl (fun ls hl => ?_)
      refine lv_iconst (v := nI 0) S.1 S.2.1 dX11_multiplyWeights_44 (by decide) ?_
      refine lv_istore (lv' := [(7, .int (nI 0)), (5, .long (lN (wt v))), (3, .long (lN (wf v))), (2, .int (nI (2 ^ v))), (0, .ref (ad 0)), (1, .int (nI v))]) S.1 S.2.1 dX11_multiplyWeights_45 hl (by decide) rfl (fun ls hl => ?_)
      have hDa_ : w_[6]? = some (ad 6, .inl (cy 1, 1024, .inr (.inl (lf (mulF wf wt pr v 0))))) := by
        rw [mulF_0]; exact hDa_
      have L47 : ∀ (k : Nat) (i : Nat), 2 ^ v - i = k → (i ≤ 2 ^ v) → ∀ (w_ : va_W), jU w w_ [6] → (w_[6]? = some (ad 6, .inl (cy 1, 1024, .inr (.inl (lf (mulF wf wt pr v i)))))) → ∀ (H : Heap) (locs : List Loc) (ls : Array Slot), jW D A s.heap w_ H locs → lv_has ls 10 [(0, .ref (ad 0)), (1, .int (nI v)), (2, .int (nI (2 ^ v))), (3, .long (lN (wf v))), (5, .long (lN (wt v))), (7, .int (nI i))] → W p l e (jR 1 0 0) s m args below meth c H locs 0 0 Q (F0 m 47 ls []) := by
        intro k
        induction k using Nat.strongRecOn with
        | ind k ih47 =>
        intro i hk hi w_ hU hDa_ H locs ls hW hl
        subst hk
        refine lv_iload S.1 S.2.1 dX11_multiplyWeights_47 (lv_at hl 5 rfl) ?_
        refine lv_iload_n S.1 S.2.1 dX11_multiplyWeights_49 rfl (lv_at hl 2 rfl) ?_
        refine jn_cmp_ge (tgt := 99) S (by omega) (by omega) dX11_multiplyWeights_50 (by decide) (fun c_50 => ?_) (fun c_50 => ?_)
        · have ei : i = 2 ^ v := by omega
          have hDa_ : w_[6]? = some (ad 6, .inl (cy 1, 1024, .inr (.inl (lf (mixN (2 ^ (v + 1)) (fun d => prodN wf wt d (v + 1)) pr))))) := by
            rw [ei] at hDa_; rw [← mulF_e]; exact hDa_
          refine lv_iinc (v := nI (v + 1)) (lv' := [(1, .int (nI (v + 1))), (0, .ref (ad 0)), (2, .int (nI (2 ^ v))), (3, .long (lN (wf v))), (5, .long (lN (wt v))), (7, .int (nI i))]) S.1 S.2.1 dX11_multiplyWeights_99 hl (k := 1) rfl (nI_add _ 1) (by decide) rfl (fun ls hl => ?_)
          refine lv_goto (tgt := 11) S.1 S.2.1 dX11_multiplyWeights_102 (by decide) ?_
          exact ih11 _ (by omega) (v + 1) rfl (by omega) w_ hU hDa_ H locs ls hW (lv_sub hl [1, 0] rfl)
        · refine lv_aload_n S.1 S.2.1 dX11_multiplyWeights_53 rfl (lv_at hl 0 rfl) ?_
          refine j_get (ci := 10) (C := RX11) (T := TX11) (N := 15) (v := .ref (ad 5)) S (fun w h => List.mem_cons_of_mem _ (inG11 w h)) hK hW (hU.get hO (by decide)) rfl 3 (by decide) (List.mem_cons_of_mem _ wfl_X11_24) (fun _ h9 => h9) rfl dX11_multiplyWeights_54 ?_
          refine lv_iload S.1 S.2.1 dX11_multiplyWeights_57 (lv_at hl 5 rfl) ?_
          refine j_callV (k := 5) (ci := 6) (q := (RX7, TX7, 1)) (As := [.int (nI i)]) (rest := []) S hK hA hW (c_X7_atN l D cy 5 6 (ad 5) (ad 6) 1024 i (mulF wf wt pr v i) (hU.get hDo (by decide)) hDa_   (by omega) (by decide)) (jgo wm_X11_245) yk_X7_at (hU.get hDo (by decide)) rfl rfl ⟨⟨rfl, rfl⟩, by decide, by decide⟩ rfl hl.1 rfl (Nat.le_of_ble_eq_true rfl) dX11_multiplyWeights_59 ⟨Nat.le_of_ble_eq_true rfl, Nat.le_of_ble_eq_true rfl⟩ (fun v u H locs hp hW => ?_)
          obtain ⟨rfl, rfl⟩ := hp
          refine W.eq (g2 := F0 m 62 ls [.long (lN ((mulF wf wt pr v i) i))]) rfl ?_
          refine lv_topl_to (y := lN (prodN wf wt i v)) (by rw [mulF_r (by omega)]) ?_
          refine lv_lstore (lv' := [(8, .long (lN (prodN wf wt i v))), (0, .ref (ad 0)), (1, .int (nI v)), (2, .int (nI (2 ^ v))), (3, .long (lN (wf v))), (5, .long (lN (wt v))), (7, .int (nI i))]) S.1 S.2.1 dX11_multiplyWeights_62 hl (by decide) rfl (fun ls hl => ?_)
          refine lv_aload_n S.1 S.2.1 dX11_multiplyWeights_64 rfl (lv_at hl 1 rfl) ?_
          refine j_get (ci := 10) (C := RX11) (T := TX11) (N := 15) (v := .ref (ad 5)) S (fun w h => List.mem_cons_of_mem _ (inG11 w h)) hK hW (hU.get hO (by decide)) rfl 3 (by decide) (List.mem_cons_of_mem _ wfl_X11_24) (fun _ h9 => h9) rfl dX11_multiplyWeights_65 ?_
          refine lv_iload S.1 S.2.1 dX11_multiplyWeights_68 (lv_at hl 6 rfl) ?_
          refine lv_lload S.1 S.2.1 dX11_multiplyWeights_70 (lv_at hl 0 rfl) ?_
          refine lv_lload_n S.1 S.2.1 dX11_multiplyWeights_72 rfl (lv_at hl 4 rfl) ?_
          refine jnl_mul S dX11_multiplyWeights_73 ?_
          refine j_callV (k := 5) (ci := 6) (q := (RX7, TX7, 1)) (As := [.int (nI i), .long (lN ((prodN wf wt i v) * (wf v)))]) (rest := []) S hK hA hW (c_X7_putN l D cy 5 6 (ad 5) (ad 6) 1024 i (mulF wf wt pr v i) ((prodN wf wt i v) * (wf v)) (hU.get hDo (by decide)) hDa_   (by omega) (by decide)) (jgo wm_X11_73) yk_X7_put (hU.get hDo (by decide)) rfl rfl ⟨⟨rfl, rfl⟩, by decide, by decide⟩ rfl hl.1 rfl (Nat.le_of_ble_eq_true rfl) dX11_multiplyWeights_74 ⟨Nat.le_of_ble_eq_true rfl, Nat.le_of_ble_eq_true rfl⟩ (fun v w_ H locs hp hW => ?_)
          obtain ⟨rfl, hU1, hN1⟩ := hp
          have hU := hU.then hU1 (by decide)
          have hDa_ : w_[6]? = some (ad 6, .inl (cy 1, 1024, .inr (.inl (lf (upB (mulF wf wt pr v i) i ((prodN wf wt i v) * (wf v))))))) := hN1
          clear hU1 hN1
          refine W.eq (g2 := F0 m 77 ls []) rfl ?_
          refine lv_aload_n S.1 S.2.1 dX11_multiplyWeights_77 rfl (lv_at hl 1 rfl) ?_
          refine j_get (ci := 10) (C := RX11) (T := TX11) (N := 15) (v := .ref (ad 5)) S (fun w h => List.mem_cons_of_mem _ (inG11 w h)) hK hW (hU.get hO (by decide)) rfl 3 (by decide) (List.mem_cons_of_mem _ wfl_X11_24) (fun _ h9 => h9) rfl dX11_multiplyWeights_78 ?_
          refine lv_iload S.1 S.2.1 dX11_multiplyWeights_81 (lv_at hl 6 rfl) ?_
          refine lv_iload_n S.1 S.2.1 dX11_multiplyWeights_83 rfl (lv_at hl 3 rfl) ?_
          refine jn_or S dX11_multiplyWeights_84 ?_
          refine lv_topi_to (y := nI (2 ^ v + i)) (congrArg nI (by rw [or_pow_add (by omega), Nat.add_comm])) ?_
          refine lv_lload S.1 S.2.1 dX11_multiplyWeights_85 (lv_at hl 0 rfl) ?_
          refine lv_lload S.1 S.2.1 dX11_multiplyWeights_87 (lv_at hl 5 rfl) ?_
          refine jnl_mul S dX11_multiplyWeights_89 ?_
          refine j_callV (k := 5) (ci := 6) (q := (RX7, TX7, 1)) (As := [.int (nI (2 ^ v + i)), .long (lN ((prodN wf wt i v) * (wt v)))]) (rest := []) S hK hA hW (c_X7_putN l D cy 5 6 (ad 5) (ad 6) 1024 (2 ^ v + i) (upB (mulF wf wt pr v i) i ((prodN wf wt i v) * (wf v))) ((prodN wf wt i v) * (wt v)) (hU.get hDo (by decide)) hDa_   (by omega) (by decide)) (jgo wm_X11_73) yk_X7_put (hU.get hDo (by decide)) rfl rfl ⟨⟨rfl, rfl⟩, by decide, by decide⟩ rfl hl.1 rfl (Nat.le_of_ble_eq_true rfl) dX11_multiplyWeights_90 ⟨Nat.le_of_ble_eq_true rfl, Nat.le_of_ble_eq_true rfl⟩ (fun v w_ H locs hp hW => ?_)
          obtain ⟨rfl, hU1, hN1⟩ := hp
          have hU := hU.then hU1 (by decide)
          have hDa_ : w_[6]? = some (ad 6, .inl (cy 1, 1024, .inr (.inl (lf (upB (upB (mulF wf wt pr v i) i ((prodN wf wt i v) * (wf v))) (2 ^ v + i) ((prodN wf wt i v) * (wt v))))))) := hN1
          clear hU1 hN1
          refine W.eq (g2 := F0 m 93 ls []) rfl ?_
          have hDa_ : w_[6]? = some (ad 6, .inl (cy 1, 1024, .inr (.inl (lf (mulF wf wt pr v (i + 1)))))) := by
            rw [← mulF_s (by omega)]; exact hDa_
          refine lv_iinc (v := nI (i + 1)) (lv' := [(7, .int (nI (i + 1))), (8, .long (lN (prodN wf wt i v))), (0, .ref (ad 0)), (1, .int (nI v)), (2, .int (nI (2 ^ v))), (3, .long (lN (wf v))), (5, .long (lN (wt v)))]) S.1 S.2.1 dX11_multiplyWeights_93 hl (k := 6) rfl (nI_add _ 1) (by decide) rfl (fun ls hl => ?_)
          refine lv_goto (tgt := 47) S.1 S.2.1 dX11_multiplyWeights_96 (by decide) ?_
          exact ih47 _ (by omega) (i + 1) rfl (by omega) w_ hU hDa_ H locs ls hW (lv_sub hl [2, 3, 4, 5, 6, 0] rfl)
      exact L47 _ 0 rfl (Nat.zero_le _) w_ hU hDa_ H locs ls hW (lv_sub hl [4, 5, 3, 2, 1, 0] rfl)
  exact L11 _ 0 rfl (Nat.zero_le _) w_ hU hDa_ H locs ls hW (lv_sub hl [1, 0] rfl)
/-- freshModels: the set of all models -/
theorem c_X11_freshModels (l : Launch) (D : va_G) (cy : Nat → ClassId) {w : va_W} (ad : Nat → Nat) (n sd se : Nat) (fr : Bool) (nc lv : Nat) (tf : Nat → Option Nat) (cp ca : Nat → Nat) (cs : Nat → CN) (mv : Int32) (MX : Nat → Bool) (hO : w[0]? = some (ad 0, .inr (10, [.int (nI n), .ref (ad 1), .ref (ad 3), .ref (ad 5), .int (nI sd), .int (nI se), .ref (ad 7), .ref (ad 9), .ref (ad 11), .ref (ad 20), .int (bI fr), .ref (ad 23), .ref (ad 26), .ref (ad 31), .ref (ad 42)]))) (hMo : w[20]? = some (ad 20, .inr (0, [.ref (ad 21), .int mv]))) (hMl : w[21]? = some (ad 21, .inr (6, [.ref (ad 22)]))) (hMa : w[22]? = some (ad 22, .inl (cy 1, 16, .inr (.inl (wd MX))))) (hC : w[9]? = some (ad 9, .inr (4, [.ref (ad 10), .int (nI nc), .int (nI lv)]))) (hT : w[10]? = some (ad 10, .inl (cy 5, 20, .inr (.inr (.inr (.inr tf)))))) (hcon : conOK w nc tf cp ca cs) (hn : n ≤ 10) (hsd : sd < 1024) (hse : se < 1024) (hlv : lv < 2 ^ 20) (hfr : fr = true → mv = nI n ∧ MX = mdl n sd se nc cs lv) : jM l yX11_freshModels (jws yX11_freshModels cX11_freshModels 3 (some (.object "Countfall$Assignments"))) (jR 4 0 0) D cy w [.ref (ad 0)] 0 0 (fun vv uu => vv = some (.ref (ad 20)) ∧ jU w uu [0, 20, 22] ∧ uu[0]? = some (ad 0, .inr (10, [.int (nI n), .ref (ad 1), .ref (ad 3), .ref (ad 5), .int (nI sd), .int (nI se), .ref (ad 7), .ref (ad 9), .ref (ad 11), .ref (ad 20), .int (bI true), .ref (ad 23), .ref (ad 26), .ref (ad 31), .ref (ad 42)])) ∧ uu[20]? = some (ad 20, .inr (0, [.ref (ad 21), .int (nI n)])) ∧ uu[22]? = some (ad 22, .inl (cy 1, 16, .inr (.inl (wd (mdl n sd se nc cs lv)))))) := by
  have hp2 := two_pow10 hn
  refine j_of (by decide) rfl (Nat.le_of_ble_eq_true rfl) ?_
  intro p e s m args below meth c A ls Q hQ S hr hK hA H locs hW hl
  have hl : lv_has ls 3 [(0, .ref (ad 0))] := hl
  refine lv_aload_n S.1 S.2.1 dX11_freshModels_0 rfl (lv_at hl 0 rfl) ?_
  refine j_get (ci := 10) (C := RX11) (T := TX11) (N := 15) (v := .int (bI fr)) S (fun w h => List.mem_cons_of_mem _ (inG11 w h)) hK hW hO rfl 10 (by decide) (List.mem_cons_of_mem _ wfl_X11_94) (fun _ h9 => h9) rfl dX11_freshModels_1 ?_
  refine jb_if_ne (tgt := 80) S dX11_freshModels_4 (by decide) (fun c_4 => ?_) (fun c_4 => ?_)
  · refine lv_aload_n S.1 S.2.1 dX11_freshModels_80 rfl (lv_at hl 0 rfl) ?_
    refine j_get (ci := 10) (C := RX11) (T := TX11) (N := 15) (v := .ref (ad 20)) S (fun w h => List.mem_cons_of_mem _ (inG11 w h)) hK hW hO rfl 9 (by decide) (List.mem_cons_of_mem _ wfl_X11_48) (fun _ h9 => h9) rfl dX11_freshModels_81 ?_
    subst hQ
    exact j_aret (u := w) S hr (Or.inr ⟨_, rfl⟩) hK hW dX11_freshModels_84 ⟨by decide, by decide⟩ (by obtain ⟨h1, h2⟩ := hfr c_4; subst h1; subst h2; subst c_4; exact ⟨rfl, jU.rf, hO, hMo, hMa⟩)
  · clear hfr
    refine lv_aload_n S.1 S.2.1 dX11_freshModels_7 rfl (lv_at hl 0 rfl) ?_
    refine j_get (ci := 10) (C := RX11) (T := TX11) (N := 15) (v := .ref (ad 20)) S (fun w h => List.mem_cons_of_mem _ (inG11 w h)) hK hW hO rfl 9 (by decide) (List.mem_cons_of_mem _ wfl_X11_48) (fun _ h9 => h9) rfl dX11_freshModels_8 ?_
    refine lv_aload_n S.1 S.2.1 dX11_freshModels_11 rfl (lv_at hl 0 rfl) ?_
    refine j_get (ci := 10) (C := RX11) (T := TX11) (N := 15) (v := .int (nI n)) S (fun w h => List.mem_cons_of_mem _ (inG11 w h)) hK hW hO rfl 0 (by decide) (List.mem_cons_of_mem _ wfl_X11_77) (fun _ h9 => h9) rfl dX11_freshModels_12 ?_
    refine j_callV (k := 20) (ci := 0) (q := (RX0, TX0, 2)) (As := [.int (nI n)]) (rest := []) S hK hA hW (c_X0_restart l D cy 20 21 22 (ad 20) (ad 21) (ad 22) mv MX (nI n) hMo hMl hMa   ) (jgo wm_X11_218) yk_X0_restart hMo rfl rfl ⟨⟨rfl, rfl⟩, by decide, by decide⟩ rfl hl.1 rfl (Nat.le_of_ble_eq_true rfl) dX11_freshModels_15 ⟨Nat.le_of_ble_eq_true rfl, Nat.le_of_ble_eq_true rfl⟩ (fun v w_ H locs hp hW => ?_)
    obtain ⟨rfl, hU1, hN1, hN2⟩ := hp
    have hU : jU w w_ [0, 20, 22] := jU.mono hU1 (by decide)
    have hO_ := hU1.get hO (by decide)
    have hMo_ : w_[20]? = some (ad 20, .inr (0, [.ref (ad 21), .int (nI n)])) := hN1
    have hMa_ : w_[22]? = some (ad 22, .inl (cy 1, 16, .inr (.inl (wd (fun _ => false))))) := hN2
    clear hU1 hN1 hN2
    refine W.eq (g2 := F0 m 18 ls []) rfl ?_
    refine lv_aload_n S.1 S.2.1 dX11_freshModels_18 rfl (lv_at hl 0 rfl) ?_
    refine j_get (ci := 10) (C := RX11) (T := TX11) (N := 15) (v := .ref (ad 9)) S (fun w h => List.mem_cons_of_mem _ (inG11 w h)) hK hW hO_ rfl 7 (by decide) (List.mem_cons_of_mem _ wfl_X11_34) (fun _ h9 => h9) rfl dX11_freshModels_19 ?_
    refine j_callV (k := 9) (ci := 4) (q := (RX5, TX5, 3)) (As := []) (rest := []) S hK hA hW (c_X5_live l D cy ad nc lv tf (hU.get hC (by decide)) (hU.get hT (by decide))   ) (jgo wm_X11_153) yk_X5_live (hU.get hC (by decide)) rfl rfl ⟨⟨rfl, rfl⟩, by decide, by decide⟩ rfl hl.1 rfl (Nat.le_of_ble_eq_true rfl) dX11_freshModels_22 ⟨Nat.le_of_ble_eq_true rfl, Nat.le_of_ble_eq_true rfl⟩ (fun v u H locs hp hW => ?_)
    obtain ⟨rfl, rfl⟩ := hp
    refine W.eq (g2 := F0 m 25 ls [.int (nI lv)]) rfl ?_
    refine lv_istore_n (lv' := [(1, .int (nI lv)), (0, .ref (ad 0))]) S.1 S.2.1 dX11_freshModels_25 rfl hl (by decide) rfl (fun ls hl => ?_)
    refine lv_iconst (v := nI 0) S.1 S.2.1 dX11_freshModels_26 (by decide) ?_
    refine lv_istore_n (lv' := [(2, .int (nI 0)), (1, .int (nI lv)), (0, .ref (ad 0))]) S.1 S.2.1 dX11_freshModels_27 rfl hl (by decide) rfl (fun ls hl => ?_)
    have hMa_ : w_[22]? = some (ad 22, .inl (cy 1, 16, .inr (.inl (wd (fun d => decide (d < 0) && mdc sd se nc cs lv d))))) := by
      rw [dec_0]; exact hMa_
    have L28 : ∀ (k : Nat) (i : Nat), 2 ^ n - i = k → (i ≤ 2 ^ n) → ∀ (w_ : va_W), jU w w_ [0, 20, 22] → (w_[0]? = some (ad 0, .inr (10, [.int (nI n), .ref (ad 1), .ref (ad 3), .ref (ad 5), .int (nI sd), .int (nI se), .ref (ad 7), .ref (ad 9), .ref (ad 11), .ref (ad 20), .int (bI fr), .ref (ad 23), .ref (ad 26), .ref (ad 31), .ref (ad 42)]))) → (w_[20]? = some (ad 20, .inr (0, [.ref (ad 21), .int (nI n)]))) → (w_[22]? = some (ad 22, .inl (cy 1, 16, .inr (.inl (wd (fun d => decide (d < i) && mdc sd se nc cs lv d)))))) → ∀ (H : Heap) (locs : List Loc) (ls : Array Slot), jW D A s.heap w_ H locs → lv_has ls 3 [(0, .ref (ad 0)), (1, .int (nI lv)), (2, .int (nI i))] → W p l e (jR 4 0 0) s m args below meth c H locs 0 0 Q (F0 m 28 ls []) := by
      intro k
      induction k using Nat.strongRecOn with
      | ind k ih28 =>
      intro i hk hi w_ hU hO_ hMo_ hMa_ H locs ls hW hl
      subst hk
      refine lv_iload_n S.1 S.2.1 dX11_freshModels_28 rfl (lv_at hl 2 rfl) ?_
      refine lv_aload_n S.1 S.2.1 dX11_freshModels_29 rfl (lv_at hl 0 rfl) ?_
      refine j_callV (k := 0) (ci := 10) (q := (RX11, TX11, 15)) (As := []) (rest := [.int (nI i)]) S hK hA hW (c_X11_countAssignments l D cy ad n sd se fr hO_   (by omega)) (jgo wm_X11_221) yk_X11_countAssignments hO_ rfl rfl ⟨⟨rfl, rfl⟩, by decide, by decide⟩ rfl hl.1 rfl (Nat.le_of_ble_eq_true rfl) dX11_freshModels_30 ⟨Nat.le_of_ble_eq_true rfl, Nat.le_of_ble_eq_true rfl⟩ (fun v u H locs hp hW => ?_)
      obtain ⟨rfl, rfl⟩ := hp
      refine W.eq (g2 := F0 m 33 ls [.int (nI (2 ^ n)), .int (nI i)]) rfl ?_
      refine jn_cmp_ge (tgt := 75) S (by omega) (by omega) dX11_freshModels_33 (by decide) (fun c_33 => ?_) (fun c_33 => ?_)
      · have ei : i = 2 ^ n := by omega
        have hMa_ : w_[22]? = some (ad 22, .inl (cy 1, 16, .inr (.inl (wd (mdl n sd se nc cs lv))))) := by
          rw [ei] at hMa_; exact hMa_
        refine lv_aload_n S.1 S.2.1 dX11_freshModels_75 rfl (lv_at hl 0 rfl) ?_
        refine lv_iconst (v := nI 1) S.1 S.2.1 dX11_freshModels_76 (by decide) ?_
        refine j_put (ci := 10) (C := RX11) (T := TX11) (N := 15) (ty := .boolean) S (fun w h => List.mem_cons_of_mem _ (inG11 w h)) tyX11 tyX11_ok nmX11 hK hW hO_ rfl 10 (by decide) (List.mem_cons_of_mem _ wfl_X11_94) (fun _ h9 => h9) rfl (by decide +kernel) (rfl) (rfl) (Nat.le_of_ble_eq_true rfl) dX11_freshModels_77 (fun H locs w_ hU1 hN1 hW => ?_)
        have hU := hU.then hU1 (by decide)
        have hMo_ := hU1.get hMo_ (by decide)
        have hMa_ := hU1.get hMa_ (by decide)
        have hO_ : w_[0]? = some (ad 0, .inr (10, [.int (nI n), .ref (ad 1), .ref (ad 3), .ref (ad 5), .int (nI sd), .int (nI se), .ref (ad 7), .ref (ad 9), .ref (ad 11), .ref (ad 20), .int (nI 1), .ref (ad 23), .ref (ad 26), .ref (ad 31), .ref (ad 42)])) := hN1
        clear hU1 hN1
        refine lv_aload_n S.1 S.2.1 dX11_freshModels_80 rfl (lv_at hl 0 rfl) ?_
        refine j_get (ci := 10) (C := RX11) (T := TX11) (N := 15) (v := .ref (ad 20)) S (fun w h => List.mem_cons_of_mem _ (inG11 w h)) hK hW hO_ rfl 9 (by decide) (List.mem_cons_of_mem _ wfl_X11_48) (fun _ h9 => h9) rfl dX11_freshModels_81 ?_
        subst hQ
        exact j_aret (u := w_) S hr (Or.inr ⟨_, rfl⟩) hK hW dX11_freshModels_84 ⟨by decide, by decide⟩ (⟨rfl, hU, hO_, hMo_, hMa_⟩)
      · refine lv_iload_n S.1 S.2.1 dX11_freshModels_36 rfl (lv_at hl 2 rfl) ?_
        refine lv_aload_n S.1 S.2.1 dX11_freshModels_37 rfl (lv_at hl 0 rfl) ?_
        refine j_get (ci := 10) (C := RX11) (T := TX11) (N := 15) (v := .int (nI sd)) S (fun w h => List.mem_cons_of_mem _ (inG11 w h)) hK hW hO_ rfl 4 (by decide) (List.mem_cons_of_mem _ wfl_X11_176) (fun _ h9 => h9) rfl dX11_freshModels_38 ?_
        refine jn_and S dX11_freshModels_41 ?_
        have hia : i &&& sd < 1024 := and_lt10 hsd
        refine lv_aload_n S.1 S.2.1 dX11_freshModels_42 rfl (lv_at hl 0 rfl) ?_
        refine j_get (ci := 10) (C := RX11) (T := TX11) (N := 15) (v := .int (nI se)) S (fun w h => List.mem_cons_of_mem _ (inG11 w h)) hK hW hO_ rfl 5 (by decide) (List.mem_cons_of_mem _ wfl_X11_173) (fun _ h9 => h9) rfl dX11_freshModels_43 ?_
        refine jn_cmp_ne (tgt := 69) S (by omega) (by omega) dX11_freshModels_46 (by decide) (fun c_46 => ?_) (fun c_46 => ?_)
        · have hMa_ : w_[22]? = some (ad 22, .inl (cy 1, 16, .inr (.inl (wd (fun d => decide (d < i + 1) && mdc sd se nc cs lv d))))) := by
            rw [dec_skip (by rw [mdc_at, decide_eq_false c_46]; rfl)]; exact hMa_
          refine lv_iinc (v := nI (i + 1)) (lv' := [(2, .int (nI (i + 1))), (0, .ref (ad 0)), (1, .int (nI lv))]) S.1 S.2.1 dX11_freshModels_69 hl (k := 2) rfl (nI_add _ 1) (by decide) rfl (fun ls hl => ?_)
          refine lv_goto (tgt := 28) S.1 S.2.1 dX11_freshModels_72 (by decide) ?_
          exact ih28 _ (by omega) (i + 1) rfl (by omega) w_ hU hO_ hMo_ hMa_ H locs ls hW (lv_sub hl [1, 2, 0] rfl)
        · refine lv_aload_n S.1 S.2.1 dX11_freshModels_49 rfl (lv_at hl 0 rfl) ?_
          refine j_get (ci := 10) (C := RX11) (T := TX11) (N := 15) (v := .ref (ad 9)) S (fun w h => List.mem_cons_of_mem _ (inG11 w h)) hK hW hO_ rfl 7 (by decide) (List.mem_cons_of_mem _ wfl_X11_34) (fun _ h9 => h9) rfl dX11_freshModels_50 ?_
          refine lv_iload_n S.1 S.2.1 dX11_freshModels_53 rfl (lv_at hl 1 rfl) ?_
          refine lv_iload_n S.1 S.2.1 dX11_freshModels_54 rfl (lv_at hl 2 rfl) ?_
          refine j_callV (k := 9) (ci := 4) (q := (RX5, TX5, 3)) (As := [.int (nI lv), .int (nI i)]) (rest := []) S hK hA hW (c_X5_areMet l D cy ad nc lv tf cp ca cs lv i (hU.get hC (by decide)) (hU.get hT (by decide)) (hcon.kept hU (by decide))  (hlv) (by omega)) (jgo wm_X11_188) yk_X5_areMet (hU.get hC (by decide)) rfl rfl ⟨⟨rfl, rfl⟩, by decide, by decide⟩ rfl hl.1 rfl (Nat.le_of_ble_eq_true rfl) dX11_freshModels_55 ⟨Nat.le_of_ble_eq_true rfl, Nat.le_of_ble_eq_true rfl⟩ (fun v u H locs hp hW => ?_)
          obtain ⟨rfl, rfl⟩ := hp
          refine W.eq (g2 := F0 m 58 ls [.int (bI (metN cs nc lv i))]) rfl ?_
          refine jb_if_eq (tgt := 69) S dX11_freshModels_58 (by decide) (fun c_58 => ?_) (fun c_58 => ?_)
          · have hMa_ : w_[22]? = some (ad 22, .inl (cy 1, 16, .inr (.inl (wd (fun d => decide (d < i + 1) && mdc sd se nc cs lv d))))) := by
              rw [dec_skip (by rw [mdc_at, c_58, Bool.and_false])]; exact hMa_
            refine lv_iinc (v := nI (i + 1)) (lv' := [(2, .int (nI (i + 1))), (0, .ref (ad 0)), (1, .int (nI lv))]) S.1 S.2.1 dX11_freshModels_69 hl (k := 2) rfl (nI_add _ 1) (by decide) rfl (fun ls hl => ?_)
            refine lv_goto (tgt := 28) S.1 S.2.1 dX11_freshModels_72 (by decide) ?_
            exact ih28 _ (by omega) (i + 1) rfl (by omega) w_ hU hO_ hMo_ hMa_ H locs ls hW (lv_sub hl [1, 2, 0] rfl)
          · refine lv_aload_n S.1 S.2.1 dX11_freshModels_61 rfl (lv_at hl 0 rfl) ?_
            refine j_get (ci := 10) (C := RX11) (T := TX11) (N := 15) (v := .ref (ad 20)) S (fun w h => List.mem_cons_of_mem _ (inG11 w h)) hK hW hO_ rfl 9 (by decide) (List.mem_cons_of_mem _ wfl_X11_48) (fun _ h9 => h9) rfl dX11_freshModels_62 ?_
            refine lv_iload_n S.1 S.2.1 dX11_freshModels_65 rfl (lv_at hl 2 rfl) ?_
            refine j_callV (k := 20) (ci := 0) (q := (RX0, TX0, 2)) (As := [.int (nI i)]) (rest := []) S hK hA hW (c_X0_add l D cy 20 21 22 (ad 20) (ad 21) (ad 22) (nI n) (fun d => decide (d < i) && mdc sd se nc cs lv d) i hMo_ (hU.get hMl (by decide)) hMa_   (by omega)) (jgo wm_X11_227) yk_X0_add hMo_ rfl rfl ⟨⟨rfl, rfl⟩, by decide, by decide⟩ rfl hl.1 rfl (Nat.le_of_ble_eq_true rfl) dX11_freshModels_66 ⟨Nat.le_of_ble_eq_true rfl, Nat.le_of_ble_eq_true rfl⟩ (fun v w_ H locs hp hW => ?_)
            obtain ⟨rfl, hU1, hN1⟩ := hp
            have hU := hU.then hU1 (by decide)
            have hO_ := hU1.get hO_ (by decide)
            have hMo_ := hU1.get hMo_ (by decide)
            have hMa_ : w_[22]? = some (ad 22, .inl (cy 1, 16, .inr (.inl (wd (upB (fun d => decide (d < i) && mdc sd se nc cs lv d) i true))))) := hN1
            clear hU1 hN1
            refine W.eq (g2 := F0 m 69 ls []) rfl ?_
            have hMa_ : w_[22]? = some (ad 22, .inl (cy 1, 16, .inr (.inl (wd (fun d => decide (d < i + 1) && mdc sd se nc cs lv d))))) := by
              rw [dec_add (by rw [mdc_at, decide_eq_true c_46, c_58]; rfl)]; exact hMa_
            refine lv_iinc (v := nI (i + 1)) (lv' := [(2, .int (nI (i + 1))), (0, .ref (ad 0)), (1, .int (nI lv))]) S.1 S.2.1 dX11_freshModels_69 hl (k := 2) rfl (nI_add _ 1) (by decide) rfl (fun ls hl => ?_)
            refine lv_goto (tgt := 28) S.1 S.2.1 dX11_freshModels_72 (by decide) ?_
            exact ih28 _ (by omega) (i + 1) rfl (by omega) w_ hU hO_ hMo_ hMa_ H locs ls hW (lv_sub hl [1, 2, 0] rfl)
    exact L28 _ 0 rfl (Nat.zero_le _) w_ hU hO_ hMo_ hMa_ H locs ls hW (lv_sub hl [2, 1, 0] rfl)
/-- weightWhere -/
theorem c_X11_weightWhere (l : Launch) (D : va_G) (cy : Nat → ClassId) {w : va_W} (ad : Nat → Nat) (n sd se : Nat) (fr : Bool) (nc lv : Nat) (tf : Nat → Option Nat) (cp ca : Nat → Nat) (cs : Nat → CN) (mv : Int32) (MX : Nat → Bool) (pr : Nat → Nat) (am th : Nat) (hO : w[0]? = some (ad 0, .inr (10, [.int (nI n), .ref (ad 1), .ref (ad 3), .ref (ad 5), .int (nI sd), .int (nI se), .ref (ad 7), .ref (ad 9), .ref (ad 11), .ref (ad 20), .int (bI fr), .ref (ad 23), .ref (ad 26), .ref (ad 31), .ref (ad 42)]))) (hMo : w[20]? = some (ad 20, .inr (0, [.ref (ad 21), .int mv]))) (hMl : w[21]? = some (ad 21, .inr (6, [.ref (ad 22)]))) (hMa : w[22]? = some (ad 22, .inl (cy 1, 16, .inr (.inl (wd MX))))) (hC : w[9]? = some (ad 9, .inr (4, [.ref (ad 10), .int (nI nc), .int (nI lv)]))) (hT : w[10]? = some (ad 10, .inl (cy 5, 20, .inr (.inr (.inr (.inr tf)))))) (hDo : w[5]? = some (ad 5, .inr (6, [.ref (ad 6)]))) (hDa : w[6]? = some (ad 6, .inl (cy 1, 1024, .inr (.inl (lf pr))))) (hcon : conOK w nc tf cp ca cs) (hn : n ≤ 10) (hsd : sd < 1024) (hse : se < 1024) (hlv : lv < 2 ^ 20) (hfr : fr = true → mv = nI n ∧ MX = mdl n sd se nc cs lv) (ham : am < 1024 ∧ th < 1024) : jM l yX11_weightWhere (jws yX11_weightWhere cX11_weightWhere 7 (some .long)) (jR 5 0 0) D cy w [.ref (ad 0), .int (nI am), .int (nI th)] 0 0 (fun vv uu => vv = some (.long (lN (sumI (fun d => decide (d &&& am = th) && mdl n sd se nc cs lv d) pr (2 ^ n)))) ∧ jU w uu [0, 20, 22] ∧ uu[0]? = some (ad 0, .inr (10, [.int (nI n), .ref (ad 1), .ref (ad 3), .ref (ad 5), .int (nI sd), .int (nI se), .ref (ad 7), .ref (ad 9), .ref (ad 11), .ref (ad 20), .int (bI true), .ref (ad 23), .ref (ad 26), .ref (ad 31), .ref (ad 42)])) ∧ uu[20]? = some (ad 20, .inr (0, [.ref (ad 21), .int (nI n)])) ∧ uu[22]? = some (ad 22, .inl (cy 1, 16, .inr (.inl (wd (mdl n sd se nc cs lv)))))) := by
  have hp2 := two_pow10 hn
  refine j_of (by decide) rfl (Nat.le_of_ble_eq_true rfl) ?_
  intro p e s m args below meth c A ls Q hQ S hr hK hA H locs hW hl
  have hl : lv_has ls 7 [(0, .ref (ad 0)), (1, .int (nI am)), (2, .int (nI th))] := hl
  refine lv_aload_n S.1 S.2.1 dX11_weightWhere_0 rfl (lv_at hl 0 rfl) ?_
  refine j_callV (k := 0) (ci := 10) (q := (RX11, TX11, 15)) (As := []) (rest := []) S hK hA hW (c_X11_freshModels l D cy ad n sd se fr nc lv tf cp ca cs mv MX hO hMo hMl hMa hC hT hcon  (by omega) (by omega) (by omega) (by omega) (by omega)) (jgo wm_X11_199) yk_X11_freshModels hO rfl rfl ⟨⟨rfl, rfl⟩, by decide, by decide⟩ rfl hl.1 rfl (Nat.le_of_ble_eq_true rfl) dX11_weightWhere_1 ⟨Nat.le_of_ble_eq_true rfl, Nat.le_of_ble_eq_true rfl⟩ (fun v w_ H locs hp hW => ?_)
  obtain ⟨rfl, hU1, hN1, hN2, hN3⟩ := hp
  have hU : jU w w_ [0, 20, 22] := jU.mono hU1 (by decide)
  have hO_ : w_[0]? = some (ad 0, .inr (10, [.int (nI n), .ref (ad 1), .ref (ad 3), .ref (ad 5), .int (nI sd), .int (nI se), .ref (ad 7), .ref (ad 9), .ref (ad 11), .ref (ad 20), .int (bI true), .ref (ad 23), .ref (ad 26), .ref (ad 31), .ref (ad 42)])) := hN1
  have hMo_ : w_[20]? = some (ad 20, .inr (0, [.ref (ad 21), .int (nI n)])) := hN2
  have hMa_ : w_[22]? = some (ad 22, .inl (cy 1, 16, .inr (.inl (wd (mdl n sd se nc cs lv))))) := hN3
  clear hU1 hN1 hN2 hN3
  refine W.eq (g2 := F0 m 4 ls [.ref (ad 20)]) rfl ?_
  refine lv_astore_n (lv' := [(3, .ref (ad 20)), (0, .ref (ad 0)), (1, .int (nI am)), (2, .int (nI th))]) S.1 S.2.1 dX11_weightWhere_4 rfl hl (by decide) rfl (fun ls hl => ?_)
  refine lv_lconst (v := lN 0) S.1 S.2.1 dX11_weightWhere_5 (by decide) ?_
  refine lv_lstore (lv' := [(4, .long (lN 0)), (3, .ref (ad 20)), (0, .ref (ad 0)), (1, .int (nI am)), (2, .int (nI th))]) S.1 S.2.1 dX11_weightWhere_6 hl (by decide) rfl (fun ls hl => ?_)
  refine lv_iconst (v := nI 0) S.1 S.2.1 dX11_weightWhere_8 (by decide) ?_
  refine lv_istore (lv' := [(6, .int (nI 0)), (4, .long (lN 0)), (3, .ref (ad 20)), (0, .ref (ad 0)), (1, .int (nI am)), (2, .int (nI th))]) S.1 S.2.1 dX11_weightWhere_9 hl (by decide) rfl (fun ls hl => ?_)
  have L11 : ∀ (k : Nat) (i : Nat), 2 ^ n - i = k → (i ≤ 2 ^ n) → ∀ (w_ : va_W), jU w w_ [0, 20, 22] → (w_[0]? = some (ad 0, .inr (10, [.int (nI n), .ref (ad 1), .ref (ad 3), .ref (ad 5), .int (nI sd), .int (nI se), .ref (ad 7), .ref (ad 9), .ref (ad 11), .ref (ad 20), .int (bI true), .ref (ad 23), .ref (ad 26), .ref (ad 31), .ref (ad 42)]))) → (w_[20]? = some (ad 20, .inr (0, [.ref (ad 21), .int (nI n)]))) → (w_[22]? = some (ad 22, .inl (cy 1, 16, .inr (.inl (wd (mdl n sd se nc cs lv)))))) → ∀ (H : Heap) (locs : List Loc) (ls : Array Slot), jW D A s.heap w_ H locs → lv_has ls 7 [(0, .ref (ad 0)), (1, .int (nI am)), (2, .int (nI th)), (3, .ref (ad 20)), (4, .long (lN (sumI (fun d => decide (d &&& am = th) && mdl n sd se nc cs lv d) pr i))), (6, .int (nI i))] → W p l e (jR 5 0 0) s m args below meth c H locs 0 0 Q (F0 m 11 ls []) := by
    intro k
    induction k using Nat.strongRecOn with
    | ind k ih11 =>
    intro i hk hi w_ hU hO_ hMo_ hMa_ H locs ls hW hl
    subst hk
    refine lv_iload S.1 S.2.1 dX11_weightWhere_11 (lv_at hl 5 rfl) ?_
    refine lv_aload_n S.1 S.2.1 dX11_weightWhere_13 rfl (lv_at hl 0 rfl) ?_
    refine j_callV (k := 0) (ci := 10) (q := (RX11, TX11, 15)) (As := []) (rest := [.int (nI i)]) S hK hA hW (c_X11_countAssignments l D cy ad n sd se true hO_   (by omega)) (jgo wm_X11_221) yk_X11_countAssignments hO_ rfl rfl ⟨⟨rfl, rfl⟩, by decide, by decide⟩ rfl hl.1 rfl (Nat.le_of_ble_eq_true rfl) dX11_weightWhere_14 ⟨Nat.le_of_ble_eq_true rfl, Nat.le_of_ble_eq_true rfl⟩ (fun v u H locs hp hW => ?_)
    obtain ⟨rfl, rfl⟩ := hp
    refine W.eq (g2 := F0 m 17 ls [.int (nI (2 ^ n)), .int (nI i)]) rfl ?_
    refine jn_cmp_ge (tgt := 57) S (by omega) (by omega) dX11_weightWhere_17 (by decide) (fun c_17 => ?_) (fun c_17 => ?_)
    · refine lv_lload S.1 S.2.1 dX11_weightWhere_57 (lv_at hl 4 rfl) ?_
      subst hQ
      refine j_lret (u := w_) S hr hK hW dX11_weightWhere_59 ⟨by decide, by decide⟩ ?_
      have ei : i = 2 ^ n := by omega
      subst ei
      exact ⟨rfl, hU, hO_, hMo_, hMa_⟩
    · refine lv_iload S.1 S.2.1 dX11_weightWhere_20 (lv_at hl 5 rfl) ?_
      have hia : i &&& am < 1024 := and_lt10 ham.1
      refine lv_iload_n S.1 S.2.1 dX11_weightWhere_22 rfl (lv_at hl 1 rfl) ?_
      refine jn_and S dX11_weightWhere_23 ?_
      refine lv_iload_n S.1 S.2.1 dX11_weightWhere_24 rfl (lv_at hl 2 rfl) ?_
      refine jn_cmp_ne (tgt := 51) S (by omega) (by omega) dX11_weightWhere_25 (by decide) (fun c_25 => ?_) (fun c_25 => ?_)
      · have e0 : sumI (fun d => decide (d &&& am = th) && mdl n sd se nc cs lv d) pr (i + 1) = sumI (fun d => decide (d &&& am = th) && mdl n sd se nc cs lv d) pr i := by simp only [sumI]; rw [if_neg (by rw [decide_eq_false c_25]; simp), Nat.add_zero]
        rw [← e0] at hl
        refine lv_iinc (v := nI (i + 1)) (lv' := [(6, .int (nI (i + 1))), (0, .ref (ad 0)), (1, .int (nI am)), (2, .int (nI th)), (3, .ref (ad 20)), (4, .long (lN (sumI (fun d => decide (d &&& am = th) && mdl n sd se nc cs lv d) pr (i + 1))))]) S.1 S.2.1 dX11_weightWhere_51 hl (k := 5) rfl (nI_add _ 1) (by decide) rfl (fun ls hl => ?_)
        refine lv_goto (tgt := 11) S.1 S.2.1 dX11_weightWhere_54 (by decide) ?_
        exact ih11 _ (by omega) (i + 1) rfl (by omega) w_ hU hO_ hMo_ hMa_ H locs ls hW (lv_sub hl [1, 2, 3, 4, 5, 0] rfl)
      · refine lv_aload_n S.1 S.2.1 dX11_weightWhere_28 rfl (lv_at hl 3 rfl) ?_
        refine lv_iload S.1 S.2.1 dX11_weightWhere_29 (lv_at hl 5 rfl) ?_
        refine j_callV (k := 20) (ci := 0) (q := (RX0, TX0, 2)) (As := [.int (nI i)]) (rest := []) S hK hA hW (c_X0_has l D cy 20 21 22 (ad 20) (ad 21) (ad 22) (nI n) (mdl n sd se nc cs lv) i hMo_ (hU.get hMl (by decide)) hMa_   (by omega)) (jgo wm_X11_224) yk_X0_has hMo_ rfl rfl ⟨⟨rfl, rfl⟩, by decide, by decide⟩ rfl hl.1 rfl (Nat.le_of_ble_eq_true rfl) dX11_weightWhere_31 ⟨Nat.le_of_ble_eq_true rfl, Nat.le_of_ble_eq_true rfl⟩ (fun v u H locs hp hW => ?_)
        obtain ⟨rfl, rfl⟩ := hp
        refine W.eq (g2 := F0 m 34 ls [.int (bI ((mdl n sd se nc cs lv) i))]) rfl ?_
        refine jb_if_eq (tgt := 51) S dX11_weightWhere_34 (by decide) (fun c_34 => ?_) (fun c_34 => ?_)
        · have e0 : sumI (fun d => decide (d &&& am = th) && mdl n sd se nc cs lv d) pr (i + 1) = sumI (fun d => decide (d &&& am = th) && mdl n sd se nc cs lv d) pr i := by simp only [sumI]; rw [if_neg (by rw [c_34, Bool.and_false]; simp), Nat.add_zero]
          rw [← e0] at hl
          refine lv_iinc (v := nI (i + 1)) (lv' := [(6, .int (nI (i + 1))), (0, .ref (ad 0)), (1, .int (nI am)), (2, .int (nI th)), (3, .ref (ad 20)), (4, .long (lN (sumI (fun d => decide (d &&& am = th) && mdl n sd se nc cs lv d) pr (i + 1))))]) S.1 S.2.1 dX11_weightWhere_51 hl (k := 5) rfl (nI_add _ 1) (by decide) rfl (fun ls hl => ?_)
          refine lv_goto (tgt := 11) S.1 S.2.1 dX11_weightWhere_54 (by decide) ?_
          exact ih11 _ (by omega) (i + 1) rfl (by omega) w_ hU hO_ hMo_ hMa_ H locs ls hW (lv_sub hl [1, 2, 3, 4, 5, 0] rfl)
        · refine lv_lload S.1 S.2.1 dX11_weightWhere_37 (lv_at hl 4 rfl) ?_
          refine lv_aload_n S.1 S.2.1 dX11_weightWhere_39 rfl (lv_at hl 0 rfl) ?_
          refine j_get (ci := 10) (C := RX11) (T := TX11) (N := 15) (v := .ref (ad 5)) S (fun w h => List.mem_cons_of_mem _ (inG11 w h)) hK hW hO_ rfl 3 (by decide) (List.mem_cons_of_mem _ wfl_X11_24) (fun _ h9 => h9) rfl dX11_weightWhere_40 ?_
          refine lv_iload S.1 S.2.1 dX11_weightWhere_43 (lv_at hl 5 rfl) ?_
          refine j_callV (k := 5) (ci := 6) (q := (RX7, TX7, 1)) (As := [.int (nI i)]) (rest := [.long (lN (sumI (fun d => decide (d &&& am = th) && mdl n sd se nc cs lv d) pr i))]) S hK hA hW (c_X7_atN l D cy 5 6 (ad 5) (ad 6) 1024 i pr (hU.get hDo (by decide)) (hU.get hDa (by decide))   (by omega) (by decide)) (jgo wm_X11_245) yk_X7_at (hU.get hDo (by decide)) rfl rfl ⟨⟨rfl, rfl⟩, by decide, by decide⟩ rfl hl.1 rfl (Nat.le_of_ble_eq_true rfl) dX11_weightWhere_45 ⟨Nat.le_of_ble_eq_true rfl, Nat.le_of_ble_eq_true rfl⟩ (fun v u H locs hp hW => ?_)
          obtain ⟨rfl, rfl⟩ := hp
          refine W.eq (g2 := F0 m 48 ls [.long (lN (pr i)), .long (lN (sumI (fun d => decide (d &&& am = th) && mdl n sd se nc cs lv d) pr i))]) rfl ?_
          refine jnl_add S dX11_weightWhere_48 ?_
          refine lv_topl_to (y := lN (sumI (fun d => decide (d &&& am = th) && mdl n sd se nc cs lv d) pr (i + 1))) (congrArg lN (by simp only [sumI]; rw [if_pos (by rw [decide_eq_true c_25, c_34]; rfl)])) ?_
          refine lv_lstore (lv' := [(4, .long (lN (sumI (fun d => decide (d &&& am = th) && mdl n sd se nc cs lv d) pr (i + 1)))), (0, .ref (ad 0)), (1, .int (nI am)), (2, .int (nI th)), (3, .ref (ad 20)), (6, .int (nI i))]) S.1 S.2.1 dX11_weightWhere_49 hl (by decide) rfl (fun ls hl => ?_)
          refine lv_iinc (v := nI (i + 1)) (lv' := [(6, .int (nI (i + 1))), (4, .long (lN (sumI (fun d => decide (d &&& am = th) && mdl n sd se nc cs lv d) pr (i + 1)))), (0, .ref (ad 0)), (1, .int (nI am)), (2, .int (nI th)), (3, .ref (ad 20))]) S.1 S.2.1 dX11_weightWhere_51 hl (k := 5) rfl (nI_add _ 1) (by decide) rfl (fun ls hl => ?_)
          refine lv_goto (tgt := 11) S.1 S.2.1 dX11_weightWhere_54 (by decide) ?_
          exact ih11 _ (by omega) (i + 1) rfl (by omega) w_ hU hO_ hMo_ hMa_ H locs ls hW (lv_sub hl [2, 3, 4, 5, 1, 0] rfl)
  exact L11 _ 0 rfl (Nat.zero_le _) w_ hU hO_ hMo_ hMa_ H locs ls hW (lv_sub hl [3, 4, 5, 2, 1, 0] rfl)
/-- positiveWeight -/
theorem c_X11_positiveWeight (l : Launch) (htr : l.stackTraces = false) (D : va_G) (cy : Nat → ClassId) {w : va_W} (ad : Nat → Nat) (n sd se : Nat) (fr : Bool) (nc lv : Nat) (tf : Nat → Option Nat) (cp ca : Nat → Nat) (cs : Nat → CN) (mv : Int32) (MX : Nat → Bool) (pr : Nat → Nat) (hO : w[0]? = some (ad 0, .inr (10, [.int (nI n), .ref (ad 1), .ref (ad 3), .ref (ad 5), .int (nI sd), .int (nI se), .ref (ad 7), .ref (ad 9), .ref (ad 11), .ref (ad 20), .int (bI fr), .ref (ad 23), .ref (ad 26), .ref (ad 31), .ref (ad 42)]))) (hMo : w[20]? = some (ad 20, .inr (0, [.ref (ad 21), .int mv]))) (hMl : w[21]? = some (ad 21, .inr (6, [.ref (ad 22)]))) (hMa : w[22]? = some (ad 22, .inl (cy 1, 16, .inr (.inl (wd MX))))) (hC : w[9]? = some (ad 9, .inr (4, [.ref (ad 10), .int (nI nc), .int (nI lv)]))) (hT : w[10]? = some (ad 10, .inl (cy 5, 20, .inr (.inr (.inr (.inr tf)))))) (hDo : w[5]? = some (ad 5, .inr (6, [.ref (ad 6)]))) (hDa : w[6]? = some (ad 6, .inl (cy 1, 1024, .inr (.inl (lf pr))))) (hcon : conOK w nc tf cp ca cs) (hn : n ≤ 10) (hsd : sd < 1024) (hse : se < 1024) (hlv : lv < 2 ^ 20) (hfr : fr = true → mv = nI n ∧ MX = mdl n sd se nc cs lv) (hpr : ∀ j, pr j ≤ 3486784401) : jMx jTexts l yX11_positiveWeight (jws yX11_positiveWeight cX11_positiveWeight 3 (some .long)) (jR 9 1 6) D cy w [.ref (ad 0)] 1 6 (fun vv uu => vv = some (.long (lN (sumI (mdl n sd se nc cs lv) pr (2 ^ n)))) ∧ sumI (mdl n sd se nc cs lv) pr (2 ^ n) ≠ 0 ∧ jU w uu [0, 20, 22] ∧ uu[0]? = some (ad 0, .inr (10, [.int (nI n), .ref (ad 1), .ref (ad 3), .ref (ad 5), .int (nI sd), .int (nI se), .ref (ad 7), .ref (ad 9), .ref (ad 11), .ref (ad 20), .int (bI true), .ref (ad 23), .ref (ad 26), .ref (ad 31), .ref (ad 42)])) ∧ uu[20]? = some (ad 20, .inr (0, [.ref (ad 21), .int (nI n)])) ∧ uu[22]? = some (ad 22, .inl (cy 1, 16, .inr (.inl (wd (mdl n sd se nc cs lv)))))) (fun EE uu => (EE = "java/util/NoSuchElementException" ∧ (sumI (mdl n sd se nc cs lv) pr (2 ^ n) = 0) ∧ (jU w uu [0, 20, 22] ∧ uu[0]? = some (ad 0, .inr (10, [.int (nI n), .ref (ad 1), .ref (ad 3), .ref (ad 5), .int (nI sd), .int (nI se), .ref (ad 7), .ref (ad 9), .ref (ad 11), .ref (ad 20), .int (bI true), .ref (ad 23), .ref (ad 26), .ref (ad 31), .ref (ad 42)])) ∧ uu[20]? = some (ad 20, .inr (0, [.ref (ad 21), .int (nI n)])) ∧ uu[22]? = some (ad 22, .inl (cy 1, 16, .inr (.inl (wd (mdl n sd se nc cs lv)))))))) := by
  have hp2 := two_pow10 hn
  have hsl : sumI (mdl n sd se nc cs lv) pr (2 ^ n) ≤ 2 ^ n * 3486784401 := sumI_le (fun j _ => hpr j)
  have hsb : 2 ^ n * 3486784401 ≤ 1024 * 3486784401 := Nat.mul_le_mul_right _ hp2
  refine jx_of (by decide) rfl (Nat.le_of_ble_eq_true rfl) ?_
  intro p e s m args below meth c A ls Q hQ S hr hK hA H locs hW hl htab hx
  have hl : lv_has ls 3 [(0, .ref (ad 0))] := hl
  refine lv_aload_n S.1 S.2.1 dX11_positiveWeight_0 rfl (lv_at hl 0 rfl) ?_
  refine lv_iconst (v := nI 0) S.1 S.2.1 dX11_positiveWeight_1 (by decide) ?_
  refine lv_iconst (v := nI 0) S.1 S.2.1 dX11_positiveWeight_2 (by decide) ?_
  refine j_callV (k := 0) (ci := 10) (q := (RX11, TX11, 15)) (As := [.int (nI 0), .int (nI 0)]) (rest := []) S hK hA hW (c_X11_weightWhere l D cy ad n sd se fr nc lv tf cp ca cs mv MX pr 0 0 hO hMo hMl hMa hC hT hDo hDa hcon  (by omega) (by omega) (by omega) (by omega) (by omega) (by decide)) (jgo wm_X11_206) yk_X11_weightWhere hO rfl rfl ⟨⟨rfl, rfl⟩, by decide, by decide⟩ rfl hl.1 rfl (Nat.le_of_ble_eq_true rfl) dX11_positiveWeight_3 ⟨Nat.le_of_ble_eq_true rfl, Nat.le_of_ble_eq_true rfl⟩ (fun v w_ H locs hp hW => ?_)
  obtain ⟨rfl, hU1, hN1, hN2, hN3⟩ := hp
  have hU : jU w w_ [0, 20, 22] := jU.mono hU1 (by decide)
  have hO_ : w_[0]? = some (ad 0, .inr (10, [.int (nI n), .ref (ad 1), .ref (ad 3), .ref (ad 5), .int (nI sd), .int (nI se), .ref (ad 7), .ref (ad 9), .ref (ad 11), .ref (ad 20), .int (bI true), .ref (ad 23), .ref (ad 26), .ref (ad 31), .ref (ad 42)])) := hN1
  have hMo_ : w_[20]? = some (ad 20, .inr (0, [.ref (ad 21), .int (nI n)])) := hN2
  have hMa_ : w_[22]? = some (ad 22, .inl (cy 1, 16, .inr (.inl (wd (mdl n sd se nc cs lv))))) := hN3
  clear hU1 hN1 hN2 hN3
  refine W.eq (g2 := F0 m 6 ls [.long (lN (sumI (fun d => decide (d &&& 0 = 0) && mdl n sd se nc cs lv d) pr (2 ^ n)))]) rfl ?_
  refine lv_topl_to (y := lN (sumI (mdl n sd se nc cs lv) pr (2 ^ n))) (congrArg lN (sumI_congr (fun j _ => ⟨by rw [Nat.and_zero]; rfl, fun _ => rfl⟩))) ?_
  refine lv_lstore_n (lv' := [(1, .long (lN (sumI (mdl n sd se nc cs lv) pr (2 ^ n)))), (0, .ref (ad 0))]) S.1 S.2.1 dX11_positiveWeight_6 rfl hl (by decide) rfl (fun ls hl => ?_)
  refine lv_lload_n S.1 S.2.1 dX11_positiveWeight_7 rfl (lv_at hl 0 rfl) ?_
  refine lv_lconst (v := lN 0) S.1 S.2.1 dX11_positiveWeight_8 (by decide) ?_
  refine jnz_ne (tgt := 24) S (by omega) (by omega) dX11_positiveWeight_9 dX11_positiveWeight_10 (by decide) (fun c_10 => ?_) (fun c_10 => ?_)
  · refine lv_lload_n S.1 S.2.1 dX11_positiveWeight_24 rfl (lv_at hl 0 rfl) ?_
    subst hQ
    refine vx_ret ?_
    exact j_lret (u := w_) S hr hK hW dX11_positiveWeight_25 ⟨by decide, by decide⟩ (⟨rfl, c_10, hU, hO_, hMo_, hMa_⟩)
  · subst hQ
    obtain ⟨sa, hsa⟩ := hx.2.1 (355, "the weight of all models together is 0") (by decide)
    exact jx_throwN (text := "the weight of all models together is 0") (sa := sa) S htr jfit_242 (by decide +kernel) (by decide +kernel) jB13_0 jB13_1 jB13_2 jB13_5 wcl_X11_238 wini_java_util_NoSuchElementException vxg_242 vxn_242 vxh_242 (by decide) hsa hx hK hW hl.1 htab hr.2.1 ⟨by decide, by decide, by decide, by decide⟩ ⟨by decide, by decide⟩ dX11_positiveWeight_13 dX11_positiveWeight_16 (Or.inr ⟨dX11_positiveWeight_17, rfl⟩) dX11_positiveWeight_20 dX11_positiveWeight_23 (⟨rfl, c_10, ⟨hU, hO_, hMo_, hMa_⟩⟩)
/-- lowered: over the greatest shared divisor -/
theorem c_X11_lowered (l : Launch) (D : va_G) (cy : Nat → ClassId) {w : va_W} (xx tp bt : Nat) (hb : 0 < bt ∧ bt < 2 ^ 42) (htb : tp ≤ bt) (hxx : xx < 2 ^ 42) : jM l yX11_lowered (jws yX11_lowered cX11_lowered 13 (some .long)) (jR 0 0 0) D cy w [.long (lN xx), .long (lN tp), .long (lN bt)] 0 0 (fun vv uu => vv = some (.long (lN (xx / Nat.gcd tp bt))) ∧ w = uu) := by
  refine j_of (by decide) rfl (Nat.le_of_ble_eq_true rfl) ?_
  intro p e s m args below meth c A ls Q hQ S hr hK hA H locs hW hl
  have hl : lv_has ls 13 [(0, .long (lN xx)), (2, .long (lN tp)), (4, .long (lN bt))] := hl
  refine lv_lload S.1 S.2.1 dX11_lowered_0 (lv_at hl 2 rfl) ?_
  refine lv_lstore (lv' := [(6, .long (lN bt)), (0, .long (lN xx)), (2, .long (lN tp)), (4, .long (lN bt))]) S.1 S.2.1 dX11_lowered_2 hl (by decide) rfl (fun ls hl => ?_)
  refine lv_lload_n S.1 S.2.1 dX11_lowered_4 rfl (lv_at hl 2 rfl) ?_
  refine lv_lstore (lv' := [(8, .long (lN tp)), (6, .long (lN bt)), (0, .long (lN xx)), (2, .long (lN tp)), (4, .long (lN bt))]) S.1 S.2.1 dX11_lowered_5 hl (by decide) rfl (fun ls hl => ?_)
  refine lv_iconst (v := nI 0) S.1 S.2.1 dX11_lowered_7 (by decide) ?_
  refine lv_istore (lv' := [(10, .int (nI 0)), (8, .long (lN tp)), (6, .long (lN bt)), (0, .long (lN xx)), (2, .long (lN tp)), (4, .long (lN bt))]) S.1 S.2.1 dX11_lowered_8 hl (by decide) rfl (fun ls hl => ?_)
  have L10 : ∀ (k : Nat) (i : Nat) (dv : Nat) (rs : Nat), 200 - i = k → (i ≤ 200) → (0 < dv ∧ rs ≤ dv ∧ dv < 2 ^ 42) → (Nat.gcd dv rs = Nat.gcd tp bt) → (dv * rs * 2 ^ i ≤ 2 ^ 84) → ∀ (H : Heap) (locs : List Loc) (ls : Array Slot), jW D A s.heap w H locs → lv_has ls 13 [(0, .long (lN xx)), (2, .long (lN tp)), (4, .long (lN bt)), (6, .long (lN dv)), (8, .long (lN rs)), (10, .int (nI i))] → W p l e (jR 0 0 0) s m args below meth c H locs 0 0 Q (F0 m 10 ls []) := by
    intro k
    induction k using Nat.strongRecOn with
    | ind k ih10 =>
    intro i dv rs hk hi hd hg hp H locs ls hW hl
    subst hk
    refine lv_iload S.1 S.2.1 dX11_lowered_10 (lv_at hl 5 rfl) ?_
    refine lv_sipush (v := nI 200) S.1 S.2.1 dX11_lowered_12 (by decide) ?_
    refine jn_cmp_ge (tgt := 46) S (by omega) (by omega) dX11_lowered_15 (by decide) (fun c_15 => ?_) (fun c_15 => ?_)
    · have hr0 : rs = 0 := by first | exact c_22 | exact lrm_end hd.1 (by rw [show (200 : Nat) = i by omega]; exact hp)
      have hgd : dv = Nat.gcd tp bt := by rw [← hg, hr0, Nat.gcd_zero_right]
      refine lv_lload S.1 S.2.1 dX11_lowered_46 (lv_at hl 3 rfl) ?_
      refine lv_lconst (v := lN 0) S.1 S.2.1 dX11_lowered_48 (by decide) ?_
      refine jnz_ne (tgt := 57) S (by omega) (by omega) dX11_lowered_49 dX11_lowered_50 (by decide) (fun c_50 => ?_) (fun c_50 => ?_)
      · refine lv_lload_n S.1 S.2.1 dX11_lowered_57 rfl (lv_at hl 0 rfl) ?_
        refine lv_lload S.1 S.2.1 dX11_lowered_58 (lv_at hl 3 rfl) ?_
        refine lv_ldiv S.1 S.2.1 dX11_lowered_60 (lN_ne0 (by omega) (by omega)) ?_
        refine lv_topl_to (y := lN (xx / Nat.gcd tp bt)) (by rw [pk_lDiv (by omega) (by omega) (by omega), hgd]) ?_
        subst hQ
        exact j_lret (u := w) S hr hK hW dX11_lowered_61 ⟨by decide, by decide⟩ (⟨rfl, rfl⟩)
      · exact absurd c_50 (by omega)
    · refine lv_lload S.1 S.2.1 dX11_lowered_18 (lv_at hl 4 rfl) ?_
      refine lv_lconst (v := lN 0) S.1 S.2.1 dX11_lowered_20 (by decide) ?_
      refine jnz_eq (tgt := 46) S (by omega) (by omega) dX11_lowered_21 dX11_lowered_22 (by decide) (fun c_22 => ?_) (fun c_22 => ?_)
      · have hr0 : rs = 0 := by first | exact c_22 | exact lrm_end hd.1 (by rw [show (200 : Nat) = i by omega]; exact hp)
        have hgd : dv = Nat.gcd tp bt := by rw [← hg, hr0, Nat.gcd_zero_right]
        refine lv_lload S.1 S.2.1 dX11_lowered_46 (lv_at hl 3 rfl) ?_
        refine lv_lconst (v := lN 0) S.1 S.2.1 dX11_lowered_48 (by decide) ?_
        refine jnz_ne (tgt := 57) S (by omega) (by omega) dX11_lowered_49 dX11_lowered_50 (by decide) (fun c_50 => ?_) (fun c_50 => ?_)
        · refine lv_lload_n S.1 S.2.1 dX11_lowered_57 rfl (lv_at hl 0 rfl) ?_
          refine lv_lload S.1 S.2.1 dX11_lowered_58 (lv_at hl 3 rfl) ?_
          refine lv_ldiv S.1 S.2.1 dX11_lowered_60 (lN_ne0 (by omega) (by omega)) ?_
          refine lv_topl_to (y := lN (xx / Nat.gcd tp bt)) (by rw [pk_lDiv (by omega) (by omega) (by omega), hgd]) ?_
          subst hQ
          exact j_lret (u := w) S hr hK hW dX11_lowered_61 ⟨by decide, by decide⟩ (⟨rfl, rfl⟩)
        · exact absurd c_50 (by omega)
      · refine lv_lload S.1 S.2.1 dX11_lowered_25 (lv_at hl 3 rfl) ?_
        refine lv_lload S.1 S.2.1 dX11_lowered_27 (lv_at hl 4 rfl) ?_
        refine lv_lrem S.1 S.2.1 dX11_lowered_29 (lN_ne0 (by omega) (by omega)) ?_
        refine lv_topl_to (y := lN (dv % rs)) (pk_lRem (by omega) (by omega) (by omega)) ?_
        refine lv_lstore (lv' := [(11, .long (lN (dv % rs))), (0, .long (lN xx)), (2, .long (lN tp)), (4, .long (lN bt)), (6, .long (lN dv)), (8, .long (lN rs)), (10, .int (nI i))]) S.1 S.2.1 dX11_lowered_30 hl (by decide) rfl (fun ls hl => ?_)
        refine lv_lload S.1 S.2.1 dX11_lowered_32 (lv_at hl 5 rfl) ?_
        refine lv_lstore (lv' := [(6, .long (lN rs)), (11, .long (lN (dv % rs))), (0, .long (lN xx)), (2, .long (lN tp)), (4, .long (lN bt)), (8, .long (lN rs)), (10, .int (nI i))]) S.1 S.2.1 dX11_lowered_34 hl (by decide) rfl (fun ls hl => ?_)
        refine lv_lload S.1 S.2.1 dX11_lowered_36 (lv_at hl 1 rfl) ?_
        refine lv_lstore (lv' := [(8, .long (lN (dv % rs))), (6, .long (lN rs)), (11, .long (lN (dv % rs))), (0, .long (lN xx)), (2, .long (lN tp)), (4, .long (lN bt)), (10, .int (nI i))]) S.1 S.2.1 dX11_lowered_38 hl (by decide) rfl (fun ls hl => ?_)
        refine lv_iinc (v := nI (i + 1)) (lv' := [(10, .int (nI (i + 1))), (8, .long (lN (dv % rs))), (6, .long (lN rs)), (11, .long (lN (dv % rs))), (0, .long (lN xx)), (2, .long (lN tp)), (4, .long (lN bt))]) S.1 S.2.1 dX11_lowered_40 hl (k := 6) rfl (nI_add _ 1) (by decide) rfl (fun ls hl => ?_)
        refine lv_goto (tgt := 10) S.1 S.2.1 dX11_lowered_43 (by decide) ?_
        exact ih10 _ (by omega) (i + 1) rs (dv % rs) rfl (by omega) (⟨by omega, Nat.le_of_lt (Nat.mod_lt _ (by omega)), by omega⟩) (by rw [← hg, Nat.gcd_comm dv rs, Nat.gcd_rec rs dv, Nat.gcd_comm]) (lrm_step (by omega) hd.2.1 i hp) H locs ls hW (lv_sub hl [4, 5, 6, 2, 1, 0] rfl)
  exact L10 _ 0 bt tp rfl (Nat.zero_le _) (⟨hb.1, htb, hb.2⟩) (Nat.gcd_comm _ _) (by rw [Nat.pow_zero, Nat.mul_one]; exact Nat.le_trans (Nat.mul_le_mul (Nat.le_of_lt hb.2) (Nat.le_trans htb (Nat.le_of_lt hb.2))) (by decide)) H locs ls hW (lv_sub hl [3, 4, 5, 2, 1, 0] rfl)
/-- following -/
theorem c_X11_following (l : Launch) (D : va_G) (cy : Nat → ClassId) {w : va_W} (ad : Nat → Nat) (n sd se : Nat) (fr : Bool) (a : Nat) (hO : w[0]? = some (ad 0, .inr (10, [.int (nI n), .ref (ad 1), .ref (ad 3), .ref (ad 5), .int (nI sd), .int (nI se), .ref (ad 7), .ref (ad 9), .ref (ad 11), .ref (ad 20), .int (bI fr), .ref (ad 23), .ref (ad 26), .ref (ad 31), .ref (ad 42)]))) (hn : n ≤ 10) (ha : a < 1024) : jM l yX11_following (jws yX11_following cX11_following 5 (some .int)) (jR 0 0 0) D cy w [.ref (ad 0), .int (nI a)] 0 0 (fun vv uu => vv = some (.int (nI (folN n a))) ∧ w = uu) := by
  refine j_of (by decide) rfl (Nat.le_of_ble_eq_true rfl) ?_
  intro p e s m args below meth c A ls Q hQ S hr hK hA H locs hW hl
  have hl : lv_has ls 5 [(0, .ref (ad 0)), (1, .int (nI a))] := hl
  refine lv_iload_n S.1 S.2.1 dX11_following_0 rfl (lv_at hl 1 rfl) ?_
  refine lv_istore_n (lv' := [(2, .int (nI a)), (0, .ref (ad 0)), (1, .int (nI a))]) S.1 S.2.1 dX11_following_1 rfl hl (by decide) rfl (fun ls hl => ?_)
  refine lv_aload_n S.1 S.2.1 dX11_following_2 rfl (lv_at hl 1 rfl) ?_
  refine j_get (ci := 10) (C := RX11) (T := TX11) (N := 15) (v := .int (nI n)) S (fun w h => List.mem_cons_of_mem _ (inG11 w h)) hK hW hO rfl 0 (by decide) (List.mem_cons_of_mem _ wfl_X11_77) (fun _ h9 => h9) rfl dX11_following_3 ?_
  refine lv_iconst (v := nI 1) S.1 S.2.1 dX11_following_6 (by decide) ?_
  refine lv_isub S.1 S.2.1 dX11_following_7 ?_
  refine lv_topi_to (y := nI n - 1) (rfl) ?_
  refine lv_istore_n (lv' := [(3, .int (nI n - 1)), (2, .int (nI a)), (0, .ref (ad 0)), (1, .int (nI a))]) S.1 S.2.1 dX11_following_8 rfl hl (by decide) rfl (fun ls hl => ?_)
  have L9 : ∀ (k : Nat) (q : Nat) (x : Nat), q = k → (q ≤ n) → (folN q x = folN n a) → (x < 1024) → ∀ (H : Heap) (locs : List Loc) (ls : Array Slot), jW D A s.heap w H locs → lv_has ls 5 [(0, .ref (ad 0)), (1, .int (nI a)), (2, .int (nI x)), (3, .int (nI q - 1))] → W p l e (jR 0 0 0) s m args below meth c H locs 0 0 Q (F0 m 9 ls []) := by
    intro k
    induction k using Nat.strongRecOn with
    | ind k ih9 =>
    intro q x hk hq hx hx1 H locs ls hW hl
    subst hk
    refine lv_iload_n S.1 S.2.1 dX11_following_9 rfl (lv_at hl 3 rfl) ?_
    refine lv_if_lt (tgt := 38) S.1 S.2.1 dX11_following_10 (by decide) (fun c_10 => ?_) (fun c_10 => ?_)
    · have hq0 : q = 0 := (pI_lt (by omega)).mp c_10
      subst hq0
      refine lv_iload_n S.1 S.2.1 dX11_following_38 rfl (lv_at hl 2 rfl) ?_
      subst hQ
      exact j_iret (u := w) S hr (rfl) hK hW dX11_following_39 ⟨by decide, by decide⟩ (⟨by rw [← hx]; rfl, rfl⟩)
    · have hq0 : 0 < q := by
            rcases Nat.eq_zero_or_pos q with z | z
            · exact absurd ((pI_lt (by omega)).mpr z) c_10
            · exact z
      rw [pI_pos hq0] at hl
      have hxl := xor_lt10 (k := q - 1) hx1 (by omega)
      have hfo : folN q x = if (x ^^^ 2 ^ (q - 1)).testBit (q - 1) then x ^^^ 2 ^ (q - 1) else folN (q - 1) (x ^^^ 2 ^ (q - 1)) := by
            obtain ⟨z, rfl⟩ : ∃ z, q = z + 1 := ⟨q - 1, by omega⟩
            rfl
      refine lv_iconst (v := nI 1) S.1 S.2.1 dX11_following_13 (by decide) ?_
      refine lv_iload_n S.1 S.2.1 dX11_following_14 rfl (lv_at hl 3 rfl) ?_
      refine jn_shl1 S (by omega) dX11_following_15 ?_
      refine lv_istore (lv' := [(4, .int (nI (2 ^ (q - 1)))), (0, .ref (ad 0)), (1, .int (nI a)), (2, .int (nI x)), (3, .int (nI (q - 1)))]) S.1 S.2.1 dX11_following_16 hl (by decide) rfl (fun ls hl => ?_)
      refine lv_iload_n S.1 S.2.1 dX11_following_18 rfl (lv_at hl 3 rfl) ?_
      refine lv_iload S.1 S.2.1 dX11_following_19 (lv_at hl 0 rfl) ?_
      refine jn_xor S dX11_following_21 ?_
      refine lv_istore_n (lv' := [(2, .int (nI (x ^^^ (2 ^ (q - 1))))), (4, .int (nI (2 ^ (q - 1)))), (0, .ref (ad 0)), (1, .int (nI a)), (3, .int (nI (q - 1)))]) S.1 S.2.1 dX11_following_22 rfl hl (by decide) rfl (fun ls hl => ?_)
      refine lv_iload_n S.1 S.2.1 dX11_following_23 rfl (lv_at hl 0 rfl) ?_
      refine lv_iload S.1 S.2.1 dX11_following_24 (lv_at hl 1 rfl) ?_
      have hle : (x ^^^ 2 ^ (q - 1)) &&& 2 ^ (q - 1) ≤ x ^^^ 2 ^ (q - 1) := Nat.and_le_left
      refine jn_and S dX11_following_26 ?_
      refine jn_if_eq (tgt := 32) S (by omega) dX11_following_27 (by decide) (fun c_27 => ?_) (fun c_27 => ?_)
      · have hbf := (and_pow0 _ _).mp c_27
        refine lv_iinc (v := nI (q - 1) - 1) (lv' := [(3, .int (nI (q - 1) - 1)), (2, .int (nI (x ^^^ (2 ^ (q - 1))))), (4, .int (nI (2 ^ (q - 1)))), (0, .ref (ad 0)), (1, .int (nI a))]) S.1 S.2.1 dX11_following_32 hl (k := 4) rfl (pI_m1) (by decide) rfl (fun ls hl => ?_)
        refine lv_goto (tgt := 9) S.1 S.2.1 dX11_following_35 (by decide) ?_
        exact ih9 _ (by omega) (q - 1) (x ^^^ 2 ^ (q - 1)) rfl (by omega) (by rw [← hx, hfo, if_neg (by rw [hbf]; decide)]) (hxl) H locs ls hW (lv_sub hl [3, 4, 1, 0] rfl)
      · have hbt : (x ^^^ 2 ^ (q - 1)).testBit (q - 1) = true := by cases z : (x ^^^ 2 ^ (q - 1)).testBit (q - 1); exact absurd ((and_pow0 _ _).mpr z) c_27; rfl
        refine lv_iload_n S.1 S.2.1 dX11_following_30 rfl (lv_at hl 0 rfl) ?_
        subst hQ
        exact j_iret (u := w) S hr (rfl) hK hW dX11_following_31 ⟨by decide, by decide⟩ (⟨by rw [← hx, hfo, if_pos hbt], rfl⟩)
  exact L9 _ n a rfl (Nat.le_refl _) (rfl) (ha) H locs ls hW (lv_sub hl [2, 3, 1, 0] rfl)
