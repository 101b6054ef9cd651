/-! ROWS OF NATS; PARTMEMORY AND RANKING (laid by wip/whole/tools, from the specs there) -/
/-! ROWS OF NATS: what a row holds is told by Nats -/
def nf (f : Nat → Nat) : Nat → Int32 := fun v => nI (f v)
def lf (f : Nat → Nat) : Nat → Int64 := fun v => lN (f v)
theorem nf_upd (f : Nat → Nat) (i x : Nat) : upd (nf f) i (nI x) = nf (upB f i x) := by
  funext j; unfold upd nf upB; split <;> rfl
theorem lf_upd (f : Nat → Nat) (i x : Nat) : vp_updL (lf f) i (lN x) = lf (upB f i x) := by
  funext j; unfold vp_updL lf upB; split <;> rfl
theorem nf_0 : (fun _ => nI 0) = nf (fun _ => 0) := rfl
theorem lf_0 : (fun _ => lN 0) = lf (fun _ => 0) := rfl
/-- a row of n places: outside it takes nothing -/
def upN (n : Nat) (f : Nat → Nat) (i x : Nat) : Nat → Nat := if i < n then upB f i x else f
/-- x put in at r, what stands from there below e is moved on by one -/
def insF (r e x : Nat) (f : Nat → Nat) : Nat → Nat := fun j => if j < r then f j else if j = r then x else if j ≤ e then f (j - 1) else f j
/-- what stands from r on below e is moved on by one (r holds what it held) -/
def movF (r e : Nat) (f : Nat → Nat) : Nat → Nat := fun j => if r < j ∧ j ≤ e then f (j - 1) else f j
theorem movF_0 (e : Nat) (f : Nat → Nat) : movF e e f = f := by funext j; exact if_neg (by omega)
theorem upN_at {n i x j : Nat} {f : Nat → Nat} : upN n f i x j = if j = i ∧ i < n then x else f j := by
  unfold upN upB
  by_cases h : i < n
  · rw [if_pos h]
    show (if j = i then x else f j) = _
    by_cases e : j = i
    · rw [if_pos e, if_pos ⟨e, h⟩]
    · rw [if_neg e, if_neg (fun q => e q.1)]
  · rw [if_neg h, if_neg (fun q => h q.2)]
theorem movF_at {r e j : Nat} {f : Nat → Nat} : movF r e f j = if r < j ∧ j ≤ e then f (j - 1) else f j := rfl
theorem insF_at {r e x j : Nat} {f : Nat → Nat} : insF r e x f j = if j < r then f j else if j = r then x else if j ≤ e then f (j - 1) else f j := rfl
theorem movF_s {n r e : Nat} {f : Nat → Nat} (h0 : 0 < r) (he : r ≤ e) : ∀ j, j < n → upN n (movF r e f) r (movF r e f (r - 1)) j = movF (r - 1) e f j := by
  intro j hj
  rw [upN_at, movF_at, movF_at, movF_at]
  by_cases e1 : j = r
  · subst e1; rw [if_pos ⟨rfl, hj⟩, if_neg (by omega), if_pos (by omega)]
  · rw [if_neg (by omega)]
    by_cases e2 : r < j ∧ j ≤ e
    · rw [if_pos e2, if_pos (by omega)]
    · rw [if_neg e2, if_neg (by omega)]
theorem insF_end {n r e x : Nat} {f : Nat → Nat} : ∀ j, j < n → upN n (movF r e f) r x j = insF r e x f j := by
  intro j hj
  rw [upN_at, movF_at, insF_at]
  rcases Nat.lt_trichotomy j r with q | q | q
  · rw [if_neg (by omega), if_pos q, if_neg (by omega)]
  · rw [if_pos (by omega), if_neg (by omega), if_pos q]
  · rw [if_neg (show ¬(j = r ∧ r < n) by omega)]
    by_cases e2 : j ≤ e
    · rw [if_pos ⟨q, e2⟩, if_neg (show ¬ j < r by omega), if_neg (show ¬ j = r by omega), if_pos e2]
    · rw [if_neg (show ¬ (r < j ∧ j ≤ e) by omega), if_neg (show ¬ j < r by omega), if_neg (show ¬ j = r by omega), if_neg e2]
theorem c_X6_atN (l : Launch) (D : va_G) (cy : Nat → ClassId) {w : va_W} (k j h0 ha n i : Nat) (f : Nat → Nat) (hk : w[k]? = some (h0, .inr (5, [.ref ha]))) (hj : w[j]? = some (ha, .inl (cy 0, n, .inl (nf f)))) (hi : i < n) (hn : n < 2 ^ 31) : jM l yX6_at (jws yX6_at cX6_at 2 (some .int)) (jR 0 0 0) D cy w [.ref h0, .int (nI i)] 0 0 (fun vv uu => vv = some (.int (nI (f i))) ∧ w = uu) := by
  refine j_of (by decide) rfl (Nat.le_of_ble_eq_true rfl) ?_
  intro p e s m args below meth c A ls Q hQ S hr hK hA H locs hW hl
  have hl : lv_has ls 2 [(0, .ref h0), (1, .int (nI i))] := hl
  refine lv_iload_n S.1 S.2.1 dX6_at_0 rfl (lv_at hl 1 rfl) ?_
  refine jn_if_lt (tgt := 22) S (by omega) dX6_at_1 (by decide) ?_
  refine lv_iload_n S.1 S.2.1 dX6_at_4 rfl (lv_at hl 1 rfl) ?_
  refine lv_aload_n S.1 S.2.1 dX6_at_5 rfl (lv_at hl 0 rfl) ?_
  refine j_get (ci := 5) (C := RX6) (T := TX6) (N := 1) (v := .ref ha) S (fun w h => List.mem_cons_of_mem _ (inG6 w h)) hK hW hk rfl 0 (by decide) (List.mem_cons_of_mem _ wfl_X6_7) (fun _ h9 => h9) rfl dX6_at_6 ?_
  refine j_alen (t0 := 0) S hK hW hj rfl dX6_at_9 ?_
  refine jn_cmp_ge (tgt := 22) S (by omega) (by omega) dX6_at_10 (by decide) (fun c_10 => ?_) (fun c_10 => ?_)
  · exact absurd c_10 (by omega)
  · refine lv_aload_n S.1 S.2.1 dX6_at_13 rfl (lv_at hl 0 rfl) ?_
    refine j_get (ci := 5) (C := RX6) (T := TX6) (N := 1) (v := .ref ha) S (fun w h => List.mem_cons_of_mem _ (inG6 w h)) hK hW hk rfl 0 (by decide) (List.mem_cons_of_mem _ wfl_X6_7) (fun _ h9 => h9) rfl dX6_at_14 ?_
    refine lv_iload_n S.1 S.2.1 dX6_at_17 rfl (lv_at hl 1 rfl) ?_
    refine j_iald (x := nI (f i)) S hK hW hj (vp_in_nI (by omega) (by omega)) (nI_clamp (by omega)) (rfl) dX6_at_18 ?_
    refine lv_goto (tgt := 23) S.1 S.2.1 dX6_at_19 (by decide) ?_
    subst hQ
    exact j_iret (u := w) S hr (rfl) hK hW dX6_at_23 ⟨by decide, by decide⟩ (⟨rfl, rfl⟩)
theorem c_X6_putN (l : Launch) (D : va_G) (cy : Nat → ClassId) {w : va_W} (k j h0 ha n i : Nat) (f : Nat → Nat) (x : Nat) (hk : w[k]? = some (h0, .inr (5, [.ref ha]))) (hj : w[j]? = some (ha, .inl (cy 0, n, .inl (nf f)))) (hi : i < n) (hn : n < 2 ^ 31) : jM l yX6_put (jws yX6_put cX6_put 3 none) (jR 0 0 0) D cy w [.ref h0, .int (nI i), .int (nI x)] 0 0 (fun vv uu => vv = none ∧ jU w uu [j] ∧ uu[j]? = some (ha, .inl (cy 0, n, .inl (nf (upB f i x))))) := by
  refine j_of (by decide) rfl (Nat.le_of_ble_eq_true rfl) ?_
  intro p e s m args below meth c A ls Q hQ S hr hK hA H locs hW hl
  have hl : lv_has ls 3 [(0, .ref h0), (1, .int (nI i)), (2, .int (nI x))] := hl
  refine lv_iload_n S.1 S.2.1 dX6_put_0 rfl (lv_at hl 1 rfl) ?_
  refine jn_if_lt (tgt := 20) S (by omega) dX6_put_1 (by decide) ?_
  refine lv_iload_n S.1 S.2.1 dX6_put_4 rfl (lv_at hl 1 rfl) ?_
  refine lv_aload_n S.1 S.2.1 dX6_put_5 rfl (lv_at hl 0 rfl) ?_
  refine j_get (ci := 5) (C := RX6) (T := TX6) (N := 1) (v := .ref ha) S (fun w h => List.mem_cons_of_mem _ (inG6 w h)) hK hW hk rfl 0 (by decide) (List.mem_cons_of_mem _ wfl_X6_7) (fun _ h9 => h9) rfl dX6_put_6 ?_
  refine j_alen (t0 := 0) S hK hW hj rfl dX6_put_9 ?_
  refine jn_cmp_ge (tgt := 20) S (by omega) (by omega) dX6_put_10 (by decide) (fun c_10 => ?_) (fun c_10 => ?_)
  · exact absurd c_10 (by omega)
  · refine lv_aload_n S.1 S.2.1 dX6_put_13 rfl (lv_at hl 0 rfl) ?_
    refine j_get (ci := 5) (C := RX6) (T := TX6) (N := 1) (v := .ref ha) S (fun w h => List.mem_cons_of_mem _ (inG6 w h)) hK hW hk rfl 0 (by decide) (List.mem_cons_of_mem _ wfl_X6_7) (fun _ h9 => h9) rfl dX6_put_14 ?_
    refine lv_iload_n S.1 S.2.1 dX6_put_17 rfl (lv_at hl 1 rfl) ?_
    refine lv_iload_n S.1 S.2.1 dX6_put_18 rfl (lv_at hl 2 rfl) ?_
    refine j_iast S hK hW hj (vp_in_nI (by omega) (by omega)) (nI_clamp (by omega)) dX6_put_19 (fun H locs w_ hU1 hN1 hW => ?_)
    have hU : jU w w_ [j] := jU.mono hU1 (fun _ h => h)
    have hj_ : w_[j]? = some (ha, .inl (cy 0, n, .inl (upd (nf f) i (nI x)))) := hN1
    clear hU1 hN1
    subst hQ
    exact j_vret (u := w_) S hr hK hW dX6_put_20 ⟨by decide, by decide⟩ (⟨rfl, hU, by rw [← nf_upd]; exact hj_⟩)
theorem c_X6_putM (l : Launch) (D : va_G) (cy : Nat → ClassId) {w : va_W} (k j h0 ha n i : Nat) (f : Nat → Nat) (x : Nat) (hk : w[k]? = some (h0, .inr (5, [.ref ha]))) (hj : w[j]? = some (ha, .inl (cy 0, n, .inl (nf f)))) (hi : i < 2 ^ 31) (hn : n < 2 ^ 31) : jM l yX6_put (jws yX6_put cX6_put 3 none) (jR 0 0 0) D cy w [.ref h0, .int (nI i), .int (nI x)] 0 0 (fun vv uu => vv = none ∧ jU w uu [j] ∧ uu[j]? = some (ha, .inl (cy 0, n, .inl (nf (upN n f i x))))) := by
  refine j_of (by decide) rfl (Nat.le_of_ble_eq_true rfl) ?_
  intro p e s m args below meth c A ls Q hQ S hr hK hA H locs hW hl
  have hl : lv_has ls 3 [(0, .ref h0), (1, .int (nI i)), (2, .int (nI x))] := hl
  refine lv_iload_n S.1 S.2.1 dX6_put_0 rfl (lv_at hl 1 rfl) ?_
  refine jn_if_lt (tgt := 20) S (by omega) dX6_put_1 (by decide) ?_
  refine lv_iload_n S.1 S.2.1 dX6_put_4 rfl (lv_at hl 1 rfl) ?_
  refine lv_aload_n S.1 S.2.1 dX6_put_5 rfl (lv_at hl 0 rfl) ?_
  refine j_get (ci := 5) (C := RX6) (T := TX6) (N := 1) (v := .ref ha) S (fun w h => List.mem_cons_of_mem _ (inG6 w h)) hK hW hk rfl 0 (by decide) (List.mem_cons_of_mem _ wfl_X6_7) (fun _ h9 => h9) rfl dX6_put_6 ?_
  refine j_alen (t0 := 0) S hK hW hj rfl dX6_put_9 ?_
  refine jn_cmp_ge (tgt := 20) S (by omega) (by omega) dX6_put_10 (by decide) (fun c_10 => ?_) (fun c_10 => ?_)
  · subst hQ
    exact j_vret (u := w) S hr hK hW dX6_put_20 ⟨by decide, by decide⟩ (⟨rfl, jU.rf, by rw [upN, if_neg (by omega)]; exact hj⟩)
  · refine lv_aload_n S.1 S.2.1 dX6_put_13 rfl (lv_at hl 0 rfl) ?_
    refine j_get (ci := 5) (C := RX6) (T := TX6) (N := 1) (v := .ref ha) S (fun w h => List.mem_cons_of_mem _ (inG6 w h)) hK hW hk rfl 0 (by decide) (List.mem_cons_of_mem _ wfl_X6_7) (fun _ h9 => h9) rfl dX6_put_14 ?_
    refine lv_iload_n S.1 S.2.1 dX6_put_17 rfl (lv_at hl 1 rfl) ?_
    refine lv_iload_n S.1 S.2.1 dX6_put_18 rfl (lv_at hl 2 rfl) ?_
    refine j_iast S hK hW hj (vp_in_nI (by omega) (by omega)) (nI_clamp (by omega)) dX6_put_19 (fun H locs w_ hU1 hN1 hW => ?_)
    have hU : jU w w_ [j] := jU.mono hU1 (fun _ h => h)
    have hj_ : w_[j]? = some (ha, .inl (cy 0, n, .inl (upd (nf f) i (nI x)))) := hN1
    clear hU1 hN1
    subst hQ
    exact j_vret (u := w_) S hr hK hW dX6_put_20 ⟨by decide, by decide⟩ (⟨rfl, hU, by rw [upN, if_pos (by omega), ← nf_upd]; exact hj_⟩)
theorem c_X7_atN (l : Launch) (D : va_G) (cy : Nat → ClassId) {w : va_W} (k j h0 ha n i : Nat) (f : Nat → Nat) (hk : w[k]? = some (h0, .inr (6, [.ref ha]))) (hj : w[j]? = some (ha, .inl (cy 1, n, .inr (.inl (lf f))))) (hi : i < n) (hn : n < 2 ^ 31) : jM l yX7_at (jws yX7_at cX7_at 2 (some .long)) (jR 0 0 0) D cy w [.ref h0, .int (nI i)] 0 0 (fun vv uu => vv = some (.long (lN (f i))) ∧ w = uu) := by
  refine j_of (by decide) rfl (Nat.le_of_ble_eq_true rfl) ?_
  intro p e s m args below meth c A ls Q hQ S hr hK hA H locs hW hl
  have hl : lv_has ls 2 [(0, .ref h0), (1, .int (nI i))] := hl
  refine lv_iload_n S.1 S.2.1 dX7_at_0 rfl (lv_at hl 1 rfl) ?_
  refine jn_if_lt (tgt := 22) S (by omega) dX7_at_1 (by decide) ?_
  refine lv_iload_n S.1 S.2.1 dX7_at_4 rfl (lv_at hl 1 rfl) ?_
  refine lv_aload_n S.1 S.2.1 dX7_at_5 rfl (lv_at hl 0 rfl) ?_
  refine j_get (ci := 6) (C := RX7) (T := TX7) (N := 1) (v := .ref ha) S (fun w h => List.mem_cons_of_mem _ (inG7 w h)) hK hW hk rfl 0 (by decide) (List.mem_cons_of_mem _ wfl_X7_7) (fun _ h9 => h9) rfl dX7_at_6 ?_
  refine j_alen (t0 := 1) S hK hW hj rfl dX7_at_9 ?_
  refine jn_cmp_ge (tgt := 22) S (by omega) (by omega) dX7_at_10 (by decide) (fun c_10 => ?_) (fun c_10 => ?_)
  · exact absurd c_10 (by omega)
  · refine lv_aload_n S.1 S.2.1 dX7_at_13 rfl (lv_at hl 0 rfl) ?_
    refine j_get (ci := 6) (C := RX7) (T := TX7) (N := 1) (v := .ref ha) S (fun w h => List.mem_cons_of_mem _ (inG7 w h)) hK hW hk rfl 0 (by decide) (List.mem_cons_of_mem _ wfl_X7_7) (fun _ h9 => h9) rfl dX7_at_14 ?_
    refine lv_iload_n S.1 S.2.1 dX7_at_17 rfl (lv_at hl 1 rfl) ?_
    refine j_lald (x := lN (f i)) S hK hW hj (vp_in_nI (by omega) (by omega)) (nI_clamp (by omega)) (rfl) dX7_at_18 ?_
    refine lv_goto (tgt := 23) S.1 S.2.1 dX7_at_19 (by decide) ?_
    subst hQ
    exact j_lret (u := w) S hr hK hW dX7_at_23 ⟨by decide, by decide⟩ (⟨rfl, rfl⟩)
theorem c_X7_putN (l : Launch) (D : va_G) (cy : Nat → ClassId) {w : va_W} (k j h0 ha n i : Nat) (f : Nat → Nat) (x : Nat) (hk : w[k]? = some (h0, .inr (6, [.ref ha]))) (hj : w[j]? = some (ha, .inl (cy 1, n, .inr (.inl (lf f))))) (hi : i < n) (hn : n < 2 ^ 31) : jM l yX7_put (jws yX7_put cX7_put 4 none) (jR 0 0 0) D cy w [.ref h0, .int (nI i), .long (lN x)] 0 0 (fun vv uu => vv = none ∧ jU w uu [j] ∧ uu[j]? = some (ha, .inl (cy 1, n, .inr (.inl (lf (upB f i x)))))) := by
  refine j_of (by decide) rfl (Nat.le_of_ble_eq_true rfl) ?_
  intro p e s m args below meth c A ls Q hQ S hr hK hA H locs hW hl
  have hl : lv_has ls 4 [(0, .ref h0), (1, .int (nI i)), (2, .long (lN x))] := hl
  refine lv_iload_n S.1 S.2.1 dX7_put_0 rfl (lv_at hl 1 rfl) ?_
  refine jn_if_lt (tgt := 20) S (by omega) dX7_put_1 (by decide) ?_
  refine lv_iload_n S.1 S.2.1 dX7_put_4 rfl (lv_at hl 1 rfl) ?_
  refine lv_aload_n S.1 S.2.1 dX7_put_5 rfl (lv_at hl 0 rfl) ?_
  refine j_get (ci := 6) (C := RX7) (T := TX7) (N := 1) (v := .ref ha) S (fun w h => List.mem_cons_of_mem _ (inG7 w h)) hK hW hk rfl 0 (by decide) (List.mem_cons_of_mem _ wfl_X7_7) (fun _ h9 => h9) rfl dX7_put_6 ?_
  refine j_alen (t0 := 1) S hK hW hj rfl dX7_put_9 ?_
  refine jn_cmp_ge (tgt := 20) S (by omega) (by omega) dX7_put_10 (by decide) (fun c_10 => ?_) (fun c_10 => ?_)
  · exact absurd c_10 (by omega)
  · refine lv_aload_n S.1 S.2.1 dX7_put_13 rfl (lv_at hl 0 rfl) ?_
    refine j_get (ci := 6) (C := RX7) (T := TX7) (N := 1) (v := .ref ha) S (fun w h => List.mem_cons_of_mem _ (inG7 w h)) hK hW hk rfl 0 (by decide) (List.mem_cons_of_mem _ wfl_X7_7) (fun _ h9 => h9) rfl dX7_put_14 ?_
    refine lv_iload_n S.1 S.2.1 dX7_put_17 rfl (lv_at hl 1 rfl) ?_
    refine lv_lload_n S.1 S.2.1 dX7_put_18 rfl (lv_at hl 2 rfl) ?_
    refine j_last S hK hW hj (vp_in_nI (by omega) (by omega)) (nI_clamp (by omega)) dX7_put_19 (fun H locs w_ hU1 hN1 hW => ?_)
    have hU : jU w w_ [j] := jU.mono hU1 (fun _ h => h)
    have hj_ : w_[j]? = some (ha, .inl (cy 1, n, .inr (.inl (vp_updL (lf f) i (lN x))))) := hN1
    clear hU1 hN1
    subst hQ
    exact j_vret (u := w_) S hr hK hW dX7_put_20 ⟨by decide, by decide⟩ (⟨rfl, hU, by rw [← lf_upd]; exact hj_⟩)
theorem c_X7_putM (l : Launch) (D : va_G) (cy : Nat → ClassId) {w : va_W} (k j h0 ha n i : Nat) (f : Nat → Nat) (x : Nat) (hk : w[k]? = some (h0, .inr (6, [.ref ha]))) (hj : w[j]? = some (ha, .inl (cy 1, n, .inr (.inl (lf f))))) (hi : i < 2 ^ 31) (hn : n < 2 ^ 31) : jM l yX7_put (jws yX7_put cX7_put 4 none) (jR 0 0 0) D cy w [.ref h0, .int (nI i), .long (lN x)] 0 0 (fun vv uu => vv = none ∧ jU w uu [j] ∧ uu[j]? = some (ha, .inl (cy 1, n, .inr (.inl (lf (upN n f i x)))))) := by
  refine j_of (by decide) rfl (Nat.le_of_ble_eq_true rfl) ?_
  intro p e s m args below meth c A ls Q hQ S hr hK hA H locs hW hl
  have hl : lv_has ls 4 [(0, .ref h0), (1, .int (nI i)), (2, .long (lN x))] := hl
  refine lv_iload_n S.1 S.2.1 dX7_put_0 rfl (lv_at hl 1 rfl) ?_
  refine jn_if_lt (tgt := 20) S (by omega) dX7_put_1 (by decide) ?_
  refine lv_iload_n S.1 S.2.1 dX7_put_4 rfl (lv_at hl 1 rfl) ?_
  refine lv_aload_n S.1 S.2.1 dX7_put_5 rfl (lv_at hl 0 rfl) ?_
  refine j_get (ci := 6) (C := RX7) (T := TX7) (N := 1) (v := .ref ha) S (fun w h => List.mem_cons_of_mem _ (inG7 w h)) hK hW hk rfl 0 (by decide) (List.mem_cons_of_mem _ wfl_X7_7) (fun _ h9 => h9) rfl dX7_put_6 ?_
  refine j_alen (t0 := 1) S hK hW hj rfl dX7_put_9 ?_
  refine jn_cmp_ge (tgt := 20) S (by omega) (by omega) dX7_put_10 (by decide) (fun c_10 => ?_) (fun c_10 => ?_)
  · subst hQ
    exact j_vret (u := w) S hr hK hW dX7_put_20 ⟨by decide, by decide⟩ (⟨rfl, jU.rf, by rw [upN, if_neg (by omega)]; exact hj⟩)
  · refine lv_aload_n S.1 S.2.1 dX7_put_13 rfl (lv_at hl 0 rfl) ?_
    refine j_get (ci := 6) (C := RX7) (T := TX7) (N := 1) (v := .ref ha) S (fun w h => List.mem_cons_of_mem _ (inG7 w h)) hK hW hk rfl 0 (by decide) (List.mem_cons_of_mem _ wfl_X7_7) (fun _ h9 => h9) rfl dX7_put_14 ?_
    refine lv_iload_n S.1 S.2.1 dX7_put_17 rfl (lv_at hl 1 rfl) ?_
    refine lv_lload_n S.1 S.2.1 dX7_put_18 rfl (lv_at hl 2 rfl) ?_
    refine j_last S hK hW hj (vp_in_nI (by omega) (by omega)) (nI_clamp (by omega)) dX7_put_19 (fun H locs w_ hU1 hN1 hW => ?_)
    have hU : jU w w_ [j] := jU.mono hU1 (fun _ h => h)
    have hj_ : w_[j]? = some (ha, .inl (cy 1, n, .inr (.inl (vp_updL (lf f) i (lN x))))) := hN1
    clear hU1 hN1
    subst hQ
    exact j_vret (u := w_) S hr hK hW dX7_put_20 ⟨by decide, by decide⟩ (⟨rfl, hU, by rw [upN, if_pos (by omega), ← lf_upd]; exact hj_⟩)
/-- hasKept -/
theorem c_X9_hasKept (l : Launch) (D : va_G) (cy : Nat → ClassId) {w : va_W} (ad : Nat → Nat) (ps pk pv pn : Nat → Nat) (nm pt nb ev : Nat) (hP : w[11]? = some (ad 11, .inr (8, [.ref (ad 12), .ref (ad 14), .ref (ad 16), .ref (ad 18)]))) (hP1o : w[12]? = some (ad 12, .inr (5, [.ref (ad 13)]))) (hP1a : w[13]? = some (ad 13, .inl (cy 0, 10, .inl (nf ps)))) (hP2o : w[14]? = some (ad 14, .inr (5, [.ref (ad 15)]))) (hP2a : w[15]? = some (ad 15, .inl (cy 0, 10, .inl (nf pk)))) (hP3o : w[16]? = some (ad 16, .inr (5, [.ref (ad 17)]))) (hP3a : w[17]? = some (ad 17, .inl (cy 0, 10, .inl (nf pv)))) (hP4o : w[18]? = some (ad 18, .inr (6, [.ref (ad 19)]))) (hP4a : w[19]? = some (ad 19, .inl (cy 1, 10, .inr (.inl (lf pn))))) (hnm : nm < 10) (hps : ∀ v, ps v < 2 ^ 31) (hpk : ∀ v, pk v < 2 ^ 31) (hpv : ∀ v, pv v < 2 ^ 31) (hpt : pt < 2 ^ 31 ∧ nb < 2 ^ 31 ∧ ev < 2 ^ 31) : jM l yX9_hasKept (jws yX9_hasKept cX9_hasKept 5 (some .boolean)) (jR 1 0 0) D cy w [.ref (ad 11), .int (nI nm), .int (nI pt), .int (nI nb), .int (nI ev)] 0 0 (fun vv uu => vv = some (.int (bI (decide (ps nm = pt) && decide (pk nm = nb) && decide (pv nm = ev)))) ∧ w = uu) := by
  have b1 := hps nm
  have b2 := hpk nm
  have b3 := hpv nm
  refine j_of (by decide) rfl (Nat.le_of_ble_eq_true rfl) ?_
  intro p e s m args below meth c A ls Q hQ S hr hK hA H locs hW hl
  have hl : lv_has ls 5 [(0, .ref (ad 11)), (1, .int (nI nm)), (2, .int (nI pt)), (3, .int (nI nb)), (4, .int (nI ev))] := hl
  refine lv_aload_n S.1 S.2.1 dX9_hasKept_0 rfl (lv_at hl 0 rfl) ?_
  refine j_get (ci := 8) (C := RX9) (T := TX9) (N := 4) (v := .ref (ad 12)) S (fun w h => List.mem_cons_of_mem _ (inG9 w h)) hK hW hP rfl 0 (by decide) (List.mem_cons_of_mem _ wfl_X9_14) (fun _ h9 => h9) rfl dX9_hasKept_1 ?_
  refine lv_iload_n S.1 S.2.1 dX9_hasKept_4 rfl (lv_at hl 1 rfl) ?_
  refine j_callV (k := 12) (ci := 5) (q := (RX6, TX6, 1)) (As := [.int (nI nm)]) (rest := []) S hK hA hW (c_X6_atN l D cy 12 13 (ad 12) (ad 13) 10 nm ps hP1o hP1a   (by omega) (by decide)) (jgo wm_X9_33) yk_X6_at hP1o rfl rfl ⟨⟨rfl, rfl⟩, by decide, by decide⟩ rfl hl.1 rfl (Nat.le_of_ble_eq_true rfl) dX9_hasKept_5 ⟨Nat.le_of_ble_eq_true rfl, Nat.le_of_ble_eq_true rfl⟩ (fun v u H locs hp hW => ?_)
  obtain ⟨rfl, rfl⟩ := hp
  refine W.eq (g2 := F0 m 8 ls [.int (nI (ps nm))]) rfl ?_
  refine lv_iload_n S.1 S.2.1 dX9_hasKept_8 rfl (lv_at hl 2 rfl) ?_
  refine jn_cmp_ne (tgt := 41) S (by omega) (by omega) dX9_hasKept_9 (by decide) (fun c_9 => ?_) (fun c_9 => ?_)
  · refine lv_iconst (v := nI 0) S.1 S.2.1 dX9_hasKept_41 (by decide) ?_
    subst hQ
    exact j_iret (u := w) S hr (rfl) hK hW dX9_hasKept_42 ⟨by decide, by decide⟩ (⟨bI_F (by simp [*]), rfl⟩)
  · refine lv_aload_n S.1 S.2.1 dX9_hasKept_12 rfl (lv_at hl 0 rfl) ?_
    refine j_get (ci := 8) (C := RX9) (T := TX9) (N := 4) (v := .ref (ad 14)) S (fun w h => List.mem_cons_of_mem _ (inG9 w h)) hK hW hP rfl 1 (by decide) (List.mem_cons_of_mem _ wfl_X9_20) (fun _ h9 => h9) rfl dX9_hasKept_13 ?_
    refine lv_iload_n S.1 S.2.1 dX9_hasKept_16 rfl (lv_at hl 1 rfl) ?_
    refine j_callV (k := 14) (ci := 5) (q := (RX6, TX6, 1)) (As := [.int (nI nm)]) (rest := []) S hK hA hW (c_X6_atN l D cy 14 15 (ad 14) (ad 15) 10 nm pk hP2o hP2a   (by omega) (by decide)) (jgo wm_X9_33) yk_X6_at hP2o rfl rfl ⟨⟨rfl, rfl⟩, by decide, by decide⟩ rfl hl.1 rfl (Nat.le_of_ble_eq_true rfl) dX9_hasKept_17 ⟨Nat.le_of_ble_eq_true rfl, Nat.le_of_ble_eq_true rfl⟩ (fun v u H locs hp hW => ?_)
    obtain ⟨rfl, rfl⟩ := hp
    refine W.eq (g2 := F0 m 20 ls [.int (nI (pk nm))]) rfl ?_
    refine lv_iload_n S.1 S.2.1 dX9_hasKept_20 rfl (lv_at hl 3 rfl) ?_
    refine jn_cmp_ne (tgt := 41) S (by omega) (by omega) dX9_hasKept_21 (by decide) (fun c_21 => ?_) (fun c_21 => ?_)
    · refine lv_iconst (v := nI 0) S.1 S.2.1 dX9_hasKept_41 (by decide) ?_
      subst hQ
      exact j_iret (u := w) S hr (rfl) hK hW dX9_hasKept_42 ⟨by decide, by decide⟩ (⟨bI_F (by simp [*]), rfl⟩)
    · refine lv_aload_n S.1 S.2.1 dX9_hasKept_24 rfl (lv_at hl 0 rfl) ?_
      refine j_get (ci := 8) (C := RX9) (T := TX9) (N := 4) (v := .ref (ad 16)) S (fun w h => List.mem_cons_of_mem _ (inG9 w h)) hK hW hP rfl 2 (by decide) (List.mem_cons_of_mem _ wfl_X9_23) (fun _ h9 => h9) rfl dX9_hasKept_25 ?_
      refine lv_iload_n S.1 S.2.1 dX9_hasKept_28 rfl (lv_at hl 1 rfl) ?_
      refine j_callV (k := 16) (ci := 5) (q := (RX6, TX6, 1)) (As := [.int (nI nm)]) (rest := []) S hK hA hW (c_X6_atN l D cy 16 17 (ad 16) (ad 17) 10 nm pv hP3o hP3a   (by omega) (by decide)) (jgo wm_X9_33) yk_X6_at hP3o rfl rfl ⟨⟨rfl, rfl⟩, by decide, by decide⟩ rfl hl.1 rfl (Nat.le_of_ble_eq_true rfl) dX9_hasKept_29 ⟨Nat.le_of_ble_eq_true rfl, Nat.le_of_ble_eq_true rfl⟩ (fun v u H locs hp hW => ?_)
      obtain ⟨rfl, rfl⟩ := hp
      refine W.eq (g2 := F0 m 32 ls [.int (nI (pv nm))]) rfl ?_
      refine lv_iload S.1 S.2.1 dX9_hasKept_32 (lv_at hl 4 rfl) ?_
      refine jn_cmp_ne (tgt := 41) S (by omega) (by omega) dX9_hasKept_34 (by decide) (fun c_34 => ?_) (fun c_34 => ?_)
      · refine lv_iconst (v := nI 0) S.1 S.2.1 dX9_hasKept_41 (by decide) ?_
        subst hQ
        exact j_iret (u := w) S hr (rfl) hK hW dX9_hasKept_42 ⟨by decide, by decide⟩ (⟨bI_F (by simp [*]), rfl⟩)
      · refine lv_iconst (v := nI 1) S.1 S.2.1 dX9_hasKept_37 (by decide) ?_
        refine lv_goto (tgt := 42) S.1 S.2.1 dX9_hasKept_38 (by decide) ?_
        subst hQ
        exact j_iret (u := w) S hr (rfl) hK hW dX9_hasKept_42 ⟨by decide, by decide⟩ (⟨bI_T (by simp [*]), rfl⟩)
/-- note -/
theorem c_X9_note (l : Launch) (D : va_G) (cy : Nat → ClassId) {w : va_W} (ad : Nat → Nat) (ps pk pv pn : Nat → Nat) (nm pt nb ev ct : Nat) (hP : w[11]? = some (ad 11, .inr (8, [.ref (ad 12), .ref (ad 14), .ref (ad 16), .ref (ad 18)]))) (hP1o : w[12]? = some (ad 12, .inr (5, [.ref (ad 13)]))) (hP1a : w[13]? = some (ad 13, .inl (cy 0, 10, .inl (nf ps)))) (hP2o : w[14]? = some (ad 14, .inr (5, [.ref (ad 15)]))) (hP2a : w[15]? = some (ad 15, .inl (cy 0, 10, .inl (nf pk)))) (hP3o : w[16]? = some (ad 16, .inr (5, [.ref (ad 17)]))) (hP3a : w[17]? = some (ad 17, .inl (cy 0, 10, .inl (nf pv)))) (hP4o : w[18]? = some (ad 18, .inr (6, [.ref (ad 19)]))) (hP4a : w[19]? = some (ad 19, .inl (cy 1, 10, .inr (.inl (lf pn))))) (hnm : nm < 10) : jM l yX9_note (jws yX9_note cX9_note 7 none) (jR 1 0 0) D cy w [.ref (ad 11), .int (nI nm), .int (nI pt), .int (nI nb), .int (nI ev), .long (lN ct)] 0 0 (fun vv uu => vv = none ∧ jU w uu [13, 15, 17, 19] ∧ uu[13]? = some (ad 13, .inl (cy 0, 10, .inl (nf (upB ps nm pt)))) ∧ uu[15]? = some (ad 15, .inl (cy 0, 10, .inl (nf (upB pk nm nb)))) ∧ uu[17]? = some (ad 17, .inl (cy 0, 10, .inl (nf (upB pv nm ev)))) ∧ uu[19]? = some (ad 19, .inl (cy 1, 10, .inr (.inl (lf (upB pn nm ct)))))) := by
  refine j_of (by decide) rfl (Nat.le_of_ble_eq_true rfl) ?_
  intro p e s m args below meth c A ls Q hQ S hr hK hA H locs hW hl
  have hl : lv_has ls 7 [(0, .ref (ad 11)), (1, .int (nI nm)), (2, .int (nI pt)), (3, .int (nI nb)), (4, .int (nI ev)), (5, .long (lN ct))] := hl
  refine lv_aload_n S.1 S.2.1 dX9_note_0 rfl (lv_at hl 0 rfl) ?_
  refine j_get (ci := 8) (C := RX9) (T := TX9) (N := 4) (v := .ref (ad 12)) S (fun w h => List.mem_cons_of_mem _ (inG9 w h)) hK hW hP rfl 0 (by decide) (List.mem_cons_of_mem _ wfl_X9_14) (fun _ h9 => h9) rfl dX9_note_1 ?_
  refine lv_iload_n S.1 S.2.1 dX9_note_4 rfl (lv_at hl 1 rfl) ?_
  refine lv_iload_n S.1 S.2.1 dX9_note_5 rfl (lv_at hl 2 rfl) ?_
  refine j_callV (k := 12) (ci := 5) (q := (RX6, TX6, 1)) (As := [.int (nI nm), .int (nI pt)]) (rest := []) S hK hA hW (c_X6_putN l D cy 12 13 (ad 12) (ad 13) 10 nm ps pt hP1o hP1a   (by omega) (by decide)) (jgo wm_X9_37) yk_X6_put hP1o rfl rfl ⟨⟨rfl, rfl⟩, by decide, by decide⟩ rfl hl.1 rfl (Nat.le_of_ble_eq_true rfl) dX9_note_6 ⟨Nat.le_of_ble_eq_true rfl, Nat.le_of_ble_eq_true rfl⟩ (fun v w_ H locs hp hW => ?_)
  obtain ⟨rfl, hU1, hN1⟩ := hp
  have hU : jU w w_ [13, 15, 17, 19] := jU.mono hU1 (by decide)
  have hP2a_ := hU1.get hP2a (by decide)
  have hP3a_ := hU1.get hP3a (by decide)
  have hP4a_ := hU1.get hP4a (by decide)
  have hP1a_ : w_[13]? = some (ad 13, .inl (cy 0, 10, .inl (nf (upB ps nm pt)))) := hN1
  clear hU1 hN1
  refine W.eq (g2 := F0 m 9 ls []) rfl ?_
  refine lv_aload_n S.1 S.2.1 dX9_note_9 rfl (lv_at hl 0 rfl) ?_
  refine j_get (ci := 8) (C := RX9) (T := TX9) (N := 4) (v := .ref (ad 14)) S (fun w h => List.mem_cons_of_mem _ (inG9 w h)) hK hW (hU.get hP (by decide)) rfl 1 (by decide) (List.mem_cons_of_mem _ wfl_X9_20) (fun _ h9 => h9) rfl dX9_note_10 ?_
  refine lv_iload_n S.1 S.2.1 dX9_note_13 rfl (lv_at hl 1 rfl) ?_
  refine lv_iload_n S.1 S.2.1 dX9_note_14 rfl (lv_at hl 3 rfl) ?_
  refine j_callV (k := 14) (ci := 5) (q := (RX6, TX6, 1)) (As := [.int (nI nm), .int (nI nb)]) (rest := []) S hK hA hW (c_X6_putN l D cy 14 15 (ad 14) (ad 15) 10 nm pk nb (hU.get hP2o (by decide)) hP2a_   (by omega) (by decide)) (jgo wm_X9_37) yk_X6_put (hU.get hP2o (by decide)) rfl rfl ⟨⟨rfl, rfl⟩, by decide, by decide⟩ rfl hl.1 rfl (Nat.le_of_ble_eq_true rfl) dX9_note_15 ⟨Nat.le_of_ble_eq_true rfl, Nat.le_of_ble_eq_true rfl⟩ (fun v w_ H locs hp hW => ?_)
  obtain ⟨rfl, hU1, hN1⟩ := hp
  have hU := hU.then hU1 (by decide)
  have hP3a_ := hU1.get hP3a_ (by decide)
  have hP4a_ := hU1.get hP4a_ (by decide)
  have hP1a_ := hU1.get hP1a_ (by decide)
  have hP2a_ : w_[15]? = some (ad 15, .inl (cy 0, 10, .inl (nf (upB pk nm nb)))) := hN1
  clear hU1 hN1
  refine W.eq (g2 := F0 m 18 ls []) rfl ?_
  refine lv_aload_n S.1 S.2.1 dX9_note_18 rfl (lv_at hl 0 rfl) ?_
  refine j_get (ci := 8) (C := RX9) (T := TX9) (N := 4) (v := .ref (ad 16)) S (fun w h => List.mem_cons_of_mem _ (inG9 w h)) hK hW (hU.get hP (by decide)) rfl 2 (by decide) (List.mem_cons_of_mem _ wfl_X9_23) (fun _ h9 => h9) rfl dX9_note_19 ?_
  refine lv_iload_n S.1 S.2.1 dX9_note_22 rfl (lv_at hl 1 rfl) ?_
  refine lv_iload S.1 S.2.1 dX9_note_23 (lv_at hl 4 rfl) ?_
  refine j_callV (k := 16) (ci := 5) (q := (RX6, TX6, 1)) (As := [.int (nI nm), .int (nI ev)]) (rest := []) S hK hA hW (c_X6_putN l D cy 16 17 (ad 16) (ad 17) 10 nm pv ev (hU.get hP3o (by decide)) hP3a_   (by omega) (by decide)) (jgo wm_X9_37) yk_X6_put (hU.get hP3o (by decide)) rfl rfl ⟨⟨rfl, rfl⟩, by decide, by decide⟩ rfl hl.1 rfl (Nat.le_of_ble_eq_true rfl) dX9_note_25 ⟨Nat.le_of_ble_eq_true rfl, Nat.le_of_ble_eq_true rfl⟩ (fun v w_ H locs hp hW => ?_)
  obtain ⟨rfl, hU1, hN1⟩ := hp
  have hU := hU.then hU1 (by decide)
  have hP2a_ := hU1.get hP2a_ (by decide)
  have hP4a_ := hU1.get hP4a_ (by decide)
  have hP1a_ := hU1.get hP1a_ (by decide)
  have hP3a_ : w_[17]? = some (ad 17, .inl (cy 0, 10, .inl (nf (upB pv nm ev)))) := hN1
  clear hU1 hN1
  refine W.eq (g2 := F0 m 28 ls []) rfl ?_
  refine lv_aload_n S.1 S.2.1 dX9_note_28 rfl (lv_at hl 0 rfl) ?_
  refine j_get (ci := 8) (C := RX9) (T := TX9) (N := 4) (v := .ref (ad 18)) S (fun w h => List.mem_cons_of_mem _ (inG9 w h)) hK hW (hU.get hP (by decide)) rfl 3 (by decide) (List.mem_cons_of_mem _ wfl_X9_29) (fun _ h9 => h9) rfl dX9_note_29 ?_
  refine lv_iload_n S.1 S.2.1 dX9_note_32 rfl (lv_at hl 1 rfl) ?_
  refine lv_lload S.1 S.2.1 dX9_note_33 (lv_at hl 5 rfl) ?_
  refine j_callV (k := 18) (ci := 6) (q := (RX7, TX7, 1)) (As := [.int (nI nm), .long (lN ct)]) (rest := []) S hK hA hW (c_X7_putN l D cy 18 19 (ad 18) (ad 19) 10 nm pn ct (hU.get hP4o (by decide)) hP4a_   (by omega) (by decide)) (jgo wm_X9_41) yk_X7_put (hU.get hP4o (by decide)) rfl rfl ⟨⟨rfl, rfl⟩, by decide, by decide⟩ rfl hl.1 rfl (Nat.le_of_ble_eq_true rfl) dX9_note_35 ⟨Nat.le_of_ble_eq_true rfl, Nat.le_of_ble_eq_true rfl⟩ (fun v w_ H locs hp hW => ?_)
  obtain ⟨rfl, hU1, hN1⟩ := hp
  have hU := hU.then hU1 (by decide)
  have hP2a_ := hU1.get hP2a_ (by decide)
  have hP3a_ := hU1.get hP3a_ (by decide)
  have hP1a_ := hU1.get hP1a_ (by decide)
  have hP4a_ : w_[19]? = some (ad 19, .inl (cy 1, 10, .inr (.inl (lf (upB pn nm ct))))) := hN1
  clear hU1 hN1
  refine W.eq (g2 := F0 m 38 ls []) rfl ?_
  subst hQ
  exact j_vret (u := w_) S hr hK hW dX9_note_38 ⟨by decide, by decide⟩ (⟨rfl, hU, hP1a_, hP2a_, hP3a_, hP4a_⟩)
/-- recall -/
theorem c_X9_recall (l : Launch) (D : va_G) (cy : Nat → ClassId) {w : va_W} (ad : Nat → Nat) (ps pk pv pn : Nat → Nat) (nm : Nat) (hP : w[11]? = some (ad 11, .inr (8, [.ref (ad 12), .ref (ad 14), .ref (ad 16), .ref (ad 18)]))) (hP1o : w[12]? = some (ad 12, .inr (5, [.ref (ad 13)]))) (hP1a : w[13]? = some (ad 13, .inl (cy 0, 10, .inl (nf ps)))) (hP2o : w[14]? = some (ad 14, .inr (5, [.ref (ad 15)]))) (hP2a : w[15]? = some (ad 15, .inl (cy 0, 10, .inl (nf pk)))) (hP3o : w[16]? = some (ad 16, .inr (5, [.ref (ad 17)]))) (hP3a : w[17]? = some (ad 17, .inl (cy 0, 10, .inl (nf pv)))) (hP4o : w[18]? = some (ad 18, .inr (6, [.ref (ad 19)]))) (hP4a : w[19]? = some (ad 19, .inl (cy 1, 10, .inr (.inl (lf pn))))) (hnm : nm < 10) : jM l yX9_recall (jws yX9_recall cX9_recall 2 (some .long)) (jR 1 0 0) D cy w [.ref (ad 11), .int (nI nm)] 0 0 (fun vv uu => vv = some (.long (lN (pn nm))) ∧ w = uu) := by
  refine j_of (by decide) rfl (Nat.le_of_ble_eq_true rfl) ?_
  intro p e s m args below meth c A ls Q hQ S hr hK hA H locs hW hl
  have hl : lv_has ls 2 [(0, .ref (ad 11)), (1, .int (nI nm))] := hl
  refine lv_aload_n S.1 S.2.1 dX9_recall_0 rfl (lv_at hl 0 rfl) ?_
  refine j_get (ci := 8) (C := RX9) (T := TX9) (N := 4) (v := .ref (ad 18)) S (fun w h => List.mem_cons_of_mem _ (inG9 w h)) hK hW hP rfl 3 (by decide) (List.mem_cons_of_mem _ wfl_X9_29) (fun _ h9 => h9) rfl dX9_recall_1 ?_
  refine lv_iload_n S.1 S.2.1 dX9_recall_4 rfl (lv_at hl 1 rfl) ?_
  refine j_callV (k := 18) (ci := 6) (q := (RX7, TX7, 1)) (As := [.int (nI nm)]) (rest := []) S hK hA hW (c_X7_atN l D cy 18 19 (ad 18) (ad 19) 10 nm pn hP4o hP4a   (by omega) (by decide)) (jgo wm_X9_44) yk_X7_at hP4o rfl rfl ⟨⟨rfl, rfl⟩, by decide, by decide⟩ rfl hl.1 rfl (Nat.le_of_ble_eq_true rfl) dX9_recall_5 ⟨Nat.le_of_ble_eq_true rfl, Nat.le_of_ble_eq_true rfl⟩ (fun v u H locs hp hW => ?_)
  obtain ⟨rfl, rfl⟩ := hp
  refine W.eq (g2 := F0 m 8 ls [.long (lN (pn nm))]) rfl ?_
  subst hQ
  exact j_lret (u := w) S hr hK hW dX9_recall_8 ⟨by decide, by decide⟩ (⟨rfl, rfl⟩)
/-- restart of the ranking -/
theorem c_X10_restart (l : Launch) (D : va_G) (cy : Nat → ClassId) {w : va_W} (ad : Nat → Nat) (ct : Nat) (ra rw_ : Nat → Nat) (hR : w[26]? = some (ad 26, .inr (9, [.ref (ad 27), .ref (ad 29), .int (nI ct)]))) (hRao : w[27]? = some (ad 27, .inr (5, [.ref (ad 28)]))) (hRaa : w[28]? = some (ad 28, .inl (cy 0, 21, .inl (nf ra)))) (hRwo : w[29]? = some (ad 29, .inr (6, [.ref (ad 30)]))) (hRwa : w[30]? = some (ad 30, .inl (cy 1, 21, .inr (.inl (lf rw_))))) : jM l yX10_restart (jws yX10_restart cX10_restart 1 none) (jR 0 0 0) D cy w [.ref (ad 26)] 0 0 (fun vv uu => vv = none ∧ jU w uu [26] ∧ uu[26]? = some (ad 26, .inr (9, [.ref (ad 27), .ref (ad 29), .int (nI 0)]))) := by
  refine j_of (by decide) rfl (Nat.le_of_ble_eq_true rfl) ?_
  intro p e s m args below meth c A ls Q hQ S hr hK hA H locs hW hl
  have hl : lv_has ls 1 [(0, .ref (ad 26))] := hl
  refine lv_aload_n S.1 S.2.1 dX10_restart_0 rfl (lv_at hl 0 rfl) ?_
  refine lv_iconst (v := nI 0) S.1 S.2.1 dX10_restart_1 (by decide) ?_
  refine j_put (ci := 9) (C := RX10) (T := TX10) (N := 3) (ty := .int) S (fun w h => List.mem_cons_of_mem _ (inG10 w h)) tyX10 tyX10_ok nmX10 hK hW hR rfl 2 (by decide) (List.mem_cons_of_mem _ wfl_X10_27) (fun _ h9 => h9) rfl (by decide +kernel) (rfl) (rfl) (Nat.le_of_ble_eq_true rfl) dX10_restart_2 (fun H locs w_ hU1 hN1 hW => ?_)
  have hU : jU w w_ [26] := jU.mono hU1 (by decide)
  have hR_ : w_[26]? = some (ad 26, .inr (9, [.ref (ad 27), .ref (ad 29), .int (nI 0)])) := hN1
  clear hU1 hN1
  subst hQ
  exact j_vret (u := w_) S hr hK hW dX10_restart_5 ⟨by decide, by decide⟩ (⟨rfl, hU, hR_⟩)
/-- assignmentAt -/
theorem c_X10_assignmentAt (l : Launch) (D : va_G) (cy : Nat → ClassId) {w : va_W} (ad : Nat → Nat) (ct : Nat) (ra rw_ : Nat → Nat) (rk : Nat) (hR : w[26]? = some (ad 26, .inr (9, [.ref (ad 27), .ref (ad 29), .int (nI ct)]))) (hRao : w[27]? = some (ad 27, .inr (5, [.ref (ad 28)]))) (hRaa : w[28]? = some (ad 28, .inl (cy 0, 21, .inl (nf ra)))) (hRwo : w[29]? = some (ad 29, .inr (6, [.ref (ad 30)]))) (hRwa : w[30]? = some (ad 30, .inl (cy 1, 21, .inr (.inl (lf rw_))))) (hrk : rk < 21) : jM l yX10_assignmentAt (jws yX10_assignmentAt cX10_assignmentAt 2 (some .int)) (jR 1 0 0) D cy w [.ref (ad 26), .int (nI rk)] 0 0 (fun vv uu => vv = some (.int (nI (ra rk))) ∧ w = uu) := by
  refine j_of (by decide) rfl (Nat.le_of_ble_eq_true rfl) ?_
  intro p e s m args below meth c A ls Q hQ S hr hK hA H locs hW hl
  have hl : lv_has ls 2 [(0, .ref (ad 26)), (1, .int (nI rk))] := hl
  refine lv_aload_n S.1 S.2.1 dX10_assignmentAt_0 rfl (lv_at hl 0 rfl) ?_
  refine j_get (ci := 9) (C := RX10) (T := TX10) (N := 3) (v := .ref (ad 27)) S (fun w h => List.mem_cons_of_mem _ (inG10 w h)) hK hW hR rfl 0 (by decide) (List.mem_cons_of_mem _ wfl_X10_16) (fun _ h9 => h9) rfl dX10_assignmentAt_1 ?_
  refine lv_iload_n S.1 S.2.1 dX10_assignmentAt_4 rfl (lv_at hl 1 rfl) ?_
  refine j_callV (k := 27) (ci := 5) (q := (RX6, TX6, 1)) (As := [.int (nI rk)]) (rest := []) S hK hA hW (c_X6_atN l D cy 27 28 (ad 27) (ad 28) 21 rk ra hRao hRaa   (by omega) (by decide)) (jgo wm_X10_35) yk_X6_at hRao rfl rfl ⟨⟨rfl, rfl⟩, by decide, by decide⟩ rfl hl.1 rfl (Nat.le_of_ble_eq_true rfl) dX10_assignmentAt_5 ⟨Nat.le_of_ble_eq_true rfl, Nat.le_of_ble_eq_true rfl⟩ (fun v u H locs hp hW => ?_)
  obtain ⟨rfl, rfl⟩ := hp
  refine W.eq (g2 := F0 m 8 ls [.int (nI (ra rk))]) rfl ?_
  subst hQ
  exact j_iret (u := w) S hr (rfl) hK hW dX10_assignmentAt_8 ⟨by decide, by decide⟩ (⟨rfl, rfl⟩)
/-- enter: put in behind those of no less weight -/
theorem c_X10_enter (l : Launch) (D : va_G) (cy : Nat → ClassId) {w : va_W} (ad : Nat → Nat) (ct : Nat) (ra rw_ : Nat → Nat) (a wt : Nat) (hR : w[26]? = some (ad 26, .inr (9, [.ref (ad 27), .ref (ad 29), .int (nI ct)]))) (hRao : w[27]? = some (ad 27, .inr (5, [.ref (ad 28)]))) (hRaa : w[28]? = some (ad 28, .inl (cy 0, 21, .inl (nf ra)))) (hRwo : w[29]? = some (ad 29, .inr (6, [.ref (ad 30)]))) (hRwa : w[30]? = some (ad 30, .inl (cy 1, 21, .inr (.inl (lf rw_))))) (hct : ct ≤ 21) (hwb : ∀ j, rw_ j < 2 ^ 62) (hwt : wt < 2 ^ 62) : jM l yX10_enter (jws yX10_enter cX10_enter 5 none) (jR 1 0 0) D cy w [.ref (ad 26), .int (nI a), .long (lN wt)] 0 0 (fun vv uu => ∃ (r : Nat), vv = none ∧ (r ≤ ct ∧ (∀ j, r ≤ j → j < ct → rw_ j < wt) ∧ (r = 0 ∨ wt ≤ rw_ (r - 1))) ∧ jU w uu [26, 28, 30] ∧ uu[26]? = some (ad 26, .inr (9, [.ref (ad 27), .ref (ad 29), .int (nI (if ct < 21 then ct + 1 else 21))])) ∧ uu[28]? = some (ad 28, .inl (cy 0, 21, .inl (nf (insF r ct a ra)))) ∧ uu[30]? = some (ad 30, .inl (cy 1, 21, .inr (.inl (lf (insF r ct wt rw_)))))) := by
  refine j_of (by decide) rfl (Nat.le_of_ble_eq_true rfl) ?_
  intro p e s m args below meth c A ls Q hQ S hr hK hA H locs hW hl
  have hl : lv_has ls 5 [(0, .ref (ad 26)), (1, .int (nI a)), (2, .long (lN wt))] := hl
  refine lv_aload_n S.1 S.2.1 dX10_enter_0 rfl (lv_at hl 0 rfl) ?_
  refine j_get (ci := 9) (C := RX10) (T := TX10) (N := 3) (v := .int (nI ct)) S (fun w h => List.mem_cons_of_mem _ (inG10 w h)) hK hW hR rfl 2 (by decide) (List.mem_cons_of_mem _ wfl_X10_27) (fun _ h9 => h9) rfl dX10_enter_1 ?_
  refine lv_istore (lv' := [(4, .int (nI ct)), (0, .ref (ad 26)), (1, .int (nI a)), (2, .long (lN wt))]) S.1 S.2.1 dX10_enter_4 hl (by decide) rfl (fun ls hl => ?_)
  have hRaa_ : w[28]? = some (ad 28, .inl (cy 0, 21, .inl (nf (movF ct ct ra)))) := by
    rw [movF_0]; exact hRaa
  have hRwa_ : w[30]? = some (ad 30, .inl (cy 1, 21, .inr (.inl (lf (movF ct ct rw_))))) := by
    rw [movF_0]; exact hRwa
  have L6 : ∀ (k : Nat) (r : Nat), r = k → (r ≤ ct) → (∀ j, r ≤ j → j < ct → rw_ j < wt) → ∀ (w_ : va_W), jU w w_ [26, 28, 30] → (w_[26]? = some (ad 26, .inr (9, [.ref (ad 27), .ref (ad 29), .int (nI ct)]))) → (w_[28]? = some (ad 28, .inl (cy 0, 21, .inl (nf (movF r ct ra))))) → (w_[30]? = some (ad 30, .inl (cy 1, 21, .inr (.inl (lf (movF r ct rw_)))))) → ∀ (H : Heap) (locs : List Loc) (ls : Array Slot), jW D A s.heap w_ H locs → lv_has ls 5 [(0, .ref (ad 26)), (1, .int (nI a)), (2, .long (lN wt)), (4, .int (nI r))] → W p l e (jR 1 0 0) s m args below meth c H locs 0 0 Q (F0 m 6 ls []) := by
    intro k
    induction k using Nat.strongRecOn with
    | ind k ih6 =>
    intro r hk hr1 hr2 w_ hU hR_ hRaa_ hRwa_ H locs ls hW hl
    subst hk
    refine lv_iload S.1 S.2.1 dX10_enter_6 (lv_at hl 3 rfl) ?_
    refine jn_if_le (tgt := 73) S (by omega) dX10_enter_8 (by decide) (fun c_8 => ?_) (fun c_8 => ?_)
    · refine lv_aload_n S.1 S.2.1 dX10_enter_73 rfl (lv_at hl 0 rfl) ?_
      refine j_get (ci := 9) (C := RX10) (T := TX10) (N := 3) (v := .ref (ad 27)) S (fun w h => List.mem_cons_of_mem _ (inG10 w h)) hK hW hR_ rfl 0 (by decide) (List.mem_cons_of_mem _ wfl_X10_16) (fun _ h9 => h9) rfl dX10_enter_74 ?_
      refine lv_iload S.1 S.2.1 dX10_enter_77 (lv_at hl 3 rfl) ?_
      refine lv_iload_n S.1 S.2.1 dX10_enter_79 rfl (lv_at hl 1 rfl) ?_
      refine j_callV (k := 27) (ci := 5) (q := (RX6, TX6, 1)) (As := [.int (nI r), .int (nI a)]) (rest := []) S hK hA hW (c_X6_putM l D cy 27 28 (ad 27) (ad 28) 21 r (movF r ct ra) a (hU.get hRao (by decide)) hRaa_   (by omega) (by decide)) (jgo wm_X10_38) yk_X6_put (hU.get hRao (by decide)) rfl rfl ⟨⟨rfl, rfl⟩, by decide, by decide⟩ rfl hl.1 rfl (Nat.le_of_ble_eq_true rfl) dX10_enter_80 ⟨Nat.le_of_ble_eq_true rfl, Nat.le_of_ble_eq_true rfl⟩ (fun v w_ H locs hp hW => ?_)
      obtain ⟨rfl, hU1, hN1⟩ := hp
      have hU := hU.then hU1 (by decide)
      have hR_ := hU1.get hR_ (by decide)
      have hRwa_ := hU1.get hRwa_ (by decide)
      have hRaa_ : w_[28]? = some (ad 28, .inl (cy 0, 21, .inl (nf (upN 21 (movF r ct ra) r a)))) := hN1
      clear hU1 hN1
      refine W.eq (g2 := F0 m 83 ls []) rfl ?_
      obtain ⟨w_, hU1, hN1, hW⟩ := j_ghostI (nf (insF r ct a ra)) hW hRaa_ (fun j hj => congrArg nI (insF_end (n := 21) j hj))
      have hU := hU.then hU1 (by decide)
      have hR_ := hU1.get hR_ (by decide)
      have hRwa_ := hU1.get hRwa_ (by decide)
      have hRaa_ : w_[28]? = some (ad 28, .inl (cy 0, 21, .inl (nf (insF r ct a ra)))) := hN1
      clear hU1 hN1
      refine lv_aload_n S.1 S.2.1 dX10_enter_83 rfl (lv_at hl 0 rfl) ?_
      refine j_get (ci := 9) (C := RX10) (T := TX10) (N := 3) (v := .ref (ad 29)) S (fun w h => List.mem_cons_of_mem _ (inG10 w h)) hK hW hR_ rfl 1 (by decide) (List.mem_cons_of_mem _ wfl_X10_23) (fun _ h9 => h9) rfl dX10_enter_84 ?_
      refine lv_iload S.1 S.2.1 dX10_enter_87 (lv_at hl 3 rfl) ?_
      refine lv_lload_n S.1 S.2.1 dX10_enter_89 rfl (lv_at hl 2 rfl) ?_
      refine j_callV (k := 29) (ci := 6) (q := (RX7, TX7, 1)) (As := [.int (nI r), .long (lN wt)]) (rest := []) S hK hA hW (c_X7_putM l D cy 29 30 (ad 29) (ad 30) 21 r (movF r ct rw_) wt (hU.get hRwo (by decide)) hRwa_   (by omega) (by decide)) (jgo wm_X10_42) yk_X7_put (hU.get hRwo (by decide)) rfl rfl ⟨⟨rfl, rfl⟩, by decide, by decide⟩ rfl hl.1 rfl (Nat.le_of_ble_eq_true rfl) dX10_enter_90 ⟨Nat.le_of_ble_eq_true rfl, Nat.le_of_ble_eq_true rfl⟩ (fun v w_ H locs hp hW => ?_)
      obtain ⟨rfl, hU1, hN1⟩ := hp
      have hU := hU.then hU1 (by decide)
      have hR_ := hU1.get hR_ (by decide)
      have hRaa_ := hU1.get hRaa_ (by decide)
      have hRwa_ : w_[30]? = some (ad 30, .inl (cy 1, 21, .inr (.inl (lf (upN 21 (movF r ct rw_) r wt))))) := hN1
      clear hU1 hN1
      refine W.eq (g2 := F0 m 93 ls []) rfl ?_
      obtain ⟨w_, hU1, hN1, hW⟩ := j_ghostJ (lf (insF r ct wt rw_)) hW hRwa_ (fun j hj => congrArg lN (insF_end (n := 21) j hj))
      have hU := hU.then hU1 (by decide)
      have hR_ := hU1.get hR_ (by decide)
      have hRaa_ := hU1.get hRaa_ (by decide)
      have hRwa_ : w_[30]? = some (ad 30, .inl (cy 1, 21, .inr (.inl (lf (insF r ct wt rw_))))) := hN1
      clear hU1 hN1
      refine lv_aload_n S.1 S.2.1 dX10_enter_93 rfl (lv_at hl 0 rfl) ?_
      refine lv_aload_n S.1 S.2.1 dX10_enter_94 rfl (lv_at hl 0 rfl) ?_
      refine j_get (ci := 9) (C := RX10) (T := TX10) (N := 3) (v := .int (nI ct)) S (fun w h => List.mem_cons_of_mem _ (inG10 w h)) hK hW hR_ rfl 2 (by decide) (List.mem_cons_of_mem _ wfl_X10_27) (fun _ h9 => h9) rfl dX10_enter_95 ?_
      refine lv_bipush (v := nI 21) S.1 S.2.1 dX10_enter_98 (by decide) ?_
      refine jn_cmp_ge (tgt := 112) S (by omega) (by omega) dX10_enter_100 (by decide) (fun c_100 => ?_) (fun c_100 => ?_)
      · refine lv_bipush (v := nI 21) S.1 S.2.1 dX10_enter_112 (by decide) ?_
        refine j_put (ci := 9) (C := RX10) (T := TX10) (N := 3) (ty := .int) S (fun w h => List.mem_cons_of_mem _ (inG10 w h)) tyX10 tyX10_ok nmX10 hK hW hR_ rfl 2 (by decide) (List.mem_cons_of_mem _ wfl_X10_27) (fun _ h9 => h9) rfl (by decide +kernel) (rfl) (rfl) (Nat.le_of_ble_eq_true rfl) dX10_enter_114 (fun H locs w_ hU1 hN1 hW => ?_)
        have hU := hU.then hU1 (by decide)
        have hRaa_ := hU1.get hRaa_ (by decide)
        have hRwa_ := hU1.get hRwa_ (by decide)
        have hR_ : w_[26]? = some (ad 26, .inr (9, [.ref (ad 27), .ref (ad 29), .int (nI 21)])) := hN1
        clear hU1 hN1
        subst hQ
        refine j_vret (u := w_) S hr hK hW dX10_enter_117 ⟨by decide, by decide⟩ ?_
        refine ⟨r, rfl, ⟨hr1, hr2, ?_⟩, hU, ?_, hRaa_, hRwa_⟩
        · first | exact Or.inl c_8 | (rw [hmv] at c_24; exact Or.inr c_24)
        · first | (rw [if_pos c_100]; exact hR_) | (rw [if_neg (by omega)]; exact hR_)
      · refine lv_aload_n S.1 S.2.1 dX10_enter_103 rfl (lv_at hl 0 rfl) ?_
        refine j_get (ci := 9) (C := RX10) (T := TX10) (N := 3) (v := .int (nI ct)) S (fun w h => List.mem_cons_of_mem _ (inG10 w h)) hK hW hR_ rfl 2 (by decide) (List.mem_cons_of_mem _ wfl_X10_27) (fun _ h9 => h9) rfl dX10_enter_104 ?_
        refine lv_iconst (v := nI 1) S.1 S.2.1 dX10_enter_107 (by decide) ?_
        refine jn_add S dX10_enter_108 ?_
        refine lv_goto (tgt := 114) S.1 S.2.1 dX10_enter_109 (by decide) ?_
        refine j_put (ci := 9) (C := RX10) (T := TX10) (N := 3) (ty := .int) S (fun w h => List.mem_cons_of_mem _ (inG10 w h)) tyX10 tyX10_ok nmX10 hK hW hR_ rfl 2 (by decide) (List.mem_cons_of_mem _ wfl_X10_27) (fun _ h9 => h9) rfl (by decide +kernel) (rfl) (rfl) (Nat.le_of_ble_eq_true rfl) dX10_enter_114 (fun H locs w_ hU1 hN1 hW => ?_)
        have hU := hU.then hU1 (by decide)
        have hRaa_ := hU1.get hRaa_ (by decide)
        have hRwa_ := hU1.get hRwa_ (by decide)
        have hR_ : w_[26]? = some (ad 26, .inr (9, [.ref (ad 27), .ref (ad 29), .int (nI (ct + 1))])) := hN1
        clear hU1 hN1
        subst hQ
        refine j_vret (u := w_) S hr hK hW dX10_enter_117 ⟨by decide, by decide⟩ ?_
        refine ⟨r, rfl, ⟨hr1, hr2, ?_⟩, hU, ?_, hRaa_, hRwa_⟩
        · first | exact Or.inl c_8 | (rw [hmv] at c_24; exact Or.inr c_24)
        · first | (rw [if_pos c_100]; exact hR_) | (rw [if_neg (by omega)]; exact hR_)
    · have hmv : movF r ct rw_ (r - 1) = rw_ (r - 1) := if_neg (by omega)
      have hb1 := hwb (r - 1)
      refine lv_aload_n S.1 S.2.1 dX10_enter_11 rfl (lv_at hl 0 rfl) ?_
      refine j_get (ci := 9) (C := RX10) (T := TX10) (N := 3) (v := .ref (ad 29)) S (fun w h => List.mem_cons_of_mem _ (inG10 w h)) hK hW hR_ rfl 1 (by decide) (List.mem_cons_of_mem _ wfl_X10_23) (fun _ h9 => h9) rfl dX10_enter_12 ?_
      refine lv_iload S.1 S.2.1 dX10_enter_15 (lv_at hl 3 rfl) ?_
      refine lv_iconst (v := nI 1) S.1 S.2.1 dX10_enter_17 (by decide) ?_
      refine jn_sub S (by omega) dX10_enter_18 ?_
      refine j_callV (k := 29) (ci := 6) (q := (RX7, TX7, 1)) (As := [.int (nI (r - 1))]) (rest := []) S hK hA hW (c_X7_atN l D cy 29 30 (ad 29) (ad 30) 21 (r - 1) (movF r ct rw_) (hU.get hRwo (by decide)) hRwa_   (by omega) (by decide)) (jgo wm_X10_31) yk_X7_at (hU.get hRwo (by decide)) rfl rfl ⟨⟨rfl, rfl⟩, by decide, by decide⟩ rfl hl.1 rfl (Nat.le_of_ble_eq_true rfl) dX10_enter_19 ⟨Nat.le_of_ble_eq_true rfl, Nat.le_of_ble_eq_true rfl⟩ (fun v u H locs hp hW => ?_)
      obtain ⟨rfl, rfl⟩ := hp
      refine W.eq (g2 := F0 m 22 ls [.long (lN ((movF r ct rw_) (r - 1)))]) rfl ?_
      refine lv_lload_n S.1 S.2.1 dX10_enter_22 rfl (lv_at hl 2 rfl) ?_
      refine jnl_ge (tgt := 73) S (by rw [hmv]; omega) (by omega) dX10_enter_23 dX10_enter_24 (by decide) (fun c_24 => ?_) (fun c_24 => ?_)
      · refine lv_aload_n S.1 S.2.1 dX10_enter_73 rfl (lv_at hl 0 rfl) ?_
        refine j_get (ci := 9) (C := RX10) (T := TX10) (N := 3) (v := .ref (ad 27)) S (fun w h => List.mem_cons_of_mem _ (inG10 w h)) hK hW hR_ rfl 0 (by decide) (List.mem_cons_of_mem _ wfl_X10_16) (fun _ h9 => h9) rfl dX10_enter_74 ?_
        refine lv_iload S.1 S.2.1 dX10_enter_77 (lv_at hl 3 rfl) ?_
        refine lv_iload_n S.1 S.2.1 dX10_enter_79 rfl (lv_at hl 1 rfl) ?_
        refine j_callV (k := 27) (ci := 5) (q := (RX6, TX6, 1)) (As := [.int (nI r), .int (nI a)]) (rest := []) S hK hA hW (c_X6_putM l D cy 27 28 (ad 27) (ad 28) 21 r (movF r ct ra) a (hU.get hRao (by decide)) hRaa_   (by omega) (by decide)) (jgo wm_X10_38) yk_X6_put (hU.get hRao (by decide)) rfl rfl ⟨⟨rfl, rfl⟩, by decide, by decide⟩ rfl hl.1 rfl (Nat.le_of_ble_eq_true rfl) dX10_enter_80 ⟨Nat.le_of_ble_eq_true rfl, Nat.le_of_ble_eq_true rfl⟩ (fun v w_ H locs hp hW => ?_)
        obtain ⟨rfl, hU1, hN1⟩ := hp
        have hU := hU.then hU1 (by decide)
        have hR_ := hU1.get hR_ (by decide)
        have hRwa_ := hU1.get hRwa_ (by decide)
        have hRaa_ : w_[28]? = some (ad 28, .inl (cy 0, 21, .inl (nf (upN 21 (movF r ct ra) r a)))) := hN1
        clear hU1 hN1
        refine W.eq (g2 := F0 m 83 ls []) rfl ?_
        obtain ⟨w_, hU1, hN1, hW⟩ := j_ghostI (nf (insF r ct a ra)) hW hRaa_ (fun j hj => congrArg nI (insF_end (n := 21) j hj))
        have hU := hU.then hU1 (by decide)
        have hR_ := hU1.get hR_ (by decide)
        have hRwa_ := hU1.get hRwa_ (by decide)
        have hRaa_ : w_[28]? = some (ad 28, .inl (cy 0, 21, .inl (nf (insF r ct a ra)))) := hN1
        clear hU1 hN1
        refine lv_aload_n S.1 S.2.1 dX10_enter_83 rfl (lv_at hl 0 rfl) ?_
        refine j_get (ci := 9) (C := RX10) (T := TX10) (N := 3) (v := .ref (ad 29)) S (fun w h => List.mem_cons_of_mem _ (inG10 w h)) hK hW hR_ rfl 1 (by decide) (List.mem_cons_of_mem _ wfl_X10_23) (fun _ h9 => h9) rfl dX10_enter_84 ?_
        refine lv_iload S.1 S.2.1 dX10_enter_87 (lv_at hl 3 rfl) ?_
        refine lv_lload_n S.1 S.2.1 dX10_enter_89 rfl (lv_at hl 2 rfl) ?_
        refine j_callV (k := 29) (ci := 6) (q := (RX7, TX7, 1)) (As := [.int (nI r), .long (lN wt)]) (rest := []) S hK hA hW (c_X7_putM l D cy 29 30 (ad 29) (ad 30) 21 r (movF r ct rw_) wt (hU.get hRwo (by decide)) hRwa_   (by omega) (by decide)) (jgo wm_X10_42) yk_X7_put (hU.get hRwo (by decide)) rfl rfl ⟨⟨rfl, rfl⟩, by decide, by decide⟩ rfl hl.1 rfl (Nat.le_of_ble_eq_true rfl) dX10_enter_90 ⟨Nat.le_of_ble_eq_true rfl, Nat.le_of_ble_eq_true rfl⟩ (fun v w_ H locs hp hW => ?_)
        obtain ⟨rfl, hU1, hN1⟩ := hp
        have hU := hU.then hU1 (by decide)
        have hR_ := hU1.get hR_ (by decide)
        have hRaa_ := hU1.get hRaa_ (by decide)
        have hRwa_ : w_[30]? = some (ad 30, .inl (cy 1, 21, .inr (.inl (lf (upN 21 (movF r ct rw_) r wt))))) := hN1
        clear hU1 hN1
        refine W.eq (g2 := F0 m 93 ls []) rfl ?_
        obtain ⟨w_, hU1, hN1, hW⟩ := j_ghostJ (lf (insF r ct wt rw_)) hW hRwa_ (fun j hj => congrArg lN (insF_end (n := 21) j hj))
        have hU := hU.then hU1 (by decide)
        have hR_ := hU1.get hR_ (by decide)
        have hRaa_ := hU1.get hRaa_ (by decide)
        have hRwa_ : w_[30]? = some (ad 30, .inl (cy 1, 21, .inr (.inl (lf (insF r ct wt rw_))))) := hN1
        clear hU1 hN1
        refine lv_aload_n S.1 S.2.1 dX10_enter_93 rfl (lv_at hl 0 rfl) ?_
        refine lv_aload_n S.1 S.2.1 dX10_enter_94 rfl (lv_at hl 0 rfl) ?_
        refine j_get (ci := 9) (C := RX10) (T := TX10) (N := 3) (v := .int (nI ct)) S (fun w h => List.mem_cons_of_mem _ (inG10 w h)) hK hW hR_ rfl 2 (by decide) (List.mem_cons_of_mem _ wfl_X10_27) (fun _ h9 => h9) rfl dX10_enter_95 ?_
        refine lv_bipush (v := nI 21) S.1 S.2.1 dX10_enter_98 (by decide) ?_
        refine jn_cmp_ge (tgt := 112) S (by omega) (by omega) dX10_enter_100 (by decide) (fun c_100 => ?_) (fun c_100 => ?_)
        · refine lv_bipush (v := nI 21) S.1 S.2.1 dX10_enter_112 (by decide) ?_
          refine j_put (ci := 9) (C := RX10) (T := TX10) (N := 3) (ty := .int) S (fun w h => List.mem_cons_of_mem _ (inG10 w h)) tyX10 tyX10_ok nmX10 hK hW hR_ rfl 2 (by decide) (List.mem_cons_of_mem _ wfl_X10_27) (fun _ h9 => h9) rfl (by decide +kernel) (rfl) (rfl) (Nat.le_of_ble_eq_true rfl) dX10_enter_114 (fun H locs w_ hU1 hN1 hW => ?_)
          have hU := hU.then hU1 (by decide)
          have hRaa_ := hU1.get hRaa_ (by decide)
          have hRwa_ := hU1.get hRwa_ (by decide)
          have hR_ : w_[26]? = some (ad 26, .inr (9, [.ref (ad 27), .ref (ad 29), .int (nI 21)])) := hN1
          clear hU1 hN1
          subst hQ
          refine j_vret (u := w_) S hr hK hW dX10_enter_117 ⟨by decide, by decide⟩ ?_
          refine ⟨r, rfl, ⟨hr1, hr2, ?_⟩, hU, ?_, hRaa_, hRwa_⟩
          · first | exact Or.inl c_8 | (rw [hmv] at c_24; exact Or.inr c_24)
          · first | (rw [if_pos c_100]; exact hR_) | (rw [if_neg (by omega)]; exact hR_)
        · refine lv_aload_n S.1 S.2.1 dX10_enter_103 rfl (lv_at hl 0 rfl) ?_
          refine j_get (ci := 9) (C := RX10) (T := TX10) (N := 3) (v := .int (nI ct)) S (fun w h => List.mem_cons_of_mem _ (inG10 w h)) hK hW hR_ rfl 2 (by decide) (List.mem_cons_of_mem _ wfl_X10_27) (fun _ h9 => h9) rfl dX10_enter_104 ?_
          refine lv_iconst (v := nI 1) S.1 S.2.1 dX10_enter_107 (by decide) ?_
          refine jn_add S dX10_enter_108 ?_
          refine lv_goto (tgt := 114) S.1 S.2.1 dX10_enter_109 (by decide) ?_
          refine j_put (ci := 9) (C := RX10) (T := TX10) (N := 3) (ty := .int) S (fun w h => List.mem_cons_of_mem _ (inG10 w h)) tyX10 tyX10_ok nmX10 hK hW hR_ rfl 2 (by decide) (List.mem_cons_of_mem _ wfl_X10_27) (fun _ h9 => h9) rfl (by decide +kernel) (rfl) (rfl) (Nat.le_of_ble_eq_true rfl) dX10_enter_114 (fun H locs w_ hU1 hN1 hW => ?_)
          have hU := hU.then hU1 (by decide)
          have hRaa_ := hU1.get hRaa_ (by decide)
          have hRwa_ := hU1.get hRwa_ (by decide)
          have hR_ : w_[26]? = some (ad 26, .inr (9, [.ref (ad 27), .ref (ad 29), .int (nI (ct + 1))])) := hN1
          clear hU1 hN1
          subst hQ
          refine j_vret (u := w_) S hr hK hW dX10_enter_117 ⟨by decide, by decide⟩ ?_
          refine ⟨r, rfl, ⟨hr1, hr2, ?_⟩, hU, ?_, hRaa_, hRwa_⟩
          · first | exact Or.inl c_8 | (rw [hmv] at c_24; exact Or.inr c_24)
          · first | (rw [if_pos c_100]; exact hR_) | (rw [if_neg (by omega)]; exact hR_)
      · refine lv_aload_n S.1 S.2.1 dX10_enter_27 rfl (lv_at hl 0 rfl) ?_
        refine j_get (ci := 9) (C := RX10) (T := TX10) (N := 3) (v := .ref (ad 27)) S (fun w h => List.mem_cons_of_mem _ (inG10 w h)) hK hW hR_ rfl 0 (by decide) (List.mem_cons_of_mem _ wfl_X10_16) (fun _ h9 => h9) rfl dX10_enter_28 ?_
        refine lv_iload S.1 S.2.1 dX10_enter_31 (lv_at hl 3 rfl) ?_
        refine lv_aload_n S.1 S.2.1 dX10_enter_33 rfl (lv_at hl 0 rfl) ?_
        refine j_get (ci := 9) (C := RX10) (T := TX10) (N := 3) (v := .ref (ad 27)) S (fun w h => List.mem_cons_of_mem _ (inG10 w h)) hK hW hR_ rfl 0 (by decide) (List.mem_cons_of_mem _ wfl_X10_16) (fun _ h9 => h9) rfl dX10_enter_34 ?_
        refine lv_iload S.1 S.2.1 dX10_enter_37 (lv_at hl 3 rfl) ?_
        refine lv_iconst (v := nI 1) S.1 S.2.1 dX10_enter_39 (by decide) ?_
        refine jn_sub S (by omega) dX10_enter_40 ?_
        refine j_callV (k := 27) (ci := 5) (q := (RX6, TX6, 1)) (As := [.int (nI (r - 1))]) (rest := [.int (nI r), .ref (ad 27)]) S hK hA hW (c_X6_atN l D cy 27 28 (ad 27) (ad 28) 21 (r - 1) (movF r ct ra) (hU.get hRao (by decide)) hRaa_   (by omega) (by decide)) (jgo wm_X10_35) yk_X6_at (hU.get hRao (by decide)) rfl rfl ⟨⟨rfl, rfl⟩, by decide, by decide⟩ rfl hl.1 rfl (Nat.le_of_ble_eq_true rfl) dX10_enter_41 ⟨Nat.le_of_ble_eq_true rfl, Nat.le_of_ble_eq_true rfl⟩ (fun v u H locs hp hW => ?_)
        obtain ⟨rfl, rfl⟩ := hp
        refine W.eq (g2 := F0 m 44 ls [.int (nI ((movF r ct ra) (r - 1))), .int (nI r), .ref (ad 27)]) rfl ?_
        refine j_callV (k := 27) (ci := 5) (q := (RX6, TX6, 1)) (As := [.int (nI r), .int (nI ((movF r ct ra) (r - 1)))]) (rest := []) S hK hA hW (c_X6_putM l D cy 27 28 (ad 27) (ad 28) 21 r (movF r ct ra) ((movF r ct ra) (r - 1)) (hU.get hRao (by decide)) hRaa_   (by omega) (by decide)) (jgo wm_X10_38) yk_X6_put (hU.get hRao (by decide)) rfl rfl ⟨⟨rfl, rfl⟩, by decide, by decide⟩ rfl hl.1 rfl (Nat.le_of_ble_eq_true rfl) dX10_enter_44 ⟨Nat.le_of_ble_eq_true rfl, Nat.le_of_ble_eq_true rfl⟩ (fun v w_ H locs hp hW => ?_)
        obtain ⟨rfl, hU1, hN1⟩ := hp
        have hU := hU.then hU1 (by decide)
        have hR_ := hU1.get hR_ (by decide)
        have hRwa_ := hU1.get hRwa_ (by decide)
        have hRaa_ : w_[28]? = some (ad 28, .inl (cy 0, 21, .inl (nf (upN 21 (movF r ct ra) r ((movF r ct ra) (r - 1)))))) := hN1
        clear hU1 hN1
        refine W.eq (g2 := F0 m 47 ls []) rfl ?_
        obtain ⟨w_, hU1, hN1, hW⟩ := j_ghostI (nf (movF (r - 1) ct ra)) hW hRaa_ (fun j hj => congrArg nI (movF_s (n := 21) (by omega) (by omega) j hj))
        have hU := hU.then hU1 (by decide)
        have hR_ := hU1.get hR_ (by decide)
        have hRwa_ := hU1.get hRwa_ (by decide)
        have hRaa_ : w_[28]? = some (ad 28, .inl (cy 0, 21, .inl (nf (movF (r - 1) ct ra)))) := hN1
        clear hU1 hN1
        refine lv_aload_n S.1 S.2.1 dX10_enter_47 rfl (lv_at hl 0 rfl) ?_
        refine j_get (ci := 9) (C := RX10) (T := TX10) (N := 3) (v := .ref (ad 29)) S (fun w h => List.mem_cons_of_mem _ (inG10 w h)) hK hW hR_ rfl 1 (by decide) (List.mem_cons_of_mem _ wfl_X10_23) (fun _ h9 => h9) rfl dX10_enter_48 ?_
        refine lv_iload S.1 S.2.1 dX10_enter_51 (lv_at hl 3 rfl) ?_
        refine lv_aload_n S.1 S.2.1 dX10_enter_53 rfl (lv_at hl 0 rfl) ?_
        refine j_get (ci := 9) (C := RX10) (T := TX10) (N := 3) (v := .ref (ad 29)) S (fun w h => List.mem_cons_of_mem _ (inG10 w h)) hK hW hR_ rfl 1 (by decide) (List.mem_cons_of_mem _ wfl_X10_23) (fun _ h9 => h9) rfl dX10_enter_54 ?_
        refine lv_iload S.1 S.2.1 dX10_enter_57 (lv_at hl 3 rfl) ?_
        refine lv_iconst (v := nI 1) S.1 S.2.1 dX10_enter_59 (by decide) ?_
        refine jn_sub S (by omega) dX10_enter_60 ?_
        refine j_callV (k := 29) (ci := 6) (q := (RX7, TX7, 1)) (As := [.int (nI (r - 1))]) (rest := [.int (nI r), .ref (ad 29)]) S hK hA hW (c_X7_atN l D cy 29 30 (ad 29) (ad 30) 21 (r - 1) (movF r ct rw_) (hU.get hRwo (by decide)) hRwa_   (by omega) (by decide)) (jgo wm_X10_31) yk_X7_at (hU.get hRwo (by decide)) rfl rfl ⟨⟨rfl, rfl⟩, by decide, by decide⟩ rfl hl.1 rfl (Nat.le_of_ble_eq_true rfl) dX10_enter_61 ⟨Nat.le_of_ble_eq_true rfl, Nat.le_of_ble_eq_true rfl⟩ (fun v u H locs hp hW => ?_)
        obtain ⟨rfl, rfl⟩ := hp
        refine W.eq (g2 := F0 m 64 ls [.long (lN ((movF r ct rw_) (r - 1))), .int (nI r), .ref (ad 29)]) rfl ?_
        refine j_callV (k := 29) (ci := 6) (q := (RX7, TX7, 1)) (As := [.int (nI r), .long (lN ((movF r ct rw_) (r - 1)))]) (rest := []) S hK hA hW (c_X7_putM l D cy 29 30 (ad 29) (ad 30) 21 r (movF r ct rw_) ((movF r ct rw_) (r - 1)) (hU.get hRwo (by decide)) hRwa_   (by omega) (by decide)) (jgo wm_X10_42) yk_X7_put (hU.get hRwo (by decide)) rfl rfl ⟨⟨rfl, rfl⟩, by decide, by decide⟩ rfl hl.1 rfl (Nat.le_of_ble_eq_true rfl) dX10_enter_64 ⟨Nat.le_of_ble_eq_true rfl, Nat.le_of_ble_eq_true rfl⟩ (fun v w_ H locs hp hW => ?_)
        obtain ⟨rfl, hU1, hN1⟩ := hp
        have hU := hU.then hU1 (by decide)
        have hR_ := hU1.get hR_ (by decide)
        have hRaa_ := hU1.get hRaa_ (by decide)
        have hRwa_ : w_[30]? = some (ad 30, .inl (cy 1, 21, .inr (.inl (lf (upN 21 (movF r ct rw_) r ((movF r ct rw_) (r - 1))))))) := hN1
        clear hU1 hN1
        refine W.eq (g2 := F0 m 67 ls []) rfl ?_
        obtain ⟨w_, hU1, hN1, hW⟩ := j_ghostJ (lf (movF (r - 1) ct rw_)) hW hRwa_ (fun j hj => congrArg lN (movF_s (n := 21) (by omega) (by omega) j hj))
        have hU := hU.then hU1 (by decide)
        have hR_ := hU1.get hR_ (by decide)
        have hRaa_ := hU1.get hRaa_ (by decide)
        have hRwa_ : w_[30]? = some (ad 30, .inl (cy 1, 21, .inr (.inl (lf (movF (r - 1) ct rw_))))) := hN1
        clear hU1 hN1
        refine lv_iinc (v := nI (r - 1)) (lv' := [(4, .int (nI (r - 1))), (0, .ref (ad 26)), (1, .int (nI a)), (2, .long (lN wt))]) S.1 S.2.1 dX10_enter_67 hl (k := 3) rfl (nI_iincm (by omega)) (by decide) rfl (fun ls hl => ?_)
        refine lv_goto (tgt := 6) S.1 S.2.1 dX10_enter_70 (by decide) ?_
        exact ih6 _ (by omega) (r - 1) rfl (by omega) (fun j h1 h2 => by
          rcases Nat.lt_or_ge j r with q | q
          · rw [show j = r - 1 by omega]; rw [hmv] at c_24; exact c_24
          · exact hr2 j q h2) w_ hU hR_ hRaa_ hRwa_ H locs ls hW (lv_sub hl [1, 2, 3, 0] rfl)
  exact L6 _ ct rfl (Nat.le_refl _) (fun j h1 h2 => absurd h1 (by omega)) w jU.rf hR hRaa_ hRwa_ H locs ls hW (lv_sub hl [1, 2, 3, 0] rfl)
