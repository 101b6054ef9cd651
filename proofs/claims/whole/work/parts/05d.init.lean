/-! THE SMALL CONSTRUCTORS (laid by wip/whole/tools, from the specs there) -/
theorem war_int : Cond.arrayClass (newarray.typeOf .int) ∈ lw_good := jg_1 (List.mem_of_getElem? (i := 42) (rfl : tables_1_1[42]? = some (Cond.arrayClass .int))) rfl
theorem war_long : Cond.arrayClass (newarray.typeOf .long) ∈ lw_good := jg_1 (List.mem_of_getElem? (i := 53) (rfl : tables_1_1[53]? = some (Cond.arrayClass .long))) rfl
theorem war_char : Cond.arrayClass (newarray.typeOf .char) ∈ lw_good := jg_5 (List.mem_of_getElem? (i := 88) (rfl : tables_1_5[88]? = some (Cond.arrayClass .char))) rfl
theorem war_boolean : Cond.arrayClass (newarray.typeOf .boolean) ∈ lw_good := jg_5 (List.mem_of_getElem? (i := 89) (rfl : tables_1_5[89]? = some (Cond.arrayClass .boolean))) rfl
theorem war_double : Cond.arrayClass (newarray.typeOf .double) ∈ lw_good := jg_6 (List.mem_of_getElem? (i := 122) (rfl : tables_1_6[122]? = some (Cond.arrayClass .double))) rfl
theorem winst_X5_init : Cond.instanceMethod yX5_init ∈ lw_good := jg_1 (List.mem_of_getElem? (i := 57) (rfl : tables_1_1[57]? = some (Cond.instanceMethod yX5_init))) rfl
theorem wcode_X5_init : Cond.code yX5_init cX5_init 1 none ∈ lw_good := jg_1 (List.mem_of_getElem? (i := 58) (rfl : tables_1_1[58]? = some (Cond.code yX5_init cX5_init 1 none))) rfl
theorem wn_X5_init : Cond.instanceMethod yX5_init ∈ lw_good ∧ Cond.initialized yX5_init.cls ∈ lw_good ∧ (∀ w ∈ jws yX5_init cX5_init 1 none, w ∈ lw_good) := ⟨winst_X5_init, wini_X5, jg4 wcode_X5_init⟩
theorem winst_X9_init : Cond.instanceMethod yX9_init ∈ lw_good := jg_1 (List.mem_of_getElem? (i := 75) (rfl : tables_1_1[75]? = some (Cond.instanceMethod yX9_init))) rfl
theorem wcode_X9_init : Cond.code yX9_init cX9_init 1 none ∈ lw_good := jg_1 (List.mem_of_getElem? (i := 76) (rfl : tables_1_1[76]? = some (Cond.code yX9_init cX9_init 1 none))) rfl
theorem wn_X9_init : Cond.instanceMethod yX9_init ∈ lw_good ∧ Cond.initialized yX9_init.cls ∈ lw_good ∧ (∀ w ∈ jws yX9_init cX9_init 1 none, w ∈ lw_good) := ⟨winst_X9_init, wini_X9, jg4 wcode_X9_init⟩
theorem winst_X0_init : Cond.instanceMethod yX0_init ∈ lw_good := jg_1 (List.mem_of_getElem? (i := 98) (rfl : tables_1_1[98]? = some (Cond.instanceMethod yX0_init))) rfl
theorem wcode_X0_init : Cond.code yX0_init cX0_init 1 none ∈ lw_good := jg_1 (List.mem_of_getElem? (i := 99) (rfl : tables_1_1[99]? = some (Cond.code yX0_init cX0_init 1 none))) rfl
theorem wn_X0_init : Cond.instanceMethod yX0_init ∈ lw_good ∧ Cond.initialized yX0_init.cls ∈ lw_good ∧ (∀ w ∈ jws yX0_init cX0_init 1 none, w ∈ lw_good) := ⟨winst_X0_init, wini_X0, jg4 wcode_X0_init⟩
theorem winst_X10_init : Cond.instanceMethod yX10_init ∈ lw_good := jg_1 (List.mem_of_getElem? (i := 113) (rfl : tables_1_1[113]? = some (Cond.instanceMethod yX10_init))) rfl
theorem wcode_X10_init : Cond.code yX10_init cX10_init 1 none ∈ lw_good := jg_1 (List.mem_of_getElem? (i := 114) (rfl : tables_1_1[114]? = some (Cond.code yX10_init cX10_init 1 none))) rfl
theorem wn_X10_init : Cond.instanceMethod yX10_init ∈ lw_good ∧ Cond.initialized yX10_init.cls ∈ lw_good ∧ (∀ w ∈ jws yX10_init cX10_init 1 none, w ∈ lw_good) := ⟨winst_X10_init, wini_X10, jg4 wcode_X10_init⟩
theorem winst_X2_init : Cond.instanceMethod yX2_init ∈ lw_good := jg_1 (List.mem_of_getElem? (i := 133) (rfl : tables_1_1[133]? = some (Cond.instanceMethod yX2_init))) rfl
theorem wcode_X2_init : Cond.code yX2_init cX2_init 1 none ∈ lw_good := jg_1 (List.mem_of_getElem? (i := 134) (rfl : tables_1_1[134]? = some (Cond.code yX2_init cX2_init 1 none))) rfl
theorem wn_X2_init : Cond.instanceMethod yX2_init ∈ lw_good ∧ Cond.initialized yX2_init.cls ∈ lw_good ∧ (∀ w ∈ jws yX2_init cX2_init 1 none, w ∈ lw_good) := ⟨winst_X2_init, wini_X2, jg4 wcode_X2_init⟩
theorem woi_X0 : Cond.methodLink RX0 3 objectInit ∈ lw_good := jg_1 (List.mem_of_getElem? (i := 100) (rfl : tables_1_1[100]? = some (Cond.methodLink RX0 3 objectInit))) rfl
theorem woi_X2 : Cond.methodLink RX2 3 objectInit ∈ lw_good := jg_1 (List.mem_of_getElem? (i := 135) (rfl : tables_1_1[135]? = some (Cond.methodLink RX2 3 objectInit))) rfl
theorem woi_X4 : Cond.methodLink RX4 1 objectInit ∈ lw_good := jg_3 (List.mem_of_getElem? (i := 84) (rfl : tables_1_3[84]? = some (Cond.methodLink RX4 1 objectInit))) rfl
theorem woi_X5 : Cond.methodLink RX5 3 objectInit ∈ lw_good := jg_1 (List.mem_of_getElem? (i := 59) (rfl : tables_1_1[59]? = some (Cond.methodLink RX5 3 objectInit))) rfl
theorem woi_X6 : Cond.methodLink RX6 1 objectInit ∈ lw_good := jg_1 (List.mem_of_getElem? (i := 37) (rfl : tables_1_1[37]? = some (Cond.methodLink RX6 1 objectInit))) rfl
theorem woi_X7 : Cond.methodLink RX7 1 objectInit ∈ lw_good := jg_1 (List.mem_of_getElem? (i := 48) (rfl : tables_1_1[48]? = some (Cond.methodLink RX7 1 objectInit))) rfl
theorem woi_X9 : Cond.methodLink RX9 3 objectInit ∈ lw_good := jg_1 (List.mem_of_getElem? (i := 77) (rfl : tables_1_1[77]? = some (Cond.methodLink RX9 3 objectInit))) rfl
theorem woi_X10 : Cond.methodLink RX10 3 objectInit ∈ lw_good := jg_1 (List.mem_of_getElem? (i := 115) (rfl : tables_1_1[115]? = some (Cond.methodLink RX10 3 objectInit))) rfl
theorem woi_X11 : Cond.methodLink RX11 1 objectInit ∈ lw_good := jg_1 (List.mem_of_getElem? (i := 29) (rfl : tables_1_1[29]? = some (Cond.methodLink RX11 1 objectInit))) rfl
theorem woi_X12 : Cond.methodLink RX12 11 objectInit ∈ lw_good := jg_5 (List.mem_of_getElem? (i := 33) (rfl : tables_1_5[33]? = some (Cond.methodLink RX12 11 objectInit))) rfl
theorem jU.low {w u : va_W} {K K1 : List Nat} {n0 : Nat} (h : jU w u K) (hl : w.length = n0) (hk : ∀ x ∈ K, x ∈ K1 ∨ n0 ≤ x) : jU w u K1 := fun j e hj he => h j e (fun hm => (hk j hm).elim hj (fun q => by have := (List.getElem?_eq_some_iff.mp he).1; omega)) he
/-- a row of zeros -/
theorem c_X6_init (l : Launch) (D : va_G) (cy : Nat → ClassId) {w : va_W} (k h n : Nat) (n0 : Nat) (hk : w[k]? = some (h, .inr (5, [.null]))) (hlen : w.length = n0) (hn : 0 < n ∧ n ≤ 1024) : jM l yX6_init (jws yX6_init cX6_init 2 none) (jR 1 1 n) D cy w [.ref h, .int (nI n)] 1 n (fun vv uu => ∃ (ar : Nat), vv = none ∧ uu.length = n0 + 1 ∧ jU w uu [k] ∧ uu[k]? = some (h, .inr (5, [.ref ar])) ∧ uu[n0]? = some (ar, .inl (cy 0, n, .inl (fun _ => nI 0)))) := by
  have hkn : k < n0 := hlen ▸ (List.getElem?_eq_some_iff.mp hk).1
  refine j_of (by decide) rfl (Nat.le_of_ble_eq_true rfl) ?_
  intro p e s m args below meth c A ls Q hQ S hr hK hA H locs hW hl
  have hl : lv_has ls 2 [(0, .ref h), (1, .int (nI n))] := hl
  refine lv_aload_n S.1 S.2.1 dX6_init_0 rfl (lv_at hl 0 rfl) ?_
  refine W.objInit S.1 S.2.1 S.2.2.2.1 (S.2.2.2.2 _ (List.mem_cons_of_mem _ woi_X6)) (S.2.2.2.2 _ (List.mem_cons_of_mem _ woi_i)) (S.2.2.2.2 _ (List.mem_cons_of_mem _ woi_c)) rfl (by rw [S.2.2.1]; exact hl.1) rfl dX6_init_1 (Nat.le_of_ble_eq_true rfl) (Nat.le_of_ble_eq_true rfl) ?_
  refine W.eq (g2 := F0 m 4 ls []) rfl ?_
  refine lv_aload_n S.1 S.2.1 dX6_init_4 rfl (lv_at hl 0 rfl) ?_
  refine lv_iload_n S.1 S.2.1 dX6_init_5 rfl (lv_at hl 1 rfl) ?_
  refine jn_if_le (tgt := 13) S (by omega) dX6_init_6 (by decide) (fun c_6 => ?_) (fun c_6 => ?_)
  · exact absurd c_6 (by omega)
  · refine lv_iload_n S.1 S.2.1 dX6_init_9 rfl (lv_at hl 1 rfl) ?_
    refine lv_goto (tgt := 14) S.1 S.2.1 dX6_init_10 (by decide) ?_
    refine j_newaL (t0 := 0) (N' := n) (ty := .int) (a0 := (n, .inl (fun _ => nI 0))) S (List.mem_cons_of_mem _ war_int) rfl hK hA hW hlen rfl (fun _ => rfl) (nI_pos (by omega)) (nI_clamp (by omega)) (by show n * 4 ≤ 536870912; omega) (Nat.le_of_ble_eq_true rfl) (by show 0 + n ≤ n; omega) dX6_init_14 (fun q_1 H w_ hU1 hN1 hlen hW => ?_)
    have hU : jU w w_ [k] := jU.mono hU1 (by first | (simp; done) | (simp; omega))
    have hk_ := hU1.get hk (by first | (simp; done) | (simp; omega))
    have hR2_ : w_[n0]? = some (q_1, .inl (cy 0, n, .inl (fun _ => nI 0))) := hN1
    clear hU1 hN1
    refine j_putFL (ci := 5) (C := RX6) (T := TX6) (N := 1) (ty := .array .int) S (fun w h => List.mem_cons_of_mem _ (inG6 w h)) tyX6 tyX6_ok nmX6 hK hW hlen hk_ rfl 0 (by decide) (List.mem_cons_of_mem _ wfl_X6_7) (fun _ h9 => h9) rfl hr.2.2 rfl (by decide +kernel) (rfl) (rfl) (Nat.le_of_ble_eq_true rfl) dX6_init_16 (fun H locs w_ hU1 hN1 hlen hW => ?_)
    have hU := hU.then hU1 (by first | (simp; done) | (simp; omega))
    have hR2_ := hU1.get hR2_ (by first | (simp; done) | (simp; omega))
    have hk_ : w_[k]? = some (h, .inr (5, [.ref q_1])) := hN1
    clear hU1 hN1
    subst hQ
    exact j_vret (u := w_) S hr hK hW dX6_init_19 ⟨by decide, by omega⟩ (⟨_, rfl, hlen, hU, hk_, hR2_⟩)
/-- a row of zeros -/
theorem c_X7_init (l : Launch) (D : va_G) (cy : Nat → ClassId) {w : va_W} (k h n : Nat) (n0 : Nat) (hk : w[k]? = some (h, .inr (6, [.null]))) (hlen : w.length = n0) (hn : 0 < n ∧ n ≤ 1024) : jM l yX7_init (jws yX7_init cX7_init 2 none) (jR 1 1 n) D cy w [.ref h, .int (nI n)] 1 n (fun vv uu => ∃ (ar : Nat), vv = none ∧ uu.length = n0 + 1 ∧ jU w uu [k] ∧ uu[k]? = some (h, .inr (6, [.ref ar])) ∧ uu[n0]? = some (ar, .inl (cy 1, n, .inr (.inl (fun _ => lN 0))))) := by
  have hkn : k < n0 := hlen ▸ (List.getElem?_eq_some_iff.mp hk).1
  refine j_of (by decide) rfl (Nat.le_of_ble_eq_true rfl) ?_
  intro p e s m args below meth c A ls Q hQ S hr hK hA H locs hW hl
  have hl : lv_has ls 2 [(0, .ref h), (1, .int (nI n))] := hl
  refine lv_aload_n S.1 S.2.1 dX7_init_0 rfl (lv_at hl 0 rfl) ?_
  refine W.objInit S.1 S.2.1 S.2.2.2.1 (S.2.2.2.2 _ (List.mem_cons_of_mem _ woi_X7)) (S.2.2.2.2 _ (List.mem_cons_of_mem _ woi_i)) (S.2.2.2.2 _ (List.mem_cons_of_mem _ woi_c)) rfl (by rw [S.2.2.1]; exact hl.1) rfl dX7_init_1 (Nat.le_of_ble_eq_true rfl) (Nat.le_of_ble_eq_true rfl) ?_
  refine W.eq (g2 := F0 m 4 ls []) rfl ?_
  refine lv_aload_n S.1 S.2.1 dX7_init_4 rfl (lv_at hl 0 rfl) ?_
  refine lv_iload_n S.1 S.2.1 dX7_init_5 rfl (lv_at hl 1 rfl) ?_
  refine jn_if_le (tgt := 13) S (by omega) dX7_init_6 (by decide) (fun c_6 => ?_) (fun c_6 => ?_)
  · exact absurd c_6 (by omega)
  · refine lv_iload_n S.1 S.2.1 dX7_init_9 rfl (lv_at hl 1 rfl) ?_
    refine lv_goto (tgt := 14) S.1 S.2.1 dX7_init_10 (by decide) ?_
    refine j_newaL (t0 := 1) (N' := n) (ty := .long) (a0 := (n, .inr (.inl (fun _ => lN 0)))) S (List.mem_cons_of_mem _ war_long) rfl hK hA hW hlen rfl (fun _ => rfl) (nI_pos (by omega)) (nI_clamp (by omega)) (by show n * 8 ≤ 536870912; omega) (Nat.le_of_ble_eq_true rfl) (by show 0 + n ≤ n; omega) dX7_init_14 (fun q_1 H w_ hU1 hN1 hlen hW => ?_)
    have hU : jU w w_ [k] := jU.mono hU1 (by first | (simp; done) | (simp; omega))
    have hk_ := hU1.get hk (by first | (simp; done) | (simp; omega))
    have hR2_ : w_[n0]? = some (q_1, .inl (cy 1, n, .inr (.inl (fun _ => lN 0)))) := hN1
    clear hU1 hN1
    refine j_putFL (ci := 6) (C := RX7) (T := TX7) (N := 1) (ty := .array .long) S (fun w h => List.mem_cons_of_mem _ (inG7 w h)) tyX7 tyX7_ok nmX7 hK hW hlen hk_ rfl 0 (by decide) (List.mem_cons_of_mem _ wfl_X7_7) (fun _ h9 => h9) rfl hr.2.2 rfl (by decide +kernel) (rfl) (rfl) (Nat.le_of_ble_eq_true rfl) dX7_init_16 (fun H locs w_ hU1 hN1 hlen hW => ?_)
    have hU := hU.then hU1 (by first | (simp; done) | (simp; omega))
    have hR2_ := hU1.get hR2_ (by first | (simp; done) | (simp; omega))
    have hk_ : w_[k]? = some (h, .inr (6, [.ref q_1])) := hN1
    clear hU1 hN1
    subst hQ
    exact j_vret (u := w_) S hr hK hW dX7_init_19 ⟨by decide, by omega⟩ (⟨_, rfl, hlen, hU, hk_, hR2_⟩)
/-- a constructor -/
theorem c_X0_init (l : Launch) (D : va_G) (cy : Nat → ClassId) {w : va_W} (k h : Nat) (n0 : Nat) (hk : w[k]? = some (h, .inr (0, [.null, .int (nI 0)]))) (hlen : w.length = n0) : jM l yX0_init (jws yX0_init cX0_init 1 none) (jR 2 2 17) D cy w [.ref h] 2 17 (fun vv uu => ∃ (r0 : Nat), ∃ (v0 : Nat), vv = none ∧ uu.length = n0 + 2 ∧ jU w uu [k] ∧ uu[k]? = some (h, .inr (0, [.ref r0, .int (-1)])) ∧ uu[n0]? = some (r0, .inr (6, [.ref v0])) ∧ uu[n0 + 1]? = some (v0, .inl (cy 1, 16, .inr (.inl (fun _ => lN 0))))) := by
  have hkn : k < n0 := hlen ▸ (List.getElem?_eq_some_iff.mp hk).1
  have hlen0 := hlen
  refine j_of (by decide) rfl (Nat.le_of_ble_eq_true rfl) ?_
  intro p e s m args below meth c A ls Q hQ S hr hK hA H locs hW hl
  have hl : lv_has ls 1 [(0, .ref h)] := hl
  refine lv_aload_n S.1 S.2.1 dX0_init_0 rfl (lv_at hl 0 rfl) ?_
  refine W.objInit S.1 S.2.1 S.2.2.2.1 (S.2.2.2.2 _ (List.mem_cons_of_mem _ woi_X0)) (S.2.2.2.2 _ (List.mem_cons_of_mem _ woi_i)) (S.2.2.2.2 _ (List.mem_cons_of_mem _ woi_c)) rfl (by rw [S.2.2.1]; exact hl.1) rfl dX0_init_1 (Nat.le_of_ble_eq_true rfl) (Nat.le_of_ble_eq_true rfl) ?_
  refine W.eq (g2 := F0 m 4 ls []) rfl ?_
  refine lv_aload_n S.1 S.2.1 dX0_init_4 rfl (lv_at hl 0 rfl) ?_
  refine j_newL (C := RX7) (T := TX7) (N := 1) (ci := 6) (fs := [.null]) S (fun w h => List.mem_cons_of_mem _ (inG7 w h)) tyX7 tyX7_ok (List.mem_cons_of_mem _ wcl_X0_9) (List.mem_cons_of_mem _ wmk_X7) (List.mem_cons_of_mem _ wini_X7) hK hA hW hlen rfl (by decide +kernel) (Nat.le_of_ble_eq_true rfl) (Nat.le_of_ble_eq_true rfl) dX0_init_5 (fun q_1 H w_ hU1 hN1 hlen hW => ?_)
  have hU : jU w w_ [k, n0, n0 + 1] := jU.mono hU1 (by first | (simp; done) | (simp; omega))
  have hk_ := hU1.get hk (by first | (simp; done) | (simp; omega))
  have hO2_ : w_[n0]? = some (q_1, .inr (6, [.null])) := hN1
  clear hU1 hN1
  refine lv_dup S.1 S.2.1 dX0_init_8 rfl ?_
  refine lv_bipush (v := nI 16) S.1 S.2.1 dX0_init_9 (by decide) ?_
  refine j_callI (As := [.int (nI 16)]) (rest := [.ref q_1, .ref h]) S hK hA hW (c_X7_init l D cy n0 q_1 16 (n0 + 1) hO2_  hlen (by omega)) wm_X0_13 yk_X7_init ⟨⟨rfl, rfl⟩, by decide, by decide⟩ rfl hl.1 rfl (Nat.le_of_ble_eq_true rfl) dX0_init_11 ⟨Nat.le_of_ble_eq_true rfl, Nat.le_of_ble_eq_true rfl⟩ (fun v w_ H locs hp hW => ?_)
  obtain ⟨ar_11, rfl, hp11_0, hU1, hN1, hN2⟩ := hp
  have hlen : w_.length = n0 + 2 := hp11_0
  have hU := hU.then hU1 (by first | (simp; done) | (simp; omega))
  have hk_ := hU1.get hk_ (by first | (simp; done) | (simp; omega))
  have hO2_ : w_[n0]? = some (q_1, .inr (6, [.ref ar_11])) := hN1
  have hR1n3_ : w_[n0 + 1]? = some (ar_11, .inl (cy 1, 16, .inr (.inl (fun _ => lN 0)))) := hN2
  clear hU1 hN1 hN2
  refine W.eq (g2 := F0 m 14 ls [.ref q_1, .ref h]) rfl ?_
  refine j_putFL (ci := 0) (C := RX0) (T := TX0) (N := 2) (ty := .object "Countfall$LongRow") S (fun w h => List.mem_cons_of_mem _ (inG0 w h)) tyX0 tyX0_ok nmX0 hK hW hlen hk_ rfl 0 (by decide) (List.mem_cons_of_mem _ wfl_X0_16) (fun _ h9 => h9) rfl hr.2.2 rfl (by decide +kernel) (rfl) (rfl) (Nat.le_of_ble_eq_true rfl) dX0_init_14 (fun H locs w_ hU1 hN1 hlen hW => ?_)
  have hU := hU.then hU1 (by first | (simp; done) | (simp; omega))
  have hO2_ := hU1.get hO2_ (by first | (simp; done) | (simp; omega))
  have hR1n3_ := hU1.get hR1n3_ (by first | (simp; done) | (simp; omega))
  have hk_ : w_[k]? = some (h, .inr (0, [.ref q_1, .int (nI 0)])) := hN1
  clear hU1 hN1
  refine lv_aload_n S.1 S.2.1 dX0_init_17 rfl (lv_at hl 0 rfl) ?_
  refine lv_iconst (v := (-1)) S.1 S.2.1 dX0_init_18 (by decide) ?_
  refine j_putL (ci := 0) (C := RX0) (T := TX0) (N := 2) (ty := .int) S (fun w h => List.mem_cons_of_mem _ (inG0 w h)) tyX0 tyX0_ok nmX0 hK hW hlen hk_ rfl 1 (by decide) (List.mem_cons_of_mem _ wfl_X0_20) (fun _ h9 => h9) rfl (by decide +kernel) (rfl) (rfl) (Nat.le_of_ble_eq_true rfl) dX0_init_19 (fun H locs w_ hU1 hN1 hlen hW => ?_)
  have hU := hU.then hU1 (by first | (simp; done) | (simp; omega))
  have hO2_ := hU1.get hO2_ (by first | (simp; done) | (simp; omega))
  have hR1n3_ := hU1.get hR1n3_ (by first | (simp; done) | (simp; omega))
  have hk_ : w_[k]? = some (h, .inr (0, [.ref q_1, .int (-1)])) := hN1
  clear hU1 hN1
  subst hQ
  exact j_vret (u := w_) S hr hK hW dX0_init_22 ⟨by decide, by decide⟩ (⟨q_1, ar_11, rfl, hlen, (jU.low hU hlen0 (by first | (simp; done) | (simp; omega))), hk_, hO2_, hR1n3_⟩)
/-- a constructor -/
theorem c_X9_init (l : Launch) (D : va_G) (cy : Nat → ClassId) {w : va_W} (h : Nat) (hk : w[11]? = some (h, .inr (8, [.null, .null, .null, .null]))) (hlen : w.length = 12) : jM l yX9_init (jws yX9_init cX9_init 1 none) (jR 2 8 44) D cy w [.ref h] 8 44 (fun vv uu => ∃ (r0 : Nat), ∃ (v0 : Nat), ∃ (r1 : Nat), ∃ (v1 : Nat), ∃ (r2 : Nat), ∃ (v2 : Nat), ∃ (r3 : Nat), ∃ (v3 : Nat), vv = none ∧ uu.length = 20 ∧ jU w uu [11] ∧ uu[11]? = some (h, .inr (8, [.ref r0, .ref r1, .ref r2, .ref r3])) ∧ uu[12]? = some (r0, .inr (5, [.ref v0])) ∧ uu[13]? = some (v0, .inl (cy 0, 10, .inl (fun _ => nI 0))) ∧ uu[14]? = some (r1, .inr (5, [.ref v1])) ∧ uu[15]? = some (v1, .inl (cy 0, 10, .inl (fun _ => nI 0))) ∧ uu[16]? = some (r2, .inr (5, [.ref v2])) ∧ uu[17]? = some (v2, .inl (cy 0, 10, .inl (fun _ => nI 0))) ∧ uu[18]? = some (r3, .inr (6, [.ref v3])) ∧ uu[19]? = some (v3, .inl (cy 1, 10, .inr (.inl (fun _ => lN 0))))) := by
  have hlen0 := hlen
  refine j_of (by decide) rfl (Nat.le_of_ble_eq_true rfl) ?_
  intro p e s m args below meth c A ls Q hQ S hr hK hA H locs hW hl
  have hl : lv_has ls 1 [(0, .ref h)] := hl
  refine lv_aload_n S.1 S.2.1 dX9_init_0 rfl (lv_at hl 0 rfl) ?_
  refine W.objInit S.1 S.2.1 S.2.2.2.1 (S.2.2.2.2 _ (List.mem_cons_of_mem _ woi_X9)) (S.2.2.2.2 _ (List.mem_cons_of_mem _ woi_i)) (S.2.2.2.2 _ (List.mem_cons_of_mem _ woi_c)) rfl (by rw [S.2.2.1]; exact hl.1) rfl dX9_init_1 (Nat.le_of_ble_eq_true rfl) (Nat.le_of_ble_eq_true rfl) ?_
  refine W.eq (g2 := F0 m 4 ls []) rfl ?_
  refine lv_aload_n S.1 S.2.1 dX9_init_4 rfl (lv_at hl 0 rfl) ?_
  refine j_newL (C := RX6) (T := TX6) (N := 1) (ci := 5) (fs := [.null]) S (fun w h => List.mem_cons_of_mem _ (inG6 w h)) tyX6 tyX6_ok (List.mem_cons_of_mem _ wcl_X9_9) (List.mem_cons_of_mem _ wmk_X6) (List.mem_cons_of_mem _ wini_X6) hK hA hW hlen rfl (by decide +kernel) (Nat.le_of_ble_eq_true rfl) (Nat.le_of_ble_eq_true rfl) dX9_init_5 (fun q_1 H w_ hU1 hN1 hlen hW => ?_)
  have hU : jU w w_ [11, 12, 13, 14, 15, 16, 17, 18, 19] := jU.mono hU1 (by decide)
  have hk_ := hU1.get hk (by decide)
  have hO2_ : w_[12]? = some (q_1, .inr (5, [.null])) := hN1
  clear hU1 hN1
  refine lv_dup S.1 S.2.1 dX9_init_8 rfl ?_
  refine lv_bipush (v := nI 10) S.1 S.2.1 dX9_init_9 (by decide) ?_
  refine j_callI (As := [.int (nI 10)]) (rest := [.ref q_1, .ref h]) S hK hA hW (c_X6_init l D cy 12 q_1 10 13 hO2_  hlen (by omega)) wm_X9_11 yk_X6_init ⟨⟨rfl, rfl⟩, by decide, by decide⟩ rfl hl.1 rfl (Nat.le_of_ble_eq_true rfl) dX9_init_11 ⟨Nat.le_of_ble_eq_true rfl, Nat.le_of_ble_eq_true rfl⟩ (fun v w_ H locs hp hW => ?_)
  obtain ⟨ar_11, rfl, hp11_0, hU1, hN1, hN2⟩ := hp
  have hlen : w_.length = 14 := hp11_0
  have hU := hU.then hU1 (by decide)
  have hk_ := hU1.get hk_ (by decide)
  have hO2_ : w_[12]? = some (q_1, .inr (5, [.ref ar_11])) := hN1
  have hR1n3_ : w_[13]? = some (ar_11, .inl (cy 0, 10, .inl (fun _ => nI 0))) := hN2
  clear hU1 hN1 hN2
  refine W.eq (g2 := F0 m 14 ls [.ref q_1, .ref h]) rfl ?_
  refine j_putFL (ci := 8) (C := RX9) (T := TX9) (N := 4) (ty := .object "Countfall$IntRow") S (fun w h => List.mem_cons_of_mem _ (inG9 w h)) tyX9 tyX9_ok nmX9 hK hW hlen hk_ rfl 0 (by decide) (List.mem_cons_of_mem _ wfl_X9_14) (fun _ h9 => h9) rfl hr.2.2 rfl (by decide +kernel) (rfl) (rfl) (Nat.le_of_ble_eq_true rfl) dX9_init_14 (fun H locs w_ hU1 hN1 hlen hW => ?_)
  have hU := hU.then hU1 (by decide)
  have hO2_ := hU1.get hO2_ (by decide)
  have hR1n3_ := hU1.get hR1n3_ (by decide)
  have hk_ : w_[11]? = some (h, .inr (8, [.ref q_1, .null, .null, .null])) := hN1
  clear hU1 hN1
  refine lv_aload_n S.1 S.2.1 dX9_init_17 rfl (lv_at hl 0 rfl) ?_
  refine j_newL (C := RX6) (T := TX6) (N := 1) (ci := 5) (fs := [.null]) S (fun w h => List.mem_cons_of_mem _ (inG6 w h)) tyX6 tyX6_ok (List.mem_cons_of_mem _ wcl_X9_9) (List.mem_cons_of_mem _ wmk_X6) (List.mem_cons_of_mem _ wini_X6) hK hA hW hlen rfl (by decide +kernel) (Nat.le_of_ble_eq_true rfl) (Nat.le_of_ble_eq_true rfl) dX9_init_18 (fun q_4 H w_ hU1 hN1 hlen hW => ?_)
  have hU := hU.then hU1 (by decide)
  have hk_ := hU1.get hk_ (by decide)
  have hO2_ := hU1.get hO2_ (by decide)
  have hR1n3_ := hU1.get hR1n3_ (by decide)
  have hO5_ : w_[14]? = some (q_4, .inr (5, [.null])) := hN1
  clear hU1 hN1
  refine lv_dup S.1 S.2.1 dX9_init_21 rfl ?_
  refine lv_bipush (v := nI 10) S.1 S.2.1 dX9_init_22 (by decide) ?_
  refine j_callI (As := [.int (nI 10)]) (rest := [.ref q_4, .ref h]) S hK hA hW (c_X6_init l D cy 14 q_4 10 15 hO5_  hlen (by omega)) wm_X9_11 yk_X6_init ⟨⟨rfl, rfl⟩, by decide, by decide⟩ rfl hl.1 rfl (Nat.le_of_ble_eq_true rfl) dX9_init_24 ⟨Nat.le_of_ble_eq_true rfl, Nat.le_of_ble_eq_true rfl⟩ (fun v w_ H locs hp hW => ?_)
  obtain ⟨ar_24, rfl, hp24_0, hU1, hN1, hN2⟩ := hp
  have hlen : w_.length = 16 := hp24_0
  have hU := hU.then hU1 (by decide)
  have hk_ := hU1.get hk_ (by decide)
  have hO2_ := hU1.get hO2_ (by decide)
  have hR1n3_ := hU1.get hR1n3_ (by decide)
  have hO5_ : w_[14]? = some (q_4, .inr (5, [.ref ar_24])) := hN1
  have hR1n6_ : w_[15]? = some (ar_24, .inl (cy 0, 10, .inl (fun _ => nI 0))) := hN2
  clear hU1 hN1 hN2
  refine W.eq (g2 := F0 m 27 ls [.ref q_4, .ref h]) rfl ?_
  refine j_putFL (ci := 8) (C := RX9) (T := TX9) (N := 4) (ty := .object "Countfall$IntRow") S (fun w h => List.mem_cons_of_mem _ (inG9 w h)) tyX9 tyX9_ok nmX9 hK hW hlen hk_ rfl 1 (by decide) (List.mem_cons_of_mem _ wfl_X9_20) (fun _ h9 => h9) rfl hr.2.2 rfl (by decide +kernel) (rfl) (rfl) (Nat.le_of_ble_eq_true rfl) dX9_init_27 (fun H locs w_ hU1 hN1 hlen hW => ?_)
  have hU := hU.then hU1 (by decide)
  have hO2_ := hU1.get hO2_ (by decide)
  have hR1n3_ := hU1.get hR1n3_ (by decide)
  have hO5_ := hU1.get hO5_ (by decide)
  have hR1n6_ := hU1.get hR1n6_ (by decide)
  have hk_ : w_[11]? = some (h, .inr (8, [.ref q_1, .ref q_4, .null, .null])) := hN1
  clear hU1 hN1
  refine lv_aload_n S.1 S.2.1 dX9_init_30 rfl (lv_at hl 0 rfl) ?_
  refine j_newL (C := RX6) (T := TX6) (N := 1) (ci := 5) (fs := [.null]) S (fun w h => List.mem_cons_of_mem _ (inG6 w h)) tyX6 tyX6_ok (List.mem_cons_of_mem _ wcl_X9_9) (List.mem_cons_of_mem _ wmk_X6) (List.mem_cons_of_mem _ wini_X6) hK hA hW hlen rfl (by decide +kernel) (Nat.le_of_ble_eq_true rfl) (Nat.le_of_ble_eq_true rfl) dX9_init_31 (fun q_7 H w_ hU1 hN1 hlen hW => ?_)
  have hU := hU.then hU1 (by decide)
  have hk_ := hU1.get hk_ (by decide)
  have hO2_ := hU1.get hO2_ (by decide)
  have hR1n3_ := hU1.get hR1n3_ (by decide)
  have hO5_ := hU1.get hO5_ (by decide)
  have hR1n6_ := hU1.get hR1n6_ (by decide)
  have hO8_ : w_[16]? = some (q_7, .inr (5, [.null])) := hN1
  clear hU1 hN1
  refine lv_dup S.1 S.2.1 dX9_init_34 rfl ?_
  refine lv_bipush (v := nI 10) S.1 S.2.1 dX9_init_35 (by decide) ?_
  refine j_callI (As := [.int (nI 10)]) (rest := [.ref q_7, .ref h]) S hK hA hW (c_X6_init l D cy 16 q_7 10 17 hO8_  hlen (by omega)) wm_X9_11 yk_X6_init ⟨⟨rfl, rfl⟩, by decide, by decide⟩ rfl hl.1 rfl (Nat.le_of_ble_eq_true rfl) dX9_init_37 ⟨Nat.le_of_ble_eq_true rfl, Nat.le_of_ble_eq_true rfl⟩ (fun v w_ H locs hp hW => ?_)
  obtain ⟨ar_37, rfl, hp37_0, hU1, hN1, hN2⟩ := hp
  have hlen : w_.length = 18 := hp37_0
  have hU := hU.then hU1 (by decide)
  have hk_ := hU1.get hk_ (by decide)
  have hO2_ := hU1.get hO2_ (by decide)
  have hR1n3_ := hU1.get hR1n3_ (by decide)
  have hO5_ := hU1.get hO5_ (by decide)
  have hR1n6_ := hU1.get hR1n6_ (by decide)
  have hO8_ : w_[16]? = some (q_7, .inr (5, [.ref ar_37])) := hN1
  have hR1n9_ : w_[17]? = some (ar_37, .inl (cy 0, 10, .inl (fun _ => nI 0))) := hN2
  clear hU1 hN1 hN2
  refine W.eq (g2 := F0 m 40 ls [.ref q_7, .ref h]) rfl ?_
  refine j_putFL (ci := 8) (C := RX9) (T := TX9) (N := 4) (ty := .object "Countfall$IntRow") S (fun w h => List.mem_cons_of_mem _ (inG9 w h)) tyX9 tyX9_ok nmX9 hK hW hlen hk_ rfl 2 (by decide) (List.mem_cons_of_mem _ wfl_X9_23) (fun _ h9 => h9) rfl hr.2.2 rfl (by decide +kernel) (rfl) (rfl) (Nat.le_of_ble_eq_true rfl) dX9_init_40 (fun H locs w_ hU1 hN1 hlen hW => ?_)
  have hU := hU.then hU1 (by decide)
  have hO2_ := hU1.get hO2_ (by decide)
  have hR1n3_ := hU1.get hR1n3_ (by decide)
  have hO5_ := hU1.get hO5_ (by decide)
  have hR1n6_ := hU1.get hR1n6_ (by decide)
  have hO8_ := hU1.get hO8_ (by decide)
  have hR1n9_ := hU1.get hR1n9_ (by decide)
  have hk_ : w_[11]? = some (h, .inr (8, [.ref q_1, .ref q_4, .ref q_7, .null])) := hN1
  clear hU1 hN1
  refine lv_aload_n S.1 S.2.1 dX9_init_43 rfl (lv_at hl 0 rfl) ?_
  refine j_newL (C := RX7) (T := TX7) (N := 1) (ci := 6) (fs := [.null]) S (fun w h => List.mem_cons_of_mem _ (inG7 w h)) tyX7 tyX7_ok (List.mem_cons_of_mem _ wcl_X9_26) (List.mem_cons_of_mem _ wmk_X7) (List.mem_cons_of_mem _ wini_X7) hK hA hW hlen rfl (by decide +kernel) (Nat.le_of_ble_eq_true rfl) (Nat.le_of_ble_eq_true rfl) dX9_init_44 (fun q_10 H w_ hU1 hN1 hlen hW => ?_)
  have hU := hU.then hU1 (by decide)
  have hk_ := hU1.get hk_ (by decide)
  have hO2_ := hU1.get hO2_ (by decide)
  have hR1n3_ := hU1.get hR1n3_ (by decide)
  have hO5_ := hU1.get hO5_ (by decide)
  have hR1n6_ := hU1.get hR1n6_ (by decide)
  have hO8_ := hU1.get hO8_ (by decide)
  have hR1n9_ := hU1.get hR1n9_ (by decide)
  have hO11_ : w_[18]? = some (q_10, .inr (6, [.null])) := hN1
  clear hU1 hN1
  refine lv_dup S.1 S.2.1 dX9_init_47 rfl ?_
  refine lv_bipush (v := nI 10) S.1 S.2.1 dX9_init_48 (by decide) ?_
  refine j_callI (As := [.int (nI 10)]) (rest := [.ref q_10, .ref h]) S hK hA hW (c_X7_init l D cy 18 q_10 10 19 hO11_  hlen (by omega)) wm_X9_28 yk_X7_init ⟨⟨rfl, rfl⟩, by decide, by decide⟩ rfl hl.1 rfl (Nat.le_of_ble_eq_true rfl) dX9_init_50 ⟨Nat.le_of_ble_eq_true rfl, Nat.le_of_ble_eq_true rfl⟩ (fun v w_ H locs hp hW => ?_)
  obtain ⟨ar_50, rfl, hp50_0, hU1, hN1, hN2⟩ := hp
  have hlen : w_.length = 20 := hp50_0
  have hU := hU.then hU1 (by decide)
  have hk_ := hU1.get hk_ (by decide)
  have hO2_ := hU1.get hO2_ (by decide)
  have hR1n3_ := hU1.get hR1n3_ (by decide)
  have hO5_ := hU1.get hO5_ (by decide)
  have hR1n6_ := hU1.get hR1n6_ (by decide)
  have hO8_ := hU1.get hO8_ (by decide)
  have hR1n9_ := hU1.get hR1n9_ (by decide)
  have hO11_ : w_[18]? = some (q_10, .inr (6, [.ref ar_50])) := hN1
  have hR1n12_ : w_[19]? = some (ar_50, .inl (cy 1, 10, .inr (.inl (fun _ => lN 0)))) := hN2
  clear hU1 hN1 hN2
  refine W.eq (g2 := F0 m 53 ls [.ref q_10, .ref h]) rfl ?_
  refine j_putFL (ci := 8) (C := RX9) (T := TX9) (N := 4) (ty := .object "Countfall$LongRow") S (fun w h => List.mem_cons_of_mem _ (inG9 w h)) tyX9 tyX9_ok nmX9 hK hW hlen hk_ rfl 3 (by decide) (List.mem_cons_of_mem _ wfl_X9_29) (fun _ h9 => h9) rfl hr.2.2 rfl (by decide +kernel) (rfl) (rfl) (Nat.le_of_ble_eq_true rfl) dX9_init_53 (fun H locs w_ hU1 hN1 hlen hW => ?_)
  have hU := hU.then hU1 (by decide)
  have hO2_ := hU1.get hO2_ (by decide)
  have hR1n3_ := hU1.get hR1n3_ (by decide)
  have hO5_ := hU1.get hO5_ (by decide)
  have hR1n6_ := hU1.get hR1n6_ (by decide)
  have hO8_ := hU1.get hO8_ (by decide)
  have hR1n9_ := hU1.get hR1n9_ (by decide)
  have hO11_ := hU1.get hO11_ (by decide)
  have hR1n12_ := hU1.get hR1n12_ (by decide)
  have hk_ : w_[11]? = some (h, .inr (8, [.ref q_1, .ref q_4, .ref q_7, .ref q_10])) := hN1
  clear hU1 hN1
  subst hQ
  exact j_vret (u := w_) S hr hK hW dX9_init_56 ⟨by decide, by decide⟩ (⟨q_1, ar_11, q_4, ar_24, q_7, ar_37, q_10, ar_50, rfl, hlen, (jU.low hU hlen0 (by decide)), hk_, hO2_, hR1n3_, hO5_, hR1n6_, hO8_, hR1n9_, hO11_, hR1n12_⟩)
/-- a constructor -/
theorem c_X10_init (l : Launch) (D : va_G) (cy : Nat → ClassId) {w : va_W} (h : Nat) (hk : w[26]? = some (h, .inr (9, [.null, .null, .int (nI 0)]))) (hlen : w.length = 27) : jM l yX10_init (jws yX10_init cX10_init 1 none) (jR 2 4 44) D cy w [.ref h] 4 44 (fun vv uu => ∃ (r0 : Nat), ∃ (v0 : Nat), ∃ (r1 : Nat), ∃ (v1 : Nat), vv = none ∧ uu.length = 31 ∧ jU w uu [26] ∧ uu[26]? = some (h, .inr (9, [.ref r0, .ref r1, .int (nI 0)])) ∧ uu[27]? = some (r0, .inr (5, [.ref v0])) ∧ uu[28]? = some (v0, .inl (cy 0, 21, .inl (fun _ => nI 0))) ∧ uu[29]? = some (r1, .inr (6, [.ref v1])) ∧ uu[30]? = some (v1, .inl (cy 1, 21, .inr (.inl (fun _ => lN 0))))) := by
  have hlen0 := hlen
  refine j_of (by decide) rfl (Nat.le_of_ble_eq_true rfl) ?_
  intro p e s m args below meth c A ls Q hQ S hr hK hA H locs hW hl
  have hl : lv_has ls 1 [(0, .ref h)] := hl
  refine lv_aload_n S.1 S.2.1 dX10_init_0 rfl (lv_at hl 0 rfl) ?_
  refine W.objInit S.1 S.2.1 S.2.2.2.1 (S.2.2.2.2 _ (List.mem_cons_of_mem _ woi_X10)) (S.2.2.2.2 _ (List.mem_cons_of_mem _ woi_i)) (S.2.2.2.2 _ (List.mem_cons_of_mem _ woi_c)) rfl (by rw [S.2.2.1]; exact hl.1) rfl dX10_init_1 (Nat.le_of_ble_eq_true rfl) (Nat.le_of_ble_eq_true rfl) ?_
  refine W.eq (g2 := F0 m 4 ls []) rfl ?_
  refine lv_aload_n S.1 S.2.1 dX10_init_4 rfl (lv_at hl 0 rfl) ?_
  refine j_newL (C := RX6) (T := TX6) (N := 1) (ci := 5) (fs := [.null]) S (fun w h => List.mem_cons_of_mem _ (inG6 w h)) tyX6 tyX6_ok (List.mem_cons_of_mem _ wcl_X10_9) (List.mem_cons_of_mem _ wmk_X6) (List.mem_cons_of_mem _ wini_X6) hK hA hW hlen rfl (by decide +kernel) (Nat.le_of_ble_eq_true rfl) (Nat.le_of_ble_eq_true rfl) dX10_init_5 (fun q_1 H w_ hU1 hN1 hlen hW => ?_)
  have hU : jU w w_ [26, 27, 28, 29, 30] := jU.mono hU1 (by decide)
  have hk_ := hU1.get hk (by decide)
  have hO2_ : w_[27]? = some (q_1, .inr (5, [.null])) := hN1
  clear hU1 hN1
  refine lv_dup S.1 S.2.1 dX10_init_8 rfl ?_
  refine lv_bipush (v := nI 21) S.1 S.2.1 dX10_init_9 (by decide) ?_
  refine j_callI (As := [.int (nI 21)]) (rest := [.ref q_1, .ref h]) S hK hA hW (c_X6_init l D cy 27 q_1 21 28 hO2_  hlen (by omega)) wm_X10_13 yk_X6_init ⟨⟨rfl, rfl⟩, by decide, by decide⟩ rfl hl.1 rfl (Nat.le_of_ble_eq_true rfl) dX10_init_11 ⟨Nat.le_of_ble_eq_true rfl, Nat.le_of_ble_eq_true rfl⟩ (fun v w_ H locs hp hW => ?_)
  obtain ⟨ar_11, rfl, hp11_0, hU1, hN1, hN2⟩ := hp
  have hlen : w_.length = 29 := hp11_0
  have hU := hU.then hU1 (by decide)
  have hk_ := hU1.get hk_ (by decide)
  have hO2_ : w_[27]? = some (q_1, .inr (5, [.ref ar_11])) := hN1
  have hR1n3_ : w_[28]? = some (ar_11, .inl (cy 0, 21, .inl (fun _ => nI 0))) := hN2
  clear hU1 hN1 hN2
  refine W.eq (g2 := F0 m 14 ls [.ref q_1, .ref h]) rfl ?_
  refine j_putFL (ci := 9) (C := RX10) (T := TX10) (N := 3) (ty := .object "Countfall$IntRow") S (fun w h => List.mem_cons_of_mem _ (inG10 w h)) tyX10 tyX10_ok nmX10 hK hW hlen hk_ rfl 0 (by decide) (List.mem_cons_of_mem _ wfl_X10_16) (fun _ h9 => h9) rfl hr.2.2 rfl (by decide +kernel) (rfl) (rfl) (Nat.le_of_ble_eq_true rfl) dX10_init_14 (fun H locs w_ hU1 hN1 hlen hW => ?_)
  have hU := hU.then hU1 (by decide)
  have hO2_ := hU1.get hO2_ (by decide)
  have hR1n3_ := hU1.get hR1n3_ (by decide)
  have hk_ : w_[26]? = some (h, .inr (9, [.ref q_1, .null, .int (nI 0)])) := hN1
  clear hU1 hN1
  refine lv_aload_n S.1 S.2.1 dX10_init_17 rfl (lv_at hl 0 rfl) ?_
  refine j_newL (C := RX7) (T := TX7) (N := 1) (ci := 6) (fs := [.null]) S (fun w h => List.mem_cons_of_mem _ (inG7 w h)) tyX7 tyX7_ok (List.mem_cons_of_mem _ wcl_X10_20) (List.mem_cons_of_mem _ wmk_X7) (List.mem_cons_of_mem _ wini_X7) hK hA hW hlen rfl (by decide +kernel) (Nat.le_of_ble_eq_true rfl) (Nat.le_of_ble_eq_true rfl) dX10_init_18 (fun q_4 H w_ hU1 hN1 hlen hW => ?_)
  have hU := hU.then hU1 (by decide)
  have hk_ := hU1.get hk_ (by decide)
  have hO2_ := hU1.get hO2_ (by decide)
  have hR1n3_ := hU1.get hR1n3_ (by decide)
  have hO5_ : w_[29]? = some (q_4, .inr (6, [.null])) := hN1
  clear hU1 hN1
  refine lv_dup S.1 S.2.1 dX10_init_21 rfl ?_
  refine lv_bipush (v := nI 21) S.1 S.2.1 dX10_init_22 (by decide) ?_
  refine j_callI (As := [.int (nI 21)]) (rest := [.ref q_4, .ref h]) S hK hA hW (c_X7_init l D cy 29 q_4 21 30 hO5_  hlen (by omega)) wm_X10_22 yk_X7_init ⟨⟨rfl, rfl⟩, by decide, by decide⟩ rfl hl.1 rfl (Nat.le_of_ble_eq_true rfl) dX10_init_24 ⟨Nat.le_of_ble_eq_true rfl, Nat.le_of_ble_eq_true rfl⟩ (fun v w_ H locs hp hW => ?_)
  obtain ⟨ar_24, rfl, hp24_0, hU1, hN1, hN2⟩ := hp
  have hlen : w_.length = 31 := hp24_0
  have hU := hU.then hU1 (by decide)
  have hk_ := hU1.get hk_ (by decide)
  have hO2_ := hU1.get hO2_ (by decide)
  have hR1n3_ := hU1.get hR1n3_ (by decide)
  have hO5_ : w_[29]? = some (q_4, .inr (6, [.ref ar_24])) := hN1
  have hR1n6_ : w_[30]? = some (ar_24, .inl (cy 1, 21, .inr (.inl (fun _ => lN 0)))) := hN2
  clear hU1 hN1 hN2
  refine W.eq (g2 := F0 m 27 ls [.ref q_4, .ref h]) rfl ?_
  refine j_putFL (ci := 9) (C := RX10) (T := TX10) (N := 3) (ty := .object "Countfall$LongRow") S (fun w h => List.mem_cons_of_mem _ (inG10 w h)) tyX10 tyX10_ok nmX10 hK hW hlen hk_ rfl 1 (by decide) (List.mem_cons_of_mem _ wfl_X10_23) (fun _ h9 => h9) rfl hr.2.2 rfl (by decide +kernel) (rfl) (rfl) (Nat.le_of_ble_eq_true rfl) dX10_init_27 (fun H locs w_ hU1 hN1 hlen hW => ?_)
  have hU := hU.then hU1 (by decide)
  have hO2_ := hU1.get hO2_ (by decide)
  have hR1n3_ := hU1.get hR1n3_ (by decide)
  have hO5_ := hU1.get hO5_ (by decide)
  have hR1n6_ := hU1.get hR1n6_ (by decide)
  have hk_ : w_[26]? = some (h, .inr (9, [.ref q_1, .ref q_4, .int (nI 0)])) := hN1
  clear hU1 hN1
  subst hQ
  exact j_vret (u := w_) S hr hK hW dX10_init_30 ⟨by decide, by decide⟩ (⟨q_1, ar_11, q_4, ar_24, rfl, hlen, (jU.low hU hlen0 (by decide)), hk_, hO2_, hR1n3_, hO5_, hR1n6_⟩)
/-- a constructor -/
theorem c_X2_init (l : Launch) (D : va_G) (cy : Nat → ClassId) {w : va_W} (h : Nat) (hk : w[31]? = some (h, .inr (2, [.null, .null, .null, .null, .null, .int (nI 0)]))) (hlen : w.length = 32) : jM l yX2_init (jws yX2_init cX2_init 1 none) (jR 2 10 1855) D cy w [.ref h] 10 1855 (fun vv uu => ∃ (r0 : Nat), ∃ (v0 : Nat), ∃ (r1 : Nat), ∃ (v1 : Nat), ∃ (r2 : Nat), ∃ (v2 : Nat), ∃ (r3 : Nat), ∃ (v3 : Nat), ∃ (r4 : Nat), ∃ (v4 : Nat), vv = none ∧ uu.length = 42 ∧ jU w uu [31] ∧ uu[31]? = some (h, .inr (2, [.ref r0, .ref r1, .ref r2, .ref r3, .ref r4, .int (nI 0)])) ∧ uu[32]? = some (r0, .inr (5, [.ref v0])) ∧ uu[33]? = some (v0, .inl (cy 0, 1024, .inl (fun _ => nI 0))) ∧ uu[34]? = some (r1, .inr (5, [.ref v1])) ∧ uu[35]? = some (v1, .inl (cy 0, 272, .inl (fun _ => nI 0))) ∧ uu[36]? = some (r2, .inr (5, [.ref v2])) ∧ uu[37]? = some (v2, .inl (cy 0, 272, .inl (fun _ => nI 0))) ∧ uu[38]? = some (r3, .inr (5, [.ref v3])) ∧ uu[39]? = some (v3, .inl (cy 0, 272, .inl (fun _ => nI 0))) ∧ uu[40]? = some (r4, .inr (5, [.ref v4])) ∧ uu[41]? = some (v4, .inl (cy 0, 10, .inl (fun _ => nI 0)))) := by
  have hlen0 := hlen
  refine j_of (by decide) rfl (Nat.le_of_ble_eq_true rfl) ?_
  intro p e s m args below meth c A ls Q hQ S hr hK hA H locs hW hl
  have hl : lv_has ls 1 [(0, .ref h)] := hl
  refine lv_aload_n S.1 S.2.1 dX2_init_0 rfl (lv_at hl 0 rfl) ?_
  refine W.objInit S.1 S.2.1 S.2.2.2.1 (S.2.2.2.2 _ (List.mem_cons_of_mem _ woi_X2)) (S.2.2.2.2 _ (List.mem_cons_of_mem _ woi_i)) (S.2.2.2.2 _ (List.mem_cons_of_mem _ woi_c)) rfl (by rw [S.2.2.1]; exact hl.1) rfl dX2_init_1 (Nat.le_of_ble_eq_true rfl) (Nat.le_of_ble_eq_true rfl) ?_
  refine W.eq (g2 := F0 m 4 ls []) rfl ?_
  refine lv_aload_n S.1 S.2.1 dX2_init_4 rfl (lv_at hl 0 rfl) ?_
  refine j_newL (C := RX6) (T := TX6) (N := 1) (ci := 5) (fs := [.null]) S (fun w h => List.mem_cons_of_mem _ (inG6 w h)) tyX6 tyX6_ok (List.mem_cons_of_mem _ wcl_X2_9) (List.mem_cons_of_mem _ wmk_X6) (List.mem_cons_of_mem _ wini_X6) hK hA hW hlen rfl (by decide +kernel) (Nat.le_of_ble_eq_true rfl) (Nat.le_of_ble_eq_true rfl) dX2_init_5 (fun q_1 H w_ hU1 hN1 hlen hW => ?_)
  have hU : jU w w_ [31, 32, 33, 34, 35, 36, 37, 38, 39, 40, 41] := jU.mono hU1 (by decide)
  have hk_ := hU1.get hk (by decide)
  have hO2_ : w_[32]? = some (q_1, .inr (5, [.null])) := hN1
  clear hU1 hN1
  refine lv_dup S.1 S.2.1 dX2_init_8 rfl ?_
  refine lv_sipush (v := nI 1024) S.1 S.2.1 dX2_init_9 (by decide) ?_
  refine j_callI (As := [.int (nI 1024)]) (rest := [.ref q_1, .ref h]) S hK hA hW (c_X6_init l D cy 32 q_1 1024 33 hO2_  hlen (by omega)) wm_X2_11 yk_X6_init ⟨⟨rfl, rfl⟩, by decide, by decide⟩ rfl hl.1 rfl (Nat.le_of_ble_eq_true rfl) dX2_init_12 ⟨Nat.le_of_ble_eq_true rfl, Nat.le_of_ble_eq_true rfl⟩ (fun v w_ H locs hp hW => ?_)
  obtain ⟨ar_12, rfl, hp12_0, hU1, hN1, hN2⟩ := hp
  have hlen : w_.length = 34 := hp12_0
  have hU := hU.then hU1 (by decide)
  have hk_ := hU1.get hk_ (by decide)
  have hO2_ : w_[32]? = some (q_1, .inr (5, [.ref ar_12])) := hN1
  have hR1n3_ : w_[33]? = some (ar_12, .inl (cy 0, 1024, .inl (fun _ => nI 0))) := hN2
  clear hU1 hN1 hN2
  refine W.eq (g2 := F0 m 15 ls [.ref q_1, .ref h]) rfl ?_
  refine j_putFL (ci := 2) (C := RX2) (T := TX2) (N := 6) (ty := .object "Countfall$IntRow") S (fun w h => List.mem_cons_of_mem _ (inG2 w h)) tyX2 tyX2_ok nmX2 hK hW hlen hk_ rfl 0 (by decide) (List.mem_cons_of_mem _ wfl_X2_14) (fun _ h9 => h9) rfl hr.2.2 rfl (by decide +kernel) (rfl) (rfl) (Nat.le_of_ble_eq_true rfl) dX2_init_15 (fun H locs w_ hU1 hN1 hlen hW => ?_)
  have hU := hU.then hU1 (by decide)
  have hO2_ := hU1.get hO2_ (by decide)
  have hR1n3_ := hU1.get hR1n3_ (by decide)
  have hk_ : w_[31]? = some (h, .inr (2, [.ref q_1, .null, .null, .null, .null, .int (nI 0)])) := hN1
  clear hU1 hN1
  refine lv_aload_n S.1 S.2.1 dX2_init_18 rfl (lv_at hl 0 rfl) ?_
  refine j_newL (C := RX6) (T := TX6) (N := 1) (ci := 5) (fs := [.null]) S (fun w h => List.mem_cons_of_mem _ (inG6 w h)) tyX6 tyX6_ok (List.mem_cons_of_mem _ wcl_X2_9) (List.mem_cons_of_mem _ wmk_X6) (List.mem_cons_of_mem _ wini_X6) hK hA hW hlen rfl (by decide +kernel) (Nat.le_of_ble_eq_true rfl) (Nat.le_of_ble_eq_true rfl) dX2_init_19 (fun q_4 H w_ hU1 hN1 hlen hW => ?_)
  have hU := hU.then hU1 (by decide)
  have hk_ := hU1.get hk_ (by decide)
  have hO2_ := hU1.get hO2_ (by decide)
  have hR1n3_ := hU1.get hR1n3_ (by decide)
  have hO5_ : w_[34]? = some (q_4, .inr (5, [.null])) := hN1
  clear hU1 hN1
  refine lv_dup S.1 S.2.1 dX2_init_22 rfl ?_
  refine lv_sipush (v := nI 272) S.1 S.2.1 dX2_init_23 (by decide) ?_
  refine j_callI (As := [.int (nI 272)]) (rest := [.ref q_4, .ref h]) S hK hA hW (c_X6_init l D cy 34 q_4 272 35 hO5_  hlen (by omega)) wm_X2_11 yk_X6_init ⟨⟨rfl, rfl⟩, by decide, by decide⟩ rfl hl.1 rfl (Nat.le_of_ble_eq_true rfl) dX2_init_26 ⟨Nat.le_of_ble_eq_true rfl, Nat.le_of_ble_eq_true rfl⟩ (fun v w_ H locs hp hW => ?_)
  obtain ⟨ar_26, rfl, hp26_0, hU1, hN1, hN2⟩ := hp
  have hlen : w_.length = 36 := hp26_0
  have hU := hU.then hU1 (by decide)
  have hk_ := hU1.get hk_ (by decide)
  have hO2_ := hU1.get hO2_ (by decide)
  have hR1n3_ := hU1.get hR1n3_ (by decide)
  have hO5_ : w_[34]? = some (q_4, .inr (5, [.ref ar_26])) := hN1
  have hR1n6_ : w_[35]? = some (ar_26, .inl (cy 0, 272, .inl (fun _ => nI 0))) := hN2
  clear hU1 hN1 hN2
  refine W.eq (g2 := F0 m 29 ls [.ref q_4, .ref h]) rfl ?_
  refine j_putFL (ci := 2) (C := RX2) (T := TX2) (N := 6) (ty := .object "Countfall$IntRow") S (fun w h => List.mem_cons_of_mem _ (inG2 w h)) tyX2 tyX2_ok nmX2 hK hW hlen hk_ rfl 1 (by decide) (List.mem_cons_of_mem _ wfl_X2_20) (fun _ h9 => h9) rfl hr.2.2 rfl (by decide +kernel) (rfl) (rfl) (Nat.le_of_ble_eq_true rfl) dX2_init_29 (fun H locs w_ hU1 hN1 hlen hW => ?_)
  have hU := hU.then hU1 (by decide)
  have hO2_ := hU1.get hO2_ (by decide)
  have hR1n3_ := hU1.get hR1n3_ (by decide)
  have hO5_ := hU1.get hO5_ (by decide)
  have hR1n6_ := hU1.get hR1n6_ (by decide)
  have hk_ : w_[31]? = some (h, .inr (2, [.ref q_1, .ref q_4, .null, .null, .null, .int (nI 0)])) := hN1
  clear hU1 hN1
  refine lv_aload_n S.1 S.2.1 dX2_init_32 rfl (lv_at hl 0 rfl) ?_
  refine j_newL (C := RX6) (T := TX6) (N := 1) (ci := 5) (fs := [.null]) S (fun w h => List.mem_cons_of_mem _ (inG6 w h)) tyX6 tyX6_ok (List.mem_cons_of_mem _ wcl_X2_9) (List.mem_cons_of_mem _ wmk_X6) (List.mem_cons_of_mem _ wini_X6) hK hA hW hlen rfl (by decide +kernel) (Nat.le_of_ble_eq_true rfl) (Nat.le_of_ble_eq_true rfl) dX2_init_33 (fun q_7 H w_ hU1 hN1 hlen hW => ?_)
  have hU := hU.then hU1 (by decide)
  have hk_ := hU1.get hk_ (by decide)
  have hO2_ := hU1.get hO2_ (by decide)
  have hR1n3_ := hU1.get hR1n3_ (by decide)
  have hO5_ := hU1.get hO5_ (by decide)
  have hR1n6_ := hU1.get hR1n6_ (by decide)
  have hO8_ : w_[36]? = some (q_7, .inr (5, [.null])) := hN1
  clear hU1 hN1
  refine lv_dup S.1 S.2.1 dX2_init_36 rfl ?_
  refine lv_sipush (v := nI 272) S.1 S.2.1 dX2_init_37 (by decide) ?_
  refine j_callI (As := [.int (nI 272)]) (rest := [.ref q_7, .ref h]) S hK hA hW (c_X6_init l D cy 36 q_7 272 37 hO8_  hlen (by omega)) wm_X2_11 yk_X6_init ⟨⟨rfl, rfl⟩, by decide, by decide⟩ rfl hl.1 rfl (Nat.le_of_ble_eq_true rfl) dX2_init_40 ⟨Nat.le_of_ble_eq_true rfl, Nat.le_of_ble_eq_true rfl⟩ (fun v w_ H locs hp hW => ?_)
  obtain ⟨ar_40, rfl, hp40_0, hU1, hN1, hN2⟩ := hp
  have hlen : w_.length = 38 := hp40_0
  have hU := hU.then hU1 (by decide)
  have hk_ := hU1.get hk_ (by decide)
  have hO2_ := hU1.get hO2_ (by decide)
  have hR1n3_ := hU1.get hR1n3_ (by decide)
  have hO5_ := hU1.get hO5_ (by decide)
  have hR1n6_ := hU1.get hR1n6_ (by decide)
  have hO8_ : w_[36]? = some (q_7, .inr (5, [.ref ar_40])) := hN1
  have hR1n9_ : w_[37]? = some (ar_40, .inl (cy 0, 272, .inl (fun _ => nI 0))) := hN2
  clear hU1 hN1 hN2
  refine W.eq (g2 := F0 m 43 ls [.ref q_7, .ref h]) rfl ?_
  refine j_putFL (ci := 2) (C := RX2) (T := TX2) (N := 6) (ty := .object "Countfall$IntRow") S (fun w h => List.mem_cons_of_mem _ (inG2 w h)) tyX2 tyX2_ok nmX2 hK hW hlen hk_ rfl 2 (by decide) (List.mem_cons_of_mem _ wfl_X2_23) (fun _ h9 => h9) rfl hr.2.2 rfl (by decide +kernel) (rfl) (rfl) (Nat.le_of_ble_eq_true rfl) dX2_init_43 (fun H locs w_ hU1 hN1 hlen hW => ?_)
  have hU := hU.then hU1 (by decide)
  have hO2_ := hU1.get hO2_ (by decide)
  have hR1n3_ := hU1.get hR1n3_ (by decide)
  have hO5_ := hU1.get hO5_ (by decide)
  have hR1n6_ := hU1.get hR1n6_ (by decide)
  have hO8_ := hU1.get hO8_ (by decide)
  have hR1n9_ := hU1.get hR1n9_ (by decide)
  have hk_ : w_[31]? = some (h, .inr (2, [.ref q_1, .ref q_4, .ref q_7, .null, .null, .int (nI 0)])) := hN1
  clear hU1 hN1
  refine lv_aload_n S.1 S.2.1 dX2_init_46 rfl (lv_at hl 0 rfl) ?_
  refine j_newL (C := RX6) (T := TX6) (N := 1) (ci := 5) (fs := [.null]) S (fun w h => List.mem_cons_of_mem _ (inG6 w h)) tyX6 tyX6_ok (List.mem_cons_of_mem _ wcl_X2_9) (List.mem_cons_of_mem _ wmk_X6) (List.mem_cons_of_mem _ wini_X6) hK hA hW hlen rfl (by decide +kernel) (Nat.le_of_ble_eq_true rfl) (Nat.le_of_ble_eq_true rfl) dX2_init_47 (fun q_10 H w_ hU1 hN1 hlen hW => ?_)
  have hU := hU.then hU1 (by decide)
  have hk_ := hU1.get hk_ (by decide)
  have hO2_ := hU1.get hO2_ (by decide)
  have hR1n3_ := hU1.get hR1n3_ (by decide)
  have hO5_ := hU1.get hO5_ (by decide)
  have hR1n6_ := hU1.get hR1n6_ (by decide)
  have hO8_ := hU1.get hO8_ (by decide)
  have hR1n9_ := hU1.get hR1n9_ (by decide)
  have hO11_ : w_[38]? = some (q_10, .inr (5, [.null])) := hN1
  clear hU1 hN1
  refine lv_dup S.1 S.2.1 dX2_init_50 rfl ?_
  refine lv_sipush (v := nI 272) S.1 S.2.1 dX2_init_51 (by decide) ?_
  refine j_callI (As := [.int (nI 272)]) (rest := [.ref q_10, .ref h]) S hK hA hW (c_X6_init l D cy 38 q_10 272 39 hO11_  hlen (by omega)) wm_X2_11 yk_X6_init ⟨⟨rfl, rfl⟩, by decide, by decide⟩ rfl hl.1 rfl (Nat.le_of_ble_eq_true rfl) dX2_init_54 ⟨Nat.le_of_ble_eq_true rfl, Nat.le_of_ble_eq_true rfl⟩ (fun v w_ H locs hp hW => ?_)
  obtain ⟨ar_54, rfl, hp54_0, hU1, hN1, hN2⟩ := hp
  have hlen : w_.length = 40 := hp54_0
  have hU := hU.then hU1 (by decide)
  have hk_ := hU1.get hk_ (by decide)
  have hO2_ := hU1.get hO2_ (by decide)
  have hR1n3_ := hU1.get hR1n3_ (by decide)
  have hO5_ := hU1.get hO5_ (by decide)
  have hR1n6_ := hU1.get hR1n6_ (by decide)
  have hO8_ := hU1.get hO8_ (by decide)
  have hR1n9_ := hU1.get hR1n9_ (by decide)
  have hO11_ : w_[38]? = some (q_10, .inr (5, [.ref ar_54])) := hN1
  have hR1n12_ : w_[39]? = some (ar_54, .inl (cy 0, 272, .inl (fun _ => nI 0))) := hN2
  clear hU1 hN1 hN2
  refine W.eq (g2 := F0 m 57 ls [.ref q_10, .ref h]) rfl ?_
  refine j_putFL (ci := 2) (C := RX2) (T := TX2) (N := 6) (ty := .object "Countfall$IntRow") S (fun w h => List.mem_cons_of_mem _ (inG2 w h)) tyX2 tyX2_ok nmX2 hK hW hlen hk_ rfl 3 (by decide) (List.mem_cons_of_mem _ wfl_X2_26) (fun _ h9 => h9) rfl hr.2.2 rfl (by decide +kernel) (rfl) (rfl) (Nat.le_of_ble_eq_true rfl) dX2_init_57 (fun H locs w_ hU1 hN1 hlen hW => ?_)
  have hU := hU.then hU1 (by decide)
  have hO2_ := hU1.get hO2_ (by decide)
  have hR1n3_ := hU1.get hR1n3_ (by decide)
  have hO5_ := hU1.get hO5_ (by decide)
  have hR1n6_ := hU1.get hR1n6_ (by decide)
  have hO8_ := hU1.get hO8_ (by decide)
  have hR1n9_ := hU1.get hR1n9_ (by decide)
  have hO11_ := hU1.get hO11_ (by decide)
  have hR1n12_ := hU1.get hR1n12_ (by decide)
  have hk_ : w_[31]? = some (h, .inr (2, [.ref q_1, .ref q_4, .ref q_7, .ref q_10, .null, .int (nI 0)])) := hN1
  clear hU1 hN1
  refine lv_aload_n S.1 S.2.1 dX2_init_60 rfl (lv_at hl 0 rfl) ?_
  refine j_newL (C := RX6) (T := TX6) (N := 1) (ci := 5) (fs := [.null]) S (fun w h => List.mem_cons_of_mem _ (inG6 w h)) tyX6 tyX6_ok (List.mem_cons_of_mem _ wcl_X2_9) (List.mem_cons_of_mem _ wmk_X6) (List.mem_cons_of_mem _ wini_X6) hK hA hW hlen rfl (by decide +kernel) (Nat.le_of_ble_eq_true rfl) (Nat.le_of_ble_eq_true rfl) dX2_init_61 (fun q_13 H w_ hU1 hN1 hlen hW => ?_)
  have hU := hU.then hU1 (by decide)
  have hk_ := hU1.get hk_ (by decide)
  have hO2_ := hU1.get hO2_ (by decide)
  have hR1n3_ := hU1.get hR1n3_ (by decide)
  have hO5_ := hU1.get hO5_ (by decide)
  have hR1n6_ := hU1.get hR1n6_ (by decide)
  have hO8_ := hU1.get hO8_ (by decide)
  have hR1n9_ := hU1.get hR1n9_ (by decide)
  have hO11_ := hU1.get hO11_ (by decide)
  have hR1n12_ := hU1.get hR1n12_ (by decide)
  have hO14_ : w_[40]? = some (q_13, .inr (5, [.null])) := hN1
  clear hU1 hN1
  refine lv_dup S.1 S.2.1 dX2_init_64 rfl ?_
  refine lv_bipush (v := nI 10) S.1 S.2.1 dX2_init_65 (by decide) ?_
  refine j_callI (As := [.int (nI 10)]) (rest := [.ref q_13, .ref h]) S hK hA hW (c_X6_init l D cy 40 q_13 10 41 hO14_  hlen (by omega)) wm_X2_11 yk_X6_init ⟨⟨rfl, rfl⟩, by decide, by decide⟩ rfl hl.1 rfl (Nat.le_of_ble_eq_true rfl) dX2_init_67 ⟨Nat.le_of_ble_eq_true rfl, Nat.le_of_ble_eq_true rfl⟩ (fun v w_ H locs hp hW => ?_)
  obtain ⟨ar_67, rfl, hp67_0, hU1, hN1, hN2⟩ := hp
  have hlen : w_.length = 42 := hp67_0
  have hU := hU.then hU1 (by decide)
  have hk_ := hU1.get hk_ (by decide)
  have hO2_ := hU1.get hO2_ (by decide)
  have hR1n3_ := hU1.get hR1n3_ (by decide)
  have hO5_ := hU1.get hO5_ (by decide)
  have hR1n6_ := hU1.get hR1n6_ (by decide)
  have hO8_ := hU1.get hO8_ (by decide)
  have hR1n9_ := hU1.get hR1n9_ (by decide)
  have hO11_ := hU1.get hO11_ (by decide)
  have hR1n12_ := hU1.get hR1n12_ (by decide)
  have hO14_ : w_[40]? = some (q_13, .inr (5, [.ref ar_67])) := hN1
  have hR1n15_ : w_[41]? = some (ar_67, .inl (cy 0, 10, .inl (fun _ => nI 0))) := hN2
  clear hU1 hN1 hN2
  refine W.eq (g2 := F0 m 70 ls [.ref q_13, .ref h]) rfl ?_
  refine j_putFL (ci := 2) (C := RX2) (T := TX2) (N := 6) (ty := .object "Countfall$IntRow") S (fun w h => List.mem_cons_of_mem _ (inG2 w h)) tyX2 tyX2_ok nmX2 hK hW hlen hk_ rfl 4 (by decide) (List.mem_cons_of_mem _ wfl_X2_29) (fun _ h9 => h9) rfl hr.2.2 rfl (by decide +kernel) (rfl) (rfl) (Nat.le_of_ble_eq_true rfl) dX2_init_70 (fun H locs w_ hU1 hN1 hlen hW => ?_)
  have hU := hU.then hU1 (by decide)
  have hO2_ := hU1.get hO2_ (by decide)
  have hR1n3_ := hU1.get hR1n3_ (by decide)
  have hO5_ := hU1.get hO5_ (by decide)
  have hR1n6_ := hU1.get hR1n6_ (by decide)
  have hO8_ := hU1.get hO8_ (by decide)
  have hR1n9_ := hU1.get hR1n9_ (by decide)
  have hO11_ := hU1.get hO11_ (by decide)
  have hR1n12_ := hU1.get hR1n12_ (by decide)
  have hO14_ := hU1.get hO14_ (by decide)
  have hR1n15_ := hU1.get hR1n15_ (by decide)
  have hk_ : w_[31]? = some (h, .inr (2, [.ref q_1, .ref q_4, .ref q_7, .ref q_10, .ref q_13, .int (nI 0)])) := hN1
  clear hU1 hN1
  subst hQ
  exact j_vret (u := w_) S hr hK hW dX2_init_73 ⟨by decide, by decide⟩ (⟨q_1, ar_12, q_4, ar_26, q_7, ar_40, q_10, ar_54, q_13, ar_67, rfl, hlen, (jU.low hU hlen0 (by decide)), hk_, hO2_, hR1n3_, hO5_, hR1n6_, hO8_, hR1n9_, hO11_, hR1n12_, hO14_, hR1n15_⟩)
/-- Constraints() -/
theorem c_X5_init (l : Launch) (D : va_G) (cy : Nat → ClassId) {w : va_W} (h : Nat) (hk : w[9]? = some (h, .inr (4, [.null, .int (nI 0), .int (nI 0)]))) (hlen : w.length = 10) : jM l yX5_init (jws yX5_init cX5_init 1 none) (jR 1 1 20) D cy w [.ref h] 1 20 (fun vv uu => ∃ (ar : Nat), vv = none ∧ uu.length = 11 ∧ jU w uu [9] ∧ uu[9]? = some (h, .inr (4, [.ref ar, .int (nI 0), .int (nI 0)])) ∧ uu[10]? = some (ar, .inl (cy 5, 20, .inr (.inr (.inr (.inr (fun _ => none))))))) := by
  refine j_of (by decide) rfl (Nat.le_of_ble_eq_true rfl) ?_
  intro p e s m args below meth c A ls Q hQ S hr hK hA H locs hW hl
  have hl : lv_has ls 1 [(0, .ref h)] := hl
  refine lv_aload_n S.1 S.2.1 dX5_init_0 rfl (lv_at hl 0 rfl) ?_
  refine W.objInit S.1 S.2.1 S.2.2.2.1 (S.2.2.2.2 _ (List.mem_cons_of_mem _ woi_X5)) (S.2.2.2.2 _ (List.mem_cons_of_mem _ woi_i)) (S.2.2.2.2 _ (List.mem_cons_of_mem _ woi_c)) rfl (by rw [S.2.2.1]; exact hl.1) rfl dX5_init_1 (Nat.le_of_ble_eq_true rfl) (Nat.le_of_ble_eq_true rfl) ?_
  refine W.eq (g2 := F0 m 4 ls []) rfl ?_
  refine lv_aload_n S.1 S.2.1 dX5_init_4 rfl (lv_at hl 0 rfl) ?_
  refine lv_bipush (v := nI 20) S.1 S.2.1 dX5_init_5 (by decide) ?_
  refine j_newqL (t0 := 5) (N' := 20) S (List.mem_cons_of_mem _ wcl_X5_9) hK.2.2.2.2.1 hK hA hW hlen rfl (nI_pos (by omega)) (nI_clamp (by omega)) (by show 20 * 4 ≤ 536870912; omega) (Nat.le_of_ble_eq_true rfl) (Nat.le_of_ble_eq_true rfl) dX5_init_7 (fun q_1 H w_ hU1 hN1 hlen hW => ?_)
  have hU : jU w w_ [9] := jU.mono hU1 (by decide)
  have hk_ := hU1.get hk (by decide)
  have hR2_ : w_[10]? = some (q_1, .inl (cy 5, 20, .inr (.inr (.inr (.inr (fun _ => none)))))) := hN1
  clear hU1 hN1
  refine j_putFL (ci := 4) (C := RX5) (T := TX5) (N := 3) (ty := .array (.object "Countfall$Constraint")) S (fun w h => List.mem_cons_of_mem _ (inG5 w h)) tyX5 tyX5_ok nmX5 hK hW hlen hk_ rfl 0 (by decide) (List.mem_cons_of_mem _ wfl_X5_11) (fun _ h9 => h9) rfl hr.2.2 rfl (by decide +kernel) (rfl) (rfl) (Nat.le_of_ble_eq_true rfl) dX5_init_10 (fun H locs w_ hU1 hN1 hlen hW => ?_)
  have hU := hU.then hU1 (by decide)
  have hR2_ := hU1.get hR2_ (by decide)
  have hk_ : w_[9]? = some (h, .inr (4, [.ref q_1, .int (nI 0), .int (nI 0)])) := hN1
  clear hU1 hN1
  subst hQ
  exact j_vret (u := w_) S hr hK hW dX5_init_13 ⟨by decide, by decide⟩ (⟨_, rfl, hlen, hU, hk_, hR2_⟩)
