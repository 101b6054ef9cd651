/-! COUNTFALL: fix, free, and slots compared (laid by wip/whole/tools, from the specs there) -/
theorem and_tt {a b : Bool} (h1 : a = true) (h2 : b = true) : (a && b) = true := by rw [h1, h2]; rfl
theorem and_f1 {a b : Bool} (h1 : a = false) : (a && b) = false := by rw [h1]; rfl
theorem and_f2 {a b : Bool} (h1 : b = false) : (a && b) = false := by rw [h1, Bool.and_false]
/-- fix -/
theorem c_X11_fix (l : Launch) (htr : l.stackTraces = false) (D : va_G) (cy : Nat → ClassId) {w : va_W} (ad : Nat → Nat) (n sd se : Nat) (fr : Bool) (sz : Nat) (tp fw tw yw pcn od : Nat → Nat) (kv : Nat → Int32) (kx : Nat → Nat → Bool) (v u1 u2 : Int32) (hO : w[0]? = some (ad 0, .inr (10, [.int (nI n), .ref (ad 1), .ref (ad 3), .ref (ad 5), .int (nI sd), .int (nI se), .ref (ad 7), .ref (ad 9), .ref (ad 11), .ref (ad 20), .int (bI fr), .ref (ad 23), .ref (ad 26), .ref (ad 31), .ref (ad 42)]))) (hX : w[31]? = some (ad 31, .inr (2, [.ref (ad 32), .ref (ad 34), .ref (ad 36), .ref (ad 38), .ref (ad 40), .int (nI sz)]))) (hXto : w[32]? = some (ad 32, .inr (5, [.ref (ad 33)]))) (hXta : w[33]? = some (ad 33, .inl (cy 0, 1024, .inl (nf tp)))) (hXfo : w[34]? = some (ad 34, .inr (5, [.ref (ad 35)]))) (hXfa : w[35]? = some (ad 35, .inl (cy 0, 272, .inl (nf fw)))) (hXwo : w[36]? = some (ad 36, .inr (5, [.ref (ad 37)]))) (hXwa : w[37]? = some (ad 37, .inl (cy 0, 272, .inl (nf tw)))) (hXyo : w[38]? = some (ad 38, .inr (5, [.ref (ad 39)]))) (hXya : w[39]? = some (ad 39, .inl (cy 0, 272, .inl (nf yw)))) (hXpo : w[40]? = some (ad 40, .inr (5, [.ref (ad 41)]))) (hXpa : w[41]? = some (ad 41, .inl (cy 0, 10, .inl (nf pcn)))) (hOo : w[7]? = some (ad 7, .inr (5, [.ref (ad 8)]))) (hOa : w[8]? = some (ad 8, .inl (cy 0, 10, .inl (nf od)))) (hS : w[42]? = some (ad 42, .inl (cy 4, 4, .inr (.inr (.inr (.inr (slF ad))))))) (hslo : slOK w ad cy kv kx) (hn : n ≤ 10) (hod : ∀ j, od j < 10) (hf : ∀ a, fw a < 272) (ht : ∀ a, tw a < 272) (hkI : kvI kv kx) : jMx jTexts l yX11_fix (jws yX11_fix cX11_fix 5 (some .int)) (jR 9 5 30) D cy w [.ref (ad 0), .int v, .int u1, .int u2] 5 30 (fun vv uu => ∃ (sz1 : Nat), ∃ (tp1 : Nat → Nat), ∃ (fw1 : Nat → Nat), ∃ (tw1 : Nat → Nat), ∃ (yw1 : Nat → Nat), ∃ (pcn1 : Nat → Nat), ∃ (j : Nat), ∃ (x : Nat), ∃ (y : Nat), vv = some (.int (nI (sumN (nodesB (fun d => (fixS n x y (kx j)) (layP n od d n)) n) n))) ∧ ((∀ a, fw1 a < 272) ∧ (∀ a, tw1 a < 272)) ∧ j < 4 ∧ v = nI j ∧ x < n ∧ u1 = nI x ∧ y < 2 ∧ u2 = nI y ∧ kv j = nI n ∧ jU w uu [31, 33, 35, 37, 39, 41, 45 + 3 * j] ∧ uu[31]? = some (ad 31, .inr (2, [.ref (ad 32), .ref (ad 34), .ref (ad 36), .ref (ad 38), .ref (ad 40), .int (nI sz1)])) ∧ uu[33]? = some (ad 33, .inl (cy 0, 1024, .inl (nf tp1))) ∧ uu[35]? = some (ad 35, .inl (cy 0, 272, .inl (nf fw1))) ∧ uu[37]? = some (ad 37, .inl (cy 0, 272, .inl (nf tw1))) ∧ uu[39]? = some (ad 39, .inl (cy 0, 272, .inl (nf yw1))) ∧ uu[41]? = some (ad 41, .inl (cy 0, 10, .inl (nf pcn1))) ∧ uu[45 + 3 * j]? = some (ad (45 + 3 * j), .inl (cy 1, 16, .inr (.inl (wd (fixS n x y (kx j))))))) (fun EE uu => ((EE = "java/lang/IllegalArgumentException" ∧ (vB v 4 = false ∨ ((∃ j, j < 4 ∧ v = nI j) ∧ vB u2 2 = false))) ∨ (EE = "java/lang/IndexOutOfBoundsException" ∧ (∃ j y, j < 4 ∧ v = nI j ∧ y < 2 ∧ u2 = nI y ∧ vB u1 n = false)) ∨ (EE = "java/util/NoSuchElementException" ∧ (∃ j x y, j < 4 ∧ v = nI j ∧ x < n ∧ u1 = nI x ∧ y < 2 ∧ u2 = nI y ∧ kv j = -1)) ∨ (EE = "java/lang/UnsupportedOperationException" ∧ (∃ j x y, j < 4 ∧ v = nI j ∧ x < n ∧ u1 = nI x ∧ y < 2 ∧ u2 = nI y ∧ kv j ≠ -1 ∧ kv j ≠ nI n))) ∧ w = uu) := by
  refine jx_of (by decide) rfl (Nat.le_of_ble_eq_true rfl) ?_
  intro p e s m args below meth c A ls Q hQ S hr hK hA H locs hW hl htab hx
  have hl : lv_has ls 5 [(0, .ref (ad 0)), (1, .int v), (2, .int u1), (3, .int u2)] := hl
  rcases i_cases v 4 (by decide) with ⟨j, hsj, rfl⟩ | hvj
  · obtain ⟨hso, hsl, hsa⟩ := hslo j hsj
    refine lv_aload_n S.1 S.2.1 dX11_fix_0 rfl (lv_at hl 0 rfl) ?_
    refine lv_iload_n S.1 S.2.1 dX11_fix_1 rfl (lv_at hl 1 rfl) ?_
    refine j_callV (k := 0) (ci := 10) (q := (RX11, TX11, 15)) (As := [.int (nI j)]) (rest := []) S hK hA hW (c_X11_slotAtY l D cy ad n sd se fr j hO hS   (hsj)) (jgo wm_X11_277) yk_X11_slotAt hO rfl rfl ⟨⟨rfl, rfl⟩, by decide, by decide⟩ rfl hl.1 rfl (Nat.le_of_ble_eq_true rfl) dX11_fix_2 ⟨Nat.le_of_ble_eq_true rfl, Nat.le_of_ble_eq_true rfl⟩ (fun v u H locs hp hW => ?_)
    obtain ⟨rfl, rfl⟩ := hp
    refine W.eq (g2 := F0 m 5 ls [.ref (ad (43 + 3 * j))]) rfl ?_
    refine lv_astore (lv' := [(4, .ref (ad (43 + 3 * j))), (0, .ref (ad 0)), (1, .int (nI j)), (2, .int u1), (3, .int u2)]) S.1 S.2.1 dX11_fix_5 hl (by decide) rfl (fun ls hl => ?_)
    refine lv_aload_n S.1 S.2.1 dX11_fix_7 rfl (lv_at hl 1 rfl) ?_
    refine lv_iload_n S.1 S.2.1 dX11_fix_8 rfl (lv_at hl 4 rfl) ?_
    refine jx_callq (k := 0) (ci := 10) (q := (RX11, TX11, 15)) (As := [.int u2]) (rest := []) S hK hA hW hQ htab hr hx (c_X11_checkValue l htr D cy ad u2    ) (jgo wm_X11_127) yk_X11_checkValue hO rfl rfl ⟨⟨rfl, rfl⟩, by decide, by decide⟩ rfl hl.1 rfl (Nat.le_of_ble_eq_true rfl) dX11_fix_9 ⟨Nat.le_of_ble_eq_true rfl, Nat.le_of_ble_eq_true rfl⟩ ⟨by decide, by decide⟩ (fun E u h => by obtain ⟨⟨e1, h⟩, e⟩ := h; exact ⟨Or.inl ⟨e1, Or.inr ⟨⟨j, hsj, rfl⟩, h⟩⟩, e⟩) (fun v u H locs hp hW => ?_)
    obtain ⟨xN_9, rfl, hp9_0, hp9_1, rfl⟩ := hp
    refine W.eq (g2 := F0 m 12 ls []) rfl ?_
    subst hp9_1
    refine lv_aload_n S.1 S.2.1 dX11_fix_12 rfl (lv_at hl 1 rfl) ?_
    refine lv_iload_n S.1 S.2.1 dX11_fix_13 rfl (lv_at hl 3 rfl) ?_
    refine jx_callq (k := 0) (ci := 10) (q := (RX11, TX11, 15)) (As := [.int u1]) (rest := []) S hK hA hW hQ htab hr hx (c_X11_checkVariable l htr D cy ad n sd se fr u1 hO   (by omega)) (jgo wm_X11_98) yk_X11_checkVariable hO rfl rfl ⟨⟨rfl, rfl⟩, by decide, by decide⟩ rfl hl.1 rfl (Nat.le_of_ble_eq_true rfl) dX11_fix_14 ⟨Nat.le_of_ble_eq_true rfl, Nat.le_of_ble_eq_true rfl⟩ ⟨by decide, by decide⟩ (fun E u h => by obtain ⟨⟨e1, h⟩, e⟩ := h; exact ⟨Or.inr (Or.inl ⟨e1, ⟨j, xN_9, hsj, rfl, hp9_0, rfl, h⟩⟩), e⟩) (fun v u H locs hp hW => ?_)
    obtain ⟨xN_14, rfl, hp14_0, hp14_1, rfl⟩ := hp
    refine W.eq (g2 := F0 m 17 ls []) rfl ?_
    subst hp14_1
    refine lv_aload_n S.1 S.2.1 dX11_fix_17 rfl (lv_at hl 1 rfl) ?_
    refine lv_aload S.1 S.2.1 dX11_fix_18 (lv_at hl 0 rfl) ?_
    refine jx_callq (k := 0) (ci := 10) (q := (RX11, TX11, 15)) (As := [.ref (ad (43 + 3 * j))]) (rest := []) S hK hA hW hQ htab hr hx (c_X11_checkKept l htr D cy (43 + 3 * j) (44 + 3 * j) (45 + 3 * j) (ad (43 + 3 * j)) (ad (44 + 3 * j)) (ad (45 + 3 * j)) (kv j) ad (kx j) hso hsl hsa   ) (jgo wm_X11_287) yk_X11_checkKept hO rfl rfl ⟨⟨rfl, rfl⟩, by decide, by decide⟩ rfl hl.1 rfl (Nat.le_of_ble_eq_true rfl) dX11_fix_20 ⟨Nat.le_of_ble_eq_true rfl, Nat.le_of_ble_eq_true rfl⟩ ⟨by decide, by decide⟩ (fun E u h => by obtain ⟨⟨e1, h⟩, e⟩ := h; exact ⟨Or.inr (Or.inr (Or.inl ⟨e1, ⟨j, xN_14, xN_9, hsj, rfl, hp14_0, rfl, hp9_0, rfl, h⟩⟩)), e⟩) (fun v u H locs hp hW => ?_)
    obtain ⟨rfl, hp20_0, rfl⟩ := hp
    refine W.eq (g2 := F0 m 23 ls []) rfl ?_
    refine lv_aload_n S.1 S.2.1 dX11_fix_23 rfl (lv_at hl 1 rfl) ?_
    refine lv_aload S.1 S.2.1 dX11_fix_24 (lv_at hl 0 rfl) ?_
    refine jx_callq (k := 0) (ci := 10) (q := (RX11, TX11, 15)) (As := [.ref (ad (43 + 3 * j))]) (rest := []) S hK hA hW hQ htab hr hx (c_X11_checkAsManyAsNow l htr D cy (43 + 3 * j) (44 + 3 * j) (45 + 3 * j) (ad (43 + 3 * j)) (ad (44 + 3 * j)) (ad (45 + 3 * j)) (kv j) (kx j) ad n sd se fr hso hsl hsa hO   ) (jgo wm_X11_290) yk_X11_checkAsManyAsNow hO rfl rfl ⟨⟨rfl, rfl⟩, by decide, by decide⟩ rfl hl.1 rfl (Nat.le_of_ble_eq_true rfl) dX11_fix_26 ⟨Nat.le_of_ble_eq_true rfl, Nat.le_of_ble_eq_true rfl⟩ ⟨by decide, by decide⟩ (fun E u h => by obtain ⟨⟨e1, h⟩, e⟩ := h; exact ⟨Or.inr (Or.inr (Or.inr (⟨e1, ⟨j, xN_14, xN_9, hsj, rfl, hp14_0, rfl, hp9_0, rfl, hp20_0, h⟩⟩))), e⟩) (fun v u H locs hp hW => ?_)
    obtain ⟨rfl, hp26_0, rfl⟩ := hp
    refine W.eq (g2 := F0 m 29 ls []) rfl ?_
    rw [hp26_0] at hso
    refine lv_aload S.1 S.2.1 dX11_fix_29 (lv_at hl 0 rfl) ?_
    refine lv_iload_n S.1 S.2.1 dX11_fix_31 rfl (lv_at hl 3 rfl) ?_
    refine lv_iload_n S.1 S.2.1 dX11_fix_32 rfl (lv_at hl 4 rfl) ?_
    refine j_callV (k := 43 + 3 * j) (ci := 0) (q := (RX0, TX0, 2)) (As := [.int (nI xN_14), .int (nI xN_9)]) (rest := []) S hK hA hW (c_X0_settle l D cy (43 + 3 * j) (44 + 3 * j) (45 + 3 * j) (ad (43 + 3 * j)) (ad (44 + 3 * j)) (ad (45 + 3 * j)) n (kx j) xN_14 xN_9 hso hsl hsa   (by omega) (by omega) (by omega) (kvI_hi hkI hsj hn hp26_0)) (jgo wm_X11_297) yk_X0_settle hso rfl rfl ⟨⟨rfl, rfl⟩, by decide, by decide⟩ rfl hl.1 rfl (Nat.le_of_ble_eq_true rfl) dX11_fix_33 ⟨Nat.le_of_ble_eq_true rfl, Nat.le_of_ble_eq_true rfl⟩ (fun v w_ H locs hp hW => ?_)
    obtain ⟨rfl, hU1, hN1⟩ := hp
    have hU : jU w w_ [31, 33, 35, 37, 39, 41, 45 + 3 * j] := jU.mono hU1 (by first | decide | (simp; done) | (simp; omega))
    have hX_ := hU1.get hX (by first | decide | (simp; done) | (simp; omega))
    have hXta_ := hU1.get hXta (by first | decide | (simp; done) | (simp; omega))
    have hXfa_ := hU1.get hXfa (by first | decide | (simp; done) | (simp; omega))
    have hXwa_ := hU1.get hXwa (by first | decide | (simp; done) | (simp; omega))
    have hXya_ := hU1.get hXya (by first | decide | (simp; done) | (simp; omega))
    have hXpa_ := hU1.get hXpa (by first | decide | (simp; done) | (simp; omega))
    have hsa_ : w_[(45 + 3 * j)]? = some (ad (45 + 3 * j), .inl (cy 1, 16, .inr (.inl (wd (fixS n xN_14 xN_9 (kx j)))))) := hN1
    clear hU1 hN1
    refine W.eq (g2 := F0 m 36 ls []) rfl ?_
    refine lv_aload_n S.1 S.2.1 dX11_fix_36 rfl (lv_at hl 1 rfl) ?_
    refine lv_aload S.1 S.2.1 dX11_fix_37 (lv_at hl 0 rfl) ?_
    refine j_callV (k := 0) (ci := 10) (q := (RX11, TX11, 15)) (As := [.ref (ad (43 + 3 * j))]) (rest := []) S hK hA hW (c_X11_countNodes l D cy (43 + 3 * j) (44 + 3 * j) (45 + 3 * j) (ad (43 + 3 * j)) (ad (44 + 3 * j)) (ad (45 + 3 * j)) n (fixS n xN_14 xN_9 (kx j)) ad sd se fr sz tp fw tw yw pcn od (hU.get hso (by first | decide | (simp; done) | (simp; omega))) (hU.get hsl (by first | decide | (simp; done) | (simp; omega))) hsa_ (hU.get hO (by first | decide | (simp; done) | (simp; omega))) hX_ (hU.get hXto (by first | decide | (simp; done) | (simp; omega))) hXta_ (hU.get hXfo (by first | decide | (simp; done) | (simp; omega))) hXfa_ (hU.get hXwo (by first | decide | (simp; done) | (simp; omega))) hXwa_ (hU.get hXyo (by first | decide | (simp; done) | (simp; omega))) hXya_ (hU.get hXpo (by first | decide | (simp; done) | (simp; omega))) hXpa_ (hU.get hOo (by first | decide | (simp; done) | (simp; omega))) (hU.get hOa (by first | decide | (simp; done) | (simp; omega)))   (by omega) (hod) (hf) (ht) (by omega)) (jgo wm_X11_260) yk_X11_countNodes (hU.get hO (by first | decide | (simp; done) | (simp; omega))) rfl rfl ⟨⟨rfl, rfl⟩, by decide, by decide⟩ rfl hl.1 rfl (Nat.le_of_ble_eq_true rfl) dX11_fix_39 ⟨Nat.le_of_ble_eq_true rfl, Nat.le_of_ble_eq_true rfl⟩ (fun v w_ H locs hp hW => ?_)
    obtain ⟨sz1_39, tp1_39, fw1_39, tw1_39, yw1_39, pcn1_39, rfl, hp39_0, hU1, hN1, hN2, hN3, hN4, hN5, hN6⟩ := hp
    have hU := hU.then hU1 (by first | decide | (simp; done) | (simp; omega))
    have hsa_ := hU1.get hsa_ (by first | decide | (simp; done) | (simp; omega))
    have hX_ : w_[31]? = some (ad 31, .inr (2, [.ref (ad 32), .ref (ad 34), .ref (ad 36), .ref (ad 38), .ref (ad 40), .int (nI sz1_39)])) := hN1
    have hXta_ : w_[33]? = some (ad 33, .inl (cy 0, 1024, .inl (nf tp1_39))) := hN2
    have hXfa_ : w_[35]? = some (ad 35, .inl (cy 0, 272, .inl (nf fw1_39))) := hN3
    have hXwa_ : w_[37]? = some (ad 37, .inl (cy 0, 272, .inl (nf tw1_39))) := hN4
    have hXya_ : w_[39]? = some (ad 39, .inl (cy 0, 272, .inl (nf yw1_39))) := hN5
    have hXpa_ : w_[41]? = some (ad 41, .inl (cy 0, 10, .inl (nf pcn1_39))) := hN6
    clear hU1 hN1 hN2 hN3 hN4 hN5 hN6
    refine W.eq (g2 := F0 m 42 ls [.int (nI (sumN (nodesB (fun d => (fixS n xN_14 xN_9 (kx j)) (layP n od d n)) n) n))]) rfl ?_
    subst hQ
    refine vx_ret ?_
    exact j_iret (u := w_) S hr (rfl) hK hW dX11_fix_42 ⟨by decide, by decide⟩ (⟨_, _, _, _, _, _, j, xN_14, xN_9, rfl, hp39_0, hsj, rfl, hp14_0, rfl, hp9_0, rfl, hp26_0, hU, hX_, hXta_, hXfa_, hXwa_, hXya_, hXpa_, hsa_⟩)
  · have hvj := vB_f hvj
    refine lv_aload_n S.1 S.2.1 dX11_fix_0 rfl (lv_at hl 0 rfl) ?_
    refine lv_iload_n S.1 S.2.1 dX11_fix_1 rfl (lv_at hl 1 rfl) ?_
    refine jx_callq (k := 0) (ci := 10) (q := (RX11, TX11, 15)) (As := [.int v]) (rest := []) S hK hA hW hQ htab hr hx (c_X11_slotAtN l htr D cy ad n sd se fr v hO hS   (hvj)) (jgo wm_X11_277) yk_X11_slotAt hO rfl rfl ⟨⟨rfl, rfl⟩, by decide, by decide⟩ rfl hl.1 rfl (Nat.le_of_ble_eq_true rfl) dX11_fix_2 ⟨Nat.le_of_ble_eq_true rfl, Nat.le_of_ble_eq_true rfl⟩ ⟨by decide, by decide⟩ (fun E u h => by obtain ⟨⟨e1, h⟩, e⟩ := h; exact ⟨Or.inl ⟨e1, Or.inl h⟩, e⟩) (fun v u H locs hp hW => ?_)
    obtain ⟨rfl, hp2_0, rfl⟩ := hp
    refine W.eq (g2 := F0 m 5 ls []) rfl ?_
    exact hp2_0.elim
/-- free -/
theorem c_X11_free (l : Launch) (htr : l.stackTraces = false) (D : va_G) (cy : Nat → ClassId) {w : va_W} (ad : Nat → Nat) (n sd se : Nat) (fr : Bool) (sz : Nat) (tp fw tw yw pcn od : Nat → Nat) (kv : Nat → Int32) (kx : Nat → Nat → Bool) (v u1 : Int32) (hO : w[0]? = some (ad 0, .inr (10, [.int (nI n), .ref (ad 1), .ref (ad 3), .ref (ad 5), .int (nI sd), .int (nI se), .ref (ad 7), .ref (ad 9), .ref (ad 11), .ref (ad 20), .int (bI fr), .ref (ad 23), .ref (ad 26), .ref (ad 31), .ref (ad 42)]))) (hX : w[31]? = some (ad 31, .inr (2, [.ref (ad 32), .ref (ad 34), .ref (ad 36), .ref (ad 38), .ref (ad 40), .int (nI sz)]))) (hXto : w[32]? = some (ad 32, .inr (5, [.ref (ad 33)]))) (hXta : w[33]? = some (ad 33, .inl (cy 0, 1024, .inl (nf tp)))) (hXfo : w[34]? = some (ad 34, .inr (5, [.ref (ad 35)]))) (hXfa : w[35]? = some (ad 35, .inl (cy 0, 272, .inl (nf fw)))) (hXwo : w[36]? = some (ad 36, .inr (5, [.ref (ad 37)]))) (hXwa : w[37]? = some (ad 37, .inl (cy 0, 272, .inl (nf tw)))) (hXyo : w[38]? = some (ad 38, .inr (5, [.ref (ad 39)]))) (hXya : w[39]? = some (ad 39, .inl (cy 0, 272, .inl (nf yw)))) (hXpo : w[40]? = some (ad 40, .inr (5, [.ref (ad 41)]))) (hXpa : w[41]? = some (ad 41, .inl (cy 0, 10, .inl (nf pcn)))) (hOo : w[7]? = some (ad 7, .inr (5, [.ref (ad 8)]))) (hOa : w[8]? = some (ad 8, .inl (cy 0, 10, .inl (nf od)))) (hS : w[42]? = some (ad 42, .inl (cy 4, 4, .inr (.inr (.inr (.inr (slF ad))))))) (hslo : slOK w ad cy kv kx) (hn : n ≤ 10) (hod : ∀ j, od j < 10) (hf : ∀ a, fw a < 272) (ht : ∀ a, tw a < 272) (hkI : kvI kv kx) : jMx jTexts l yX11_free (jws yX11_free cX11_free 4 (some .int)) (jR 9 4 24) D cy w [.ref (ad 0), .int v, .int u1] 4 24 (fun vv uu => ∃ (sz1 : Nat), ∃ (tp1 : Nat → Nat), ∃ (fw1 : Nat → Nat), ∃ (tw1 : Nat → Nat), ∃ (yw1 : Nat → Nat), ∃ (pcn1 : Nat → Nat), ∃ (j : Nat), ∃ (x : Nat), vv = some (.int (nI (sumN (nodesB (fun d => (freeS n x (kx j)) (layP n od d n)) n) n))) ∧ ((∀ a, fw1 a < 272) ∧ (∀ a, tw1 a < 272)) ∧ j < 4 ∧ v = nI j ∧ x < n ∧ u1 = nI x ∧ kv j = nI n ∧ jU w uu [31, 33, 35, 37, 39, 41, 45 + 3 * j] ∧ uu[31]? = some (ad 31, .inr (2, [.ref (ad 32), .ref (ad 34), .ref (ad 36), .ref (ad 38), .ref (ad 40), .int (nI sz1)])) ∧ uu[33]? = some (ad 33, .inl (cy 0, 1024, .inl (nf tp1))) ∧ uu[35]? = some (ad 35, .inl (cy 0, 272, .inl (nf fw1))) ∧ uu[37]? = some (ad 37, .inl (cy 0, 272, .inl (nf tw1))) ∧ uu[39]? = some (ad 39, .inl (cy 0, 272, .inl (nf yw1))) ∧ uu[41]? = some (ad 41, .inl (cy 0, 10, .inl (nf pcn1))) ∧ uu[45 + 3 * j]? = some (ad (45 + 3 * j), .inl (cy 1, 16, .inr (.inl (wd (freeS n x (kx j))))))) (fun EE uu => ((EE = "java/lang/IllegalArgumentException" ∧ (vB v 4 = false)) ∨ (EE = "java/lang/IndexOutOfBoundsException" ∧ (∃ j, j < 4 ∧ v = nI j ∧ vB u1 n = false)) ∨ (EE = "java/util/NoSuchElementException" ∧ (∃ j x, j < 4 ∧ v = nI j ∧ x < n ∧ u1 = nI x ∧ kv j = -1)) ∨ (EE = "java/lang/UnsupportedOperationException" ∧ (∃ j x, j < 4 ∧ v = nI j ∧ x < n ∧ u1 = nI x ∧ kv j ≠ -1 ∧ kv j ≠ nI n))) ∧ w = uu) := by
  refine jx_of (by decide) rfl (Nat.le_of_ble_eq_true rfl) ?_
  intro p e s m args below meth c A ls Q hQ S hr hK hA H locs hW hl htab hx
  have hl : lv_has ls 4 [(0, .ref (ad 0)), (1, .int v), (2, .int u1)] := hl
  rcases i_cases v 4 (by decide) with ⟨j, hsj, rfl⟩ | hvj
  · obtain ⟨hso, hsl, hsa⟩ := hslo j hsj
    refine lv_aload_n S.1 S.2.1 dX11_free_0 rfl (lv_at hl 0 rfl) ?_
    refine lv_iload_n S.1 S.2.1 dX11_free_1 rfl (lv_at hl 1 rfl) ?_
    refine j_callV (k := 0) (ci := 10) (q := (RX11, TX11, 15)) (As := [.int (nI j)]) (rest := []) S hK hA hW (c_X11_slotAtY l D cy ad n sd se fr j hO hS   (hsj)) (jgo wm_X11_277) yk_X11_slotAt hO rfl rfl ⟨⟨rfl, rfl⟩, by decide, by decide⟩ rfl hl.1 rfl (Nat.le_of_ble_eq_true rfl) dX11_free_2 ⟨Nat.le_of_ble_eq_true rfl, Nat.le_of_ble_eq_true rfl⟩ (fun v u H locs hp hW => ?_)
    obtain ⟨rfl, rfl⟩ := hp
    refine W.eq (g2 := F0 m 5 ls [.ref (ad (43 + 3 * j))]) rfl ?_
    refine lv_astore_n (lv' := [(3, .ref (ad (43 + 3 * j))), (0, .ref (ad 0)), (1, .int (nI j)), (2, .int u1)]) S.1 S.2.1 dX11_free_5 rfl hl (by decide) rfl (fun ls hl => ?_)
    refine lv_aload_n S.1 S.2.1 dX11_free_6 rfl (lv_at hl 1 rfl) ?_
    refine lv_iload_n S.1 S.2.1 dX11_free_7 rfl (lv_at hl 3 rfl) ?_
    refine jx_callq (k := 0) (ci := 10) (q := (RX11, TX11, 15)) (As := [.int u1]) (rest := []) S hK hA hW hQ htab hr hx (c_X11_checkVariable l htr D cy ad n sd se fr u1 hO   (by omega)) (jgo wm_X11_98) yk_X11_checkVariable hO rfl rfl ⟨⟨rfl, rfl⟩, by decide, by decide⟩ rfl hl.1 rfl (Nat.le_of_ble_eq_true rfl) dX11_free_8 ⟨Nat.le_of_ble_eq_true rfl, Nat.le_of_ble_eq_true rfl⟩ ⟨by decide, by decide⟩ (fun E u h => by obtain ⟨⟨e1, h⟩, e⟩ := h; exact ⟨Or.inr (Or.inl ⟨e1, ⟨j, hsj, rfl, h⟩⟩), e⟩) (fun v u H locs hp hW => ?_)
    obtain ⟨xN_8, rfl, hp8_0, hp8_1, rfl⟩ := hp
    refine W.eq (g2 := F0 m 11 ls []) rfl ?_
    subst hp8_1
    refine lv_aload_n S.1 S.2.1 dX11_free_11 rfl (lv_at hl 1 rfl) ?_
    refine lv_aload_n S.1 S.2.1 dX11_free_12 rfl (lv_at hl 0 rfl) ?_
    refine jx_callq (k := 0) (ci := 10) (q := (RX11, TX11, 15)) (As := [.ref (ad (43 + 3 * j))]) (rest := []) S hK hA hW hQ htab hr hx (c_X11_checkKept l htr D cy (43 + 3 * j) (44 + 3 * j) (45 + 3 * j) (ad (43 + 3 * j)) (ad (44 + 3 * j)) (ad (45 + 3 * j)) (kv j) ad (kx j) hso hsl hsa   ) (jgo wm_X11_287) yk_X11_checkKept hO rfl rfl ⟨⟨rfl, rfl⟩, by decide, by decide⟩ rfl hl.1 rfl (Nat.le_of_ble_eq_true rfl) dX11_free_13 ⟨Nat.le_of_ble_eq_true rfl, Nat.le_of_ble_eq_true rfl⟩ ⟨by decide, by decide⟩ (fun E u h => by obtain ⟨⟨e1, h⟩, e⟩ := h; exact ⟨Or.inr (Or.inr (Or.inl ⟨e1, ⟨j, xN_8, hsj, rfl, hp8_0, rfl, h⟩⟩)), e⟩) (fun v u H locs hp hW => ?_)
    obtain ⟨rfl, hp13_0, rfl⟩ := hp
    refine W.eq (g2 := F0 m 16 ls []) rfl ?_
    refine lv_aload_n S.1 S.2.1 dX11_free_16 rfl (lv_at hl 1 rfl) ?_
    refine lv_aload_n S.1 S.2.1 dX11_free_17 rfl (lv_at hl 0 rfl) ?_
    refine jx_callq (k := 0) (ci := 10) (q := (RX11, TX11, 15)) (As := [.ref (ad (43 + 3 * j))]) (rest := []) S hK hA hW hQ htab hr hx (c_X11_checkAsManyAsNow l htr D cy (43 + 3 * j) (44 + 3 * j) (45 + 3 * j) (ad (43 + 3 * j)) (ad (44 + 3 * j)) (ad (45 + 3 * j)) (kv j) (kx j) ad n sd se fr hso hsl hsa hO   ) (jgo wm_X11_290) yk_X11_checkAsManyAsNow hO rfl rfl ⟨⟨rfl, rfl⟩, by decide, by decide⟩ rfl hl.1 rfl (Nat.le_of_ble_eq_true rfl) dX11_free_18 ⟨Nat.le_of_ble_eq_true rfl, Nat.le_of_ble_eq_true rfl⟩ ⟨by decide, by decide⟩ (fun E u h => by obtain ⟨⟨e1, h⟩, e⟩ := h; exact ⟨Or.inr (Or.inr (Or.inr (⟨e1, ⟨j, xN_8, hsj, rfl, hp8_0, rfl, hp13_0, h⟩⟩))), e⟩) (fun v u H locs hp hW => ?_)
    obtain ⟨rfl, hp18_0, rfl⟩ := hp
    refine W.eq (g2 := F0 m 21 ls []) rfl ?_
    rw [hp18_0] at hso
    refine lv_aload_n S.1 S.2.1 dX11_free_21 rfl (lv_at hl 0 rfl) ?_
    refine lv_iload_n S.1 S.2.1 dX11_free_22 rfl (lv_at hl 3 rfl) ?_
    refine j_callV (k := 43 + 3 * j) (ci := 0) (q := (RX0, TX0, 2)) (As := [.int (nI xN_8)]) (rest := []) S hK hA hW (c_X0_forget l D cy (43 + 3 * j) (44 + 3 * j) (45 + 3 * j) (ad (43 + 3 * j)) (ad (44 + 3 * j)) (ad (45 + 3 * j)) n (kx j) xN_8 hso hsl hsa   (by omega) (by omega) (kvI_hi hkI hsj hn hp18_0)) (jgo wm_X11_300) yk_X0_forget hso rfl rfl ⟨⟨rfl, rfl⟩, by decide, by decide⟩ rfl hl.1 rfl (Nat.le_of_ble_eq_true rfl) dX11_free_23 ⟨Nat.le_of_ble_eq_true rfl, Nat.le_of_ble_eq_true rfl⟩ (fun v w_ H locs hp hW => ?_)
    obtain ⟨rfl, hU1, hN1⟩ := hp
    have hU : jU w w_ [31, 33, 35, 37, 39, 41, 45 + 3 * j] := jU.mono hU1 (by first | decide | (simp; done) | (simp; omega))
    have hX_ := hU1.get hX (by first | decide | (simp; done) | (simp; omega))
    have hXta_ := hU1.get hXta (by first | decide | (simp; done) | (simp; omega))
    have hXfa_ := hU1.get hXfa (by first | decide | (simp; done) | (simp; omega))
    have hXwa_ := hU1.get hXwa (by first | decide | (simp; done) | (simp; omega))
    have hXya_ := hU1.get hXya (by first | decide | (simp; done) | (simp; omega))
    have hXpa_ := hU1.get hXpa (by first | decide | (simp; done) | (simp; omega))
    have hsa_ : w_[(45 + 3 * j)]? = some (ad (45 + 3 * j), .inl (cy 1, 16, .inr (.inl (wd (freeS n xN_8 (kx j)))))) := hN1
    clear hU1 hN1
    refine W.eq (g2 := F0 m 26 ls []) rfl ?_
    refine lv_aload_n S.1 S.2.1 dX11_free_26 rfl (lv_at hl 1 rfl) ?_
    refine lv_aload_n S.1 S.2.1 dX11_free_27 rfl (lv_at hl 0 rfl) ?_
    refine j_callV (k := 0) (ci := 10) (q := (RX11, TX11, 15)) (As := [.ref (ad (43 + 3 * j))]) (rest := []) S hK hA hW (c_X11_countNodes l D cy (43 + 3 * j) (44 + 3 * j) (45 + 3 * j) (ad (43 + 3 * j)) (ad (44 + 3 * j)) (ad (45 + 3 * j)) n (freeS n xN_8 (kx j)) ad sd se fr sz tp fw tw yw pcn od (hU.get hso (by first | decide | (simp; done) | (simp; omega))) (hU.get hsl (by first | decide | (simp; done) | (simp; omega))) hsa_ (hU.get hO (by first | decide | (simp; done) | (simp; omega))) hX_ (hU.get hXto (by first | decide | (simp; done) | (simp; omega))) hXta_ (hU.get hXfo (by first | decide | (simp; done) | (simp; omega))) hXfa_ (hU.get hXwo (by first | decide | (simp; done) | (simp; omega))) hXwa_ (hU.get hXyo (by first | decide | (simp; done) | (simp; omega))) hXya_ (hU.get hXpo (by first | decide | (simp; done) | (simp; omega))) hXpa_ (hU.get hOo (by first | decide | (simp; done) | (simp; omega))) (hU.get hOa (by first | decide | (simp; done) | (simp; omega)))   (by omega) (hod) (hf) (ht) (by omega)) (jgo wm_X11_260) yk_X11_countNodes (hU.get hO (by first | decide | (simp; done) | (simp; omega))) rfl rfl ⟨⟨rfl, rfl⟩, by decide, by decide⟩ rfl hl.1 rfl (Nat.le_of_ble_eq_true rfl) dX11_free_28 ⟨Nat.le_of_ble_eq_true rfl, Nat.le_of_ble_eq_true rfl⟩ (fun v w_ H locs hp hW => ?_)
    obtain ⟨sz1_28, tp1_28, fw1_28, tw1_28, yw1_28, pcn1_28, rfl, hp28_0, hU1, hN1, hN2, hN3, hN4, hN5, hN6⟩ := hp
    have hU := hU.then hU1 (by first | decide | (simp; done) | (simp; omega))
    have hsa_ := hU1.get hsa_ (by first | decide | (simp; done) | (simp; omega))
    have hX_ : w_[31]? = some (ad 31, .inr (2, [.ref (ad 32), .ref (ad 34), .ref (ad 36), .ref (ad 38), .ref (ad 40), .int (nI sz1_28)])) := hN1
    have hXta_ : w_[33]? = some (ad 33, .inl (cy 0, 1024, .inl (nf tp1_28))) := hN2
    have hXfa_ : w_[35]? = some (ad 35, .inl (cy 0, 272, .inl (nf fw1_28))) := hN3
    have hXwa_ : w_[37]? = some (ad 37, .inl (cy 0, 272, .inl (nf tw1_28))) := hN4
    have hXya_ : w_[39]? = some (ad 39, .inl (cy 0, 272, .inl (nf yw1_28))) := hN5
    have hXpa_ : w_[41]? = some (ad 41, .inl (cy 0, 10, .inl (nf pcn1_28))) := hN6
    clear hU1 hN1 hN2 hN3 hN4 hN5 hN6
    refine W.eq (g2 := F0 m 31 ls [.int (nI (sumN (nodesB (fun d => (freeS n xN_8 (kx j)) (layP n od d n)) n) n))]) rfl ?_
    subst hQ
    refine vx_ret ?_
    exact j_iret (u := w_) S hr (rfl) hK hW dX11_free_31 ⟨by decide, by decide⟩ (⟨_, _, _, _, _, _, j, xN_8, rfl, hp28_0, hsj, rfl, hp8_0, rfl, hp18_0, hU, hX_, hXta_, hXfa_, hXwa_, hXya_, hXpa_, hsa_⟩)
  · have hvj := vB_f hvj
    refine lv_aload_n S.1 S.2.1 dX11_free_0 rfl (lv_at hl 0 rfl) ?_
    refine lv_iload_n S.1 S.2.1 dX11_free_1 rfl (lv_at hl 1 rfl) ?_
    refine jx_callq (k := 0) (ci := 10) (q := (RX11, TX11, 15)) (As := [.int v]) (rest := []) S hK hA hW hQ htab hr hx (c_X11_slotAtN l htr D cy ad n sd se fr v hO hS   (hvj)) (jgo wm_X11_277) yk_X11_slotAt hO rfl rfl ⟨⟨rfl, rfl⟩, by decide, by decide⟩ rfl hl.1 rfl (Nat.le_of_ble_eq_true rfl) dX11_free_2 ⟨Nat.le_of_ble_eq_true rfl, Nat.le_of_ble_eq_true rfl⟩ ⟨by decide, by decide⟩ (fun E u h => by obtain ⟨⟨e1, h⟩, e⟩ := h; exact ⟨Or.inl ⟨e1, h⟩, e⟩) (fun v u H locs hp hW => ?_)
    obtain ⟨rfl, hp2_0, rfl⟩ := hp
    refine W.eq (g2 := F0 m 5 ls []) rfl ?_
    exact hp2_0.elim
/-- isWithin -/
theorem c_X11_isWithin (l : Launch) (htr : l.stackTraces = false) (D : va_G) (cy : Nat → ClassId) {w : va_W} (ad : Nat → Nat) (n sd se : Nat) (fr : Bool) (kv : Nat → Int32) (kx : Nat → Nat → Bool) (v u1 : Int32) (hO : w[0]? = some (ad 0, .inr (10, [.int (nI n), .ref (ad 1), .ref (ad 3), .ref (ad 5), .int (nI sd), .int (nI se), .ref (ad 7), .ref (ad 9), .ref (ad 11), .ref (ad 20), .int (bI fr), .ref (ad 23), .ref (ad 26), .ref (ad 31), .ref (ad 42)]))) (hS : w[42]? = some (ad 42, .inl (cy 4, 4, .inr (.inr (.inr (.inr (slF ad))))))) (hslo : slOK w ad cy kv kx) (hn : n ≤ 10) : jMx jTexts l yX11_isWithin (jws yX11_isWithin cX11_isWithin 5 (some .boolean)) (jR 10 5 30) D cy w [.ref (ad 0), .int v, .int u1] 5 30 (fun vv uu => ∃ (j : Nat), ∃ (i : Nat), vv = some (.int (bI (allB (fun a => !kx j a || kx i a) 1024))) ∧ j < 4 ∧ v = nI j ∧ i < 4 ∧ u1 = nI i ∧ kv j ≠ -1 ∧ kv i ≠ -1 ∧ kv j = kv i ∧ w = uu) (fun EE uu => ((EE = "java/lang/IllegalArgumentException" ∧ (vB v 4 = false ∨ ((∃ j, j < 4 ∧ v = nI j) ∧ vB u1 4 = false))) ∨ (EE = "java/util/NoSuchElementException" ∧ (∃ j i, j < 4 ∧ v = nI j ∧ i < 4 ∧ u1 = nI i ∧ (kv j = -1 ∨ kv i = -1))) ∨ (EE = "java/lang/UnsupportedOperationException" ∧ (∃ j i, j < 4 ∧ v = nI j ∧ i < 4 ∧ u1 = nI i ∧ kv j ≠ -1 ∧ kv i ≠ -1 ∧ kv j ≠ kv i))) ∧ w = uu) := by
  refine jx_of (by decide) rfl (Nat.le_of_ble_eq_true rfl) ?_
  intro p e s m args below meth c A ls Q hQ S hr hK hA H locs hW hl htab hx
  have hl : lv_has ls 5 [(0, .ref (ad 0)), (1, .int v), (2, .int u1)] := hl
  rcases i_cases v 4 (by decide) with ⟨j, hsj, rfl⟩ | hvj
  · obtain ⟨hso, hsl, hsa⟩ := hslo j hsj
    refine lv_aload_n S.1 S.2.1 dX11_isWithin_0 rfl (lv_at hl 0 rfl) ?_
    refine lv_iload_n S.1 S.2.1 dX11_isWithin_1 rfl (lv_at hl 1 rfl) ?_
    refine j_callV (k := 0) (ci := 10) (q := (RX11, TX11, 15)) (As := [.int (nI j)]) (rest := []) S hK hA hW (c_X11_slotAtY l D cy ad n sd se fr j hO hS   (hsj)) (jgo wm_X11_277) yk_X11_slotAt hO rfl rfl ⟨⟨rfl, rfl⟩, by decide, by decide⟩ rfl hl.1 rfl (Nat.le_of_ble_eq_true rfl) dX11_isWithin_2 ⟨Nat.le_of_ble_eq_true rfl, Nat.le_of_ble_eq_true rfl⟩ (fun v u H locs hp hW => ?_)
    obtain ⟨rfl, rfl⟩ := hp
    refine W.eq (g2 := F0 m 5 ls [.ref (ad (43 + 3 * j))]) rfl ?_
    refine lv_astore_n (lv' := [(3, .ref (ad (43 + 3 * j))), (0, .ref (ad 0)), (1, .int (nI j)), (2, .int u1)]) S.1 S.2.1 dX11_isWithin_5 rfl hl (by decide) rfl (fun ls hl => ?_)
    rcases i_cases u1 4 (by decide) with ⟨i, hti, rfl⟩ | hvi
    · obtain ⟨hto, htl, hta⟩ := hslo i hti
      refine lv_aload_n S.1 S.2.1 dX11_isWithin_6 rfl (lv_at hl 1 rfl) ?_
      refine lv_iload_n S.1 S.2.1 dX11_isWithin_7 rfl (lv_at hl 3 rfl) ?_
      refine j_callV (k := 0) (ci := 10) (q := (RX11, TX11, 15)) (As := [.int (nI i)]) (rest := []) S hK hA hW (c_X11_slotAtY l D cy ad n sd se fr i hO hS   (hti)) (jgo wm_X11_277) yk_X11_slotAt hO rfl rfl ⟨⟨rfl, rfl⟩, by decide, by decide⟩ rfl hl.1 rfl (Nat.le_of_ble_eq_true rfl) dX11_isWithin_8 ⟨Nat.le_of_ble_eq_true rfl, Nat.le_of_ble_eq_true rfl⟩ (fun v u H locs hp hW => ?_)
      obtain ⟨rfl, rfl⟩ := hp
      refine W.eq (g2 := F0 m 11 ls [.ref (ad (43 + 3 * i))]) rfl ?_
      refine lv_astore (lv' := [(4, .ref (ad (43 + 3 * i))), (3, .ref (ad (43 + 3 * j))), (0, .ref (ad 0)), (1, .int (nI j)), (2, .int (nI i))]) S.1 S.2.1 dX11_isWithin_11 hl (by decide) rfl (fun ls hl => ?_)
      refine lv_aload_n S.1 S.2.1 dX11_isWithin_13 rfl (lv_at hl 2 rfl) ?_
      refine lv_aload_n S.1 S.2.1 dX11_isWithin_14 rfl (lv_at hl 1 rfl) ?_
      refine lv_aload S.1 S.2.1 dX11_isWithin_15 (lv_at hl 0 rfl) ?_
      refine jx_callq (k := 0) (ci := 10) (q := (RX11, TX11, 15)) (As := [.ref (ad (43 + 3 * j)), .ref (ad (43 + 3 * i))]) (rest := []) S hK hA hW hQ htab hr hx (c_X11_checkAlike l htr D cy (43 + 3 * j) (44 + 3 * j) (45 + 3 * j) (ad (43 + 3 * j)) (ad (44 + 3 * j)) (ad (45 + 3 * j)) (kv j) (kx j) (43 + 3 * i) (44 + 3 * i) (45 + 3 * i) (ad (43 + 3 * i)) (ad (44 + 3 * i)) (ad (45 + 3 * i)) (kv i) (kx i) ad n sd se fr hso hsl hsa hto htl hta hO   ) (jgo wm_X11_303) yk_X11_checkAlike hO rfl rfl ⟨⟨rfl, rfl⟩, by decide, by decide⟩ rfl hl.1 rfl (Nat.le_of_ble_eq_true rfl) dX11_isWithin_17 ⟨Nat.le_of_ble_eq_true rfl, Nat.le_of_ble_eq_true rfl⟩ ⟨by decide, by decide⟩ (fun E u h => by
        obtain ⟨h, e⟩ := h
        rcases h with ⟨e1, h⟩ | ⟨e1, h⟩
        · exact ⟨Or.inr (Or.inl ⟨e1, ⟨j, i, hsj, rfl, hti, rfl, h⟩⟩), e⟩
        · exact ⟨Or.inr (Or.inr (⟨e1, ⟨j, i, hsj, rfl, hti, rfl, h⟩⟩)), e⟩) (fun v u H locs hp hW => ?_)
      obtain ⟨rfl, hp17_0, hp17_1, hp17_2, rfl⟩ := hp
      refine W.eq (g2 := F0 m 20 ls []) rfl ?_
      refine lv_aload_n S.1 S.2.1 dX11_isWithin_20 rfl (lv_at hl 1 rfl) ?_
      refine lv_aload S.1 S.2.1 dX11_isWithin_21 (lv_at hl 0 rfl) ?_
      refine j_callV (k := 43 + 3 * j) (ci := 0) (q := (RX0, TX0, 2)) (As := [.ref (ad (43 + 3 * i))]) (rest := []) S hK hA hW (c_X0_isContainedIn l D cy (43 + 3 * j) (44 + 3 * j) (45 + 3 * j) (ad (43 + 3 * j)) (ad (44 + 3 * j)) (ad (45 + 3 * j)) (kv j) (kx j) (43 + 3 * i) (44 + 3 * i) (45 + 3 * i) (ad (43 + 3 * i)) (ad (44 + 3 * i)) (ad (45 + 3 * i)) (kv i) (kx i) hso hsl hsa hto htl hta   ) (jgo wm_X11_307) yk_X0_isContainedIn hso rfl rfl ⟨⟨rfl, rfl⟩, by decide, by decide⟩ rfl hl.1 rfl (Nat.le_of_ble_eq_true rfl) dX11_isWithin_23 ⟨Nat.le_of_ble_eq_true rfl, Nat.le_of_ble_eq_true rfl⟩ (fun v u H locs hp hW => ?_)
      obtain ⟨rfl, rfl⟩ := hp
      refine W.eq (g2 := F0 m 26 ls [.int (bI (allB (fun a => !(kx j) a || (kx i) a) 1024))]) rfl ?_
      subst hQ
      refine vx_ret ?_
      exact j_iret (u := w) S hr (bI_nar _) hK hW dX11_isWithin_26 ⟨by decide, by decide⟩ (⟨j, i, rfl, hsj, rfl, hti, rfl, hp17_0, hp17_1, hp17_2, rfl⟩)
    · have hvi := vB_f hvi
      refine lv_aload_n S.1 S.2.1 dX11_isWithin_6 rfl (lv_at hl 1 rfl) ?_
      refine lv_iload_n S.1 S.2.1 dX11_isWithin_7 rfl (lv_at hl 3 rfl) ?_
      refine jx_callq (k := 0) (ci := 10) (q := (RX11, TX11, 15)) (As := [.int u1]) (rest := []) S hK hA hW hQ htab hr hx (c_X11_slotAtN l htr D cy ad n sd se fr u1 hO hS   (hvi)) (jgo wm_X11_277) yk_X11_slotAt hO rfl rfl ⟨⟨rfl, rfl⟩, by decide, by decide⟩ rfl hl.1 rfl (Nat.le_of_ble_eq_true rfl) dX11_isWithin_8 ⟨Nat.le_of_ble_eq_true rfl, Nat.le_of_ble_eq_true rfl⟩ ⟨by decide, by decide⟩ (fun E u h => by obtain ⟨⟨e1, h⟩, e⟩ := h; exact ⟨Or.inl ⟨e1, Or.inr ⟨⟨j, hsj, rfl⟩, h⟩⟩, e⟩) (fun v u H locs hp hW => ?_)
      obtain ⟨rfl, hp8_0, rfl⟩ := hp
      refine W.eq (g2 := F0 m 11 ls []) rfl ?_
      exact hp8_0.elim
  · have hvj := vB_f hvj
    refine lv_aload_n S.1 S.2.1 dX11_isWithin_0 rfl (lv_at hl 0 rfl) ?_
    refine lv_iload_n S.1 S.2.1 dX11_isWithin_1 rfl (lv_at hl 1 rfl) ?_
    refine jx_callq (k := 0) (ci := 10) (q := (RX11, TX11, 15)) (As := [.int v]) (rest := []) S hK hA hW hQ htab hr hx (c_X11_slotAtN l htr D cy ad n sd se fr v hO hS   (hvj)) (jgo wm_X11_277) yk_X11_slotAt hO rfl rfl ⟨⟨rfl, rfl⟩, by decide, by decide⟩ rfl hl.1 rfl (Nat.le_of_ble_eq_true rfl) dX11_isWithin_2 ⟨Nat.le_of_ble_eq_true rfl, Nat.le_of_ble_eq_true rfl⟩ ⟨by decide, by decide⟩ (fun E u h => by obtain ⟨⟨e1, h⟩, e⟩ := h; exact ⟨Or.inl ⟨e1, Or.inl h⟩, e⟩) (fun v u H locs hp hW => ?_)
    obtain ⟨rfl, hp2_0, rfl⟩ := hp
    refine W.eq (g2 := F0 m 5 ls []) rfl ?_
    exact hp2_0.elim
/-- areSame -/
theorem c_X11_areSame (l : Launch) (htr : l.stackTraces = false) (D : va_G) (cy : Nat → ClassId) {w : va_W} (ad : Nat → Nat) (n sd se : Nat) (fr : Bool) (kv : Nat → Int32) (kx : Nat → Nat → Bool) (v u1 : Int32) (hO : w[0]? = some (ad 0, .inr (10, [.int (nI n), .ref (ad 1), .ref (ad 3), .ref (ad 5), .int (nI sd), .int (nI se), .ref (ad 7), .ref (ad 9), .ref (ad 11), .ref (ad 20), .int (bI fr), .ref (ad 23), .ref (ad 26), .ref (ad 31), .ref (ad 42)]))) (hS : w[42]? = some (ad 42, .inl (cy 4, 4, .inr (.inr (.inr (.inr (slF ad))))))) (hslo : slOK w ad cy kv kx) (hn : n ≤ 10) : jMx jTexts l yX11_areSame (jws yX11_areSame cX11_areSame 5 (some .boolean)) (jR 10 5 30) D cy w [.ref (ad 0), .int v, .int u1] 5 30 (fun vv uu => ∃ (j : Nat), ∃ (i : Nat), vv = some (.int (bI (allB (fun a => !kx j a || kx i a) 1024 && allB (fun a => !kx i a || kx j a) 1024))) ∧ j < 4 ∧ v = nI j ∧ i < 4 ∧ u1 = nI i ∧ kv j ≠ -1 ∧ kv i ≠ -1 ∧ kv j = kv i ∧ w = uu) (fun EE uu => ((EE = "java/lang/IllegalArgumentException" ∧ (vB v 4 = false ∨ ((∃ j, j < 4 ∧ v = nI j) ∧ vB u1 4 = false))) ∨ (EE = "java/util/NoSuchElementException" ∧ (∃ j i, j < 4 ∧ v = nI j ∧ i < 4 ∧ u1 = nI i ∧ (kv j = -1 ∨ kv i = -1))) ∨ (EE = "java/lang/UnsupportedOperationException" ∧ (∃ j i, j < 4 ∧ v = nI j ∧ i < 4 ∧ u1 = nI i ∧ kv j ≠ -1 ∧ kv i ≠ -1 ∧ kv j ≠ kv i))) ∧ w = uu) := by
  refine jx_of (by decide) rfl (Nat.le_of_ble_eq_true rfl) ?_
  intro p e s m args below meth c A ls Q hQ S hr hK hA H locs hW hl htab hx
  have hl : lv_has ls 5 [(0, .ref (ad 0)), (1, .int v), (2, .int u1)] := hl
  rcases i_cases v 4 (by decide) with ⟨j, hsj, rfl⟩ | hvj
  · obtain ⟨hso, hsl, hsa⟩ := hslo j hsj
    refine lv_aload_n S.1 S.2.1 dX11_areSame_0 rfl (lv_at hl 0 rfl) ?_
    refine lv_iload_n S.1 S.2.1 dX11_areSame_1 rfl (lv_at hl 1 rfl) ?_
    refine j_callV (k := 0) (ci := 10) (q := (RX11, TX11, 15)) (As := [.int (nI j)]) (rest := []) S hK hA hW (c_X11_slotAtY l D cy ad n sd se fr j hO hS   (hsj)) (jgo wm_X11_277) yk_X11_slotAt hO rfl rfl ⟨⟨rfl, rfl⟩, by decide, by decide⟩ rfl hl.1 rfl (Nat.le_of_ble_eq_true rfl) dX11_areSame_2 ⟨Nat.le_of_ble_eq_true rfl, Nat.le_of_ble_eq_true rfl⟩ (fun v u H locs hp hW => ?_)
    obtain ⟨rfl, rfl⟩ := hp
    refine W.eq (g2 := F0 m 5 ls [.ref (ad (43 + 3 * j))]) rfl ?_
    refine lv_astore_n (lv' := [(3, .ref (ad (43 + 3 * j))), (0, .ref (ad 0)), (1, .int (nI j)), (2, .int u1)]) S.1 S.2.1 dX11_areSame_5 rfl hl (by decide) rfl (fun ls hl => ?_)
    rcases i_cases u1 4 (by decide) with ⟨i, hti, rfl⟩ | hvi
    · obtain ⟨hto, htl, hta⟩ := hslo i hti
      refine lv_aload_n S.1 S.2.1 dX11_areSame_6 rfl (lv_at hl 1 rfl) ?_
      refine lv_iload_n S.1 S.2.1 dX11_areSame_7 rfl (lv_at hl 3 rfl) ?_
      refine j_callV (k := 0) (ci := 10) (q := (RX11, TX11, 15)) (As := [.int (nI i)]) (rest := []) S hK hA hW (c_X11_slotAtY l D cy ad n sd se fr i hO hS   (hti)) (jgo wm_X11_277) yk_X11_slotAt hO rfl rfl ⟨⟨rfl, rfl⟩, by decide, by decide⟩ rfl hl.1 rfl (Nat.le_of_ble_eq_true rfl) dX11_areSame_8 ⟨Nat.le_of_ble_eq_true rfl, Nat.le_of_ble_eq_true rfl⟩ (fun v u H locs hp hW => ?_)
      obtain ⟨rfl, rfl⟩ := hp
      refine W.eq (g2 := F0 m 11 ls [.ref (ad (43 + 3 * i))]) rfl ?_
      refine lv_astore (lv' := [(4, .ref (ad (43 + 3 * i))), (3, .ref (ad (43 + 3 * j))), (0, .ref (ad 0)), (1, .int (nI j)), (2, .int (nI i))]) S.1 S.2.1 dX11_areSame_11 hl (by decide) rfl (fun ls hl => ?_)
      refine lv_aload_n S.1 S.2.1 dX11_areSame_13 rfl (lv_at hl 2 rfl) ?_
      refine lv_aload_n S.1 S.2.1 dX11_areSame_14 rfl (lv_at hl 1 rfl) ?_
      refine lv_aload S.1 S.2.1 dX11_areSame_15 (lv_at hl 0 rfl) ?_
      refine jx_callq (k := 0) (ci := 10) (q := (RX11, TX11, 15)) (As := [.ref (ad (43 + 3 * j)), .ref (ad (43 + 3 * i))]) (rest := []) S hK hA hW hQ htab hr hx (c_X11_checkAlike l htr D cy (43 + 3 * j) (44 + 3 * j) (45 + 3 * j) (ad (43 + 3 * j)) (ad (44 + 3 * j)) (ad (45 + 3 * j)) (kv j) (kx j) (43 + 3 * i) (44 + 3 * i) (45 + 3 * i) (ad (43 + 3 * i)) (ad (44 + 3 * i)) (ad (45 + 3 * i)) (kv i) (kx i) ad n sd se fr hso hsl hsa hto htl hta hO   ) (jgo wm_X11_303) yk_X11_checkAlike hO rfl rfl ⟨⟨rfl, rfl⟩, by decide, by decide⟩ rfl hl.1 rfl (Nat.le_of_ble_eq_true rfl) dX11_areSame_17 ⟨Nat.le_of_ble_eq_true rfl, Nat.le_of_ble_eq_true rfl⟩ ⟨by decide, by decide⟩ (fun E u h => by
        obtain ⟨h, e⟩ := h
        rcases h with ⟨e1, h⟩ | ⟨e1, h⟩
        · exact ⟨Or.inr (Or.inl ⟨e1, ⟨j, i, hsj, rfl, hti, rfl, h⟩⟩), e⟩
        · exact ⟨Or.inr (Or.inr (⟨e1, ⟨j, i, hsj, rfl, hti, rfl, h⟩⟩)), e⟩) (fun v u H locs hp hW => ?_)
      obtain ⟨rfl, hp17_0, hp17_1, hp17_2, rfl⟩ := hp
      refine W.eq (g2 := F0 m 20 ls []) rfl ?_
      refine lv_aload_n S.1 S.2.1 dX11_areSame_20 rfl (lv_at hl 1 rfl) ?_
      refine lv_aload S.1 S.2.1 dX11_areSame_21 (lv_at hl 0 rfl) ?_
      refine j_callV (k := 43 + 3 * j) (ci := 0) (q := (RX0, TX0, 2)) (As := [.ref (ad (43 + 3 * i))]) (rest := []) S hK hA hW (c_X0_isContainedIn l D cy (43 + 3 * j) (44 + 3 * j) (45 + 3 * j) (ad (43 + 3 * j)) (ad (44 + 3 * j)) (ad (45 + 3 * j)) (kv j) (kx j) (43 + 3 * i) (44 + 3 * i) (45 + 3 * i) (ad (43 + 3 * i)) (ad (44 + 3 * i)) (ad (45 + 3 * i)) (kv i) (kx i) hso hsl hsa hto htl hta   ) (jgo wm_X11_307) yk_X0_isContainedIn hso rfl rfl ⟨⟨rfl, rfl⟩, by decide, by decide⟩ rfl hl.1 rfl (Nat.le_of_ble_eq_true rfl) dX11_areSame_23 ⟨Nat.le_of_ble_eq_true rfl, Nat.le_of_ble_eq_true rfl⟩ (fun v u H locs hp hW => ?_)
      obtain ⟨rfl, rfl⟩ := hp
      refine W.eq (g2 := F0 m 26 ls [.int (bI (allB (fun a => !(kx j) a || (kx i) a) 1024))]) rfl ?_
      refine jb_if_eq (tgt := 42) S dX11_areSame_26 (by decide) (fun c_26 => ?_) (fun c_26 => ?_)
      · refine lv_iconst (v := nI 0) S.1 S.2.1 dX11_areSame_42 (by decide) ?_
        subst hQ
        refine vx_ret ?_
        exact j_iret (u := w) S hr (rfl) hK hW dX11_areSame_43 ⟨by decide, by decide⟩ (⟨j, i, by first | exact bI_T (and_tt c_26 c_35) | exact bI_F (and_f1 c_26) | exact bI_F (and_f2 c_35), hsj, rfl, hti, rfl, hp17_0, hp17_1, hp17_2, rfl⟩)
      · refine lv_aload S.1 S.2.1 dX11_areSame_29 (lv_at hl 0 rfl) ?_
        refine lv_aload_n S.1 S.2.1 dX11_areSame_31 rfl (lv_at hl 1 rfl) ?_
        refine j_callV (k := 43 + 3 * i) (ci := 0) (q := (RX0, TX0, 2)) (As := [.ref (ad (43 + 3 * j))]) (rest := []) S hK hA hW (c_X0_isContainedIn l D cy (43 + 3 * i) (44 + 3 * i) (45 + 3 * i) (ad (43 + 3 * i)) (ad (44 + 3 * i)) (ad (45 + 3 * i)) (kv i) (kx i) (43 + 3 * j) (44 + 3 * j) (45 + 3 * j) (ad (43 + 3 * j)) (ad (44 + 3 * j)) (ad (45 + 3 * j)) (kv j) (kx j) hto htl hta hso hsl hsa   ) (jgo wm_X11_307) yk_X0_isContainedIn hto rfl rfl ⟨⟨rfl, rfl⟩, by decide, by decide⟩ rfl hl.1 rfl (Nat.le_of_ble_eq_true rfl) dX11_areSame_32 ⟨Nat.le_of_ble_eq_true rfl, Nat.le_of_ble_eq_true rfl⟩ (fun v u H locs hp hW => ?_)
        obtain ⟨rfl, rfl⟩ := hp
        refine W.eq (g2 := F0 m 35 ls [.int (bI (allB (fun a => !(kx i) a || (kx j) a) 1024))]) rfl ?_
        refine jb_if_eq (tgt := 42) S dX11_areSame_35 (by decide) (fun c_35 => ?_) (fun c_35 => ?_)
        · refine lv_iconst (v := nI 0) S.1 S.2.1 dX11_areSame_42 (by decide) ?_
          subst hQ
          refine vx_ret ?_
          exact j_iret (u := w) S hr (rfl) hK hW dX11_areSame_43 ⟨by decide, by decide⟩ (⟨j, i, by first | exact bI_T (and_tt c_26 c_35) | exact bI_F (and_f1 c_26) | exact bI_F (and_f2 c_35), hsj, rfl, hti, rfl, hp17_0, hp17_1, hp17_2, rfl⟩)
        · refine lv_iconst (v := nI 1) S.1 S.2.1 dX11_areSame_38 (by decide) ?_
          refine lv_goto (tgt := 43) S.1 S.2.1 dX11_areSame_39 (by decide) ?_
          subst hQ
          refine vx_ret ?_
          exact j_iret (u := w) S hr (rfl) hK hW dX11_areSame_43 ⟨by decide, by decide⟩ (⟨j, i, by first | exact bI_T (and_tt c_26 c_35) | exact bI_F (and_f1 c_26) | exact bI_F (and_f2 c_35), hsj, rfl, hti, rfl, hp17_0, hp17_1, hp17_2, rfl⟩)
    · have hvi := vB_f hvi
      refine lv_aload_n S.1 S.2.1 dX11_areSame_6 rfl (lv_at hl 1 rfl) ?_
      refine lv_iload_n S.1 S.2.1 dX11_areSame_7 rfl (lv_at hl 3 rfl) ?_
      refine jx_callq (k := 0) (ci := 10) (q := (RX11, TX11, 15)) (As := [.int u1]) (rest := []) S hK hA hW hQ htab hr hx (c_X11_slotAtN l htr D cy ad n sd se fr u1 hO hS   (hvi)) (jgo wm_X11_277) yk_X11_slotAt hO rfl rfl ⟨⟨rfl, rfl⟩, by decide, by decide⟩ rfl hl.1 rfl (Nat.le_of_ble_eq_true rfl) dX11_areSame_8 ⟨Nat.le_of_ble_eq_true rfl, Nat.le_of_ble_eq_true rfl⟩ ⟨by decide, by decide⟩ (fun E u h => by obtain ⟨⟨e1, h⟩, e⟩ := h; exact ⟨Or.inl ⟨e1, Or.inr ⟨⟨j, hsj, rfl⟩, h⟩⟩, e⟩) (fun v u H locs hp hW => ?_)
      obtain ⟨rfl, hp8_0, rfl⟩ := hp
      refine W.eq (g2 := F0 m 11 ls []) rfl ?_
      exact hp8_0.elim
  · have hvj := vB_f hvj
    refine lv_aload_n S.1 S.2.1 dX11_areSame_0 rfl (lv_at hl 0 rfl) ?_
    refine lv_iload_n S.1 S.2.1 dX11_areSame_1 rfl (lv_at hl 1 rfl) ?_
    refine jx_callq (k := 0) (ci := 10) (q := (RX11, TX11, 15)) (As := [.int v]) (rest := []) S hK hA hW hQ htab hr hx (c_X11_slotAtN l htr D cy ad n sd se fr v hO hS   (hvj)) (jgo wm_X11_277) yk_X11_slotAt hO rfl rfl ⟨⟨rfl, rfl⟩, by decide, by decide⟩ rfl hl.1 rfl (Nat.le_of_ble_eq_true rfl) dX11_areSame_2 ⟨Nat.le_of_ble_eq_true rfl, Nat.le_of_ble_eq_true rfl⟩ ⟨by decide, by decide⟩ (fun E u h => by obtain ⟨⟨e1, h⟩, e⟩ := h; exact ⟨Or.inl ⟨e1, Or.inl h⟩, e⟩) (fun v u H locs hp hW => ?_)
    obtain ⟨rfl, hp2_0, rfl⟩ := hp
    refine W.eq (g2 := F0 m 5 ls []) rfl ?_
    exact hp2_0.elim
