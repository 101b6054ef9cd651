/-! COUNTFALL: projections, parts, best ones (laid by wip/whole/tools, from the specs there) -/
theorem folN_lt0 {n x : Nat} (hn : n ≤ 10) (hx : x < 1024) : folN n x < 1024 := by
  induction n generalizing x with
  | zero => exact hx
  | succ k ih =>
    have hl := xor_lt10 (k := k) hx (by omega)
    show (if _ then _ else _) < 1024
    split
    · exact hl
    · exact ih (by omega) hl
theorem folN_lt {n x : Nat} (hn : n ≤ 10) (hx : x < 1024) : folN n x < 1024 := folN_lt0 hn hx
theorem mdl_cnt {n sd se nc lv : Nat} {cs : Nat → CN} (hn : n ≤ 10) : cnt (mdl n sd se nc cs lv) 1024 = cnt (fun d => mdl n sd se nc cs lv (revN n d)) (2 ^ n) := by
  rw [cnt_rev]; exact (cnt_ext (two_pow10 hn) (fun c _ => rfl) (fun c h _ => mdl_hi h)).symm
theorem sumI_t {X : Nat → Bool} {f : Nat → Nat} {n : Nat} (h : X n = true) : sumI X f (n + 1) = sumI X f n + f n := by simp only [sumI]; rw [if_pos h]
theorem sumI_f {X : Nat → Bool} {f : Nat → Nat} {n : Nat} (h : X n = false) : sumI X f (n + 1) = sumI X f n := by simp only [sumI]; rw [if_neg (by rw [h]; decide), Nat.add_zero]
theorem sumI_up {X : Nat → Bool} {f : Nat → Nat} {a b : Nat} (h : a ≤ b) : sumI X f a ≤ sumI X f b := by
  induction h with
  | refl => exact Nat.le_refl _
  | step _ ih => simp only [sumI]; omega
/-- projected -/
theorem c_X11_projected (l : Launch) (htr : l.stackTraces = false) (D : va_G) (cy : Nat → ClassId) {w : va_W} (ad : Nat → Nat) (n sd se : Nat) (fr : Bool) (nc lv : Nat) (tf : Nat → Option Nat) (cp ca : Nat → Nat) (cs : Nat → CN) (mv : Int32) (MX : Nat → Bool) (qv : Int32) (QX : Nat → Bool) (x : Int32) (hO : w[0]? = some (ad 0, .inr (10, [.int (nI n), .ref (ad 1), .ref (ad 3), .ref (ad 5), .int (nI sd), .int (nI se), .ref (ad 7), .ref (ad 9), .ref (ad 11), .ref (ad 20), .int (bI fr), .ref (ad 23), .ref (ad 26), .ref (ad 31), .ref (ad 42)]))) (hMo : w[20]? = some (ad 20, .inr (0, [.ref (ad 21), .int mv]))) (hMl : w[21]? = some (ad 21, .inr (6, [.ref (ad 22)]))) (hMa : w[22]? = some (ad 22, .inl (cy 1, 16, .inr (.inl (wd MX))))) (hC : w[9]? = some (ad 9, .inr (4, [.ref (ad 10), .int (nI nc), .int (nI lv)]))) (hT : w[10]? = some (ad 10, .inl (cy 5, 20, .inr (.inr (.inr (.inr tf)))))) (hJo : w[23]? = some (ad 23, .inr (0, [.ref (ad 24), .int qv]))) (hJl : w[24]? = some (ad 24, .inr (6, [.ref (ad 25)]))) (hJa : w[25]? = some (ad 25, .inl (cy 1, 16, .inr (.inl (wd QX))))) (hcon : conOK w nc tf cp ca cs) (hn : n ≤ 10) (hsd : sd < 1024) (hse : se < 1024) (hlv : lv < 2 ^ 20) (hfr : fr = true → mv = nI n ∧ MX = mdl n sd se nc cs lv) : jMx jTexts l yX11_projected (jws yX11_projected cX11_projected 4 (some .long)) (jR 9 1 6) D cy w [.ref (ad 0), .int x] 1 6 (fun vv uu => ∃ (y : Nat), vv = some (.long (lN (cnt (prjS (mdl n sd se nc cs lv) y (2 ^ n)) 1024))) ∧ y < 2 ^ n ∧ x = nI y ∧ jU w uu [0, 20, 22, 23, 25] ∧ uu[0]? = some (ad 0, .inr (10, [.int (nI n), .ref (ad 1), .ref (ad 3), .ref (ad 5), .int (nI sd), .int (nI se), .ref (ad 7), .ref (ad 9), .ref (ad 11), .ref (ad 20), .int (bI true), .ref (ad 23), .ref (ad 26), .ref (ad 31), .ref (ad 42)])) ∧ uu[20]? = some (ad 20, .inr (0, [.ref (ad 21), .int (nI n)])) ∧ uu[22]? = some (ad 22, .inl (cy 1, 16, .inr (.inl (wd (mdl n sd se nc cs lv))))) ∧ uu[23]? = some (ad 23, .inr (0, [.ref (ad 24), .int (nI n)])) ∧ uu[25]? = some (ad 25, .inl (cy 1, 16, .inr (.inl (wd (prjS (mdl n sd se nc cs lv) y (2 ^ n))))))) (fun EE uu => ((EE = "java/lang/IllegalArgumentException" ∧ (vB x (2 ^ n) = false))) ∧ w = uu) := by
  have hp2 := two_pow10 hn
  refine jx_of (by decide) rfl (Nat.le_of_ble_eq_true rfl) ?_
  intro p e s m args below meth c A ls Q hQ S hr hK hA H locs hW hl htab hx
  have hl : lv_has ls 4 [(0, .ref (ad 0)), (1, .int x)] := hl
  refine lv_aload_n S.1 S.2.1 dX11_projected_0 rfl (lv_at hl 0 rfl) ?_
  refine lv_iload_n S.1 S.2.1 dX11_projected_1 rfl (lv_at hl 1 rfl) ?_
  refine jx_callq (k := 0) (ci := 10) (q := (RX11, TX11, 15)) (As := [.int x]) (rest := []) S hK hA hW hQ htab hr hx (c_X11_checkSet l htr D cy ad n sd se fr x hO   (by omega)) (jgo wm_X11_110) yk_X11_checkSet hO rfl rfl ⟨⟨rfl, rfl⟩, by decide, by decide⟩ rfl hl.1 rfl (Nat.le_of_ble_eq_true rfl) dX11_projected_2 ⟨Nat.le_of_ble_eq_true rfl, Nat.le_of_ble_eq_true rfl⟩ ⟨by decide, by decide⟩ (fun E u h => by obtain ⟨⟨e1, h⟩, e⟩ := h; exact ⟨⟨e1, by first | exact h | exact Or.inl h | exact Or.inr h | exact Or.inr (Or.inl h) | exact Or.inr (Or.inr h) | omega | (simp at h ⊢; omega)⟩, e⟩) (fun v u H locs hp hW => ?_)
  obtain ⟨xN_2, rfl, hp2_0, hp2_1, rfl⟩ := hp
  refine W.eq (g2 := F0 m 5 ls []) rfl ?_
  subst hp2_1
  refine lv_aload_n S.1 S.2.1 dX11_projected_5 rfl (lv_at hl 0 rfl) ?_
  refine j_callV (k := 0) (ci := 10) (q := (RX11, TX11, 15)) (As := []) (rest := []) S hK hA hW (c_X11_freshModels l D cy ad n sd se fr nc lv tf cp ca cs mv MX hO hMo hMl hMa hC hT hcon  (by omega) (by omega) (by omega) (by omega) (by first | omega | exact fun _ => ⟨rfl, rfl⟩)) (jgo wm_X11_199) yk_X11_freshModels hO rfl rfl ⟨⟨rfl, rfl⟩, by decide, by decide⟩ rfl hl.1 rfl (Nat.le_of_ble_eq_true rfl) dX11_projected_6 ⟨Nat.le_of_ble_eq_true rfl, Nat.le_of_ble_eq_true rfl⟩ (fun v w_ H locs hp hW => ?_)
  obtain ⟨rfl, hU1, hN1, hN2, hN3⟩ := hp
  have hU : jU w w_ [0, 20, 22, 23, 25] := jU.mono hU1 (by decide)
  have hJo_ := hU1.get hJo (by decide)
  have hJa_ := hU1.get hJa (by decide)
  have hO_ : w_[0]? = some (ad 0, .inr (10, [.int (nI n), .ref (ad 1), .ref (ad 3), .ref (ad 5), .int (nI sd), .int (nI se), .ref (ad 7), .ref (ad 9), .ref (ad 11), .ref (ad 20), .int (bI true), .ref (ad 23), .ref (ad 26), .ref (ad 31), .ref (ad 42)])) := hN1
  have hMo_ : w_[20]? = some (ad 20, .inr (0, [.ref (ad 21), .int (nI n)])) := hN2
  have hMa_ : w_[22]? = some (ad 22, .inl (cy 1, 16, .inr (.inl (wd (mdl n sd se nc cs lv))))) := hN3
  clear hU1 hN1 hN2 hN3
  refine W.eq (g2 := F0 m 9 ls [.ref (ad 20)]) rfl ?_
  refine lv_astore_n (lv' := [(2, .ref (ad 20)), (0, .ref (ad 0)), (1, .int (nI xN_2))]) S.1 S.2.1 dX11_projected_9 rfl hl (by decide) rfl (fun ls hl => ?_)
  refine lv_aload_n S.1 S.2.1 dX11_projected_10 rfl (lv_at hl 1 rfl) ?_
  refine j_get (ci := 10) (C := RX11) (T := TX11) (N := 15) (v := .ref (ad 23)) S (fun w h => List.mem_cons_of_mem _ (inG11 w h)) hK hW hO_ rfl 11 (by decide) (List.mem_cons_of_mem _ wfl_X11_52) (fun _ h9 => h9) rfl dX11_projected_11 ?_
  refine lv_aload_n S.1 S.2.1 dX11_projected_14 rfl (lv_at hl 1 rfl) ?_
  refine j_get (ci := 10) (C := RX11) (T := TX11) (N := 15) (v := .int (nI n)) S (fun w h => List.mem_cons_of_mem _ (inG11 w h)) hK hW hO_ rfl 0 (by decide) (List.mem_cons_of_mem _ wfl_X11_77) (fun _ h9 => h9) rfl dX11_projected_15 ?_
  refine j_callV (k := 23) (ci := 0) (q := (RX0, TX0, 2)) (As := [.int (nI n)]) (rest := []) S hK hA hW (c_X0_restart l D cy 23 24 25 (ad 23) (ad 24) (ad 25) qv QX (nI n) hJo_ (hU.get hJl (by decide)) hJa_   ) (jgo wm_X11_218) yk_X0_restart hJo_ rfl rfl ⟨⟨rfl, rfl⟩, by decide, by decide⟩ rfl hl.1 rfl (Nat.le_of_ble_eq_true rfl) dX11_projected_18 ⟨Nat.le_of_ble_eq_true rfl, Nat.le_of_ble_eq_true rfl⟩ (fun v w_ H locs hp hW => ?_)
  obtain ⟨rfl, hU1, hN1, hN2⟩ := hp
  have hU := hU.then hU1 (by decide)
  have hO_ := hU1.get hO_ (by decide)
  have hMo_ := hU1.get hMo_ (by decide)
  have hMa_ := hU1.get hMa_ (by decide)
  have hJo_ : w_[23]? = some (ad 23, .inr (0, [.ref (ad 24), .int (nI n)])) := hN1
  have hJa_ : w_[25]? = some (ad 25, .inl (cy 1, 16, .inr (.inl (wd (fun _ => false))))) := hN2
  clear hU1 hN1 hN2
  refine W.eq (g2 := F0 m 21 ls []) rfl ?_
  refine lv_iconst (v := nI 0) S.1 S.2.1 dX11_projected_21 (by decide) ?_
  refine lv_istore_n (lv' := [(3, .int (nI 0)), (2, .ref (ad 20)), (0, .ref (ad 0)), (1, .int (nI xN_2))]) S.1 S.2.1 dX11_projected_22 rfl hl (by decide) rfl (fun ls hl => ?_)
  have hJa_ : w_[25]? = some (ad 25, .inl (cy 1, 16, .inr (.inl (wd (prjS (mdl n sd se nc cs lv) xN_2 0))))) := by
    rw [prjS_0]; exact hJa_
  have L23 : ∀ (k : Nat) (i : Nat), 2 ^ n - i = k → (i ≤ 2 ^ n) → ∀ (w_ : va_W), jU w w_ [0, 20, 22, 23, 25] → (w_[0]? = some (ad 0, .inr (10, [.int (nI n), .ref (ad 1), .ref (ad 3), .ref (ad 5), .int (nI sd), .int (nI se), .ref (ad 7), .ref (ad 9), .ref (ad 11), .ref (ad 20), .int (bI true), .ref (ad 23), .ref (ad 26), .ref (ad 31), .ref (ad 42)]))) → (w_[20]? = some (ad 20, .inr (0, [.ref (ad 21), .int (nI n)]))) → (w_[22]? = some (ad 22, .inl (cy 1, 16, .inr (.inl (wd (mdl n sd se nc cs lv)))))) → (w_[23]? = some (ad 23, .inr (0, [.ref (ad 24), .int (nI n)]))) → (w_[25]? = some (ad 25, .inl (cy 1, 16, .inr (.inl (wd (prjS (mdl n sd se nc cs lv) xN_2 i)))))) → ∀ (H : Heap) (locs : List Loc) (ls : Array Slot), jW D A s.heap w_ H locs → lv_has ls 4 [(0, .ref (ad 0)), (1, .int (nI xN_2)), (2, .ref (ad 20)), (3, .int (nI i))] → W p l e (jR 9 1 6) s m args below meth c H locs 1 6 Q (F0 m 23 ls []) := by
    intro k
    induction k using Nat.strongRecOn with
    | ind k ih23 =>
    intro i hk hi w_ hU hO_ hMo_ hMa_ hJo_ hJa_ H locs ls hW hl
    subst hk
    refine lv_iload_n S.1 S.2.1 dX11_projected_23 rfl (lv_at hl 3 rfl) ?_
    refine lv_aload_n S.1 S.2.1 dX11_projected_24 rfl (lv_at hl 0 rfl) ?_
    refine j_callV (k := 0) (ci := 10) (q := (RX11, TX11, 15)) (As := []) (rest := [.int (nI i)]) S hK hA hW (c_X11_countAssignments l D cy ad n sd se true hO_   (by omega)) (jgo wm_X11_221) yk_X11_countAssignments hO_ rfl rfl ⟨⟨rfl, rfl⟩, by decide, by decide⟩ rfl hl.1 rfl (Nat.le_of_ble_eq_true rfl) dX11_projected_25 ⟨Nat.le_of_ble_eq_true rfl, Nat.le_of_ble_eq_true rfl⟩ (fun v u H locs hp hW => ?_)
    obtain ⟨rfl, rfl⟩ := hp
    refine W.eq (g2 := F0 m 28 ls [.int (nI (2 ^ n)), .int (nI i)]) rfl ?_
    refine jn_cmp_ge (tgt := 55) S (by omega) (by omega) dX11_projected_28 (by decide) (fun c_28 => ?_) (fun c_28 => ?_)
    · have ei : i = 2 ^ n := by omega
      have hJa_ : w_[25]? = some (ad 25, .inl (cy 1, 16, .inr (.inl (wd (prjS (mdl n sd se nc cs lv) xN_2 (2 ^ n)))))) := by
        rw [ei] at hJa_; exact hJa_
      refine lv_aload_n S.1 S.2.1 dX11_projected_55 rfl (lv_at hl 0 rfl) ?_
      refine j_get (ci := 10) (C := RX11) (T := TX11) (N := 15) (v := .ref (ad 23)) S (fun w h => List.mem_cons_of_mem _ (inG11 w h)) hK hW hO_ rfl 11 (by decide) (List.mem_cons_of_mem _ wfl_X11_52) (fun _ h9 => h9) rfl dX11_projected_56 ?_
      refine j_callV (k := 23) (ci := 0) (q := (RX0, TX0, 2)) (As := []) (rest := []) S hK hA hW (c_X0_size l D cy 23 24 25 (ad 23) (ad 24) (ad 25) (nI n) (prjS (mdl n sd se nc cs lv) xN_2 (2 ^ n)) hJo_ (hU.get hJl (by decide)) hJa_   ) (jgo wm_X11_203) yk_X0_size hJo_ rfl rfl ⟨⟨rfl, rfl⟩, by decide, by decide⟩ rfl hl.1 rfl (Nat.le_of_ble_eq_true rfl) dX11_projected_59 ⟨Nat.le_of_ble_eq_true rfl, Nat.le_of_ble_eq_true rfl⟩ (fun v u H locs hp hW => ?_)
      obtain ⟨rfl, rfl⟩ := hp
      refine W.eq (g2 := F0 m 62 ls [.int (nI (cnt (prjS (mdl n sd se nc cs lv) xN_2 (2 ^ n)) 1024))]) rfl ?_
      have hcm := cnt_le (prjS (mdl n sd se nc cs lv) xN_2 (2 ^ n)) 1024
      refine lv_i2l (v := lN (cnt (prjS (mdl n sd se nc cs lv) xN_2 (2 ^ n)) 1024)) S.1 S.2.1 dX11_projected_62 (nI_l (by omega)) ?_
      subst hQ
      refine vx_ret ?_
      exact j_lret (u := w_) S hr hK hW dX11_projected_63 ⟨by decide, by decide⟩ (⟨xN_2, rfl, hp2_0, rfl, hU, hO_, hMo_, hMa_, hJo_, hJa_⟩)
    · have hia : i &&& xN_2 < 1024 := Nat.lt_of_le_of_lt Nat.and_le_right (by omega)
      refine lv_aload_n S.1 S.2.1 dX11_projected_31 rfl (lv_at hl 2 rfl) ?_
      refine lv_iload_n S.1 S.2.1 dX11_projected_32 rfl (lv_at hl 3 rfl) ?_
      refine j_callV (k := 20) (ci := 0) (q := (RX0, TX0, 2)) (As := [.int (nI i)]) (rest := []) S hK hA hW (c_X0_has l D cy 20 21 22 (ad 20) (ad 21) (ad 22) (nI n) (mdl n sd se nc cs lv) i hMo_ (hU.get hMl (by decide)) hMa_   (by omega)) (jgo wm_X11_224) yk_X0_has hMo_ rfl rfl ⟨⟨rfl, rfl⟩, by decide, by decide⟩ rfl hl.1 rfl (Nat.le_of_ble_eq_true rfl) dX11_projected_33 ⟨Nat.le_of_ble_eq_true rfl, Nat.le_of_ble_eq_true rfl⟩ (fun v u H locs hp hW => ?_)
      obtain ⟨rfl, rfl⟩ := hp
      refine W.eq (g2 := F0 m 36 ls [.int (bI ((mdl n sd se nc cs lv) i))]) rfl ?_
      refine jb_if_eq (tgt := 49) S dX11_projected_36 (by decide) (fun c_36 => ?_) (fun c_36 => ?_)
      · have hJa_ : w_[25]? = some (ad 25, .inl (cy 1, 16, .inr (.inl (wd (prjS (mdl n sd se nc cs lv) xN_2 (i + 1)))))) := by
          rw [prjS_f c_36]; exact hJa_
        refine lv_iinc (v := nI (i + 1)) (lv' := [(3, .int (nI (i + 1))), (0, .ref (ad 0)), (1, .int (nI xN_2)), (2, .ref (ad 20))]) S.1 S.2.1 dX11_projected_49 hl (k := 3) rfl (nI_add _ 1) (by decide) rfl (fun ls hl => ?_)
        refine lv_goto (tgt := 23) S.1 S.2.1 dX11_projected_52 (by decide) ?_
        exact ih23 _ (by omega) (i + 1) rfl (by omega) w_ hU hO_ hMo_ hMa_ hJo_ hJa_ H locs ls hW (lv_sub hl [1, 2, 3, 0] rfl)
      · refine lv_aload_n S.1 S.2.1 dX11_projected_39 rfl (lv_at hl 0 rfl) ?_
        refine j_get (ci := 10) (C := RX11) (T := TX11) (N := 15) (v := .ref (ad 23)) S (fun w h => List.mem_cons_of_mem _ (inG11 w h)) hK hW hO_ rfl 11 (by decide) (List.mem_cons_of_mem _ wfl_X11_52) (fun _ h9 => h9) rfl dX11_projected_40 ?_
        refine lv_iload_n S.1 S.2.1 dX11_projected_43 rfl (lv_at hl 3 rfl) ?_
        refine lv_iload_n S.1 S.2.1 dX11_projected_44 rfl (lv_at hl 1 rfl) ?_
        refine jn_and S dX11_projected_45 ?_
        refine j_callV (k := 23) (ci := 0) (q := (RX0, TX0, 2)) (As := [.int (nI (i &&& xN_2))]) (rest := []) S hK hA hW (c_X0_add l D cy 23 24 25 (ad 23) (ad 24) (ad 25) (nI n) (prjS (mdl n sd se nc cs lv) xN_2 i) (i &&& xN_2) hJo_ (hU.get hJl (by decide)) hJa_   (by omega)) (jgo wm_X11_227) yk_X0_add hJo_ rfl rfl ⟨⟨rfl, rfl⟩, by decide, by decide⟩ rfl hl.1 rfl (Nat.le_of_ble_eq_true rfl) dX11_projected_46 ⟨Nat.le_of_ble_eq_true rfl, Nat.le_of_ble_eq_true rfl⟩ (fun v w_ H locs hp hW => ?_)
        obtain ⟨rfl, hU1, hN1⟩ := hp
        have hU := hU.then hU1 (by decide)
        have hO_ := hU1.get hO_ (by decide)
        have hMo_ := hU1.get hMo_ (by decide)
        have hMa_ := hU1.get hMa_ (by decide)
        have hJo_ := hU1.get hJo_ (by decide)
        have hJa_ : w_[25]? = some (ad 25, .inl (cy 1, 16, .inr (.inl (wd (upB (prjS (mdl n sd se nc cs lv) xN_2 i) (i &&& xN_2) true))))) := hN1
        clear hU1 hN1
        refine W.eq (g2 := F0 m 49 ls []) rfl ?_
        have hJa_ : w_[25]? = some (ad 25, .inl (cy 1, 16, .inr (.inl (wd (prjS (mdl n sd se nc cs lv) xN_2 (i + 1)))))) := by
          rw [← prjS_t c_36]; exact hJa_
        refine lv_iinc (v := nI (i + 1)) (lv' := [(3, .int (nI (i + 1))), (0, .ref (ad 0)), (1, .int (nI xN_2)), (2, .ref (ad 20))]) S.1 S.2.1 dX11_projected_49 hl (k := 3) rfl (nI_add _ 1) (by decide) rfl (fun ls hl => ?_)
        refine lv_goto (tgt := 23) S.1 S.2.1 dX11_projected_52 (by decide) ?_
        exact ih23 _ (by omega) (i + 1) rfl (by omega) w_ hU hO_ hMo_ hMa_ hJo_ hJa_ H locs ls hW (lv_sub hl [1, 2, 3, 0] rfl)
  exact L23 _ 0 rfl (Nat.zero_le _) w_ hU hO_ hMo_ hMa_ hJo_ hJa_ H locs ls hW (lv_sub hl [2, 3, 1, 0] rfl)
/-- implied -/
theorem c_X11_implied (l : Launch) (htr : l.stackTraces = false) (D : va_G) (cy : Nat → ClassId) {w : va_W} (ad : Nat → Nat) (n sd se : Nat) (fr : Bool) (nc lv : Nat) (tf : Nat → Option Nat) (cp ca : Nat → Nat) (cs : Nat → CN) (mv : Int32) (MX : Nat → Bool) (v : Int32) (hO : w[0]? = some (ad 0, .inr (10, [.int (nI n), .ref (ad 1), .ref (ad 3), .ref (ad 5), .int (nI sd), .int (nI se), .ref (ad 7), .ref (ad 9), .ref (ad 11), .ref (ad 20), .int (bI fr), .ref (ad 23), .ref (ad 26), .ref (ad 31), .ref (ad 42)]))) (hMo : w[20]? = some (ad 20, .inr (0, [.ref (ad 21), .int mv]))) (hMl : w[21]? = some (ad 21, .inr (6, [.ref (ad 22)]))) (hMa : w[22]? = some (ad 22, .inl (cy 1, 16, .inr (.inl (wd MX))))) (hC : w[9]? = some (ad 9, .inr (4, [.ref (ad 10), .int (nI nc), .int (nI lv)]))) (hT : w[10]? = some (ad 10, .inl (cy 5, 20, .inr (.inr (.inr (.inr tf)))))) (hcon : conOK w nc tf cp ca cs) (hn : n ≤ 10) (hsd : sd < 1024) (hse : se < 1024) (hlv : lv < 2 ^ 20) (hfr : fr = true → mv = nI n ∧ MX = mdl n sd se nc cs lv) : jMx jTexts l yX11_implied (jws yX11_implied cX11_implied 6 (some .char)) (jR 9 1 6) D cy w [.ref (ad 0), .int v] 1 6 (fun vv uu => ∃ (x : Nat), vv = some (.int (nI (impC (anyB (fun d => mdl n sd se nc cs lv d && !d.testBit x) (2 ^ n)) (anyB (fun d => mdl n sd se nc cs lv d && d.testBit x) (2 ^ n))))) ∧ x < n ∧ v = nI x ∧ jU w uu [0, 20, 22] ∧ uu[0]? = some (ad 0, .inr (10, [.int (nI n), .ref (ad 1), .ref (ad 3), .ref (ad 5), .int (nI sd), .int (nI se), .ref (ad 7), .ref (ad 9), .ref (ad 11), .ref (ad 20), .int (bI true), .ref (ad 23), .ref (ad 26), .ref (ad 31), .ref (ad 42)])) ∧ uu[20]? = some (ad 20, .inr (0, [.ref (ad 21), .int (nI n)])) ∧ uu[22]? = some (ad 22, .inl (cy 1, 16, .inr (.inl (wd (mdl n sd se nc cs lv)))))) (fun EE uu => ((EE = "java/lang/IndexOutOfBoundsException" ∧ (vB v n = false))) ∧ w = uu) := by
  have hp2 := two_pow10 hn
  refine jx_of (by decide) rfl (Nat.le_of_ble_eq_true rfl) ?_
  intro p e s m args below meth c A ls Q hQ S hr hK hA H locs hW hl htab hx
  have hl : lv_has ls 6 [(0, .ref (ad 0)), (1, .int v)] := hl
  refine lv_aload_n S.1 S.2.1 dX11_implied_0 rfl (lv_at hl 0 rfl) ?_
  refine lv_iload_n S.1 S.2.1 dX11_implied_1 rfl (lv_at hl 1 rfl) ?_
  refine jx_callq (k := 0) (ci := 10) (q := (RX11, TX11, 15)) (As := [.int v]) (rest := []) S hK hA hW hQ htab hr hx (c_X11_checkVariable l htr D cy ad n sd se fr v hO   (by omega)) (jgo wm_X11_98) yk_X11_checkVariable hO rfl rfl ⟨⟨rfl, rfl⟩, by decide, by decide⟩ rfl hl.1 rfl (Nat.le_of_ble_eq_true rfl) dX11_implied_2 ⟨Nat.le_of_ble_eq_true rfl, Nat.le_of_ble_eq_true rfl⟩ ⟨by decide, by decide⟩ (fun E u h => by obtain ⟨⟨e1, h⟩, e⟩ := h; exact ⟨⟨e1, by first | exact h | exact Or.inl h | exact Or.inr h | exact Or.inr (Or.inl h) | exact Or.inr (Or.inr h) | omega | (simp at h ⊢; omega)⟩, e⟩) (fun v u H locs hp hW => ?_)
  obtain ⟨xN_2, rfl, hp2_0, hp2_1, rfl⟩ := hp
  refine W.eq (g2 := F0 m 5 ls []) rfl ?_
  subst hp2_1
  refine lv_aload_n S.1 S.2.1 dX11_implied_5 rfl (lv_at hl 0 rfl) ?_
  refine j_callV (k := 0) (ci := 10) (q := (RX11, TX11, 15)) (As := []) (rest := []) S hK hA hW (c_X11_freshModels l D cy ad n sd se fr nc lv tf cp ca cs mv MX hO hMo hMl hMa hC hT hcon  (by omega) (by omega) (by omega) (by omega) (by first | omega | exact fun _ => ⟨rfl, rfl⟩)) (jgo wm_X11_199) yk_X11_freshModels hO rfl rfl ⟨⟨rfl, rfl⟩, by decide, by decide⟩ rfl hl.1 rfl (Nat.le_of_ble_eq_true rfl) dX11_implied_6 ⟨Nat.le_of_ble_eq_true rfl, Nat.le_of_ble_eq_true rfl⟩ (fun v w_ H locs hp hW => ?_)
  obtain ⟨rfl, hU1, hN1, hN2, hN3⟩ := hp
  have hU : jU w w_ [0, 20, 22] := jU.mono hU1 (by decide)
  have hO_ : w_[0]? = some (ad 0, .inr (10, [.int (nI n), .ref (ad 1), .ref (ad 3), .ref (ad 5), .int (nI sd), .int (nI se), .ref (ad 7), .ref (ad 9), .ref (ad 11), .ref (ad 20), .int (bI true), .ref (ad 23), .ref (ad 26), .ref (ad 31), .ref (ad 42)])) := hN1
  have hMo_ : w_[20]? = some (ad 20, .inr (0, [.ref (ad 21), .int (nI n)])) := hN2
  have hMa_ : w_[22]? = some (ad 22, .inl (cy 1, 16, .inr (.inl (wd (mdl n sd se nc cs lv))))) := hN3
  clear hU1 hN1 hN2 hN3
  refine W.eq (g2 := F0 m 9 ls [.ref (ad 20)]) rfl ?_
  refine lv_astore_n (lv' := [(2, .ref (ad 20)), (0, .ref (ad 0)), (1, .int (nI xN_2))]) S.1 S.2.1 dX11_implied_9 rfl hl (by decide) rfl (fun ls hl => ?_)
  refine lv_iconst (v := nI 0) S.1 S.2.1 dX11_implied_10 (by decide) ?_
  refine lv_istore_n (lv' := [(3, .int (nI 0)), (2, .ref (ad 20)), (0, .ref (ad 0)), (1, .int (nI xN_2))]) S.1 S.2.1 dX11_implied_11 rfl hl (by decide) rfl (fun ls hl => ?_)
  refine lv_iconst (v := nI 0) S.1 S.2.1 dX11_implied_12 (by decide) ?_
  refine lv_istore (lv' := [(4, .int (nI 0)), (3, .int (nI 0)), (2, .ref (ad 20)), (0, .ref (ad 0)), (1, .int (nI xN_2))]) S.1 S.2.1 dX11_implied_13 hl (by decide) rfl (fun ls hl => ?_)
  refine lv_iconst (v := nI 0) S.1 S.2.1 dX11_implied_15 (by decide) ?_
  refine lv_istore (lv' := [(5, .int (nI 0)), (4, .int (nI 0)), (3, .int (nI 0)), (2, .ref (ad 20)), (0, .ref (ad 0)), (1, .int (nI xN_2))]) S.1 S.2.1 dX11_implied_16 hl (by decide) rfl (fun ls hl => ?_)
  have L18 : ∀ (k : Nat) (i : Nat), 2 ^ n - i = k → (i ≤ 2 ^ n) → ∀ (w_ : va_W), jU w w_ [0, 20, 22] → (w_[0]? = some (ad 0, .inr (10, [.int (nI n), .ref (ad 1), .ref (ad 3), .ref (ad 5), .int (nI sd), .int (nI se), .ref (ad 7), .ref (ad 9), .ref (ad 11), .ref (ad 20), .int (bI true), .ref (ad 23), .ref (ad 26), .ref (ad 31), .ref (ad 42)]))) → (w_[20]? = some (ad 20, .inr (0, [.ref (ad 21), .int (nI n)]))) → (w_[22]? = some (ad 22, .inl (cy 1, 16, .inr (.inl (wd (mdl n sd se nc cs lv)))))) → ∀ (H : Heap) (locs : List Loc) (ls : Array Slot), jW D A s.heap w_ H locs → lv_has ls 6 [(0, .ref (ad 0)), (1, .int (nI xN_2)), (2, .ref (ad 20)), (3, .int (bI (anyB (fun d => mdl n sd se nc cs lv d && !d.testBit xN_2) i))), (4, .int (bI (anyB (fun d => mdl n sd se nc cs lv d && d.testBit xN_2) i))), (5, .int (nI i))] → W p l e (jR 9 1 6) s m args below meth c H locs 1 6 Q (F0 m 18 ls []) := by
    intro k
    induction k using Nat.strongRecOn with
    | ind k ih18 =>
    intro i hk hi w_ hU hO_ hMo_ hMa_ H locs ls hW hl
    subst hk
    refine lv_iload S.1 S.2.1 dX11_implied_18 (lv_at hl 5 rfl) ?_
    refine lv_aload_n S.1 S.2.1 dX11_implied_20 rfl (lv_at hl 0 rfl) ?_
    refine j_callV (k := 0) (ci := 10) (q := (RX11, TX11, 15)) (As := []) (rest := [.int (nI i)]) S hK hA hW (c_X11_countAssignments l D cy ad n sd se true hO_   (by omega)) (jgo wm_X11_221) yk_X11_countAssignments hO_ rfl rfl ⟨⟨rfl, rfl⟩, by decide, by decide⟩ rfl hl.1 rfl (Nat.le_of_ble_eq_true rfl) dX11_implied_21 ⟨Nat.le_of_ble_eq_true rfl, Nat.le_of_ble_eq_true rfl⟩ (fun v u H locs hp hW => ?_)
    obtain ⟨rfl, rfl⟩ := hp
    refine W.eq (g2 := F0 m 24 ls [.int (nI (2 ^ n)), .int (nI i)]) rfl ?_
    refine jn_cmp_ge (tgt := 59) S (by omega) (by omega) dX11_implied_24 (by decide) (fun c_24 => ?_) (fun c_24 => ?_)
    · have ei : i = 2 ^ n := by omega
      subst ei
      refine lv_iload S.1 S.2.1 dX11_implied_59 (lv_at hl 4 rfl) ?_
      refine jb_if_eq (tgt := 76) S dX11_implied_61 (by decide) (fun c_61 => ?_) (fun c_61 => ?_)
      · refine lv_iload_n S.1 S.2.1 dX11_implied_76 rfl (lv_at hl 3 rfl) ?_
        refine jb_if_eq (tgt := 85) S dX11_implied_77 (by decide) (fun c_77 => ?_) (fun c_77 => ?_)
        · refine lv_bipush (v := nI 110) S.1 S.2.1 dX11_implied_85 (by decide) ?_
          subst hQ
          refine vx_ret ?_
          exact j_iret (u := w_) S hr ((pk_charN (by decide)).1) hK hW dX11_implied_87 ⟨by decide, by decide⟩ (⟨xN_2, by first | (rw [c_61, c_65]; rfl) | (rw [c_61, c_77]; rfl), hp2_0, rfl, hU, hO_, hMo_, hMa_⟩)
        · refine lv_bipush (v := nI 102) S.1 S.2.1 dX11_implied_80 (by decide) ?_
          refine lv_goto (tgt := 87) S.1 S.2.1 dX11_implied_82 (by decide) ?_
          subst hQ
          refine vx_ret ?_
          exact j_iret (u := w_) S hr ((pk_charN (by decide)).1) hK hW dX11_implied_87 ⟨by decide, by decide⟩ (⟨xN_2, by first | (rw [c_61, c_65]; rfl) | (rw [c_61, c_77]; rfl), hp2_0, rfl, hU, hO_, hMo_, hMa_⟩)
      · refine lv_iload_n S.1 S.2.1 dX11_implied_64 rfl (lv_at hl 3 rfl) ?_
        refine jb_if_eq (tgt := 73) S dX11_implied_65 (by decide) (fun c_65 => ?_) (fun c_65 => ?_)
        · refine lv_bipush (v := nI 116) S.1 S.2.1 dX11_implied_73 (by decide) ?_
          subst hQ
          refine vx_ret ?_
          exact j_iret (u := w_) S hr ((pk_charN (by decide)).1) hK hW dX11_implied_75 ⟨by decide, by decide⟩ (⟨xN_2, by first | (rw [c_61, c_65]; rfl) | (rw [c_61, c_77]; rfl), hp2_0, rfl, hU, hO_, hMo_, hMa_⟩)
        · refine lv_bipush (v := nI 45) S.1 S.2.1 dX11_implied_68 (by decide) ?_
          refine lv_goto (tgt := 75) S.1 S.2.1 dX11_implied_70 (by decide) ?_
          subst hQ
          refine vx_ret ?_
          exact j_iret (u := w_) S hr ((pk_charN (by decide)).1) hK hW dX11_implied_75 ⟨by decide, by decide⟩ (⟨xN_2, by first | (rw [c_61, c_65]; rfl) | (rw [c_61, c_77]; rfl), hp2_0, rfl, hU, hO_, hMo_, hMa_⟩)
    · refine lv_aload_n S.1 S.2.1 dX11_implied_27 rfl (lv_at hl 2 rfl) ?_
      refine lv_iload S.1 S.2.1 dX11_implied_28 (lv_at hl 5 rfl) ?_
      refine j_callV (k := 20) (ci := 0) (q := (RX0, TX0, 2)) (As := [.int (nI i)]) (rest := []) S hK hA hW (c_X0_has l D cy 20 21 22 (ad 20) (ad 21) (ad 22) (nI n) (mdl n sd se nc cs lv) i hMo_ (hU.get hMl (by decide)) hMa_   (by omega)) (jgo wm_X11_224) yk_X0_has hMo_ rfl rfl ⟨⟨rfl, rfl⟩, by decide, by decide⟩ rfl hl.1 rfl (Nat.le_of_ble_eq_true rfl) dX11_implied_30 ⟨Nat.le_of_ble_eq_true rfl, Nat.le_of_ble_eq_true rfl⟩ (fun v u H locs hp hW => ?_)
      obtain ⟨rfl, rfl⟩ := hp
      refine W.eq (g2 := F0 m 33 ls [.int (bI ((mdl n sd se nc cs lv) i))]) rfl ?_
      refine jb_if_eq (tgt := 53) S dX11_implied_33 (by decide) (fun c_33 => ?_) (fun c_33 => ?_)
      · have ef : anyB (fun d => mdl n sd se nc cs lv d && !d.testBit xN_2) (i + 1) = anyB (fun d => mdl n sd se nc cs lv d && !d.testBit xN_2) i := anyB_s (by rw [c_33]; rfl)
        have et : anyB (fun d => mdl n sd se nc cs lv d && d.testBit xN_2) (i + 1) = anyB (fun d => mdl n sd se nc cs lv d && d.testBit xN_2) i := anyB_s (by rw [c_33]; rfl)
        have hl : lv_has ls 6 [(0, .ref (ad 0)), (1, .int (nI xN_2)), (2, .ref (ad 20)), (3, .int (bI (anyB (fun d => mdl n sd se nc cs lv d && !d.testBit xN_2) (i + 1)))), (4, .int (bI (anyB (fun d => mdl n sd se nc cs lv d && d.testBit xN_2) (i + 1)))), (5, .int (nI i))] := by rw [ef, et]; exact lv_sub hl [0, 1, 2, 3, 4, 5] rfl
        refine lv_iinc (v := nI (i + 1)) (lv' := [(5, .int (nI (i + 1))), (0, .ref (ad 0)), (1, .int (nI xN_2)), (2, .ref (ad 20)), (3, .int (bI (anyB (fun d => mdl n sd se nc cs lv d && !d.testBit xN_2) (i + 1)))), (4, .int (bI (anyB (fun d => mdl n sd se nc cs lv d && d.testBit xN_2) (i + 1))))]) S.1 S.2.1 dX11_implied_53 hl (k := 5) rfl (nI_add _ 1) (by decide) rfl (fun ls hl => ?_)
        refine lv_goto (tgt := 18) S.1 S.2.1 dX11_implied_56 (by decide) ?_
        exact ih18 _ (by omega) (i + 1) rfl (by omega) w_ hU hO_ hMo_ hMa_ H locs ls hW (lv_sub hl [1, 2, 3, 4, 5, 0] rfl)
      · refine lv_iload S.1 S.2.1 dX11_implied_36 (lv_at hl 5 rfl) ?_
        refine lv_iload_n S.1 S.2.1 dX11_implied_38 rfl (lv_at hl 1 rfl) ?_
        refine jn_shr S (by omega) (by omega) dX11_implied_39 ?_
        refine lv_iconst (v := nI 1) S.1 S.2.1 dX11_implied_40 (by decide) ?_
        refine jn_and S dX11_implied_41 ?_
        refine lv_topi_to (y := bI (i.testBit xN_2)) (nI_bit _ _) ?_
        refine jb_if_eq (tgt := 51) S dX11_implied_42 (by decide) (fun c_42 => ?_) (fun c_42 => ?_)
        · refine lv_iconst (v := nI 1) S.1 S.2.1 dX11_implied_51 (by decide) ?_
          refine lv_istore_n (lv' := [(3, .int (nI 1)), (0, .ref (ad 0)), (1, .int (nI xN_2)), (2, .ref (ad 20)), (4, .int (bI (anyB (fun d => mdl n sd se nc cs lv d && d.testBit xN_2) i))), (5, .int (nI i))]) S.1 S.2.1 dX11_implied_52 rfl hl (by decide) rfl (fun ls hl => ?_)
          have ef : anyB (fun d => mdl n sd se nc cs lv d && !d.testBit xN_2) (i + 1) = true := anyB_t (by rw [c_33, c_42]; rfl)
          have et : anyB (fun d => mdl n sd se nc cs lv d && d.testBit xN_2) (i + 1) = anyB (fun d => mdl n sd se nc cs lv d && d.testBit xN_2) i := anyB_s (by rw [c_33, c_42]; rfl)
          have hl : lv_has ls 6 [(0, .ref (ad 0)), (1, .int (nI xN_2)), (2, .ref (ad 20)), (3, .int (bI (anyB (fun d => mdl n sd se nc cs lv d && !d.testBit xN_2) (i + 1)))), (4, .int (bI (anyB (fun d => mdl n sd se nc cs lv d && d.testBit xN_2) (i + 1)))), (5, .int (nI i))] := by rw [ef, et]; exact lv_sub hl [1, 2, 3, 0, 4, 5] rfl
          refine lv_iinc (v := nI (i + 1)) (lv' := [(5, .int (nI (i + 1))), (0, .ref (ad 0)), (1, .int (nI xN_2)), (2, .ref (ad 20)), (3, .int (bI (anyB (fun d => mdl n sd se nc cs lv d && !d.testBit xN_2) (i + 1)))), (4, .int (bI (anyB (fun d => mdl n sd se nc cs lv d && d.testBit xN_2) (i + 1))))]) S.1 S.2.1 dX11_implied_53 hl (k := 5) rfl (nI_add _ 1) (by decide) rfl (fun ls hl => ?_)
          refine lv_goto (tgt := 18) S.1 S.2.1 dX11_implied_56 (by decide) ?_
          exact ih18 _ (by omega) (i + 1) rfl (by omega) w_ hU hO_ hMo_ hMa_ H locs ls hW (lv_sub hl [1, 2, 3, 4, 5, 0] rfl)
        · refine lv_iconst (v := nI 1) S.1 S.2.1 dX11_implied_45 (by decide) ?_
          refine lv_istore (lv' := [(4, .int (nI 1)), (0, .ref (ad 0)), (1, .int (nI xN_2)), (2, .ref (ad 20)), (3, .int (bI (anyB (fun d => mdl n sd se nc cs lv d && !d.testBit xN_2) i))), (5, .int (nI i))]) S.1 S.2.1 dX11_implied_46 hl (by decide) rfl (fun ls hl => ?_)
          refine lv_goto (tgt := 53) S.1 S.2.1 dX11_implied_48 (by decide) ?_
          have ef : anyB (fun d => mdl n sd se nc cs lv d && !d.testBit xN_2) (i + 1) = anyB (fun d => mdl n sd se nc cs lv d && !d.testBit xN_2) i := anyB_s (by rw [c_33, c_42]; rfl)
          have et : anyB (fun d => mdl n sd se nc cs lv d && d.testBit xN_2) (i + 1) = true := anyB_t (by rw [c_33, c_42]; rfl)
          have hl : lv_has ls 6 [(0, .ref (ad 0)), (1, .int (nI xN_2)), (2, .ref (ad 20)), (3, .int (bI (anyB (fun d => mdl n sd se nc cs lv d && !d.testBit xN_2) (i + 1)))), (4, .int (bI (anyB (fun d => mdl n sd se nc cs lv d && d.testBit xN_2) (i + 1)))), (5, .int (nI i))] := by rw [ef, et]; exact lv_sub hl [1, 2, 3, 4, 0, 5] rfl
          refine lv_iinc (v := nI (i + 1)) (lv' := [(5, .int (nI (i + 1))), (0, .ref (ad 0)), (1, .int (nI xN_2)), (2, .ref (ad 20)), (3, .int (bI (anyB (fun d => mdl n sd se nc cs lv d && !d.testBit xN_2) (i + 1)))), (4, .int (bI (anyB (fun d => mdl n sd se nc cs lv d && d.testBit xN_2) (i + 1))))]) S.1 S.2.1 dX11_implied_53 hl (k := 5) rfl (nI_add _ 1) (by decide) rfl (fun ls hl => ?_)
          refine lv_goto (tgt := 18) S.1 S.2.1 dX11_implied_56 (by decide) ?_
          exact ih18 _ (by omega) (i + 1) rfl (by omega) w_ hU hO_ hMo_ hMa_ H locs ls hW (lv_sub hl [1, 2, 3, 4, 5, 0] rfl)
  exact L18 _ 0 rfl (Nat.zero_le _) w_ hU hO_ hMo_ hMa_ H locs ls hW (lv_sub hl [4, 5, 3, 2, 1, 0] rfl)
/-- parts -/
theorem c_X11_parts (l : Launch) (D : va_G) (cy : Nat → ClassId) {w : va_W} (ad : Nat → Nat) (n sd se : Nat) (fr : Bool) (nc lv : Nat) (tf : Nat → Option Nat) (cp ca : Nat → Nat) (cs : Nat → CN) (hO : w[0]? = some (ad 0, .inr (10, [.int (nI n), .ref (ad 1), .ref (ad 3), .ref (ad 5), .int (nI sd), .int (nI se), .ref (ad 7), .ref (ad 9), .ref (ad 11), .ref (ad 20), .int (bI fr), .ref (ad 23), .ref (ad 26), .ref (ad 31), .ref (ad 42)]))) (hC : w[9]? = some (ad 9, .inr (4, [.ref (ad 10), .int (nI nc), .int (nI lv)]))) (hT : w[10]? = some (ad 10, .inl (cy 5, 20, .inr (.inr (.inr (.inr tf)))))) (hcon : conOK w nc tf cp ca cs) (hn : n ≤ 10) (hsd : sd < 1024) (hse : se < 1024) (hlv : lv < 2 ^ 20) : jM l yX11_parts (jws yX11_parts cX11_parts 5 (some .int)) (jR 5 0 0) D cy w [.ref (ad 0)] 0 0 (fun vv uu => vv = some (.int (nI ((prtN nc cs lv (nAnd (2 ^ n - 1) sd) n).1))) ∧ w = uu) := by
  have hop : nAnd (2 ^ n - 1) sd < 1024 := by have := two_pow10 hn; exact nAnd_lt (n := 10) (by omega)
  have hm20 := hcon.1
  refine j_of (by decide) rfl (Nat.le_of_ble_eq_true rfl) ?_
  intro p e s m args below meth c A ls Q hQ S hr hK hA H locs hW hl
  have hl : lv_has ls 5 [(0, .ref (ad 0))] := hl
  refine lv_aload_n S.1 S.2.1 dX11_parts_0 rfl (lv_at hl 0 rfl) ?_
  refine j_callV (k := 0) (ci := 10) (q := (RX11, TX11, 15)) (As := []) (rest := []) S hK hA hW (c_X11_openVariables l D cy ad n sd se fr hO   (by omega)) (jgo wm_X11_182) yk_X11_openVariables hO rfl rfl ⟨⟨rfl, rfl⟩, by decide, by decide⟩ rfl hl.1 rfl (Nat.le_of_ble_eq_true rfl) dX11_parts_1 ⟨Nat.le_of_ble_eq_true rfl, Nat.le_of_ble_eq_true rfl⟩ (fun v u H locs hp hW => ?_)
  obtain ⟨rfl, rfl⟩ := hp
  refine W.eq (g2 := F0 m 4 ls [.int (nI (nAnd (2 ^ n - 1) sd))]) rfl ?_
  refine lv_istore_n (lv' := [(1, .int (nI (nAnd (2 ^ n - 1) sd))), (0, .ref (ad 0))]) S.1 S.2.1 dX11_parts_4 rfl hl (by decide) rfl (fun ls hl => ?_)
  refine lv_iconst (v := nI 0) S.1 S.2.1 dX11_parts_5 (by decide) ?_
  refine lv_istore_n (lv' := [(2, .int (nI 0)), (1, .int (nI (nAnd (2 ^ n - 1) sd))), (0, .ref (ad 0))]) S.1 S.2.1 dX11_parts_6 rfl hl (by decide) rfl (fun ls hl => ?_)
  refine lv_iconst (v := nI 0) S.1 S.2.1 dX11_parts_7 (by decide) ?_
  refine lv_istore_n (lv' := [(3, .int (nI 0)), (2, .int (nI 0)), (1, .int (nI (nAnd (2 ^ n - 1) sd))), (0, .ref (ad 0))]) S.1 S.2.1 dX11_parts_8 rfl hl (by decide) rfl (fun ls hl => ?_)
  refine lv_iconst (v := nI 0) S.1 S.2.1 dX11_parts_9 (by decide) ?_
  refine lv_istore (lv' := [(4, .int (nI 0)), (3, .int (nI 0)), (2, .int (nI 0)), (1, .int (nI (nAnd (2 ^ n - 1) sd))), (0, .ref (ad 0))]) S.1 S.2.1 dX11_parts_10 hl (by decide) rfl (fun ls hl => ?_)
  have L12 : ∀ (k : Nat) (i : Nat), n - i = k → (i ≤ n) → ∀ (H : Heap) (locs : List Loc) (ls : Array Slot), jW D A s.heap w H locs → lv_has ls 5 [(0, .ref (ad 0)), (1, .int (nI (nAnd (2 ^ n - 1) sd))), (2, .int (nI ((prtN nc cs lv (nAnd (2 ^ n - 1) sd) i).1))), (3, .int (nI ((prtN nc cs lv (nAnd (2 ^ n - 1) sd) i).2))), (4, .int (nI i))] → W p l e (jR 5 0 0) s m args below meth c H locs 0 0 Q (F0 m 12 ls []) := by
    intro k
    induction k using Nat.strongRecOn with
    | ind k ih12 =>
    intro i hk hi H locs ls hW hl
    subst hk
    refine lv_iload S.1 S.2.1 dX11_parts_12 (lv_at hl 4 rfl) ?_
    refine lv_aload_n S.1 S.2.1 dX11_parts_14 rfl (lv_at hl 0 rfl) ?_
    refine j_get (ci := 10) (C := RX11) (T := TX11) (N := 15) (v := .int (nI n)) S (fun w h => List.mem_cons_of_mem _ (inG11 w h)) hK hW hO rfl 0 (by decide) (List.mem_cons_of_mem _ wfl_X11_77) (fun _ h9 => h9) rfl dX11_parts_15 ?_
    refine jn_cmp_ge (tgt := 52) S (by omega) (by omega) dX11_parts_18 (by decide) (fun c_18 => ?_) (fun c_18 => ?_)
    · refine lv_iload_n S.1 S.2.1 dX11_parts_52 rfl (lv_at hl 2 rfl) ?_
      subst hQ
      refine j_iret (u := w) S hr (rfl) hK hW dX11_parts_53 ⟨by decide, by decide⟩ ?_
      have ei : i = n := by omega
      exact ⟨by rw [ei], rfl⟩
    · refine lv_iload_n S.1 S.2.1 dX11_parts_21 rfl (lv_at hl 1 rfl) ?_
      refine lv_iload_n S.1 S.2.1 dX11_parts_22 rfl (lv_at hl 3 rfl) ?_
      refine lv_iconst (v := (-1)) S.1 S.2.1 dX11_parts_23 (by decide) ?_
      refine lv_ixor S.1 S.2.1 dX11_parts_24 ?_
      refine jn_andn S dX11_parts_25 ?_
      refine lv_iconst (v := nI 1) S.1 S.2.1 dX11_parts_26 (by decide) ?_
      refine lv_iload S.1 S.2.1 dX11_parts_27 (lv_at hl 4 rfl) ?_
      refine jn_shl1 S (by omega) dX11_parts_29 ?_
      refine jn_and S dX11_parts_30 ?_
      have h31 : nAnd (nAnd (2 ^ n - 1) sd) (prtN nc cs lv (nAnd (2 ^ n - 1) sd) i).2 &&& 2 ^ i < 2 ^ 32 := Nat.lt_of_le_of_lt Nat.and_le_left (by have := nAnd_le (nAnd (2 ^ n - 1) sd) (prtN nc cs lv (nAnd (2 ^ n - 1) sd) i).2; omega)
      refine jn_if_eq (tgt := 46) S (by omega) dX11_parts_31 (by decide) (fun c_31 => ?_) (fun c_31 => ?_)
      · have e0 := prtN_f (nc := nc) (cs := cs) (lv := lv) (op := nAnd (2 ^ n - 1) sd) (k := i) ((and_pow0 _ _).mp c_31)
        have hl : lv_has ls 5 [(0, .ref (ad 0)), (1, .int (nI (nAnd (2 ^ n - 1) sd))), (2, .int (nI ((prtN nc cs lv (nAnd (2 ^ n - 1) sd) (i + 1)).1))), (3, .int (nI ((prtN nc cs lv (nAnd (2 ^ n - 1) sd) (i + 1)).2))), (4, .int (nI i))] := by rw [e0]; exact lv_sub hl [0, 1, 2, 3, 4] rfl
        refine lv_iinc (v := nI (i + 1)) (lv' := [(4, .int (nI (i + 1))), (0, .ref (ad 0)), (1, .int (nI (nAnd (2 ^ n - 1) sd))), (2, .int (nI ((prtN nc cs lv (nAnd (2 ^ n - 1) sd) (i + 1)).1))), (3, .int (nI ((prtN nc cs lv (nAnd (2 ^ n - 1) sd) (i + 1)).2)))]) S.1 S.2.1 dX11_parts_46 hl (k := 4) rfl (nI_add _ 1) (by decide) rfl (fun ls hl => ?_)
        refine lv_goto (tgt := 12) S.1 S.2.1 dX11_parts_49 (by decide) ?_
        exact ih12 _ (by omega) (i + 1) rfl (by omega) H locs ls hW (lv_sub hl [1, 2, 3, 4, 0] rfl)
      · refine lv_iinc (v := nI ((prtN nc cs lv (nAnd (2 ^ n - 1) sd) i).1 + 1)) (lv' := [(2, .int (nI ((prtN nc cs lv (nAnd (2 ^ n - 1) sd) i).1 + 1))), (0, .ref (ad 0)), (1, .int (nI (nAnd (2 ^ n - 1) sd))), (3, .int (nI ((prtN nc cs lv (nAnd (2 ^ n - 1) sd) i).2))), (4, .int (nI i))]) S.1 S.2.1 dX11_parts_34 hl (k := 2) rfl (nI_add _ 1) (by decide) rfl (fun ls hl => ?_)
        refine lv_iload_n S.1 S.2.1 dX11_parts_37 rfl (lv_at hl 3 rfl) ?_
        refine lv_aload_n S.1 S.2.1 dX11_parts_38 rfl (lv_at hl 1 rfl) ?_
        refine lv_iload S.1 S.2.1 dX11_parts_39 (lv_at hl 4 rfl) ?_
        refine j_callV (k := 0) (ci := 10) (q := (RX11, TX11, 15)) (As := [.int (nI i)]) (rest := [.int (nI ((prtN nc cs lv (nAnd (2 ^ n - 1) sd) i).2))]) S hK hA hW (c_X11_partWith l D cy ad n sd se fr nc lv tf cp ca cs i hO hC hT hcon  (by omega) (by omega) (by omega) (by omega) (by omega)) (jgo wm_X11_192) yk_X11_partWith hO rfl rfl ⟨⟨rfl, rfl⟩, by decide, by decide⟩ rfl hl.1 rfl (Nat.le_of_ble_eq_true rfl) dX11_parts_41 ⟨Nat.le_of_ble_eq_true rfl, Nat.le_of_ble_eq_true rfl⟩ (fun v u H locs hp hW => ?_)
        obtain ⟨rfl, rfl⟩ := hp
        refine W.eq (g2 := F0 m 44 ls [.int (nI (itP nc cs lv (nAnd (2 ^ n - 1) sd) i 10)), .int (nI ((prtN nc cs lv (nAnd (2 ^ n - 1) sd) i).2))]) rfl ?_
        refine jn_or S dX11_parts_44 ?_
        refine lv_istore_n (lv' := [(3, .int (nI (((prtN nc cs lv (nAnd (2 ^ n - 1) sd) i).2) ||| (itP nc cs lv (nAnd (2 ^ n - 1) sd) i 10)))), (2, .int (nI ((prtN nc cs lv (nAnd (2 ^ n - 1) sd) i).1 + 1))), (0, .ref (ad 0)), (1, .int (nI (nAnd (2 ^ n - 1) sd))), (4, .int (nI i))]) S.1 S.2.1 dX11_parts_45 rfl hl (by decide) rfl (fun ls hl => ?_)
        have e0 := prtN_t (nc := nc) (cs := cs) (lv := lv) (op := nAnd (2 ^ n - 1) sd) (k := i) (and_pow_t c_31)
        have hl : lv_has ls 5 [(0, .ref (ad 0)), (1, .int (nI (nAnd (2 ^ n - 1) sd))), (2, .int (nI ((prtN nc cs lv (nAnd (2 ^ n - 1) sd) (i + 1)).1))), (3, .int (nI ((prtN nc cs lv (nAnd (2 ^ n - 1) sd) (i + 1)).2))), (4, .int (nI i))] := by rw [e0]; exact lv_sub hl [2, 3, 1, 0, 4] rfl
        refine lv_iinc (v := nI (i + 1)) (lv' := [(4, .int (nI (i + 1))), (0, .ref (ad 0)), (1, .int (nI (nAnd (2 ^ n - 1) sd))), (2, .int (nI ((prtN nc cs lv (nAnd (2 ^ n - 1) sd) (i + 1)).1))), (3, .int (nI ((prtN nc cs lv (nAnd (2 ^ n - 1) sd) (i + 1)).2)))]) S.1 S.2.1 dX11_parts_46 hl (k := 4) rfl (nI_add _ 1) (by decide) rfl (fun ls hl => ?_)
        refine lv_goto (tgt := 12) S.1 S.2.1 dX11_parts_49 (by decide) ?_
        exact ih12 _ (by omega) (i + 1) rfl (by omega) H locs ls hW (lv_sub hl [1, 2, 3, 4, 0] rfl)
  exact L12 _ 0 rfl (Nat.zero_le _) H locs ls hW (lv_sub hl [4, 3, 2, 1, 0] rfl)
/-- partOf -/
theorem c_X11_partOf (l : Launch) (htr : l.stackTraces = false) (D : va_G) (cy : Nat → ClassId) {w : va_W} (ad : Nat → Nat) (n sd se : Nat) (fr : Bool) (nc lv : Nat) (tf : Nat → Option Nat) (cp ca : Nat → Nat) (cs : Nat → CN) (v : Int32) (hO : w[0]? = some (ad 0, .inr (10, [.int (nI n), .ref (ad 1), .ref (ad 3), .ref (ad 5), .int (nI sd), .int (nI se), .ref (ad 7), .ref (ad 9), .ref (ad 11), .ref (ad 20), .int (bI fr), .ref (ad 23), .ref (ad 26), .ref (ad 31), .ref (ad 42)]))) (hC : w[9]? = some (ad 9, .inr (4, [.ref (ad 10), .int (nI nc), .int (nI lv)]))) (hT : w[10]? = some (ad 10, .inl (cy 5, 20, .inr (.inr (.inr (.inr tf)))))) (hcon : conOK w nc tf cp ca cs) (hn : n ≤ 10) (hsd : sd < 1024) (hse : se < 1024) (hlv : lv < 2 ^ 20) : jMx jTexts l yX11_partOf (jws yX11_partOf cX11_partOf 2 (some .int)) (jR 10 2 12) D cy w [.ref (ad 0), .int v] 2 12 (fun vv uu => ∃ (x : Nat), vv = some (.int (nI (lowN (itP nc cs lv (nAnd (2 ^ n - 1) sd) x 10) n))) ∧ x < n ∧ v = nI x ∧ sd.testBit x = false ∧ w = uu) (fun EE uu => ((EE = "java/lang/IndexOutOfBoundsException" ∧ (vB v n = false)) ∨ (EE = "java/util/NoSuchElementException" ∧ ((∃ x, x < n ∧ v = nI x ∧ sd.testBit x = true)))) ∧ w = uu) := by
  have hop : nAnd (2 ^ n - 1) sd < 1024 := by have := two_pow10 hn; exact nAnd_lt (n := 10) (by omega)
  refine jx_of (by decide) rfl (Nat.le_of_ble_eq_true rfl) ?_
  intro p e s m args below meth c A ls Q hQ S hr hK hA H locs hW hl htab hx
  have hl : lv_has ls 2 [(0, .ref (ad 0)), (1, .int v)] := hl
  refine lv_aload_n S.1 S.2.1 dX11_partOf_0 rfl (lv_at hl 0 rfl) ?_
  refine lv_iload_n S.1 S.2.1 dX11_partOf_1 rfl (lv_at hl 1 rfl) ?_
  refine jx_callq (k := 0) (ci := 10) (q := (RX11, TX11, 15)) (As := [.int v]) (rest := []) S hK hA hW hQ htab hr hx (c_X11_checkVariable l htr D cy ad n sd se fr v hO   (by omega)) (jgo wm_X11_98) yk_X11_checkVariable hO rfl rfl ⟨⟨rfl, rfl⟩, by decide, by decide⟩ rfl hl.1 rfl (Nat.le_of_ble_eq_true rfl) dX11_partOf_2 ⟨Nat.le_of_ble_eq_true rfl, Nat.le_of_ble_eq_true rfl⟩ ⟨by decide, by decide⟩ (fun E u h => by obtain ⟨⟨e1, h⟩, e⟩ := h; exact ⟨Or.inl ⟨e1, by first | exact h | exact Or.inl h | exact Or.inr h | exact Or.inr (Or.inl h) | exact Or.inr (Or.inr h) | omega | (simp at h ⊢; omega)⟩, e⟩) (fun v u H locs hp hW => ?_)
  obtain ⟨xN_2, rfl, hp2_0, hp2_1, rfl⟩ := hp
  refine W.eq (g2 := F0 m 5 ls []) rfl ?_
  subst hp2_1
  refine lv_aload_n S.1 S.2.1 dX11_partOf_5 rfl (lv_at hl 0 rfl) ?_
  refine lv_iload_n S.1 S.2.1 dX11_partOf_6 rfl (lv_at hl 1 rfl) ?_
  refine jx_callq (k := 0) (ci := 10) (q := (RX11, TX11, 15)) (As := [.int (nI xN_2)]) (rest := []) S hK hA hW hQ htab hr hx (c_X11_checkOpen l htr D cy ad n sd se fr xN_2 hO   (by omega) (by omega) (by omega)) (jgo wm_X11_230) yk_X11_checkOpen hO rfl rfl ⟨⟨rfl, rfl⟩, by decide, by decide⟩ rfl hl.1 rfl (Nat.le_of_ble_eq_true rfl) dX11_partOf_7 ⟨Nat.le_of_ble_eq_true rfl, Nat.le_of_ble_eq_true rfl⟩ ⟨by decide, by decide⟩ (fun E u h => by obtain ⟨⟨e1, h⟩, e⟩ := h; exact ⟨Or.inr (⟨e1, ⟨xN_2, hp2_0, rfl, h⟩⟩), e⟩) (fun v u H locs hp hW => ?_)
  obtain ⟨rfl, hp7_0, rfl⟩ := hp
  refine W.eq (g2 := F0 m 10 ls []) rfl ?_
  refine lv_aload_n S.1 S.2.1 dX11_partOf_10 rfl (lv_at hl 0 rfl) ?_
  refine lv_aload_n S.1 S.2.1 dX11_partOf_11 rfl (lv_at hl 0 rfl) ?_
  refine lv_iload_n S.1 S.2.1 dX11_partOf_12 rfl (lv_at hl 1 rfl) ?_
  refine j_callV (k := 0) (ci := 10) (q := (RX11, TX11, 15)) (As := [.int (nI xN_2)]) (rest := [.ref (ad 0)]) S hK hA hW (c_X11_partWith l D cy ad n sd se fr nc lv tf cp ca cs xN_2 hO hC hT hcon  (by omega) (by omega) (by omega) (by omega) (by omega)) (jgo wm_X11_192) yk_X11_partWith hO rfl rfl ⟨⟨rfl, rfl⟩, by decide, by decide⟩ rfl hl.1 rfl (Nat.le_of_ble_eq_true rfl) dX11_partOf_13 ⟨Nat.le_of_ble_eq_true rfl, Nat.le_of_ble_eq_true rfl⟩ (fun v u H locs hp hW => ?_)
  obtain ⟨rfl, rfl⟩ := hp
  refine W.eq (g2 := F0 m 16 ls [.int (nI (itP nc cs lv (nAnd (2 ^ n - 1) sd) xN_2 10)), .ref (ad 0)]) rfl ?_
  refine j_callV (k := 0) (ci := 10) (q := (RX11, TX11, 15)) (As := [.int (nI (itP nc cs lv (nAnd (2 ^ n - 1) sd) xN_2 10))]) (rest := []) S hK hA hW (c_X11_lowestOf l D cy ad n sd se fr (itP nc cs lv (nAnd (2 ^ n - 1) sd) xN_2 10) hO   (by omega) (itP_lt hop (by omega) 10)) (jgo wm_X11_233) yk_X11_lowestOf hO rfl rfl ⟨⟨rfl, rfl⟩, by decide, by decide⟩ rfl hl.1 rfl (Nat.le_of_ble_eq_true rfl) dX11_partOf_16 ⟨Nat.le_of_ble_eq_true rfl, Nat.le_of_ble_eq_true rfl⟩ (fun v u H locs hp hW => ?_)
  obtain ⟨rfl, rfl⟩ := hp
  refine W.eq (g2 := F0 m 19 ls [.int (nI (lowN (itP nc cs lv (nAnd (2 ^ n - 1) sd) xN_2 10) n))]) rfl ?_
  subst hQ
  refine vx_ret ?_
  exact j_iret (u := w) S hr (rfl) hK hW dX11_partOf_19 ⟨by decide, by decide⟩ (⟨xN_2, rfl, hp2_0, rfl, hp7_0, rfl⟩)
/-- modelsOfPart -/
theorem c_X11_modelsOfPart (l : Launch) (htr : l.stackTraces = false) (D : va_G) (cy : Nat → ClassId) {w : va_W} (ad : Nat → Nat) (n sd se : Nat) (fr : Bool) (nc lv : Nat) (tf : Nat → Option Nat) (cp ca : Nat → Nat) (cs : Nat → CN) (ps pk pv pn : Nat → Nat) (v : Int32) (hO : w[0]? = some (ad 0, .inr (10, [.int (nI n), .ref (ad 1), .ref (ad 3), .ref (ad 5), .int (nI sd), .int (nI se), .ref (ad 7), .ref (ad 9), .ref (ad 11), .ref (ad 20), .int (bI fr), .ref (ad 23), .ref (ad 26), .ref (ad 31), .ref (ad 42)]))) (hC : w[9]? = some (ad 9, .inr (4, [.ref (ad 10), .int (nI nc), .int (nI lv)]))) (hT : w[10]? = some (ad 10, .inl (cy 5, 20, .inr (.inr (.inr (.inr tf)))))) (hP : w[11]? = some (ad 11, .inr (8, [.ref (ad 12), .ref (ad 14), .ref (ad 16), .ref (ad 18)]))) (hP1o : w[12]? = some (ad 12, .inr (5, [.ref (ad 13)]))) (hP1a : w[13]? = some (ad 13, .inl (cy 0, 10, .inl (nf ps)))) (hP2o : w[14]? = some (ad 14, .inr (5, [.ref (ad 15)]))) (hP2a : w[15]? = some (ad 15, .inl (cy 0, 10, .inl (nf pk)))) (hP3o : w[16]? = some (ad 16, .inr (5, [.ref (ad 17)]))) (hP3a : w[17]? = some (ad 17, .inl (cy 0, 10, .inl (nf pv)))) (hP4o : w[18]? = some (ad 18, .inr (6, [.ref (ad 19)]))) (hP4a : w[19]? = some (ad 19, .inl (cy 1, 10, .inr (.inl (lf pn))))) (hcon : conOK w nc tf cp ca cs) (hn : n ≤ 10) (hsd : sd < 1024) (hse : se < 1024) (hlv : lv < 2 ^ 20) (hpm : pmI nc cs ps pk pv pn) : jMx jTexts l yX11_modelsOfPart (jws yX11_modelsOfPart cX11_modelsOfPart 2 (some .long)) (jR 10 2 12) D cy w [.ref (ad 0), .int v] 2 12 (fun vv uu => ∃ (ps1 : Nat → Nat), ∃ (pk1 : Nat → Nat), ∃ (pv1 : Nat → Nat), ∃ (pn1 : Nat → Nat), ∃ (x : Nat), vv = some (.long (lN (cntP nc cs lv se (itP nc cs lv (nAnd (2 ^ n - 1) sd) x 10)))) ∧ x < n ∧ v = nI x ∧ sd.testBit x = false ∧ pmI nc cs ps1 pk1 pv1 pn1 ∧ jU w uu [13, 15, 17, 19] ∧ uu[13]? = some (ad 13, .inl (cy 0, 10, .inl (nf ps1))) ∧ uu[15]? = some (ad 15, .inl (cy 0, 10, .inl (nf pk1))) ∧ uu[17]? = some (ad 17, .inl (cy 0, 10, .inl (nf pv1))) ∧ uu[19]? = some (ad 19, .inl (cy 1, 10, .inr (.inl (lf pn1))))) (fun EE uu => ((EE = "java/lang/IndexOutOfBoundsException" ∧ (vB v n = false)) ∨ (EE = "java/util/NoSuchElementException" ∧ ((∃ x, x < n ∧ v = nI x ∧ sd.testBit x = true)))) ∧ w = uu) := by
  have hop : nAnd (2 ^ n - 1) sd < 1024 := by have := two_pow10 hn; exact nAnd_lt (n := 10) (by omega)
  refine jx_of (by decide) rfl (Nat.le_of_ble_eq_true rfl) ?_
  intro p e s m args below meth c A ls Q hQ S hr hK hA H locs hW hl htab hx
  have hl : lv_has ls 2 [(0, .ref (ad 0)), (1, .int v)] := hl
  refine lv_aload_n S.1 S.2.1 dX11_modelsOfPart_0 rfl (lv_at hl 0 rfl) ?_
  refine lv_iload_n S.1 S.2.1 dX11_modelsOfPart_1 rfl (lv_at hl 1 rfl) ?_
  refine jx_callq (k := 0) (ci := 10) (q := (RX11, TX11, 15)) (As := [.int v]) (rest := []) S hK hA hW hQ htab hr hx (c_X11_checkVariable l htr D cy ad n sd se fr v hO   (by omega)) (jgo wm_X11_98) yk_X11_checkVariable hO rfl rfl ⟨⟨rfl, rfl⟩, by decide, by decide⟩ rfl hl.1 rfl (Nat.le_of_ble_eq_true rfl) dX11_modelsOfPart_2 ⟨Nat.le_of_ble_eq_true rfl, Nat.le_of_ble_eq_true rfl⟩ ⟨by decide, by decide⟩ (fun E u h => by obtain ⟨⟨e1, h⟩, e⟩ := h; exact ⟨Or.inl ⟨e1, by first | exact h | exact Or.inl h | exact Or.inr h | exact Or.inr (Or.inl h) | exact Or.inr (Or.inr h) | omega | (simp at h ⊢; omega)⟩, e⟩) (fun v u H locs hp hW => ?_)
  obtain ⟨xN_2, rfl, hp2_0, hp2_1, rfl⟩ := hp
  refine W.eq (g2 := F0 m 5 ls []) rfl ?_
  subst hp2_1
  refine lv_aload_n S.1 S.2.1 dX11_modelsOfPart_5 rfl (lv_at hl 0 rfl) ?_
  refine lv_iload_n S.1 S.2.1 dX11_modelsOfPart_6 rfl (lv_at hl 1 rfl) ?_
  refine jx_callq (k := 0) (ci := 10) (q := (RX11, TX11, 15)) (As := [.int (nI xN_2)]) (rest := []) S hK hA hW hQ htab hr hx (c_X11_checkOpen l htr D cy ad n sd se fr xN_2 hO   (by omega) (by omega) (by omega)) (jgo wm_X11_230) yk_X11_checkOpen hO rfl rfl ⟨⟨rfl, rfl⟩, by decide, by decide⟩ rfl hl.1 rfl (Nat.le_of_ble_eq_true rfl) dX11_modelsOfPart_7 ⟨Nat.le_of_ble_eq_true rfl, Nat.le_of_ble_eq_true rfl⟩ ⟨by decide, by decide⟩ (fun E u h => by obtain ⟨⟨e1, h⟩, e⟩ := h; exact ⟨Or.inr (⟨e1, ⟨xN_2, hp2_0, rfl, h⟩⟩), e⟩) (fun v u H locs hp hW => ?_)
  obtain ⟨rfl, hp7_0, rfl⟩ := hp
  refine W.eq (g2 := F0 m 10 ls []) rfl ?_
  refine lv_aload_n S.1 S.2.1 dX11_modelsOfPart_10 rfl (lv_at hl 0 rfl) ?_
  refine lv_aload_n S.1 S.2.1 dX11_modelsOfPart_11 rfl (lv_at hl 0 rfl) ?_
  refine lv_iload_n S.1 S.2.1 dX11_modelsOfPart_12 rfl (lv_at hl 1 rfl) ?_
  refine j_callV (k := 0) (ci := 10) (q := (RX11, TX11, 15)) (As := [.int (nI xN_2)]) (rest := [.ref (ad 0)]) S hK hA hW (c_X11_partWith l D cy ad n sd se fr nc lv tf cp ca cs xN_2 hO hC hT hcon  (by omega) (by omega) (by omega) (by omega) (by omega)) (jgo wm_X11_192) yk_X11_partWith hO rfl rfl ⟨⟨rfl, rfl⟩, by decide, by decide⟩ rfl hl.1 rfl (Nat.le_of_ble_eq_true rfl) dX11_modelsOfPart_13 ⟨Nat.le_of_ble_eq_true rfl, Nat.le_of_ble_eq_true rfl⟩ (fun v u H locs hp hW => ?_)
  obtain ⟨rfl, rfl⟩ := hp
  refine W.eq (g2 := F0 m 16 ls [.int (nI (itP nc cs lv (nAnd (2 ^ n - 1) sd) xN_2 10)), .ref (ad 0)]) rfl ?_
  refine j_callV (k := 0) (ci := 10) (q := (RX11, TX11, 15)) (As := [.int (nI (itP nc cs lv (nAnd (2 ^ n - 1) sd) xN_2 10))]) (rest := []) S hK hA hW (c_X11_countPart l D cy ad n sd se fr nc lv tf cp ca cs ps pk pv pn (itP nc cs lv (nAnd (2 ^ n - 1) sd) xN_2 10) hO hC hT hP hP1o hP1a hP2o hP2a hP3o hP3a hP4o hP4a hcon  (by omega) (by omega) (by omega) (by omega) (itP_lt hop (by omega) 10) (⟨xN_2, hp2_0, itP_ne0⟩) (hpm)) (jgo wm_X11_195) yk_X11_countPart hO rfl rfl ⟨⟨rfl, rfl⟩, by decide, by decide⟩ rfl hl.1 rfl (Nat.le_of_ble_eq_true rfl) dX11_modelsOfPart_16 ⟨Nat.le_of_ble_eq_true rfl, Nat.le_of_ble_eq_true rfl⟩ (fun v w_ H locs hp hW => ?_)
  obtain ⟨ps1_16, pk1_16, pv1_16, pn1_16, rfl, hp16_0, hU1, hN1, hN2, hN3, hN4⟩ := hp
  have hU : jU w w_ [13, 15, 17, 19] := jU.mono hU1 (by decide)
  have hP1a_ : w_[13]? = some (ad 13, .inl (cy 0, 10, .inl (nf ps1_16))) := hN1
  have hP2a_ : w_[15]? = some (ad 15, .inl (cy 0, 10, .inl (nf pk1_16))) := hN2
  have hP3a_ : w_[17]? = some (ad 17, .inl (cy 0, 10, .inl (nf pv1_16))) := hN3
  have hP4a_ : w_[19]? = some (ad 19, .inl (cy 1, 10, .inr (.inl (lf pn1_16)))) := hN4
  clear hU1 hN1 hN2 hN3 hN4
  refine W.eq (g2 := F0 m 19 ls [.long (lN (cntP nc cs lv se (itP nc cs lv (nAnd (2 ^ n - 1) sd) xN_2 10)))]) rfl ?_
  subst hQ
  refine vx_ret ?_
  exact j_lret (u := w_) S hr hK hW dX11_modelsOfPart_19 ⟨by decide, by decide⟩ (⟨_, _, _, _, xN_2, rfl, hp2_0, rfl, hp7_0, hp16_0, hU, hP1a_, hP2a_, hP3a_, hP4a_⟩)
