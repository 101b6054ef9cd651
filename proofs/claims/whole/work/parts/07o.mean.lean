/-! COUNTFALL: density, meanTrue (laid by wip/whole/tools, from the specs there) -/
/-- density -/
theorem c_X11_density (l : Launch) (D : va_G) (cy : Nat → ClassId) {w : va_W} (ad : Nat → Nat) (n sd se : Nat) (fr : Bool) (nc lv : Nat) (tf : Nat → Option Nat) (cp ca : Nat → Nat) (cs : Nat → CN) (mv : Int32) (MX : Nat → Bool) (hO : w[0]? = some (ad 0, .inr (10, [.int (nI n), .ref (ad 1), .ref (ad 3), .ref (ad 5), .int (nI sd), .int (nI se), .ref (ad 7), .ref (ad 9), .ref (ad 11), .ref (ad 20), .int (bI fr), .ref (ad 23), .ref (ad 26), .ref (ad 31), .ref (ad 42)]))) (hMo : w[20]? = some (ad 20, .inr (0, [.ref (ad 21), .int mv]))) (hMl : w[21]? = some (ad 21, .inr (6, [.ref (ad 22)]))) (hMa : w[22]? = some (ad 22, .inl (cy 1, 16, .inr (.inl (wd MX))))) (hC : w[9]? = some (ad 9, .inr (4, [.ref (ad 10), .int (nI nc), .int (nI lv)]))) (hT : w[10]? = some (ad 10, .inl (cy 5, 20, .inr (.inr (.inr (.inr tf)))))) (hcon : conOK w nc tf cp ca cs) (hn : n ≤ 10) (hsd : sd < 1024) (hse : se < 1024) (hlv : lv < 2 ^ 20) (hfr : fr = true → mv = nI n ∧ MX = mdl n sd se nc cs lv) : jM l yX11_density (jws yX11_density cX11_density 1 (some .float)) (jR 6 0 0) D cy w [.ref (ad 0)] 0 0 (fun vv uu => vv = some (.float (FP.fdiv (FP.i2f (nI (cnt (mdl n sd se nc cs lv) 1024))) (FP.i2f (nI (2 ^ n))))) ∧ jU w uu [0, 20, 22] ∧ uu[0]? = some (ad 0, .inr (10, [.int (nI n), .ref (ad 1), .ref (ad 3), .ref (ad 5), .int (nI sd), .int (nI se), .ref (ad 7), .ref (ad 9), .ref (ad 11), .ref (ad 20), .int (bI true), .ref (ad 23), .ref (ad 26), .ref (ad 31), .ref (ad 42)])) ∧ uu[20]? = some (ad 20, .inr (0, [.ref (ad 21), .int (nI n)])) ∧ uu[22]? = some (ad 22, .inl (cy 1, 16, .inr (.inl (wd (mdl n sd se nc cs lv)))))) := by
  have hp2 := two_pow10 hn
  have hpt := Nat.two_pow_pos n
  refine j_of (by decide) rfl (Nat.le_of_ble_eq_true rfl) ?_
  intro p e s m args below meth c A ls Q hQ S hr hK hA H locs hW hl
  have hl : lv_has ls 1 [(0, .ref (ad 0))] := hl
  refine lv_aload_n S.1 S.2.1 dX11_density_0 rfl (lv_at hl 0 rfl) ?_
  refine j_callV (k := 0) (ci := 10) (q := (RX11, TX11, 15)) (As := []) (rest := []) S hK hA hW (c_X11_freshModels l D cy ad n sd se fr nc lv tf cp ca cs mv MX hO hMo hMl hMa hC hT hcon  (by omega) (by omega) (by omega) (by omega) (by first | omega | exact fun _ => ⟨rfl, rfl⟩)) (jgo wm_X11_199) yk_X11_freshModels hO rfl rfl ⟨⟨rfl, rfl⟩, by decide, by decide⟩ rfl hl.1 rfl (Nat.le_of_ble_eq_true rfl) dX11_density_1 ⟨Nat.le_of_ble_eq_true rfl, Nat.le_of_ble_eq_true rfl⟩ (fun v w_ H locs hp hW => ?_)
  obtain ⟨rfl, hU1, hN1, hN2, hN3⟩ := hp
  have hU : jU w w_ [0, 20, 22] := jU.mono hU1 (by decide)
  have hO_ : w_[0]? = some (ad 0, .inr (10, [.int (nI n), .ref (ad 1), .ref (ad 3), .ref (ad 5), .int (nI sd), .int (nI se), .ref (ad 7), .ref (ad 9), .ref (ad 11), .ref (ad 20), .int (bI true), .ref (ad 23), .ref (ad 26), .ref (ad 31), .ref (ad 42)])) := hN1
  have hMo_ : w_[20]? = some (ad 20, .inr (0, [.ref (ad 21), .int (nI n)])) := hN2
  have hMa_ : w_[22]? = some (ad 22, .inl (cy 1, 16, .inr (.inl (wd (mdl n sd se nc cs lv))))) := hN3
  clear hU1 hN1 hN2 hN3
  refine W.eq (g2 := F0 m 4 ls [.ref (ad 20)]) rfl ?_
  refine j_callV (k := 20) (ci := 0) (q := (RX0, TX0, 2)) (As := []) (rest := []) S hK hA hW (c_X0_size l D cy 20 21 22 (ad 20) (ad 21) (ad 22) (nI n) (mdl n sd se nc cs lv) hMo_ (hU.get hMl (by decide)) hMa_   ) (jgo wm_X11_203) yk_X0_size hMo_ rfl rfl ⟨⟨rfl, rfl⟩, by decide, by decide⟩ rfl hl.1 rfl (Nat.le_of_ble_eq_true rfl) dX11_density_4 ⟨Nat.le_of_ble_eq_true rfl, Nat.le_of_ble_eq_true rfl⟩ (fun v u H locs hp hW => ?_)
  obtain ⟨rfl, rfl⟩ := hp
  refine W.eq (g2 := F0 m 7 ls [.int (nI (cnt (mdl n sd se nc cs lv) 1024))]) rfl ?_
  refine lv_i2f S.1 S.2.1 dX11_density_7 ?_
  refine lv_aload_n S.1 S.2.1 dX11_density_8 rfl (lv_at hl 0 rfl) ?_
  refine j_callV (k := 0) (ci := 10) (q := (RX11, TX11, 15)) (As := []) (rest := [.float (FP.i2f (nI (cnt (mdl n sd se nc cs lv) 1024)))]) S hK hA hW (c_X11_countAssignments l D cy ad n sd se true hO_   (by omega)) (jgo wm_X11_221) yk_X11_countAssignments hO_ rfl rfl ⟨⟨rfl, rfl⟩, by decide, by decide⟩ rfl hl.1 rfl (Nat.le_of_ble_eq_true rfl) dX11_density_9 ⟨Nat.le_of_ble_eq_true rfl, Nat.le_of_ble_eq_true rfl⟩ (fun v u H locs hp hW => ?_)
  obtain ⟨rfl, rfl⟩ := hp
  refine W.eq (g2 := F0 m 12 ls [.int (nI (2 ^ n)), .float (FP.i2f (nI (cnt (mdl n sd se nc cs lv) 1024)))]) rfl ?_
  refine lv_i2f S.1 S.2.1 dX11_density_12 ?_
  refine lv_fdiv S.1 S.2.1 dX11_density_13 (jf_fdiv _ (nI_ne0 (by omega) (by omega))) ?_
  subst hQ
  exact j_fret (u := w_) S hr hK hW dX11_density_14 ⟨by decide, by decide⟩ (⟨rfl, hU, hO_, hMo_, hMa_⟩)
/-- meanTrue -/
theorem c_X11_meanTrue (l : Launch) (htr : l.stackTraces = false) (D : va_G) (cy : Nat → ClassId) {w : va_W} (ad : Nat → Nat) (n sd se : Nat) (fr : Bool) (nc lv : Nat) (tf : Nat → Option Nat) (cp ca : Nat → Nat) (cs : Nat → CN) (mv : Int32) (MX : Nat → Bool) (pr : Nat → Nat) (hO : w[0]? = some (ad 0, .inr (10, [.int (nI n), .ref (ad 1), .ref (ad 3), .ref (ad 5), .int (nI sd), .int (nI se), .ref (ad 7), .ref (ad 9), .ref (ad 11), .ref (ad 20), .int (bI fr), .ref (ad 23), .ref (ad 26), .ref (ad 31), .ref (ad 42)]))) (hMo : w[20]? = some (ad 20, .inr (0, [.ref (ad 21), .int mv]))) (hMl : w[21]? = some (ad 21, .inr (6, [.ref (ad 22)]))) (hMa : w[22]? = some (ad 22, .inl (cy 1, 16, .inr (.inl (wd MX))))) (hC : w[9]? = some (ad 9, .inr (4, [.ref (ad 10), .int (nI nc), .int (nI lv)]))) (hT : w[10]? = some (ad 10, .inl (cy 5, 20, .inr (.inr (.inr (.inr tf)))))) (hDo : w[5]? = some (ad 5, .inr (6, [.ref (ad 6)]))) (hDa : w[6]? = some (ad 6, .inl (cy 1, 1024, .inr (.inl (lf pr))))) (hcon : conOK w nc tf cp ca cs) (hn : n ≤ 10) (hsd : sd < 1024) (hse : se < 1024) (hlv : lv < 2 ^ 20) (hfr : fr = true → mv = nI n ∧ MX = mdl n sd se nc cs lv) (hpr : ∀ j, pr j ≤ 3486784401) : jMx jTexts l yX11_meanTrue (jws yX11_meanTrue cX11_meanTrue 7 (some .double)) (jR 10 1 6) D cy w [.ref (ad 0)] 1 6 (fun vv uu => vv = some (.double (FP.ddiv (FP.l2d (lN (sumI (mdl n sd se nc cs lv) (fun d => pr d * cnt d.testBit 32) (2 ^ n)))) (FP.l2d (lN (sumI (mdl n sd se nc cs lv) pr (2 ^ n)))))) ∧ sumI (mdl n sd se nc cs lv) pr (2 ^ n) ≠ 0 ∧ jU w uu [0, 20, 22] ∧ uu[0]? = some (ad 0, .inr (10, [.int (nI n), .ref (ad 1), .ref (ad 3), .ref (ad 5), .int (nI sd), .int (nI se), .ref (ad 7), .ref (ad 9), .ref (ad 11), .ref (ad 20), .int (bI true), .ref (ad 23), .ref (ad 26), .ref (ad 31), .ref (ad 42)])) ∧ uu[20]? = some (ad 20, .inr (0, [.ref (ad 21), .int (nI n)])) ∧ uu[22]? = some (ad 22, .inl (cy 1, 16, .inr (.inl (wd (mdl n sd se nc cs lv)))))) (fun EE uu => (EE = "java/util/NoSuchElementException" ∧ (sumI (mdl n sd se nc cs lv) pr (2 ^ n) = 0) ∧ (jU w uu [0, 20, 22] ∧ uu[0]? = some (ad 0, .inr (10, [.int (nI n), .ref (ad 1), .ref (ad 3), .ref (ad 5), .int (nI sd), .int (nI se), .ref (ad 7), .ref (ad 9), .ref (ad 11), .ref (ad 20), .int (bI true), .ref (ad 23), .ref (ad 26), .ref (ad 31), .ref (ad 42)])) ∧ uu[20]? = some (ad 20, .inr (0, [.ref (ad 21), .int (nI n)])) ∧ uu[22]? = some (ad 22, .inl (cy 1, 16, .inr (.inl (wd (mdl n sd se nc cs lv)))))))) := by
  have hp2 := two_pow10 hn
  have hsl : sumI (mdl n sd se nc cs lv) pr (2 ^ n) ≤ 2 ^ n * 3486784401 := sumI_le (fun j _ => hpr j)
  have hsb : 2 ^ n * 3486784401 ≤ 1024 * 3486784401 := Nat.mul_le_mul_right _ hp2
  refine jx_of (by decide) rfl (Nat.le_of_ble_eq_true rfl) ?_
  intro p e s m args below meth c A ls Q hQ S hr hK hA H locs hW hl htab hx
  have hl : lv_has ls 7 [(0, .ref (ad 0))] := hl
  refine lv_aload_n S.1 S.2.1 dX11_meanTrue_0 rfl (lv_at hl 0 rfl) ?_
  refine jx_callq (k := 0) (ci := 10) (q := (RX11, TX11, 15)) (As := []) (rest := []) S hK hA hW hQ htab hr hx (c_X11_positiveWeight l htr D cy ad n sd se fr nc lv tf cp ca cs mv MX pr hO hMo hMl hMa hC hT hDo hDa hcon  (by omega) (by omega) (by omega) (by omega) (by first | omega | exact fun _ => ⟨rfl, rfl⟩) (hpr)) (jgo wm_X11_210) yk_X11_positiveWeight hO rfl rfl ⟨⟨rfl, rfl⟩, by decide, by decide⟩ rfl hl.1 rfl (Nat.le_of_ble_eq_true rfl) dX11_meanTrue_1 ⟨Nat.le_of_ble_eq_true rfl, Nat.le_of_ble_eq_true rfl⟩ ⟨by decide, by decide⟩ (fun E u h => by obtain ⟨e1, h, e⟩ := h; exact ⟨e1, by first | exact h | exact Or.inl h | exact Or.inr h | exact Or.inr (Or.inl h) | exact Or.inr (Or.inr h) | omega | (simp at h ⊢; omega), e⟩) (fun v w_ H locs hp hW => ?_)
  obtain ⟨rfl, hp1_0, hU1, hN1, hN2, hN3⟩ := hp
  have hU : jU w w_ [0, 20, 22] := jU.mono hU1 (by decide)
  have hO_ : w_[0]? = some (ad 0, .inr (10, [.int (nI n), .ref (ad 1), .ref (ad 3), .ref (ad 5), .int (nI sd), .int (nI se), .ref (ad 7), .ref (ad 9), .ref (ad 11), .ref (ad 20), .int (bI true), .ref (ad 23), .ref (ad 26), .ref (ad 31), .ref (ad 42)])) := hN1
  have hMo_ : w_[20]? = some (ad 20, .inr (0, [.ref (ad 21), .int (nI n)])) := hN2
  have hMa_ : w_[22]? = some (ad 22, .inl (cy 1, 16, .inr (.inl (wd (mdl n sd se nc cs lv))))) := hN3
  clear hU1 hN1 hN2 hN3
  refine W.eq (g2 := F0 m 4 ls [.long (lN (sumI (mdl n sd se nc cs lv) pr (2 ^ n)))]) rfl ?_
  refine lv_lstore_n (lv' := [(1, .long (lN (sumI (mdl n sd se nc cs lv) pr (2 ^ n)))), (0, .ref (ad 0))]) S.1 S.2.1 dX11_meanTrue_4 rfl hl (by decide) rfl (fun ls hl => ?_)
  refine lv_aload_n S.1 S.2.1 dX11_meanTrue_5 rfl (lv_at hl 1 rfl) ?_
  refine j_callV (k := 0) (ci := 10) (q := (RX11, TX11, 15)) (As := []) (rest := []) S hK hA hW (c_X11_freshModels l D cy ad n sd se true nc lv tf cp ca cs (nI n) (mdl n sd se nc cs lv) hO_ hMo_ (hU.get hMl (by decide)) hMa_ (hU.get hC (by decide)) (hU.get hT (by decide)) (hcon.kept hU (by decide))  (by omega) (by omega) (by omega) (by omega) (by first | omega | exact fun _ => ⟨rfl, rfl⟩)) (jgo wm_X11_199) yk_X11_freshModels hO_ rfl rfl ⟨⟨rfl, rfl⟩, by decide, by decide⟩ rfl hl.1 rfl (Nat.le_of_ble_eq_true rfl) dX11_meanTrue_6 ⟨Nat.le_of_ble_eq_true rfl, Nat.le_of_ble_eq_true rfl⟩ (fun v w_ H locs hp hW => ?_)
  obtain ⟨rfl, hU1, hN1, hN2, hN3⟩ := hp
  have hU := hU.then hU1 (by decide)
  have hO_ : w_[0]? = some (ad 0, .inr (10, [.int (nI n), .ref (ad 1), .ref (ad 3), .ref (ad 5), .int (nI sd), .int (nI se), .ref (ad 7), .ref (ad 9), .ref (ad 11), .ref (ad 20), .int (bI true), .ref (ad 23), .ref (ad 26), .ref (ad 31), .ref (ad 42)])) := hN1
  have hMo_ : w_[20]? = some (ad 20, .inr (0, [.ref (ad 21), .int (nI n)])) := hN2
  have hMa_ : w_[22]? = some (ad 22, .inl (cy 1, 16, .inr (.inl (wd (mdl n sd se nc cs lv))))) := hN3
  clear hU1 hN1 hN2 hN3
  refine W.eq (g2 := F0 m 9 ls [.ref (ad 20)]) rfl ?_
  refine lv_astore_n (lv' := [(3, .ref (ad 20)), (1, .long (lN (sumI (mdl n sd se nc cs lv) pr (2 ^ n)))), (0, .ref (ad 0))]) S.1 S.2.1 dX11_meanTrue_9 rfl hl (by decide) rfl (fun ls hl => ?_)
  refine lv_lconst (v := lN 0) S.1 S.2.1 dX11_meanTrue_10 (by decide) ?_
  refine lv_lstore (lv' := [(4, .long (lN 0)), (3, .ref (ad 20)), (1, .long (lN (sumI (mdl n sd se nc cs lv) pr (2 ^ n)))), (0, .ref (ad 0))]) S.1 S.2.1 dX11_meanTrue_11 hl (by decide) rfl (fun ls hl => ?_)
  refine lv_iconst (v := nI 0) S.1 S.2.1 dX11_meanTrue_13 (by decide) ?_
  refine lv_istore (lv' := [(6, .int (nI 0)), (4, .long (lN 0)), (3, .ref (ad 20)), (1, .long (lN (sumI (mdl n sd se nc cs lv) pr (2 ^ n)))), (0, .ref (ad 0))]) S.1 S.2.1 dX11_meanTrue_14 hl (by decide) rfl (fun ls hl => ?_)
  have L16 : ∀ (k : Nat) (i : Nat), 2 ^ n - i = k → (i ≤ 2 ^ n) → ∀ (w_ : va_W), jU w w_ [0, 20, 22] → (w_[0]? = some (ad 0, .inr (10, [.int (nI n), .ref (ad 1), .ref (ad 3), .ref (ad 5), .int (nI sd), .int (nI se), .ref (ad 7), .ref (ad 9), .ref (ad 11), .ref (ad 20), .int (bI true), .ref (ad 23), .ref (ad 26), .ref (ad 31), .ref (ad 42)]))) → (w_[20]? = some (ad 20, .inr (0, [.ref (ad 21), .int (nI n)]))) → (w_[22]? = some (ad 22, .inl (cy 1, 16, .inr (.inl (wd (mdl n sd se nc cs lv)))))) → ∀ (H : Heap) (locs : List Loc) (ls : Array Slot), jW D A s.heap w_ H locs → lv_has ls 7 [(0, .ref (ad 0)), (1, .long (lN (sumI (mdl n sd se nc cs lv) pr (2 ^ n)))), (3, .ref (ad 20)), (4, .long (lN (sumI (mdl n sd se nc cs lv) (fun d => pr d * cnt d.testBit 32) i))), (6, .int (nI i))] → W p l e (jR 10 1 6) s m args below meth c H locs 1 6 Q (F0 m 16 ls []) := by
    intro k
    induction k using Nat.strongRecOn with
    | ind k ih16 =>
    intro i hk hi w_ hU hO_ hMo_ hMa_ H locs ls hW hl
    subst hk
    refine lv_iload S.1 S.2.1 dX11_meanTrue_16 (lv_at hl 4 rfl) ?_
    refine lv_aload_n S.1 S.2.1 dX11_meanTrue_18 rfl (lv_at hl 0 rfl) ?_
    refine j_callV (k := 0) (ci := 10) (q := (RX11, TX11, 15)) (As := []) (rest := [.int (nI i)]) S hK hA hW (c_X11_countAssignments l D cy ad n sd se true hO_   (by omega)) (jgo wm_X11_221) yk_X11_countAssignments hO_ rfl rfl ⟨⟨rfl, rfl⟩, by decide, by decide⟩ rfl hl.1 rfl (Nat.le_of_ble_eq_true rfl) dX11_meanTrue_19 ⟨Nat.le_of_ble_eq_true rfl, Nat.le_of_ble_eq_true rfl⟩ (fun v u H locs hp hW => ?_)
    obtain ⟨rfl, rfl⟩ := hp
    refine W.eq (g2 := F0 m 22 ls [.int (nI (2 ^ n)), .int (nI i)]) rfl ?_
    refine jn_cmp_ge (tgt := 61) S (by omega) (by omega) dX11_meanTrue_22 (by decide) (fun c_22 => ?_) (fun c_22 => ?_)
    · refine lv_lload S.1 S.2.1 dX11_meanTrue_61 (lv_at hl 3 rfl) ?_
      refine lv_l2d S.1 S.2.1 dX11_meanTrue_63 ?_
      refine lv_lload_n S.1 S.2.1 dX11_meanTrue_64 rfl (lv_at hl 1 rfl) ?_
      refine lv_l2d S.1 S.2.1 dX11_meanTrue_65 ?_
      refine lv_ddiv S.1 S.2.1 dX11_meanTrue_66 (jf_ddiv _ (lN_ne0 (by omega) (by omega))) ?_
      subst hQ
      refine vx_ret ?_
      refine j_dret (u := w_) S hr hK hW dX11_meanTrue_67 ⟨by decide, by decide⟩ ?_
      have ei : i = 2 ^ n := by omega
      subst ei
      exact ⟨rfl, hp1_0, hU, hO_, hMo_, hMa_⟩
    · refine lv_aload_n S.1 S.2.1 dX11_meanTrue_25 rfl (lv_at hl 2 rfl) ?_
      refine lv_iload S.1 S.2.1 dX11_meanTrue_26 (lv_at hl 4 rfl) ?_
      refine j_callV (k := 20) (ci := 0) (q := (RX0, TX0, 2)) (As := [.int (nI i)]) (rest := []) S hK hA hW (c_X0_has l D cy 20 21 22 (ad 20) (ad 21) (ad 22) (nI n) (mdl n sd se nc cs lv) i hMo_ (hU.get hMl (by decide)) hMa_   (by omega)) (jgo wm_X11_224) yk_X0_has hMo_ rfl rfl ⟨⟨rfl, rfl⟩, by decide, by decide⟩ rfl hl.1 rfl (Nat.le_of_ble_eq_true rfl) dX11_meanTrue_28 ⟨Nat.le_of_ble_eq_true rfl, Nat.le_of_ble_eq_true rfl⟩ (fun v u H locs hp hW => ?_)
      obtain ⟨rfl, rfl⟩ := hp
      refine W.eq (g2 := F0 m 31 ls [.int (bI ((mdl n sd se nc cs lv) i))]) rfl ?_
      refine jb_if_eq (tgt := 55) S dX11_meanTrue_31 (by decide) (fun c_31 => ?_) (fun c_31 => ?_)
      · have e0 : sumI (mdl n sd se nc cs lv) (fun d => pr d * cnt d.testBit 32) (i + 1) = sumI (mdl n sd se nc cs lv) (fun d => pr d * cnt d.testBit 32) i := sumI_f (c_31)
        rw [← e0] at hl
        refine lv_iinc (v := nI (i + 1)) (lv' := [(6, .int (nI (i + 1))), (0, .ref (ad 0)), (1, .long (lN (sumI (mdl n sd se nc cs lv) pr (2 ^ n)))), (3, .ref (ad 20)), (4, .long (lN (sumI (mdl n sd se nc cs lv) (fun d => pr d * cnt d.testBit 32) (i + 1))))]) S.1 S.2.1 dX11_meanTrue_55 hl (k := 4) rfl (nI_add _ 1) (by decide) rfl (fun ls hl => ?_)
        refine lv_goto (tgt := 16) S.1 S.2.1 dX11_meanTrue_58 (by decide) ?_
        exact ih16 _ (by omega) (i + 1) rfl (by omega) w_ hU hO_ hMo_ hMa_ H locs ls hW (lv_sub hl [1, 2, 3, 4, 0] rfl)
      · refine lv_lload S.1 S.2.1 dX11_meanTrue_34 (lv_at hl 3 rfl) ?_
        refine lv_aload_n S.1 S.2.1 dX11_meanTrue_36 rfl (lv_at hl 0 rfl) ?_
        refine j_get (ci := 10) (C := RX11) (T := TX11) (N := 15) (v := .ref (ad 5)) S (fun w h => List.mem_cons_of_mem _ (inG11 w h)) hK hW hO_ rfl 3 (by decide) (List.mem_cons_of_mem _ wfl_X11_24) (fun _ h9 => h9) rfl dX11_meanTrue_37 ?_
        refine lv_iload S.1 S.2.1 dX11_meanTrue_40 (lv_at hl 4 rfl) ?_
        refine j_callV (k := 5) (ci := 6) (q := (RX7, TX7, 1)) (As := [.int (nI i)]) (rest := [.long (lN (sumI (mdl n sd se nc cs lv) (fun d => pr d * cnt d.testBit 32) i))]) S hK hA hW (c_X7_atN l D cy 5 6 (ad 5) (ad 6) 1024 i pr (hU.get hDo (by decide)) (hU.get hDa (by decide))   (by omega) (by decide)) (jgo wm_X11_245) yk_X7_at (hU.get hDo (by decide)) rfl rfl ⟨⟨rfl, rfl⟩, by decide, by decide⟩ rfl hl.1 rfl (Nat.le_of_ble_eq_true rfl) dX11_meanTrue_42 ⟨Nat.le_of_ble_eq_true rfl, Nat.le_of_ble_eq_true rfl⟩ (fun v u H locs hp hW => ?_)
        obtain ⟨rfl, rfl⟩ := hp
        refine W.eq (g2 := F0 m 45 ls [.long (lN (pr i)), .long (lN (sumI (mdl n sd se nc cs lv) (fun d => pr d * cnt d.testBit 32) i))]) rfl ?_
        refine lv_iload S.1 S.2.1 dX11_meanTrue_45 (lv_at hl 4 rfl) ?_
        refine j_callJ (As := [.int (nI i)]) (rest := [.long (lN (pr i)), .long (lN (sumI (mdl n sd se nc cs lv) (fun d => pr d * cnt d.testBit 32) i))]) S hK hA hW (c_J6_bitCount_0f7a4 l D cy i    (by omega)) (jgo wm_X11_157) yk_J6_bitCount_0f7a4 ⟨⟨rfl, rfl⟩, by decide, by decide⟩ rfl hl.1 rfl (Nat.le_of_ble_eq_true rfl) dX11_meanTrue_47 ⟨Nat.le_of_ble_eq_true rfl, Nat.le_of_ble_eq_true rfl⟩ (fun v u H locs hp hW => ?_)
        obtain ⟨rfl, rfl⟩ := hp
        refine W.eq (g2 := F0 m 50 ls [.int (nI (cnt i.testBit 32)), .long (lN (pr i)), .long (lN (sumI (mdl n sd se nc cs lv) (fun d => pr d * cnt d.testBit 32) i))]) rfl ?_
        have hcb := cnt_le i.testBit 32
        refine lv_i2l (v := lN (cnt i.testBit 32)) S.1 S.2.1 dX11_meanTrue_50 (nI_l (by omega)) ?_
        refine jnl_mul S dX11_meanTrue_51 ?_
        refine jnl_add S dX11_meanTrue_52 ?_
        refine lv_topl_to (y := lN (sumI (mdl n sd se nc cs lv) (fun d => pr d * cnt d.testBit 32) (i + 1))) (congrArg lN (sumI_t c_31).symm) ?_
        refine lv_lstore (lv' := [(4, .long (lN (sumI (mdl n sd se nc cs lv) (fun d => pr d * cnt d.testBit 32) (i + 1)))), (0, .ref (ad 0)), (1, .long (lN (sumI (mdl n sd se nc cs lv) pr (2 ^ n)))), (3, .ref (ad 20)), (6, .int (nI i))]) S.1 S.2.1 dX11_meanTrue_53 hl (by decide) rfl (fun ls hl => ?_)
        refine lv_iinc (v := nI (i + 1)) (lv' := [(6, .int (nI (i + 1))), (4, .long (lN (sumI (mdl n sd se nc cs lv) (fun d => pr d * cnt d.testBit 32) (i + 1)))), (0, .ref (ad 0)), (1, .long (lN (sumI (mdl n sd se nc cs lv) pr (2 ^ n)))), (3, .ref (ad 20))]) S.1 S.2.1 dX11_meanTrue_55 hl (k := 4) rfl (nI_add _ 1) (by decide) rfl (fun ls hl => ?_)
        refine lv_goto (tgt := 16) S.1 S.2.1 dX11_meanTrue_58 (by decide) ?_
        exact ih16 _ (by omega) (i + 1) rfl (by omega) w_ hU hO_ hMo_ hMa_ H locs ls hW (lv_sub hl [2, 3, 4, 1, 0] rfl)
  exact L16 _ 0 rfl (Nat.zero_le _) w_ hU hO_ hMo_ hMa_ H locs ls hW (lv_sub hl [4, 3, 2, 1, 0] rfl)
