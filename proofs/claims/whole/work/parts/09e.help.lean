/-! THE LAW'S HELPERS: what is asked (laid by wip/whole/tools, from the specs there) -/
/-- the law's weightWith -/
theorem h_weightWith (l : Launch) (htr : l.stackTraces = false) (D : va_G) (cy : Nat → ClassId) {w : va_W} (ad : Nat → Nat) (n : Nat) (wf wt od : Nat → Nat) (sd se nc lv : Nat) (cs : Nat → CN) (kv : Nat → Int32) (kx : Nat → Nat → Bool) (v : Int32) (y : Int32) (og : Nat → Int64) (ogd : Nat → UInt64) (hPI : PI n wf wt od sd se nc lv cs kv kx) (hCI : CI ad cy w n wf wt od sd se nc lv cs kv kx) (hOut : w[74]? = some (ad 74, .inl (cy 1, 1, .inr (.inl og)))) (hOuD : w[75]? = some (ad 75, .inl (cy 7, 1, .inr (.inr (.inr (.inl ogd)))))) : jMh l yL_weightWith (jwsW yL_weightWith cL_weightWith 5 (some .int) [(0, 9, 12, 19), (0, 9, 16, 21)]) (jR 10 2 12) D cy w [.ref (ad 0), .int v, .int y, .ref (ad 74)] 2 12 (fun vv uu => (∃ (x : Nat), ∃ (z : Nat), ∃ (pr : Nat → Nat), vv = some (.int (nI 0)) ∧ (∀ a, a < 2 ^ n → pr a = prodN wf wt a n) ∧ x < n ∧ v = nI x ∧ z < 2 ∧ y = nI z ∧ jUc w uu ∧ CI ad cy uu n wf wt od sd se nc lv cs kv kx ∧ uu[74]? = some (ad 74, .inl (cy 1, 1, .inr (.inl (vp_updL og 0 (lN (sumI (fun d => decide (d &&& 2 ^ x = (z <<< x)) && mdl n sd se nc cs lv d) pr (2 ^ n))))))) ∧ uu[75]? = some (ad 75, .inl (cy 7, 1, .inr (.inr (.inr (.inl ogd)))))) ∨ (vv = some (.int (nI 1)) ∧ (vB v n = false) ∧ jUc w uu ∧ CI ad cy uu n wf wt od sd se nc lv cs kv kx ∧ uu[74]? = some (ad 74, .inl (cy 1, 1, .inr (.inl og))) ∧ uu[75]? = some (ad 75, .inl (cy 7, 1, .inr (.inr (.inr (.inl ogd)))))) ∨ (vv = some (.int (nI 2)) ∧ ((∃ x, x < n ∧ v = nI x) ∧ vB y 2 = false) ∧ jUc w uu ∧ CI ad cy uu n wf wt od sd se nc lv cs kv kx ∧ uu[74]? = some (ad 74, .inl (cy 1, 1, .inr (.inl og))) ∧ uu[75]? = some (ad 75, .inl (cy 7, 1, .inr (.inr (.inr (.inl ogd))))))) := by
  obtain ⟨hn, hsdn, hse2, hnc, hlvn, hcs, hkI, hod, hodn, hinj⟩ := hPI
  have hp2 := two_pow10 hn
  have hsd : sd < 1024 := by omega
  have hse : se < 1024 := by rw [← hse2]; exact Nat.lt_of_le_of_lt Nat.and_le_right hsd
  have hlv : lv < 2 ^ 20 := Nat.lt_of_lt_of_le hlvn (Nat.pow_le_pow_right (by decide) hnc)
  have hCI0 := hCI
  obtain ⟨bO, bW, bD, bC, bM, bP, bR, bX, bS⟩ := hCI
  have bO0 := bO
  have bW0 := bW
  have bC0 := bC
  obtain ⟨fr, mv, MX, hO, hMo, hMl, hMa, hfr⟩ := bO
  obtain ⟨pr, hFo, hFa, hGo, hGa, hDo, hDa, hwf, hwt, hpr, hpn⟩ := bW
  obtain ⟨tf, cp, ca, hC, hT, hcon⟩ := bC
  refine j_ofH (by decide) rfl (Nat.le_of_ble_eq_true rfl) ?_
  intro p e s m args below meth c A ls Q hQ S hr hK hA H locs hW hl htab hx hnx
  have hl : lv_has ls 5 [(0, .ref (ad 0)), (1, .int v), (2, .int y), (3, .ref (ad 74))] := hl
  refine lv_aload_n S.1 S.2.1 dL_weightWith_0 rfl (lv_at hl 3 rfl) ?_
  refine lv_iconst (v := nI 0) S.1 S.2.1 dL_weightWith_1 (by decide) ?_
  refine lv_aload_n S.1 S.2.1 dL_weightWith_2 rfl (lv_at hl 0 rfl) ?_
  refine lv_iload_n S.1 S.2.1 dL_weightWith_3 rfl (lv_at hl 1 rfl) ?_
  refine lv_iload_n S.1 S.2.1 dL_weightWith_4 rfl (lv_at hl 2 rfl) ?_
  refine jx_callT (k := 0) (ci := 10) (q := (RX11, TX11, 15)) (As := [.int v, .int y]) (rest := [.int (nI 0), .ref (ad 74)]) S hK hA hW hx (c_X11_weightWith l htr D cy ad n sd se fr nc lv tf cp ca cs mv MX pr v y hO hMo hMl hMa hC hT hDo hDa hcon  (hn) (hsd) (hse) (hlv) (hfr)) (jgo wm_L_48) yk_X11_weightWith hO rfl rfl ⟨⟨rfl, rfl⟩, by decide, by decide⟩ rfl hl.1 rfl (Nat.le_of_ble_eq_true rfl) dL_weightWith_5 ⟨Nat.le_of_ble_eq_true rfl, Nat.le_of_ble_eq_true rfl⟩ (fun E ce q9 w_ H locs hp hW hc1 hc2 hc3 => ?_) (fun v w_ H locs hp hW => ?_)
  · obtain ⟨hp, rfl⟩ := hp
    rcases hp with ⟨rfl, hp⟩ | ⟨rfl, hp⟩
    · refine vx_catch (name := "java/lang/IndexOutOfBoundsException") S.2.2.2.1 [] ⟨0, 9, 12, 19⟩ [⟨0, 9, 16, 21⟩] (htab.trans rfl) (fun _ h => absurd h List.not_mem_nil) (by decide) (by decide) (S.2.2.2.2 _ (List.mem_cons_of_mem _ wcl_L_19)) (va_Nw.use rfl (hx.2.2.1 "java/lang/IndexOutOfBoundsException" (by decide))) hc1 hc2 hc3 ?_
      refine W.eq (g2 := F0 m 12 ls [.ref q9]) rfl ?_
      refine lv_astore (lv' := [(4, .ref q9), (0, .ref (ad 0)), (1, .int v), (2, .int y), (3, .ref (ad 74))]) S.1 S.2.1 dL_weightWith_12 hl (by decide) rfl (fun ls hl => ?_)
      refine lv_iconst (v := nI 1) S.1 S.2.1 dL_weightWith_14 (by decide) ?_
      subst hQ
      exact j_iret (u := w) S hr (rfl) hK hW dL_weightWith_15 ⟨by decide, by decide⟩ (Or.inr (Or.inl (⟨rfl, hp, jUc.rf, hCI0, hOut, hOuD⟩)))
    · refine vx_catch (name := "java/lang/IllegalArgumentException") S.2.2.2.1 [⟨0, 9, 12, 19⟩] ⟨0, 9, 16, 21⟩ [] (htab.trans rfl) (List.forall_mem_cons.mpr ⟨Or.inr ⟨by decide, "java/lang/IndexOutOfBoundsException", S.2.2.2.2 _ (List.mem_cons_of_mem _ wcl_L_19), hnx "java/lang/IllegalArgumentException" (by decide) "java/lang/IndexOutOfBoundsException" (by decide) (by decide)⟩, fun _ h => absurd h List.not_mem_nil⟩) (by decide) (by decide) (S.2.2.2.2 _ (List.mem_cons_of_mem _ wcl_L_21)) (va_Nw.use rfl (hx.2.2.1 "java/lang/IllegalArgumentException" (by decide))) hc1 hc2 hc3 ?_
      refine W.eq (g2 := F0 m 16 ls [.ref q9]) rfl ?_
      refine lv_astore (lv' := [(4, .ref q9), (0, .ref (ad 0)), (1, .int v), (2, .int y), (3, .ref (ad 74))]) S.1 S.2.1 dL_weightWith_16 hl (by decide) rfl (fun ls hl => ?_)
      refine lv_iconst (v := nI 2) S.1 S.2.1 dL_weightWith_18 (by decide) ?_
      subst hQ
      exact j_iret (u := w) S hr (rfl) hK hW dL_weightWith_19 ⟨by decide, by decide⟩ (Or.inr (Or.inr (⟨rfl, hp, jUc.rf, hCI0, hOut, hOuD⟩)))
  obtain ⟨x_5, z_5, rfl, hp5_0, hp5_1, hp5_2, hp5_3, hU1, hN1, hN2, hN3⟩ := hp
  have hU : jU w w_ [0, 20, 22, 74] := jU.mono hU1 (by first | decide | (simp; done) | (simp; omega))
  have hOut_ := hU1.get hOut (by first | decide | (simp; done) | (simp; omega))
  have hO_ : w_[0]? = some (ad 0, .inr (10, [.int (nI n), .ref (ad 1), .ref (ad 3), .ref (ad 5), .int (nI sd), .int (nI se), .ref (ad 7), .ref (ad 9), .ref (ad 11), .ref (ad 20), .int (bI true), .ref (ad 23), .ref (ad 26), .ref (ad 31), .ref (ad 42)])) := hN1
  have hMo_ : w_[20]? = some (ad 20, .inr (0, [.ref (ad 21), .int (nI n)])) := hN2
  have hMa_ : w_[22]? = some (ad 22, .inl (cy 1, 16, .inr (.inl (wd (mdl n sd se nc cs lv))))) := hN3
  clear hU1 hN1 hN2 hN3
  refine W.eq (g2 := F0 m 8 ls [.long (lN (sumI (fun d => decide (d &&& 2 ^ x_5 = (z_5 <<< x_5)) && mdl n sd se nc cs lv d) pr (2 ^ n))), .int (nI 0), .ref (ad 74)]) rfl ?_
  have hCI1 : CI ad cy w_ n wf wt od sd se nc lv cs kv kx := ⟨⟨_, _, _, hO_, hMo_, (hU.get hMl (by first | decide | (simp; done) | (simp; omega))), hMa_, by first | exact fun _ => ⟨rfl, rfl⟩ | exact fun h => by cases h | exact hfr⟩, bW0.kept hU (by first | decide | (intro k hk; simp at hk; omega)), bD.kept hU (by first | decide | (intro k hk; simp at hk; omega)), bC0.kept hU (by first | decide | (intro k hk; simp at hk; omega)), bM.kept hU (by first | decide | (intro k hk; simp at hk; omega)), bP.kept hU (by first | decide | (intro k hk; simp at hk; omega)), bR.kept hU (by first | decide | (intro k hk; simp at hk; omega)), bX.kept hU (by first | decide | (intro k hk; simp at hk; omega)), bS.kept hU (by first | decide | (intro k hk; simp at hk; omega))⟩
  refine j_last S hK hW hOut_ (vp_in_nI (by omega) (by omega)) (nI_clamp (by omega)) dL_weightWith_8 (fun H locs w_ hU1 hN1 hW => ?_)
  have hU := hU.then hU1 (by first | decide | (simp; done) | (simp; omega))
  have hO_ := hU1.get hO_ (by first | decide | (simp; done) | (simp; omega))
  have hMo_ := hU1.get hMo_ (by first | decide | (simp; done) | (simp; omega))
  have hMa_ := hU1.get hMa_ (by first | decide | (simp; done) | (simp; omega))
  have hOut_ : w_[74]? = some (ad 74, .inl (cy 1, 1, .inr (.inl (vp_updL og 0 (lN (sumI (fun d => decide (d &&& 2 ^ x_5 = (z_5 <<< x_5)) && mdl n sd se nc cs lv d) pr (2 ^ n))))))) := hN1
  have hCI1 := hCI1.kept hU1 (by decide)
  clear hU1 hN1
  refine lv_goto (tgt := 20) S.1 S.2.1 dL_weightWith_9 (by decide) ?_
  refine lv_iconst (v := nI 0) S.1 S.2.1 dL_weightWith_20 (by decide) ?_
  subst hQ
  exact j_iret (u := w_) S hr (rfl) hK hW dL_weightWith_21 ⟨by decide, by decide⟩ (Or.inl (⟨x_5, z_5, pr, rfl, hpn, hp5_0, hp5_1, hp5_2, hp5_3, ⟨_, hU, by first | decide | (intro k hk; simp at hk; omega)⟩, hCI1, hOut_, (hU.get hOuD (by first | decide | (simp; done) | (simp; omega)))⟩))
/-- the law's chanceTop -/
theorem h_chanceTop (l : Launch) (htr : l.stackTraces = false) (D : va_G) (cy : Nat → ClassId) {w : va_W} (ad : Nat → Nat) (n : Nat) (wf wt od : Nat → Nat) (sd se nc lv : Nat) (cs : Nat → CN) (kv : Nat → Int32) (kx : Nat → Nat → Bool) (v : Int32) (og : Nat → Int64) (ogd : Nat → UInt64) (hPI : PI n wf wt od sd se nc lv cs kv kx) (hCI : CI ad cy w n wf wt od sd se nc lv cs kv kx) (hOut : w[74]? = some (ad 74, .inl (cy 1, 1, .inr (.inl og)))) (hOuD : w[75]? = some (ad 75, .inl (cy 7, 1, .inr (.inr (.inr (.inl ogd)))))) : jMh l yL_chanceTop (jwsW yL_chanceTop cL_chanceTop 4 (some .int) [(0, 8, 11, 19), (0, 8, 14, 56)]) (jR 11 2 12) D cy w [.ref (ad 0), .int v, .ref (ad 74)] 2 12 (fun vv uu => (∃ (x : Nat), ∃ (pr : Nat → Nat), vv = some (.int (nI 0)) ∧ (∀ a, a < 2 ^ n → pr a = prodN wf wt a n) ∧ x < n ∧ v = nI x ∧ sumI (mdl n sd se nc cs lv) pr (2 ^ n) ≠ 0 ∧ jUc w uu ∧ CI ad cy uu n wf wt od sd se nc lv cs kv kx ∧ uu[74]? = some (ad 74, .inl (cy 1, 1, .inr (.inl (vp_updL og 0 (lN ((sumI (fun d => decide (d &&& 2 ^ x = 2 ^ x) && mdl n sd se nc cs lv d) pr (2 ^ n)) / Nat.gcd (sumI (fun d => decide (d &&& 2 ^ x = 2 ^ x) && mdl n sd se nc cs lv d) pr (2 ^ n)) (sumI (mdl n sd se nc cs lv) pr (2 ^ n)))))))) ∧ uu[75]? = some (ad 75, .inl (cy 7, 1, .inr (.inr (.inr (.inl ogd)))))) ∨ (vv = some (.int (nI 1)) ∧ (vB v n = false) ∧ jUc w uu ∧ CI ad cy uu n wf wt od sd se nc lv cs kv kx ∧ uu[74]? = some (ad 74, .inl (cy 1, 1, .inr (.inl og))) ∧ uu[75]? = some (ad 75, .inl (cy 7, 1, .inr (.inr (.inr (.inl ogd)))))) ∨ (vv = some (.int (nI 2)) ∧ (∃ (pr : Nat → Nat), (∀ a, a < 2 ^ n → pr a = prodN wf wt a n) ∧ ((∃ x, x < n ∧ v = nI x) ∧ sumI (mdl n sd se nc cs lv) pr (2 ^ n) = 0)) ∧ jUc w uu ∧ CI ad cy uu n wf wt od sd se nc lv cs kv kx ∧ uu[74]? = some (ad 74, .inl (cy 1, 1, .inr (.inl og))) ∧ uu[75]? = some (ad 75, .inl (cy 7, 1, .inr (.inr (.inr (.inl ogd))))))) := by
  obtain ⟨hn, hsdn, hse2, hnc, hlvn, hcs, hkI, hod, hodn, hinj⟩ := hPI
  have hp2 := two_pow10 hn
  have hsd : sd < 1024 := by omega
  have hse : se < 1024 := by rw [← hse2]; exact Nat.lt_of_le_of_lt Nat.and_le_right hsd
  have hlv : lv < 2 ^ 20 := Nat.lt_of_lt_of_le hlvn (Nat.pow_le_pow_right (by decide) hnc)
  have hCI0 := hCI
  obtain ⟨bO, bW, bD, bC, bM, bP, bR, bX, bS⟩ := hCI
  have bO0 := bO
  have bW0 := bW
  have bC0 := bC
  obtain ⟨fr, mv, MX, hO, hMo, hMl, hMa, hfr⟩ := bO
  obtain ⟨pr, hFo, hFa, hGo, hGa, hDo, hDa, hwf, hwt, hpr, hpn⟩ := bW
  obtain ⟨tf, cp, ca, hC, hT, hcon⟩ := bC
  refine j_ofH (by decide) rfl (Nat.le_of_ble_eq_true rfl) ?_
  intro p e s m args below meth c A ls Q hQ S hr hK hA H locs hW hl htab hx hnx
  have hl : lv_has ls 4 [(0, .ref (ad 0)), (1, .int v), (2, .ref (ad 74))] := hl
  refine lv_aload_n S.1 S.2.1 dL_chanceTop_0 rfl (lv_at hl 2 rfl) ?_
  refine lv_iconst (v := nI 0) S.1 S.2.1 dL_chanceTop_1 (by decide) ?_
  refine lv_aload_n S.1 S.2.1 dL_chanceTop_2 rfl (lv_at hl 0 rfl) ?_
  refine lv_iload_n S.1 S.2.1 dL_chanceTop_3 rfl (lv_at hl 1 rfl) ?_
  refine jx_callT (k := 0) (ci := 10) (q := (RX11, TX11, 15)) (As := [.int v]) (rest := [.int (nI 0), .ref (ad 74)]) S hK hA hW hx (c_X11_chanceTop l htr D cy ad n sd se fr nc lv tf cp ca cs mv MX pr v hO hMo hMl hMa hC hT hDo hDa hcon  (hn) (hsd) (hse) (hlv) (hfr) (hpr)) (jgo wm_L_52) yk_X11_chanceTop hO rfl rfl ⟨⟨rfl, rfl⟩, by decide, by decide⟩ rfl hl.1 rfl (Nat.le_of_ble_eq_true rfl) dL_chanceTop_4 ⟨Nat.le_of_ble_eq_true rfl, Nat.le_of_ble_eq_true rfl⟩ (fun E ce q9 w_ H locs hp hW hc1 hc2 hc3 => ?_) (fun v w_ H locs hp hW => ?_)
  · rcases hp with ⟨rfl, hp, rfl⟩ | ⟨rfl, hp, hU1, hN1, hN2, hN3⟩
    · refine vx_catch (name := "java/lang/IndexOutOfBoundsException") S.2.2.2.1 [] ⟨0, 8, 11, 19⟩ [⟨0, 8, 14, 56⟩] (htab.trans rfl) (fun _ h => absurd h List.not_mem_nil) (by decide) (by decide) (S.2.2.2.2 _ (List.mem_cons_of_mem _ wcl_L_19)) (va_Nw.use rfl (hx.2.2.1 "java/lang/IndexOutOfBoundsException" (by decide))) hc1 hc2 hc3 ?_
      refine W.eq (g2 := F0 m 11 ls [.ref q9]) rfl ?_
      refine lv_astore_n (lv' := [(3, .ref q9), (0, .ref (ad 0)), (1, .int v), (2, .ref (ad 74))]) S.1 S.2.1 dL_chanceTop_11 rfl hl (by decide) rfl (fun ls hl => ?_)
      refine lv_iconst (v := nI 1) S.1 S.2.1 dL_chanceTop_12 (by decide) ?_
      subst hQ
      exact j_iret (u := w) S hr (rfl) hK hW dL_chanceTop_13 ⟨by decide, by decide⟩ (Or.inr (Or.inl (⟨rfl, hp, jUc.rf, hCI0, hOut, hOuD⟩)))
    · have hU : jU w w_ [0, 20, 22, 74] := jU.mono hU1 (by first | decide | (simp; done) | (simp; omega))
      have hOut_ := hU1.get hOut (by first | decide | (simp; done) | (simp; omega))
      have hO_ : w_[0]? = some (ad 0, .inr (10, [.int (nI n), .ref (ad 1), .ref (ad 3), .ref (ad 5), .int (nI sd), .int (nI se), .ref (ad 7), .ref (ad 9), .ref (ad 11), .ref (ad 20), .int (bI true), .ref (ad 23), .ref (ad 26), .ref (ad 31), .ref (ad 42)])) := hN1
      have hMo_ : w_[20]? = some (ad 20, .inr (0, [.ref (ad 21), .int (nI n)])) := hN2
      have hMa_ : w_[22]? = some (ad 22, .inl (cy 1, 16, .inr (.inl (wd (mdl n sd se nc cs lv))))) := hN3
      clear hU1 hN1 hN2 hN3
      refine vx_catch (name := "java/util/NoSuchElementException") S.2.2.2.1 [⟨0, 8, 11, 19⟩] ⟨0, 8, 14, 56⟩ [] (htab.trans rfl) (List.forall_mem_cons.mpr ⟨Or.inr ⟨by decide, "java/lang/IndexOutOfBoundsException", S.2.2.2.2 _ (List.mem_cons_of_mem _ wcl_L_19), hnx "java/util/NoSuchElementException" (by decide) "java/lang/IndexOutOfBoundsException" (by decide) (by decide)⟩, fun _ h => absurd h List.not_mem_nil⟩) (by decide) (by decide) (S.2.2.2.2 _ (List.mem_cons_of_mem _ wcl_L_56)) (va_Nw.use rfl (hx.2.2.1 "java/util/NoSuchElementException" (by decide))) hc1 hc2 hc3 ?_
      refine W.eq (g2 := F0 m 14 ls [.ref q9]) rfl ?_
      refine lv_astore_n (lv' := [(3, .ref q9), (0, .ref (ad 0)), (1, .int v), (2, .ref (ad 74))]) S.1 S.2.1 dL_chanceTop_14 rfl hl (by decide) rfl (fun ls hl => ?_)
      refine lv_iconst (v := nI 2) S.1 S.2.1 dL_chanceTop_15 (by decide) ?_
      have hCI1 : CI ad cy w_ n wf wt od sd se nc lv cs kv kx := ⟨⟨_, _, _, hO_, hMo_, (hU.get hMl (by first | decide | (simp; done) | (simp; omega))), hMa_, by first | exact fun _ => ⟨rfl, rfl⟩ | exact fun h => by cases h | exact hfr⟩, bW0.kept hU (by first | decide | (intro k hk; simp at hk; omega)), bD.kept hU (by first | decide | (intro k hk; simp at hk; omega)), bC0.kept hU (by first | decide | (intro k hk; simp at hk; omega)), bM.kept hU (by first | decide | (intro k hk; simp at hk; omega)), bP.kept hU (by first | decide | (intro k hk; simp at hk; omega)), bR.kept hU (by first | decide | (intro k hk; simp at hk; omega)), bX.kept hU (by first | decide | (intro k hk; simp at hk; omega)), bS.kept hU (by first | decide | (intro k hk; simp at hk; omega))⟩
      subst hQ
      exact j_iret (u := w_) S hr (rfl) hK hW dL_chanceTop_16 ⟨by decide, by decide⟩ (Or.inr (Or.inr (⟨rfl, ⟨pr, hpn, hp⟩, ⟨_, hU, by first | decide | (intro k hk; simp at hk; omega)⟩, hCI1, hOut_, (hU.get hOuD (by first | decide | (simp; done) | (simp; omega)))⟩)))
  obtain ⟨x_4, rfl, hp4_0, hp4_1, hp4_2, hU1, hN1, hN2, hN3⟩ := hp
  have hU : jU w w_ [0, 20, 22, 74] := jU.mono hU1 (by first | decide | (simp; done) | (simp; omega))
  have hOut_ := hU1.get hOut (by first | decide | (simp; done) | (simp; omega))
  have hO_ : w_[0]? = some (ad 0, .inr (10, [.int (nI n), .ref (ad 1), .ref (ad 3), .ref (ad 5), .int (nI sd), .int (nI se), .ref (ad 7), .ref (ad 9), .ref (ad 11), .ref (ad 20), .int (bI true), .ref (ad 23), .ref (ad 26), .ref (ad 31), .ref (ad 42)])) := hN1
  have hMo_ : w_[20]? = some (ad 20, .inr (0, [.ref (ad 21), .int (nI n)])) := hN2
  have hMa_ : w_[22]? = some (ad 22, .inl (cy 1, 16, .inr (.inl (wd (mdl n sd se nc cs lv))))) := hN3
  clear hU1 hN1 hN2 hN3
  refine W.eq (g2 := F0 m 7 ls [.long (lN ((sumI (fun d => decide (d &&& 2 ^ x_4 = 2 ^ x_4) && mdl n sd se nc cs lv d) pr (2 ^ n)) / Nat.gcd (sumI (fun d => decide (d &&& 2 ^ x_4 = 2 ^ x_4) && mdl n sd se nc cs lv d) pr (2 ^ n)) (sumI (mdl n sd se nc cs lv) pr (2 ^ n)))), .int (nI 0), .ref (ad 74)]) rfl ?_
  have hCI1 : CI ad cy w_ n wf wt od sd se nc lv cs kv kx := ⟨⟨_, _, _, hO_, hMo_, (hU.get hMl (by first | decide | (simp; done) | (simp; omega))), hMa_, by first | exact fun _ => ⟨rfl, rfl⟩ | exact fun h => by cases h | exact hfr⟩, bW0.kept hU (by first | decide | (intro k hk; simp at hk; omega)), bD.kept hU (by first | decide | (intro k hk; simp at hk; omega)), bC0.kept hU (by first | decide | (intro k hk; simp at hk; omega)), bM.kept hU (by first | decide | (intro k hk; simp at hk; omega)), bP.kept hU (by first | decide | (intro k hk; simp at hk; omega)), bR.kept hU (by first | decide | (intro k hk; simp at hk; omega)), bX.kept hU (by first | decide | (intro k hk; simp at hk; omega)), bS.kept hU (by first | decide | (intro k hk; simp at hk; omega))⟩
  refine j_last S hK hW hOut_ (vp_in_nI (by omega) (by omega)) (nI_clamp (by omega)) dL_chanceTop_7 (fun H locs w_ hU1 hN1 hW => ?_)
  have hU := hU.then hU1 (by first | decide | (simp; done) | (simp; omega))
  have hO_ := hU1.get hO_ (by first | decide | (simp; done) | (simp; omega))
  have hMo_ := hU1.get hMo_ (by first | decide | (simp; done) | (simp; omega))
  have hMa_ := hU1.get hMa_ (by first | decide | (simp; done) | (simp; omega))
  have hOut_ : w_[74]? = some (ad 74, .inl (cy 1, 1, .inr (.inl (vp_updL og 0 (lN ((sumI (fun d => decide (d &&& 2 ^ x_4 = 2 ^ x_4) && mdl n sd se nc cs lv d) pr (2 ^ n)) / Nat.gcd (sumI (fun d => decide (d &&& 2 ^ x_4 = 2 ^ x_4) && mdl n sd se nc cs lv d) pr (2 ^ n)) (sumI (mdl n sd se nc cs lv) pr (2 ^ n)))))))) := hN1
  have hCI1 := hCI1.kept hU1 (by decide)
  clear hU1 hN1
  refine lv_goto (tgt := 17) S.1 S.2.1 dL_chanceTop_8 (by decide) ?_
  refine lv_iconst (v := nI 0) S.1 S.2.1 dL_chanceTop_17 (by decide) ?_
  subst hQ
  exact j_iret (u := w_) S hr (rfl) hK hW dL_chanceTop_18 ⟨by decide, by decide⟩ (Or.inl (⟨x_4, pr, rfl, hpn, hp4_0, hp4_1, hp4_2, ⟨_, hU, by first | decide | (intro k hk; simp at hk; omega)⟩, hCI1, hOut_, (hU.get hOuD (by first | decide | (simp; done) | (simp; omega)))⟩))
/-- the law's chanceBottom -/
theorem h_chanceBottom (l : Launch) (htr : l.stackTraces = false) (D : va_G) (cy : Nat → ClassId) {w : va_W} (ad : Nat → Nat) (n : Nat) (wf wt od : Nat → Nat) (sd se nc lv : Nat) (cs : Nat → CN) (kv : Nat → Int32) (kx : Nat → Nat → Bool) (v : Int32) (og : Nat → Int64) (ogd : Nat → UInt64) (hPI : PI n wf wt od sd se nc lv cs kv kx) (hCI : CI ad cy w n wf wt od sd se nc lv cs kv kx) (hOut : w[74]? = some (ad 74, .inl (cy 1, 1, .inr (.inl og)))) (hOuD : w[75]? = some (ad 75, .inl (cy 7, 1, .inr (.inr (.inr (.inl ogd)))))) : jMh l yL_chanceBottom (jwsW yL_chanceBottom cL_chanceBottom 4 (some .int) [(0, 8, 11, 19), (0, 8, 14, 56)]) (jR 11 2 12) D cy w [.ref (ad 0), .int v, .ref (ad 74)] 2 12 (fun vv uu => (∃ (x : Nat), ∃ (pr : Nat → Nat), vv = some (.int (nI 0)) ∧ (∀ a, a < 2 ^ n → pr a = prodN wf wt a n) ∧ x < n ∧ v = nI x ∧ sumI (mdl n sd se nc cs lv) pr (2 ^ n) ≠ 0 ∧ jUc w uu ∧ CI ad cy uu n wf wt od sd se nc lv cs kv kx ∧ uu[74]? = some (ad 74, .inl (cy 1, 1, .inr (.inl (vp_updL og 0 (lN ((sumI (mdl n sd se nc cs lv) pr (2 ^ n)) / Nat.gcd (sumI (fun d => decide (d &&& 2 ^ x = 2 ^ x) && mdl n sd se nc cs lv d) pr (2 ^ n)) (sumI (mdl n sd se nc cs lv) pr (2 ^ n)))))))) ∧ uu[75]? = some (ad 75, .inl (cy 7, 1, .inr (.inr (.inr (.inl ogd)))))) ∨ (vv = some (.int (nI 1)) ∧ (vB v n = false) ∧ jUc w uu ∧ CI ad cy uu n wf wt od sd se nc lv cs kv kx ∧ uu[74]? = some (ad 74, .inl (cy 1, 1, .inr (.inl og))) ∧ uu[75]? = some (ad 75, .inl (cy 7, 1, .inr (.inr (.inr (.inl ogd)))))) ∨ (vv = some (.int (nI 2)) ∧ (∃ (pr : Nat → Nat), (∀ a, a < 2 ^ n → pr a = prodN wf wt a n) ∧ ((∃ x, x < n ∧ v = nI x) ∧ sumI (mdl n sd se nc cs lv) pr (2 ^ n) = 0)) ∧ jUc w uu ∧ CI ad cy uu n wf wt od sd se nc lv cs kv kx ∧ uu[74]? = some (ad 74, .inl (cy 1, 1, .inr (.inl og))) ∧ uu[75]? = some (ad 75, .inl (cy 7, 1, .inr (.inr (.inr (.inl ogd))))))) := by
  obtain ⟨hn, hsdn, hse2, hnc, hlvn, hcs, hkI, hod, hodn, hinj⟩ := hPI
  have hp2 := two_pow10 hn
  have hsd : sd < 1024 := by omega
  have hse : se < 1024 := by rw [← hse2]; exact Nat.lt_of_le_of_lt Nat.and_le_right hsd
  have hlv : lv < 2 ^ 20 := Nat.lt_of_lt_of_le hlvn (Nat.pow_le_pow_right (by decide) hnc)
  have hCI0 := hCI
  obtain ⟨bO, bW, bD, bC, bM, bP, bR, bX, bS⟩ := hCI
  have bO0 := bO
  have bW0 := bW
  have bC0 := bC
  obtain ⟨fr, mv, MX, hO, hMo, hMl, hMa, hfr⟩ := bO
  obtain ⟨pr, hFo, hFa, hGo, hGa, hDo, hDa, hwf, hwt, hpr, hpn⟩ := bW
  obtain ⟨tf, cp, ca, hC, hT, hcon⟩ := bC
  refine j_ofH (by decide) rfl (Nat.le_of_ble_eq_true rfl) ?_
  intro p e s m args below meth c A ls Q hQ S hr hK hA H locs hW hl htab hx hnx
  have hl : lv_has ls 4 [(0, .ref (ad 0)), (1, .int v), (2, .ref (ad 74))] := hl
  refine lv_aload_n S.1 S.2.1 dL_chanceBottom_0 rfl (lv_at hl 2 rfl) ?_
  refine lv_iconst (v := nI 0) S.1 S.2.1 dL_chanceBottom_1 (by decide) ?_
  refine lv_aload_n S.1 S.2.1 dL_chanceBottom_2 rfl (lv_at hl 0 rfl) ?_
  refine lv_iload_n S.1 S.2.1 dL_chanceBottom_3 rfl (lv_at hl 1 rfl) ?_
  refine jx_callT (k := 0) (ci := 10) (q := (RX11, TX11, 15)) (As := [.int v]) (rest := [.int (nI 0), .ref (ad 74)]) S hK hA hW hx (c_X11_chanceBottom l htr D cy ad n sd se fr nc lv tf cp ca cs mv MX pr v hO hMo hMl hMa hC hT hDo hDa hcon  (hn) (hsd) (hse) (hlv) (hfr) (hpr)) (jgo wm_L_58) yk_X11_chanceBottom hO rfl rfl ⟨⟨rfl, rfl⟩, by decide, by decide⟩ rfl hl.1 rfl (Nat.le_of_ble_eq_true rfl) dL_chanceBottom_4 ⟨Nat.le_of_ble_eq_true rfl, Nat.le_of_ble_eq_true rfl⟩ (fun E ce q9 w_ H locs hp hW hc1 hc2 hc3 => ?_) (fun v w_ H locs hp hW => ?_)
  · rcases hp with ⟨rfl, hp, rfl⟩ | ⟨rfl, hp, hU1, hN1, hN2, hN3⟩
    · refine vx_catch (name := "java/lang/IndexOutOfBoundsException") S.2.2.2.1 [] ⟨0, 8, 11, 19⟩ [⟨0, 8, 14, 56⟩] (htab.trans rfl) (fun _ h => absurd h List.not_mem_nil) (by decide) (by decide) (S.2.2.2.2 _ (List.mem_cons_of_mem _ wcl_L_19)) (va_Nw.use rfl (hx.2.2.1 "java/lang/IndexOutOfBoundsException" (by decide))) hc1 hc2 hc3 ?_
      refine W.eq (g2 := F0 m 11 ls [.ref q9]) rfl ?_
      refine lv_astore_n (lv' := [(3, .ref q9), (0, .ref (ad 0)), (1, .int v), (2, .ref (ad 74))]) S.1 S.2.1 dL_chanceBottom_11 rfl hl (by decide) rfl (fun ls hl => ?_)
      refine lv_iconst (v := nI 1) S.1 S.2.1 dL_chanceBottom_12 (by decide) ?_
      subst hQ
      exact j_iret (u := w) S hr (rfl) hK hW dL_chanceBottom_13 ⟨by decide, by decide⟩ (Or.inr (Or.inl (⟨rfl, hp, jUc.rf, hCI0, hOut, hOuD⟩)))
    · have hU : jU w w_ [0, 20, 22, 74] := jU.mono hU1 (by first | decide | (simp; done) | (simp; omega))
      have hOut_ := hU1.get hOut (by first | decide | (simp; done) | (simp; omega))
      have hO_ : w_[0]? = some (ad 0, .inr (10, [.int (nI n), .ref (ad 1), .ref (ad 3), .ref (ad 5), .int (nI sd), .int (nI se), .ref (ad 7), .ref (ad 9), .ref (ad 11), .ref (ad 20), .int (bI true), .ref (ad 23), .ref (ad 26), .ref (ad 31), .ref (ad 42)])) := hN1
      have hMo_ : w_[20]? = some (ad 20, .inr (0, [.ref (ad 21), .int (nI n)])) := hN2
      have hMa_ : w_[22]? = some (ad 22, .inl (cy 1, 16, .inr (.inl (wd (mdl n sd se nc cs lv))))) := hN3
      clear hU1 hN1 hN2 hN3
      refine vx_catch (name := "java/util/NoSuchElementException") S.2.2.2.1 [⟨0, 8, 11, 19⟩] ⟨0, 8, 14, 56⟩ [] (htab.trans rfl) (List.forall_mem_cons.mpr ⟨Or.inr ⟨by decide, "java/lang/IndexOutOfBoundsException", S.2.2.2.2 _ (List.mem_cons_of_mem _ wcl_L_19), hnx "java/util/NoSuchElementException" (by decide) "java/lang/IndexOutOfBoundsException" (by decide) (by decide)⟩, fun _ h => absurd h List.not_mem_nil⟩) (by decide) (by decide) (S.2.2.2.2 _ (List.mem_cons_of_mem _ wcl_L_56)) (va_Nw.use rfl (hx.2.2.1 "java/util/NoSuchElementException" (by decide))) hc1 hc2 hc3 ?_
      refine W.eq (g2 := F0 m 14 ls [.ref q9]) rfl ?_
      refine lv_astore_n (lv' := [(3, .ref q9), (0, .ref (ad 0)), (1, .int v), (2, .ref (ad 74))]) S.1 S.2.1 dL_chanceBottom_14 rfl hl (by decide) rfl (fun ls hl => ?_)
      refine lv_iconst (v := nI 2) S.1 S.2.1 dL_chanceBottom_15 (by decide) ?_
      have hCI1 : CI ad cy w_ n wf wt od sd se nc lv cs kv kx := ⟨⟨_, _, _, hO_, hMo_, (hU.get hMl (by first | decide | (simp; done) | (simp; omega))), hMa_, by first | exact fun _ => ⟨rfl, rfl⟩ | exact fun h => by cases h | exact hfr⟩, bW0.kept hU (by first | decide | (intro k hk; simp at hk; omega)), bD.kept hU (by first | decide | (intro k hk; simp at hk; omega)), bC0.kept hU (by first | decide | (intro k hk; simp at hk; omega)), bM.kept hU (by first | decide | (intro k hk; simp at hk; omega)), bP.kept hU (by first | decide | (intro k hk; simp at hk; omega)), bR.kept hU (by first | decide | (intro k hk; simp at hk; omega)), bX.kept hU (by first | decide | (intro k hk; simp at hk; omega)), bS.kept hU (by first | decide | (intro k hk; simp at hk; omega))⟩
      subst hQ
      exact j_iret (u := w_) S hr (rfl) hK hW dL_chanceBottom_16 ⟨by decide, by decide⟩ (Or.inr (Or.inr (⟨rfl, ⟨pr, hpn, hp⟩, ⟨_, hU, by first | decide | (intro k hk; simp at hk; omega)⟩, hCI1, hOut_, (hU.get hOuD (by first | decide | (simp; done) | (simp; omega)))⟩)))
  obtain ⟨x_4, rfl, hp4_0, hp4_1, hp4_2, hU1, hN1, hN2, hN3⟩ := hp
  have hU : jU w w_ [0, 20, 22, 74] := jU.mono hU1 (by first | decide | (simp; done) | (simp; omega))
  have hOut_ := hU1.get hOut (by first | decide | (simp; done) | (simp; omega))
  have hO_ : w_[0]? = some (ad 0, .inr (10, [.int (nI n), .ref (ad 1), .ref (ad 3), .ref (ad 5), .int (nI sd), .int (nI se), .ref (ad 7), .ref (ad 9), .ref (ad 11), .ref (ad 20), .int (bI true), .ref (ad 23), .ref (ad 26), .ref (ad 31), .ref (ad 42)])) := hN1
  have hMo_ : w_[20]? = some (ad 20, .inr (0, [.ref (ad 21), .int (nI n)])) := hN2
  have hMa_ : w_[22]? = some (ad 22, .inl (cy 1, 16, .inr (.inl (wd (mdl n sd se nc cs lv))))) := hN3
  clear hU1 hN1 hN2 hN3
  refine W.eq (g2 := F0 m 7 ls [.long (lN ((sumI (mdl n sd se nc cs lv) pr (2 ^ n)) / Nat.gcd (sumI (fun d => decide (d &&& 2 ^ x_4 = 2 ^ x_4) && mdl n sd se nc cs lv d) pr (2 ^ n)) (sumI (mdl n sd se nc cs lv) pr (2 ^ n)))), .int (nI 0), .ref (ad 74)]) rfl ?_
  have hCI1 : CI ad cy w_ n wf wt od sd se nc lv cs kv kx := ⟨⟨_, _, _, hO_, hMo_, (hU.get hMl (by first | decide | (simp; done) | (simp; omega))), hMa_, by first | exact fun _ => ⟨rfl, rfl⟩ | exact fun h => by cases h | exact hfr⟩, bW0.kept hU (by first | decide | (intro k hk; simp at hk; omega)), bD.kept hU (by first | decide | (intro k hk; simp at hk; omega)), bC0.kept hU (by first | decide | (intro k hk; simp at hk; omega)), bM.kept hU (by first | decide | (intro k hk; simp at hk; omega)), bP.kept hU (by first | decide | (intro k hk; simp at hk; omega)), bR.kept hU (by first | decide | (intro k hk; simp at hk; omega)), bX.kept hU (by first | decide | (intro k hk; simp at hk; omega)), bS.kept hU (by first | decide | (intro k hk; simp at hk; omega))⟩
  refine j_last S hK hW hOut_ (vp_in_nI (by omega) (by omega)) (nI_clamp (by omega)) dL_chanceBottom_7 (fun H locs w_ hU1 hN1 hW => ?_)
  have hU := hU.then hU1 (by first | decide | (simp; done) | (simp; omega))
  have hO_ := hU1.get hO_ (by first | decide | (simp; done) | (simp; omega))
  have hMo_ := hU1.get hMo_ (by first | decide | (simp; done) | (simp; omega))
  have hMa_ := hU1.get hMa_ (by first | decide | (simp; done) | (simp; omega))
  have hOut_ : w_[74]? = some (ad 74, .inl (cy 1, 1, .inr (.inl (vp_updL og 0 (lN ((sumI (mdl n sd se nc cs lv) pr (2 ^ n)) / Nat.gcd (sumI (fun d => decide (d &&& 2 ^ x_4 = 2 ^ x_4) && mdl n sd se nc cs lv d) pr (2 ^ n)) (sumI (mdl n sd se nc cs lv) pr (2 ^ n)))))))) := hN1
  have hCI1 := hCI1.kept hU1 (by decide)
  clear hU1 hN1
  refine lv_goto (tgt := 17) S.1 S.2.1 dL_chanceBottom_8 (by decide) ?_
  refine lv_iconst (v := nI 0) S.1 S.2.1 dL_chanceBottom_17 (by decide) ?_
  subst hQ
  exact j_iret (u := w_) S hr (rfl) hK hW dL_chanceBottom_18 ⟨by decide, by decide⟩ (Or.inl (⟨x_4, pr, rfl, hpn, hp4_0, hp4_1, hp4_2, ⟨_, hU, by first | decide | (intro k hk; simp at hk; omega)⟩, hCI1, hOut_, (hU.get hOuD (by first | decide | (simp; done) | (simp; omega)))⟩))
/-- the law's projected -/
theorem h_projected (l : Launch) (htr : l.stackTraces = false) (D : va_G) (cy : Nat → ClassId) {w : va_W} (ad : Nat → Nat) (n : Nat) (wf wt od : Nat → Nat) (sd se nc lv : Nat) (cs : Nat → CN) (kv : Nat → Int32) (kx : Nat → Nat → Bool) (x : Int32) (og : Nat → Int64) (ogd : Nat → UInt64) (hPI : PI n wf wt od sd se nc lv cs kv kx) (hCI : CI ad cy w n wf wt od sd se nc lv cs kv kx) (hOut : w[74]? = some (ad 74, .inl (cy 1, 1, .inr (.inl og)))) (hOuD : w[75]? = some (ad 75, .inl (cy 7, 1, .inr (.inr (.inr (.inl ogd)))))) : jMh l yL_projected (jwsW yL_projected cL_projected 4 (some .int) [(0, 8, 11, 21)]) (jR 10 1 6) D cy w [.ref (ad 0), .int x, .ref (ad 74)] 1 6 (fun vv uu => (∃ (y : Nat), vv = some (.int (nI 0)) ∧ y < 2 ^ n ∧ x = nI y ∧ jUc w uu ∧ CI ad cy uu n wf wt od sd se nc lv cs kv kx ∧ uu[74]? = some (ad 74, .inl (cy 1, 1, .inr (.inl (vp_updL og 0 (lN (cnt (prjS (mdl n sd se nc cs lv) y (2 ^ n)) 1024)))))) ∧ uu[75]? = some (ad 75, .inl (cy 7, 1, .inr (.inr (.inr (.inl ogd)))))) ∨ (vv = some (.int (nI 1)) ∧ (vB x (2 ^ n) = false) ∧ jUc w uu ∧ CI ad cy uu n wf wt od sd se nc lv cs kv kx ∧ uu[74]? = some (ad 74, .inl (cy 1, 1, .inr (.inl og))) ∧ uu[75]? = some (ad 75, .inl (cy 7, 1, .inr (.inr (.inr (.inl ogd))))))) := by
  obtain ⟨hn, hsdn, hse2, hnc, hlvn, hcs, hkI, hod, hodn, hinj⟩ := hPI
  have hp2 := two_pow10 hn
  have hsd : sd < 1024 := by omega
  have hse : se < 1024 := by rw [← hse2]; exact Nat.lt_of_le_of_lt Nat.and_le_right hsd
  have hlv : lv < 2 ^ 20 := Nat.lt_of_lt_of_le hlvn (Nat.pow_le_pow_right (by decide) hnc)
  have hCI0 := hCI
  obtain ⟨bO, bW, bD, bC, bM, bP, bR, bX, bS⟩ := hCI
  have bO0 := bO
  have bC0 := bC
  have bP0 := bP
  obtain ⟨fr, mv, MX, hO, hMo, hMl, hMa, hfr⟩ := bO
  obtain ⟨tf, cp, ca, hC, hT, hcon⟩ := bC
  obtain ⟨qv, QX, hJo, hJl, hJa⟩ := bP
  refine j_ofH (by decide) rfl (Nat.le_of_ble_eq_true rfl) ?_
  intro p e s m args below meth c A ls Q hQ S hr hK hA H locs hW hl htab hx hnx
  have hl : lv_has ls 4 [(0, .ref (ad 0)), (1, .int x), (2, .ref (ad 74))] := hl
  refine lv_aload_n S.1 S.2.1 dL_projected_0 rfl (lv_at hl 2 rfl) ?_
  refine lv_iconst (v := nI 0) S.1 S.2.1 dL_projected_1 (by decide) ?_
  refine lv_aload_n S.1 S.2.1 dL_projected_2 rfl (lv_at hl 0 rfl) ?_
  refine lv_iload_n S.1 S.2.1 dL_projected_3 rfl (lv_at hl 1 rfl) ?_
  refine jx_callT (k := 0) (ci := 10) (q := (RX11, TX11, 15)) (As := [.int x]) (rest := [.int (nI 0), .ref (ad 74)]) S hK hA hW hx (c_X11_projected l htr D cy ad n sd se fr nc lv tf cp ca cs mv MX qv QX x hO hMo hMl hMa hC hT hJo hJl hJa hcon  (hn) (hsd) (hse) (hlv) (hfr)) (jgo wm_L_61) yk_X11_projected hO rfl rfl ⟨⟨rfl, rfl⟩, by decide, by decide⟩ rfl hl.1 rfl (Nat.le_of_ble_eq_true rfl) dL_projected_4 ⟨Nat.le_of_ble_eq_true rfl, Nat.le_of_ble_eq_true rfl⟩ (fun E ce q9 w_ H locs hp hW hc1 hc2 hc3 => ?_) (fun v w_ H locs hp hW => ?_)
  · obtain ⟨hp, rfl⟩ := hp
    obtain ⟨rfl, hp⟩ := hp
    refine vx_catch (name := "java/lang/IllegalArgumentException") S.2.2.2.1 [] ⟨0, 8, 11, 21⟩ [] (htab.trans rfl) (fun _ h => absurd h List.not_mem_nil) (by decide) (by decide) (S.2.2.2.2 _ (List.mem_cons_of_mem _ wcl_L_21)) (va_Nw.use rfl (hx.2.2.1 "java/lang/IllegalArgumentException" (by decide))) hc1 hc2 hc3 ?_
    refine W.eq (g2 := F0 m 11 ls [.ref q9]) rfl ?_
    refine lv_astore_n (lv' := [(3, .ref q9), (0, .ref (ad 0)), (1, .int x), (2, .ref (ad 74))]) S.1 S.2.1 dL_projected_11 rfl hl (by decide) rfl (fun ls hl => ?_)
    refine lv_iconst (v := nI 1) S.1 S.2.1 dL_projected_12 (by decide) ?_
    subst hQ
    exact j_iret (u := w) S hr (rfl) hK hW dL_projected_13 ⟨by decide, by decide⟩ (Or.inr (⟨rfl, hp, jUc.rf, hCI0, hOut, hOuD⟩))
  obtain ⟨y_4, rfl, hp4_0, hp4_1, hU1, hN1, hN2, hN3, hN4, hN5⟩ := hp
  have hU : jU w w_ [0, 20, 22, 23, 25, 74] := jU.mono hU1 (by first | decide | (simp; done) | (simp; omega))
  have hOut_ := hU1.get hOut (by first | decide | (simp; done) | (simp; omega))
  have hO_ : w_[0]? = some (ad 0, .inr (10, [.int (nI n), .ref (ad 1), .ref (ad 3), .ref (ad 5), .int (nI sd), .int (nI se), .ref (ad 7), .ref (ad 9), .ref (ad 11), .ref (ad 20), .int (bI true), .ref (ad 23), .ref (ad 26), .ref (ad 31), .ref (ad 42)])) := hN1
  have hMo_ : w_[20]? = some (ad 20, .inr (0, [.ref (ad 21), .int (nI n)])) := hN2
  have hMa_ : w_[22]? = some (ad 22, .inl (cy 1, 16, .inr (.inl (wd (mdl n sd se nc cs lv))))) := hN3
  have hJo_ : w_[23]? = some (ad 23, .inr (0, [.ref (ad 24), .int (nI n)])) := hN4
  have hJa_ : w_[25]? = some (ad 25, .inl (cy 1, 16, .inr (.inl (wd (prjS (mdl n sd se nc cs lv) y_4 (2 ^ n)))))) := hN5
  clear hU1 hN1 hN2 hN3 hN4 hN5
  refine W.eq (g2 := F0 m 7 ls [.long (lN (cnt (prjS (mdl n sd se nc cs lv) y_4 (2 ^ n)) 1024)), .int (nI 0), .ref (ad 74)]) rfl ?_
  have hCI1 : CI ad cy w_ n wf wt od sd se nc lv cs kv kx := ⟨⟨_, _, _, hO_, hMo_, (hU.get hMl (by first | decide | (simp; done) | (simp; omega))), hMa_, by first | exact fun _ => ⟨rfl, rfl⟩ | exact fun h => by cases h | exact hfr⟩, bW.kept hU (by first | decide | (intro k hk; simp at hk; omega)), bD.kept hU (by first | decide | (intro k hk; simp at hk; omega)), bC0.kept hU (by first | decide | (intro k hk; simp at hk; omega)), bM.kept hU (by first | decide | (intro k hk; simp at hk; omega)), ⟨_, _, hJo_, (hU.get hJl (by first | decide | (simp; done) | (simp; omega))), hJa_⟩, bR.kept hU (by first | decide | (intro k hk; simp at hk; omega)), bX.kept hU (by first | decide | (intro k hk; simp at hk; omega)), bS.kept hU (by first | decide | (intro k hk; simp at hk; omega))⟩
  refine j_last S hK hW hOut_ (vp_in_nI (by omega) (by omega)) (nI_clamp (by omega)) dL_projected_7 (fun H locs w_ hU1 hN1 hW => ?_)
  have hU := hU.then hU1 (by first | decide | (simp; done) | (simp; omega))
  have hO_ := hU1.get hO_ (by first | decide | (simp; done) | (simp; omega))
  have hMo_ := hU1.get hMo_ (by first | decide | (simp; done) | (simp; omega))
  have hMa_ := hU1.get hMa_ (by first | decide | (simp; done) | (simp; omega))
  have hJo_ := hU1.get hJo_ (by first | decide | (simp; done) | (simp; omega))
  have hJa_ := hU1.get hJa_ (by first | decide | (simp; done) | (simp; omega))
  have hOut_ : w_[74]? = some (ad 74, .inl (cy 1, 1, .inr (.inl (vp_updL og 0 (lN (cnt (prjS (mdl n sd se nc cs lv) y_4 (2 ^ n)) 1024)))))) := hN1
  have hCI1 := hCI1.kept hU1 (by decide)
  clear hU1 hN1
  refine lv_goto (tgt := 14) S.1 S.2.1 dL_projected_8 (by decide) ?_
  refine lv_iconst (v := nI 0) S.1 S.2.1 dL_projected_14 (by decide) ?_
  subst hQ
  exact j_iret (u := w_) S hr (rfl) hK hW dL_projected_15 ⟨by decide, by decide⟩ (Or.inl (⟨y_4, rfl, hp4_0, hp4_1, ⟨_, hU, by first | decide | (intro k hk; simp at hk; omega)⟩, hCI1, hOut_, (hU.get hOuD (by first | decide | (simp; done) | (simp; omega)))⟩))
/-- the law's implied -/
theorem h_implied (l : Launch) (htr : l.stackTraces = false) (D : va_G) (cy : Nat → ClassId) {w : va_W} (ad : Nat → Nat) (n : Nat) (wf wt od : Nat → Nat) (sd se nc lv : Nat) (cs : Nat → CN) (kv : Nat → Int32) (kx : Nat → Nat → Bool) (v : Int32) (og : Nat → Int64) (ogd : Nat → UInt64) (hPI : PI n wf wt od sd se nc lv cs kv kx) (hCI : CI ad cy w n wf wt od sd se nc lv cs kv kx) (hOut : w[74]? = some (ad 74, .inl (cy 1, 1, .inr (.inl og)))) (hOuD : w[75]? = some (ad 75, .inl (cy 7, 1, .inr (.inr (.inr (.inl ogd)))))) : jMh l yL_implied (jwsW yL_implied cL_implied 4 (some .int) [(0, 9, 12, 19)]) (jR 10 1 6) D cy w [.ref (ad 0), .int v, .ref (ad 74)] 1 6 (fun vv uu => (∃ (x : Nat), vv = some (.int (nI 0)) ∧ x < n ∧ v = nI x ∧ jUc w uu ∧ CI ad cy uu n wf wt od sd se nc lv cs kv kx ∧ uu[74]? = some (ad 74, .inl (cy 1, 1, .inr (.inl (vp_updL og 0 ((nI (impC (anyB (fun d => mdl n sd se nc cs lv d && !d.testBit x) (2 ^ n)) (anyB (fun d => mdl n sd se nc cs lv d && d.testBit x) (2 ^ n)))).toInt64))))) ∧ uu[75]? = some (ad 75, .inl (cy 7, 1, .inr (.inr (.inr (.inl ogd)))))) ∨ (vv = some (.int (nI 1)) ∧ (vB v n = false) ∧ jUc w uu ∧ CI ad cy uu n wf wt od sd se nc lv cs kv kx ∧ uu[74]? = some (ad 74, .inl (cy 1, 1, .inr (.inl og))) ∧ uu[75]? = some (ad 75, .inl (cy 7, 1, .inr (.inr (.inr (.inl ogd))))))) := by
  obtain ⟨hn, hsdn, hse2, hnc, hlvn, hcs, hkI, hod, hodn, hinj⟩ := hPI
  have hp2 := two_pow10 hn
  have hsd : sd < 1024 := by omega
  have hse : se < 1024 := by rw [← hse2]; exact Nat.lt_of_le_of_lt Nat.and_le_right hsd
  have hlv : lv < 2 ^ 20 := Nat.lt_of_lt_of_le hlvn (Nat.pow_le_pow_right (by decide) hnc)
  have hCI0 := hCI
  obtain ⟨bO, bW, bD, bC, bM, bP, bR, bX, bS⟩ := hCI
  have bO0 := bO
  have bC0 := bC
  obtain ⟨fr, mv, MX, hO, hMo, hMl, hMa, hfr⟩ := bO
  obtain ⟨tf, cp, ca, hC, hT, hcon⟩ := bC
  refine j_ofH (by decide) rfl (Nat.le_of_ble_eq_true rfl) ?_
  intro p e s m args below meth c A ls Q hQ S hr hK hA H locs hW hl htab hx hnx
  have hl : lv_has ls 4 [(0, .ref (ad 0)), (1, .int v), (2, .ref (ad 74))] := hl
  refine lv_aload_n S.1 S.2.1 dL_implied_0 rfl (lv_at hl 2 rfl) ?_
  refine lv_iconst (v := nI 0) S.1 S.2.1 dL_implied_1 (by decide) ?_
  refine lv_aload_n S.1 S.2.1 dL_implied_2 rfl (lv_at hl 0 rfl) ?_
  refine lv_iload_n S.1 S.2.1 dL_implied_3 rfl (lv_at hl 1 rfl) ?_
  refine jx_callT (k := 0) (ci := 10) (q := (RX11, TX11, 15)) (As := [.int v]) (rest := [.int (nI 0), .ref (ad 74)]) S hK hA hW hx (c_X11_implied l htr D cy ad n sd se fr nc lv tf cp ca cs mv MX v hO hMo hMl hMa hC hT hcon  (hn) (hsd) (hse) (hlv) (hfr)) (jgo wm_L_64) yk_X11_implied hO rfl rfl ⟨⟨rfl, rfl⟩, by decide, by decide⟩ rfl hl.1 rfl (Nat.le_of_ble_eq_true rfl) dL_implied_4 ⟨Nat.le_of_ble_eq_true rfl, Nat.le_of_ble_eq_true rfl⟩ (fun E ce q9 w_ H locs hp hW hc1 hc2 hc3 => ?_) (fun v w_ H locs hp hW => ?_)
  · obtain ⟨hp, rfl⟩ := hp
    obtain ⟨rfl, hp⟩ := hp
    refine vx_catch (name := "java/lang/IndexOutOfBoundsException") S.2.2.2.1 [] ⟨0, 9, 12, 19⟩ [] (htab.trans rfl) (fun _ h => absurd h List.not_mem_nil) (by decide) (by decide) (S.2.2.2.2 _ (List.mem_cons_of_mem _ wcl_L_19)) (va_Nw.use rfl (hx.2.2.1 "java/lang/IndexOutOfBoundsException" (by decide))) hc1 hc2 hc3 ?_
    refine W.eq (g2 := F0 m 12 ls [.ref q9]) rfl ?_
    refine lv_astore_n (lv' := [(3, .ref q9), (0, .ref (ad 0)), (1, .int v), (2, .ref (ad 74))]) S.1 S.2.1 dL_implied_12 rfl hl (by decide) rfl (fun ls hl => ?_)
    refine lv_iconst (v := nI 1) S.1 S.2.1 dL_implied_13 (by decide) ?_
    subst hQ
    exact j_iret (u := w) S hr (rfl) hK hW dL_implied_14 ⟨by decide, by decide⟩ (Or.inr (⟨rfl, hp, jUc.rf, hCI0, hOut, hOuD⟩))
  obtain ⟨x_4, rfl, hp4_0, hp4_1, hU1, hN1, hN2, hN3⟩ := hp
  have hU : jU w w_ [0, 20, 22, 74] := jU.mono hU1 (by first | decide | (simp; done) | (simp; omega))
  have hOut_ := hU1.get hOut (by first | decide | (simp; done) | (simp; omega))
  have hO_ : w_[0]? = some (ad 0, .inr (10, [.int (nI n), .ref (ad 1), .ref (ad 3), .ref (ad 5), .int (nI sd), .int (nI se), .ref (ad 7), .ref (ad 9), .ref (ad 11), .ref (ad 20), .int (bI true), .ref (ad 23), .ref (ad 26), .ref (ad 31), .ref (ad 42)])) := hN1
  have hMo_ : w_[20]? = some (ad 20, .inr (0, [.ref (ad 21), .int (nI n)])) := hN2
  have hMa_ : w_[22]? = some (ad 22, .inl (cy 1, 16, .inr (.inl (wd (mdl n sd se nc cs lv))))) := hN3
  clear hU1 hN1 hN2 hN3
  refine W.eq (g2 := F0 m 7 ls [.int (nI (impC (anyB (fun d => mdl n sd se nc cs lv d && !d.testBit x_4) (2 ^ n)) (anyB (fun d => mdl n sd se nc cs lv d && d.testBit x_4) (2 ^ n)))), .int (nI 0), .ref (ad 74)]) rfl ?_
  have hCI1 : CI ad cy w_ n wf wt od sd se nc lv cs kv kx := ⟨⟨_, _, _, hO_, hMo_, (hU.get hMl (by first | decide | (simp; done) | (simp; omega))), hMa_, by first | exact fun _ => ⟨rfl, rfl⟩ | exact fun h => by cases h | exact hfr⟩, bW.kept hU (by first | decide | (intro k hk; simp at hk; omega)), bD.kept hU (by first | decide | (intro k hk; simp at hk; omega)), bC0.kept hU (by first | decide | (intro k hk; simp at hk; omega)), bM.kept hU (by first | decide | (intro k hk; simp at hk; omega)), bP.kept hU (by first | decide | (intro k hk; simp at hk; omega)), bR.kept hU (by first | decide | (intro k hk; simp at hk; omega)), bX.kept hU (by first | decide | (intro k hk; simp at hk; omega)), bS.kept hU (by first | decide | (intro k hk; simp at hk; omega))⟩
  refine lv_i2l (v := (nI (impC (anyB (fun d => mdl n sd se nc cs lv d && !d.testBit x_4) (2 ^ n)) (anyB (fun d => mdl n sd se nc cs lv d && d.testBit x_4) (2 ^ n)))).toInt64) S.1 S.2.1 dL_implied_7 (rfl) ?_
  refine j_last S hK hW hOut_ (vp_in_nI (by omega) (by omega)) (nI_clamp (by omega)) dL_implied_8 (fun H locs w_ hU1 hN1 hW => ?_)
  have hU := hU.then hU1 (by first | decide | (simp; done) | (simp; omega))
  have hO_ := hU1.get hO_ (by first | decide | (simp; done) | (simp; omega))
  have hMo_ := hU1.get hMo_ (by first | decide | (simp; done) | (simp; omega))
  have hMa_ := hU1.get hMa_ (by first | decide | (simp; done) | (simp; omega))
  have hOut_ : w_[74]? = some (ad 74, .inl (cy 1, 1, .inr (.inl (vp_updL og 0 ((nI (impC (anyB (fun d => mdl n sd se nc cs lv d && !d.testBit x_4) (2 ^ n)) (anyB (fun d => mdl n sd se nc cs lv d && d.testBit x_4) (2 ^ n)))).toInt64))))) := hN1
  have hCI1 := hCI1.kept hU1 (by decide)
  clear hU1 hN1
  refine lv_goto (tgt := 15) S.1 S.2.1 dL_implied_9 (by decide) ?_
  refine lv_iconst (v := nI 0) S.1 S.2.1 dL_implied_15 (by decide) ?_
  subst hQ
  exact j_iret (u := w_) S hr (rfl) hK hW dL_implied_16 ⟨by decide, by decide⟩ (Or.inl (⟨x_4, rfl, hp4_0, hp4_1, ⟨_, hU, by first | decide | (intro k hk; simp at hk; omega)⟩, hCI1, hOut_, (hU.get hOuD (by first | decide | (simp; done) | (simp; omega)))⟩))
/-- the law's partOf -/
theorem h_partOf (l : Launch) (htr : l.stackTraces = false) (D : va_G) (cy : Nat → ClassId) {w : va_W} (ad : Nat → Nat) (n : Nat) (wf wt od : Nat → Nat) (sd se nc lv : Nat) (cs : Nat → CN) (kv : Nat → Int32) (kx : Nat → Nat → Bool) (v : Int32) (og : Nat → Int64) (ogd : Nat → UInt64) (hPI : PI n wf wt od sd se nc lv cs kv kx) (hCI : CI ad cy w n wf wt od sd se nc lv cs kv kx) (hOut : w[74]? = some (ad 74, .inl (cy 1, 1, .inr (.inl og)))) (hOuD : w[75]? = some (ad 75, .inl (cy 7, 1, .inr (.inr (.inr (.inl ogd)))))) : jMh l yL_partOf (jwsW yL_partOf cL_partOf 4 (some .int) [(0, 9, 12, 19), (0, 9, 15, 56)]) (jR 11 2 12) D cy w [.ref (ad 0), .int v, .ref (ad 74)] 2 12 (fun vv uu => (∃ (x : Nat), vv = some (.int (nI 0)) ∧ x < n ∧ v = nI x ∧ sd.testBit x = false ∧ jUc w uu ∧ CI ad cy uu n wf wt od sd se nc lv cs kv kx ∧ uu[74]? = some (ad 74, .inl (cy 1, 1, .inr (.inl (vp_updL og 0 ((nI (lowN (itP nc cs lv (nAnd (2 ^ n - 1) sd) x 10) n)).toInt64))))) ∧ uu[75]? = some (ad 75, .inl (cy 7, 1, .inr (.inr (.inr (.inl ogd)))))) ∨ (vv = some (.int (nI 1)) ∧ (vB v n = false) ∧ jUc w uu ∧ CI ad cy uu n wf wt od sd se nc lv cs kv kx ∧ uu[74]? = some (ad 74, .inl (cy 1, 1, .inr (.inl og))) ∧ uu[75]? = some (ad 75, .inl (cy 7, 1, .inr (.inr (.inr (.inl ogd)))))) ∨ (vv = some (.int (nI 2)) ∧ ((∃ x, x < n ∧ v = nI x ∧ sd.testBit x = true)) ∧ jUc w uu ∧ CI ad cy uu n wf wt od sd se nc lv cs kv kx ∧ uu[74]? = some (ad 74, .inl (cy 1, 1, .inr (.inl og))) ∧ uu[75]? = some (ad 75, .inl (cy 7, 1, .inr (.inr (.inr (.inl ogd))))))) := by
  obtain ⟨hn, hsdn, hse2, hnc, hlvn, hcs, hkI, hod, hodn, hinj⟩ := hPI
  have hp2 := two_pow10 hn
  have hsd : sd < 1024 := by omega
  have hse : se < 1024 := by rw [← hse2]; exact Nat.lt_of_le_of_lt Nat.and_le_right hsd
  have hlv : lv < 2 ^ 20 := Nat.lt_of_lt_of_le hlvn (Nat.pow_le_pow_right (by decide) hnc)
  have hCI0 := hCI
  obtain ⟨bO, bW, bD, bC, bM, bP, bR, bX, bS⟩ := hCI
  have bO0 := bO
  have bC0 := bC
  obtain ⟨fr, mv, MX, hO, hMo, hMl, hMa, hfr⟩ := bO
  obtain ⟨tf, cp, ca, hC, hT, hcon⟩ := bC
  refine j_ofH (by decide) rfl (Nat.le_of_ble_eq_true rfl) ?_
  intro p e s m args below meth c A ls Q hQ S hr hK hA H locs hW hl htab hx hnx
  have hl : lv_has ls 4 [(0, .ref (ad 0)), (1, .int v), (2, .ref (ad 74))] := hl
  refine lv_aload_n S.1 S.2.1 dL_partOf_0 rfl (lv_at hl 2 rfl) ?_
  refine lv_iconst (v := nI 0) S.1 S.2.1 dL_partOf_1 (by decide) ?_
  refine lv_aload_n S.1 S.2.1 dL_partOf_2 rfl (lv_at hl 0 rfl) ?_
  refine lv_iload_n S.1 S.2.1 dL_partOf_3 rfl (lv_at hl 1 rfl) ?_
  refine jx_callT (k := 0) (ci := 10) (q := (RX11, TX11, 15)) (As := [.int v]) (rest := [.int (nI 0), .ref (ad 74)]) S hK hA hW hx (c_X11_partOf l htr D cy ad n sd se fr nc lv tf cp ca cs v hO hC hT hcon  (hn) (hsd) (hse) (hlv)) (jgo wm_L_67) yk_X11_partOf hO rfl rfl ⟨⟨rfl, rfl⟩, by decide, by decide⟩ rfl hl.1 rfl (Nat.le_of_ble_eq_true rfl) dL_partOf_4 ⟨Nat.le_of_ble_eq_true rfl, Nat.le_of_ble_eq_true rfl⟩ (fun E ce q9 w_ H locs hp hW hc1 hc2 hc3 => ?_) (fun v u H locs hp hW => ?_)
  · obtain ⟨hp, rfl⟩ := hp
    rcases hp with ⟨rfl, hp⟩ | ⟨rfl, hp⟩
    · refine vx_catch (name := "java/lang/IndexOutOfBoundsException") S.2.2.2.1 [] ⟨0, 9, 12, 19⟩ [⟨0, 9, 15, 56⟩] (htab.trans rfl) (fun _ h => absurd h List.not_mem_nil) (by decide) (by decide) (S.2.2.2.2 _ (List.mem_cons_of_mem _ wcl_L_19)) (va_Nw.use rfl (hx.2.2.1 "java/lang/IndexOutOfBoundsException" (by decide))) hc1 hc2 hc3 ?_
      refine W.eq (g2 := F0 m 12 ls [.ref q9]) rfl ?_
      refine lv_astore_n (lv' := [(3, .ref q9), (0, .ref (ad 0)), (1, .int v), (2, .ref (ad 74))]) S.1 S.2.1 dL_partOf_12 rfl hl (by decide) rfl (fun ls hl => ?_)
      refine lv_iconst (v := nI 1) S.1 S.2.1 dL_partOf_13 (by decide) ?_
      subst hQ
      exact j_iret (u := w) S hr (rfl) hK hW dL_partOf_14 ⟨by decide, by decide⟩ (Or.inr (Or.inl (⟨rfl, hp, jUc.rf, hCI0, hOut, hOuD⟩)))
    · refine vx_catch (name := "java/util/NoSuchElementException") S.2.2.2.1 [⟨0, 9, 12, 19⟩] ⟨0, 9, 15, 56⟩ [] (htab.trans rfl) (List.forall_mem_cons.mpr ⟨Or.inr ⟨by decide, "java/lang/IndexOutOfBoundsException", S.2.2.2.2 _ (List.mem_cons_of_mem _ wcl_L_19), hnx "java/util/NoSuchElementException" (by decide) "java/lang/IndexOutOfBoundsException" (by decide) (by decide)⟩, fun _ h => absurd h List.not_mem_nil⟩) (by decide) (by decide) (S.2.2.2.2 _ (List.mem_cons_of_mem _ wcl_L_56)) (va_Nw.use rfl (hx.2.2.1 "java/util/NoSuchElementException" (by decide))) hc1 hc2 hc3 ?_
      refine W.eq (g2 := F0 m 15 ls [.ref q9]) rfl ?_
      refine lv_astore_n (lv' := [(3, .ref q9), (0, .ref (ad 0)), (1, .int v), (2, .ref (ad 74))]) S.1 S.2.1 dL_partOf_15 rfl hl (by decide) rfl (fun ls hl => ?_)
      refine lv_iconst (v := nI 2) S.1 S.2.1 dL_partOf_16 (by decide) ?_
      subst hQ
      exact j_iret (u := w) S hr (rfl) hK hW dL_partOf_17 ⟨by decide, by decide⟩ (Or.inr (Or.inr (⟨rfl, hp, jUc.rf, hCI0, hOut, hOuD⟩)))
  obtain ⟨x_4, rfl, hp4_0, hp4_1, hp4_2, rfl⟩ := hp
  refine W.eq (g2 := F0 m 7 ls [.int (nI (lowN (itP nc cs lv (nAnd (2 ^ n - 1) sd) x_4 10) n)), .int (nI 0), .ref (ad 74)]) rfl ?_
  refine lv_i2l (v := (nI (lowN (itP nc cs lv (nAnd (2 ^ n - 1) sd) x_4 10) n)).toInt64) S.1 S.2.1 dL_partOf_7 (rfl) ?_
  refine j_last S hK hW hOut (vp_in_nI (by omega) (by omega)) (nI_clamp (by omega)) dL_partOf_8 (fun H locs w_ hU1 hN1 hW => ?_)
  have hU : jU w w_ [74] := jU.mono hU1 (by first | decide | (simp; done) | (simp; omega))
  have hOut_ : w_[74]? = some (ad 74, .inl (cy 1, 1, .inr (.inl (vp_updL og 0 ((nI (lowN (itP nc cs lv (nAnd (2 ^ n - 1) sd) x_4 10) n)).toInt64))))) := hN1
  clear hU1 hN1
  refine lv_goto (tgt := 18) S.1 S.2.1 dL_partOf_9 (by decide) ?_
  refine lv_iconst (v := nI 0) S.1 S.2.1 dL_partOf_18 (by decide) ?_
  subst hQ
  exact j_iret (u := w_) S hr (rfl) hK hW dL_partOf_19 ⟨by decide, by decide⟩ (Or.inl (⟨x_4, rfl, hp4_0, hp4_1, hp4_2, ⟨_, hU, by first | decide | (intro k hk; simp at hk; omega)⟩, (hCI0.kept hU (by decide)), hOut_, (hU.get hOuD (by first | decide | (simp; done) | (simp; omega)))⟩))
/-- the law's modelsOfPart -/
theorem h_modelsOfPart (l : Launch) (htr : l.stackTraces = false) (D : va_G) (cy : Nat → ClassId) {w : va_W} (ad : Nat → Nat) (n : Nat) (wf wt od : Nat → Nat) (sd se nc lv : Nat) (cs : Nat → CN) (kv : Nat → Int32) (kx : Nat → Nat → Bool) (v : Int32) (og : Nat → Int64) (ogd : Nat → UInt64) (hPI : PI n wf wt od sd se nc lv cs kv kx) (hCI : CI ad cy w n wf wt od sd se nc lv cs kv kx) (hOut : w[74]? = some (ad 74, .inl (cy 1, 1, .inr (.inl og)))) (hOuD : w[75]? = some (ad 75, .inl (cy 7, 1, .inr (.inr (.inr (.inl ogd)))))) : jMh l yL_modelsOfPart (jwsW yL_modelsOfPart cL_modelsOfPart 4 (some .int) [(0, 8, 11, 19), (0, 8, 14, 56)]) (jR 11 2 12) D cy w [.ref (ad 0), .int v, .ref (ad 74)] 2 12 (fun vv uu => (∃ (x : Nat), vv = some (.int (nI 0)) ∧ x < n ∧ v = nI x ∧ sd.testBit x = false ∧ jUc w uu ∧ CI ad cy uu n wf wt od sd se nc lv cs kv kx ∧ uu[74]? = some (ad 74, .inl (cy 1, 1, .inr (.inl (vp_updL og 0 (lN (cntP nc cs lv se (itP nc cs lv (nAnd (2 ^ n - 1) sd) x 10))))))) ∧ uu[75]? = some (ad 75, .inl (cy 7, 1, .inr (.inr (.inr (.inl ogd)))))) ∨ (vv = some (.int (nI 1)) ∧ (vB v n = false) ∧ jUc w uu ∧ CI ad cy uu n wf wt od sd se nc lv cs kv kx ∧ uu[74]? = some (ad 74, .inl (cy 1, 1, .inr (.inl og))) ∧ uu[75]? = some (ad 75, .inl (cy 7, 1, .inr (.inr (.inr (.inl ogd)))))) ∨ (vv = some (.int (nI 2)) ∧ ((∃ x, x < n ∧ v = nI x ∧ sd.testBit x = true)) ∧ jUc w uu ∧ CI ad cy uu n wf wt od sd se nc lv cs kv kx ∧ uu[74]? = some (ad 74, .inl (cy 1, 1, .inr (.inl og))) ∧ uu[75]? = some (ad 75, .inl (cy 7, 1, .inr (.inr (.inr (.inl ogd))))))) := by
  obtain ⟨hn, hsdn, hse2, hnc, hlvn, hcs, hkI, hod, hodn, hinj⟩ := hPI
  have hp2 := two_pow10 hn
  have hsd : sd < 1024 := by omega
  have hse : se < 1024 := by rw [← hse2]; exact Nat.lt_of_le_of_lt Nat.and_le_right hsd
  have hlv : lv < 2 ^ 20 := Nat.lt_of_lt_of_le hlvn (Nat.pow_le_pow_right (by decide) hnc)
  have hCI0 := hCI
  obtain ⟨bO, bW, bD, bC, bM, bP, bR, bX, bS⟩ := hCI
  have bO0 := bO
  have bC0 := bC
  have bM0 := bM
  obtain ⟨fr, mv, MX, hO, hMo, hMl, hMa, hfr⟩ := bO
  obtain ⟨tf, cp, ca, hC, hT, hcon⟩ := bC
  obtain ⟨ps, pk, pv, pn, hP, hP1o, hP1a, hP2o, hP2a, hP3o, hP3a, hP4o, hP4a, hpm⟩ := bM
  refine j_ofH (by decide) rfl (Nat.le_of_ble_eq_true rfl) ?_
  intro p e s m args below meth c A ls Q hQ S hr hK hA H locs hW hl htab hx hnx
  have hl : lv_has ls 4 [(0, .ref (ad 0)), (1, .int v), (2, .ref (ad 74))] := hl
  refine lv_aload_n S.1 S.2.1 dL_modelsOfPart_0 rfl (lv_at hl 2 rfl) ?_
  refine lv_iconst (v := nI 0) S.1 S.2.1 dL_modelsOfPart_1 (by decide) ?_
  refine lv_aload_n S.1 S.2.1 dL_modelsOfPart_2 rfl (lv_at hl 0 rfl) ?_
  refine lv_iload_n S.1 S.2.1 dL_modelsOfPart_3 rfl (lv_at hl 1 rfl) ?_
  refine jx_callT (k := 0) (ci := 10) (q := (RX11, TX11, 15)) (As := [.int v]) (rest := [.int (nI 0), .ref (ad 74)]) S hK hA hW hx (c_X11_modelsOfPart l htr D cy ad n sd se fr nc lv tf cp ca cs ps pk pv pn v hO hC hT hP hP1o hP1a hP2o hP2a hP3o hP3a hP4o hP4a hcon  (hn) (hsd) (hse) (hlv) (hpm)) (jgo wm_L_70) yk_X11_modelsOfPart hO rfl rfl ⟨⟨rfl, rfl⟩, by decide, by decide⟩ rfl hl.1 rfl (Nat.le_of_ble_eq_true rfl) dL_modelsOfPart_4 ⟨Nat.le_of_ble_eq_true rfl, Nat.le_of_ble_eq_true rfl⟩ (fun E ce q9 w_ H locs hp hW hc1 hc2 hc3 => ?_) (fun v w_ H locs hp hW => ?_)
  · obtain ⟨hp, rfl⟩ := hp
    rcases hp with ⟨rfl, hp⟩ | ⟨rfl, hp⟩
    · refine vx_catch (name := "java/lang/IndexOutOfBoundsException") S.2.2.2.1 [] ⟨0, 8, 11, 19⟩ [⟨0, 8, 14, 56⟩] (htab.trans rfl) (fun _ h => absurd h List.not_mem_nil) (by decide) (by decide) (S.2.2.2.2 _ (List.mem_cons_of_mem _ wcl_L_19)) (va_Nw.use rfl (hx.2.2.1 "java/lang/IndexOutOfBoundsException" (by decide))) hc1 hc2 hc3 ?_
      refine W.eq (g2 := F0 m 11 ls [.ref q9]) rfl ?_
      refine lv_astore_n (lv' := [(3, .ref q9), (0, .ref (ad 0)), (1, .int v), (2, .ref (ad 74))]) S.1 S.2.1 dL_modelsOfPart_11 rfl hl (by decide) rfl (fun ls hl => ?_)
      refine lv_iconst (v := nI 1) S.1 S.2.1 dL_modelsOfPart_12 (by decide) ?_
      subst hQ
      exact j_iret (u := w) S hr (rfl) hK hW dL_modelsOfPart_13 ⟨by decide, by decide⟩ (Or.inr (Or.inl (⟨rfl, hp, jUc.rf, hCI0, hOut, hOuD⟩)))
    · refine vx_catch (name := "java/util/NoSuchElementException") S.2.2.2.1 [⟨0, 8, 11, 19⟩] ⟨0, 8, 14, 56⟩ [] (htab.trans rfl) (List.forall_mem_cons.mpr ⟨Or.inr ⟨by decide, "java/lang/IndexOutOfBoundsException", S.2.2.2.2 _ (List.mem_cons_of_mem _ wcl_L_19), hnx "java/util/NoSuchElementException" (by decide) "java/lang/IndexOutOfBoundsException" (by decide) (by decide)⟩, fun _ h => absurd h List.not_mem_nil⟩) (by decide) (by decide) (S.2.2.2.2 _ (List.mem_cons_of_mem _ wcl_L_56)) (va_Nw.use rfl (hx.2.2.1 "java/util/NoSuchElementException" (by decide))) hc1 hc2 hc3 ?_
      refine W.eq (g2 := F0 m 14 ls [.ref q9]) rfl ?_
      refine lv_astore_n (lv' := [(3, .ref q9), (0, .ref (ad 0)), (1, .int v), (2, .ref (ad 74))]) S.1 S.2.1 dL_modelsOfPart_14 rfl hl (by decide) rfl (fun ls hl => ?_)
      refine lv_iconst (v := nI 2) S.1 S.2.1 dL_modelsOfPart_15 (by decide) ?_
      subst hQ
      exact j_iret (u := w) S hr (rfl) hK hW dL_modelsOfPart_16 ⟨by decide, by decide⟩ (Or.inr (Or.inr (⟨rfl, hp, jUc.rf, hCI0, hOut, hOuD⟩)))
  obtain ⟨ps1_4, pk1_4, pv1_4, pn1_4, x_4, rfl, hp4_0, hp4_1, hp4_2, hp4_3, hU1, hN1, hN2, hN3, hN4⟩ := hp
  have hU : jU w w_ [13, 15, 17, 19, 74] := jU.mono hU1 (by first | decide | (simp; done) | (simp; omega))
  have hOut_ := hU1.get hOut (by first | decide | (simp; done) | (simp; omega))
  have hP1a_ : w_[13]? = some (ad 13, .inl (cy 0, 10, .inl (nf ps1_4))) := hN1
  have hP2a_ : w_[15]? = some (ad 15, .inl (cy 0, 10, .inl (nf pk1_4))) := hN2
  have hP3a_ : w_[17]? = some (ad 17, .inl (cy 0, 10, .inl (nf pv1_4))) := hN3
  have hP4a_ : w_[19]? = some (ad 19, .inl (cy 1, 10, .inr (.inl (lf pn1_4)))) := hN4
  clear hU1 hN1 hN2 hN3 hN4
  refine W.eq (g2 := F0 m 7 ls [.long (lN (cntP nc cs lv se (itP nc cs lv (nAnd (2 ^ n - 1) sd) x_4 10))), .int (nI 0), .ref (ad 74)]) rfl ?_
  have hCI1 : CI ad cy w_ n wf wt od sd se nc lv cs kv kx := ⟨bO0.kept hU (by first | decide | (intro k hk; simp at hk; omega)), bW.kept hU (by first | decide | (intro k hk; simp at hk; omega)), bD.kept hU (by first | decide | (intro k hk; simp at hk; omega)), bC0.kept hU (by first | decide | (intro k hk; simp at hk; omega)), ⟨_, _, _, _, (hU.get hP (by first | decide | (simp; done) | (simp; omega))), (hU.get hP1o (by first | decide | (simp; done) | (simp; omega))), hP1a_, (hU.get hP2o (by first | decide | (simp; done) | (simp; omega))), hP2a_, (hU.get hP3o (by first | decide | (simp; done) | (simp; omega))), hP3a_, (hU.get hP4o (by first | decide | (simp; done) | (simp; omega))), hP4a_, hp4_3⟩, bP.kept hU (by first | decide | (intro k hk; simp at hk; omega)), bR.kept hU (by first | decide | (intro k hk; simp at hk; omega)), bX.kept hU (by first | decide | (intro k hk; simp at hk; omega)), bS.kept hU (by first | decide | (intro k hk; simp at hk; omega))⟩
  refine j_last S hK hW hOut_ (vp_in_nI (by omega) (by omega)) (nI_clamp (by omega)) dL_modelsOfPart_7 (fun H locs w_ hU1 hN1 hW => ?_)
  have hU := hU.then hU1 (by first | decide | (simp; done) | (simp; omega))
  have hP1a_ := hU1.get hP1a_ (by first | decide | (simp; done) | (simp; omega))
  have hP2a_ := hU1.get hP2a_ (by first | decide | (simp; done) | (simp; omega))
  have hP3a_ := hU1.get hP3a_ (by first | decide | (simp; done) | (simp; omega))
  have hP4a_ := hU1.get hP4a_ (by first | decide | (simp; done) | (simp; omega))
  have hOut_ : w_[74]? = some (ad 74, .inl (cy 1, 1, .inr (.inl (vp_updL og 0 (lN (cntP nc cs lv se (itP nc cs lv (nAnd (2 ^ n - 1) sd) x_4 10))))))) := hN1
  have hCI1 := hCI1.kept hU1 (by decide)
  clear hU1 hN1
  refine lv_goto (tgt := 17) S.1 S.2.1 dL_modelsOfPart_8 (by decide) ?_
  refine lv_iconst (v := nI 0) S.1 S.2.1 dL_modelsOfPart_17 (by decide) ?_
  subst hQ
  exact j_iret (u := w_) S hr (rfl) hK hW dL_modelsOfPart_18 ⟨by decide, by decide⟩ (Or.inl (⟨x_4, rfl, hp4_0, hp4_1, hp4_2, ⟨_, hU, by first | decide | (intro k hk; simp at hk; omega)⟩, hCI1, hOut_, (hU.get hOuD (by first | decide | (simp; done) | (simp; omega)))⟩))
/-- the law's best -/
theorem h_best (l : Launch) (htr : l.stackTraces = false) (D : va_G) (cy : Nat → ClassId) {w : va_W} (ad : Nat → Nat) (n : Nat) (wf wt od : Nat → Nat) (sd se nc lv : Nat) (cs : Nat → CN) (kv : Nat → Int32) (kx : Nat → Nat → Bool) (v : Int32) (og : Nat → Int64) (ogd : Nat → UInt64) (hPI : PI n wf wt od sd se nc lv cs kv kx) (hCI : CI ad cy w n wf wt od sd se nc lv cs kv kx) (hOut : w[74]? = some (ad 74, .inl (cy 1, 1, .inr (.inl og)))) (hOuD : w[75]? = some (ad 75, .inl (cy 7, 1, .inr (.inr (.inr (.inl ogd)))))) : jMh l yL_best (jwsW yL_best cL_best 4 (some .int) [(0, 9, 12, 21), (0, 9, 15, 56)]) (jR 10 2 12) D cy w [.ref (ad 0), .int v, .ref (ad 74)] 2 12 (fun vv uu => (∃ (x : Nat), ∃ (len : Nat), ∃ (f : Nat → Nat), ∃ (pr : Nat → Nat), vv = some (.int (nI 0)) ∧ (∀ a, a < 2 ^ n → pr a = prodN wf wt a n) ∧ x < 21 ∧ v = nI x ∧ x < len ∧ srtI (fun d => mdl n sd se nc cs lv (revN n d)) (fun d => pr (revN n d)) (2 ^ n) len f ∧ jUc w uu ∧ CI ad cy uu n wf wt od sd se nc lv cs kv kx ∧ uu[74]? = some (ad 74, .inl (cy 1, 1, .inr (.inl (vp_updL og 0 ((nI (revN n (f x))).toInt64))))) ∧ uu[75]? = some (ad 75, .inl (cy 7, 1, .inr (.inr (.inr (.inl ogd)))))) ∨ (vv = some (.int (nI 1)) ∧ (vB v 21 = false) ∧ jUc w uu ∧ CI ad cy uu n wf wt od sd se nc lv cs kv kx ∧ uu[74]? = some (ad 74, .inl (cy 1, 1, .inr (.inl og))) ∧ uu[75]? = some (ad 75, .inl (cy 7, 1, .inr (.inr (.inr (.inl ogd)))))) ∨ (vv = some (.int (nI 2)) ∧ (∃ x, x < 21 ∧ v = nI x ∧ cnt (fun d => mdl n sd se nc cs lv (revN n d)) (2 ^ n) ≤ x) ∧ jUc w uu ∧ CI ad cy uu n wf wt od sd se nc lv cs kv kx ∧ uu[74]? = some (ad 74, .inl (cy 1, 1, .inr (.inl og))) ∧ uu[75]? = some (ad 75, .inl (cy 7, 1, .inr (.inr (.inr (.inl ogd))))))) := by
  obtain ⟨hn, hsdn, hse2, hnc, hlvn, hcs, hkI, hod, hodn, hinj⟩ := hPI
  have hp2 := two_pow10 hn
  have hsd : sd < 1024 := by omega
  have hse : se < 1024 := by rw [← hse2]; exact Nat.lt_of_le_of_lt Nat.and_le_right hsd
  have hlv : lv < 2 ^ 20 := Nat.lt_of_lt_of_le hlvn (Nat.pow_le_pow_right (by decide) hnc)
  have hCI0 := hCI
  obtain ⟨bO, bW, bD, bC, bM, bP, bR, bX, bS⟩ := hCI
  have bO0 := bO
  have bW0 := bW
  have bC0 := bC
  have bR0 := bR
  obtain ⟨fr, mv, MX, hO, hMo, hMl, hMa, hfr⟩ := bO
  obtain ⟨pr, hFo, hFa, hGo, hGa, hDo, hDa, hwf, hwt, hpr, hpn⟩ := bW
  obtain ⟨tf, cp, ca, hC, hT, hcon⟩ := bC
  obtain ⟨ct, ra, rw_, hR, hRao, hRaa, hRwo, hRwa, hrb⟩ := bR
  refine j_ofH (by decide) rfl (Nat.le_of_ble_eq_true rfl) ?_
  intro p e s m args below meth c A ls Q hQ S hr hK hA H locs hW hl htab hx hnx
  have hl : lv_has ls 4 [(0, .ref (ad 0)), (1, .int v), (2, .ref (ad 74))] := hl
  refine lv_aload_n S.1 S.2.1 dL_best_0 rfl (lv_at hl 2 rfl) ?_
  refine lv_iconst (v := nI 0) S.1 S.2.1 dL_best_1 (by decide) ?_
  refine lv_aload_n S.1 S.2.1 dL_best_2 rfl (lv_at hl 0 rfl) ?_
  refine lv_iload_n S.1 S.2.1 dL_best_3 rfl (lv_at hl 1 rfl) ?_
  refine jx_callT (k := 0) (ci := 10) (q := (RX11, TX11, 15)) (As := [.int v]) (rest := [.int (nI 0), .ref (ad 74)]) S hK hA hW hx (c_X11_best l htr D cy ad n sd se fr nc lv tf cp ca cs mv MX pr ct ra rw_ v hO hMo hMl hMa hC hT hDo hDa hR hRao hRaa hRwo hRwa hcon  (hn) (hsd) (hse) (hlv) (hfr) (hpr) (hrb)) (jgo wm_L_73) yk_X11_best hO rfl rfl ⟨⟨rfl, rfl⟩, by decide, by decide⟩ rfl hl.1 rfl (Nat.le_of_ble_eq_true rfl) dL_best_4 ⟨Nat.le_of_ble_eq_true rfl, Nat.le_of_ble_eq_true rfl⟩ (fun E ce q9 w_ H locs hp hW hc1 hc2 hc3 => ?_) (fun v w_ H locs hp hW => ?_)
  · rcases hp with ⟨rfl, hp, rfl⟩ | ⟨rfl, hp, hU1, hN1, hN2, hN3⟩
    · refine vx_catch (name := "java/lang/IllegalArgumentException") S.2.2.2.1 [] ⟨0, 9, 12, 21⟩ [⟨0, 9, 15, 56⟩] (htab.trans rfl) (fun _ h => absurd h List.not_mem_nil) (by decide) (by decide) (S.2.2.2.2 _ (List.mem_cons_of_mem _ wcl_L_21)) (va_Nw.use rfl (hx.2.2.1 "java/lang/IllegalArgumentException" (by decide))) hc1 hc2 hc3 ?_
      refine W.eq (g2 := F0 m 12 ls [.ref q9]) rfl ?_
      refine lv_astore_n (lv' := [(3, .ref q9), (0, .ref (ad 0)), (1, .int v), (2, .ref (ad 74))]) S.1 S.2.1 dL_best_12 rfl hl (by decide) rfl (fun ls hl => ?_)
      refine lv_iconst (v := nI 1) S.1 S.2.1 dL_best_13 (by decide) ?_
      subst hQ
      exact j_iret (u := w) S hr (rfl) hK hW dL_best_14 ⟨by decide, by decide⟩ (Or.inr (Or.inl (⟨rfl, hp, jUc.rf, hCI0, hOut, hOuD⟩)))
    · have hU : jU w w_ [0, 20, 22, 26, 28, 30, 74] := jU.mono hU1 (by first | decide | (simp; done) | (simp; omega))
      have hOut_ := hU1.get hOut (by first | decide | (simp; done) | (simp; omega))
      have hR_ := hU1.get hR (by first | decide | (simp; done) | (simp; omega))
      have hRaa_ := hU1.get hRaa (by first | decide | (simp; done) | (simp; omega))
      have hRwa_ := hU1.get hRwa (by first | decide | (simp; done) | (simp; omega))
      have hO_ : w_[0]? = some (ad 0, .inr (10, [.int (nI n), .ref (ad 1), .ref (ad 3), .ref (ad 5), .int (nI sd), .int (nI se), .ref (ad 7), .ref (ad 9), .ref (ad 11), .ref (ad 20), .int (bI true), .ref (ad 23), .ref (ad 26), .ref (ad 31), .ref (ad 42)])) := hN1
      have hMo_ : w_[20]? = some (ad 20, .inr (0, [.ref (ad 21), .int (nI n)])) := hN2
      have hMa_ : w_[22]? = some (ad 22, .inl (cy 1, 16, .inr (.inl (wd (mdl n sd se nc cs lv))))) := hN3
      clear hU1 hN1 hN2 hN3
      refine vx_catch (name := "java/util/NoSuchElementException") S.2.2.2.1 [⟨0, 9, 12, 21⟩] ⟨0, 9, 15, 56⟩ [] (htab.trans rfl) (List.forall_mem_cons.mpr ⟨Or.inr ⟨by decide, "java/lang/IllegalArgumentException", S.2.2.2.2 _ (List.mem_cons_of_mem _ wcl_L_21), hnx "java/util/NoSuchElementException" (by decide) "java/lang/IllegalArgumentException" (by decide) (by decide)⟩, fun _ h => absurd h List.not_mem_nil⟩) (by decide) (by decide) (S.2.2.2.2 _ (List.mem_cons_of_mem _ wcl_L_56)) (va_Nw.use rfl (hx.2.2.1 "java/util/NoSuchElementException" (by decide))) hc1 hc2 hc3 ?_
      refine W.eq (g2 := F0 m 15 ls [.ref q9]) rfl ?_
      refine lv_astore_n (lv' := [(3, .ref q9), (0, .ref (ad 0)), (1, .int v), (2, .ref (ad 74))]) S.1 S.2.1 dL_best_15 rfl hl (by decide) rfl (fun ls hl => ?_)
      refine lv_iconst (v := nI 2) S.1 S.2.1 dL_best_16 (by decide) ?_
      have hCI1 : CI ad cy w_ n wf wt od sd se nc lv cs kv kx := ⟨⟨_, _, _, hO_, hMo_, (hU.get hMl (by first | decide | (simp; done) | (simp; omega))), hMa_, by first | exact fun _ => ⟨rfl, rfl⟩ | exact fun h => by cases h | exact hfr⟩, bW0.kept hU (by first | decide | (intro k hk; simp at hk; omega)), bD.kept hU (by first | decide | (intro k hk; simp at hk; omega)), bC0.kept hU (by first | decide | (intro k hk; simp at hk; omega)), bM.kept hU (by first | decide | (intro k hk; simp at hk; omega)), bP.kept hU (by first | decide | (intro k hk; simp at hk; omega)), ⟨_, _, _, hR_, (hU.get hRao (by first | decide | (simp; done) | (simp; omega))), hRaa_, (hU.get hRwo (by first | decide | (simp; done) | (simp; omega))), hRwa_, hrb⟩, bX.kept hU (by first | decide | (intro k hk; simp at hk; omega)), bS.kept hU (by first | decide | (intro k hk; simp at hk; omega))⟩
      subst hQ
      exact j_iret (u := w_) S hr (rfl) hK hW dL_best_17 ⟨by decide, by decide⟩ (Or.inr (Or.inr (⟨rfl, hp, ⟨_, hU, by first | decide | (intro k hk; simp at hk; omega)⟩, hCI1, hOut_, (hU.get hOuD (by first | decide | (simp; done) | (simp; omega)))⟩)))
  obtain ⟨x_4, len_4, f_4, ct1_4, ra1_4, rw1_4, rfl, hp4_0, hp4_1, hp4_2, hp4_3, hp4_4, hU1, hN1, hN2, hN3, hN4, hN5, hN6⟩ := hp
  have hU : jU w w_ [0, 20, 22, 26, 28, 30, 74] := jU.mono hU1 (by first | decide | (simp; done) | (simp; omega))
  have hOut_ := hU1.get hOut (by first | decide | (simp; done) | (simp; omega))
  have hO_ : w_[0]? = some (ad 0, .inr (10, [.int (nI n), .ref (ad 1), .ref (ad 3), .ref (ad 5), .int (nI sd), .int (nI se), .ref (ad 7), .ref (ad 9), .ref (ad 11), .ref (ad 20), .int (bI true), .ref (ad 23), .ref (ad 26), .ref (ad 31), .ref (ad 42)])) := hN1
  have hMo_ : w_[20]? = some (ad 20, .inr (0, [.ref (ad 21), .int (nI n)])) := hN2
  have hMa_ : w_[22]? = some (ad 22, .inl (cy 1, 16, .inr (.inl (wd (mdl n sd se nc cs lv))))) := hN3
  have hR_ : w_[26]? = some (ad 26, .inr (9, [.ref (ad 27), .ref (ad 29), .int (nI ct1_4)])) := hN4
  have hRaa_ : w_[28]? = some (ad 28, .inl (cy 0, 21, .inl (nf ra1_4))) := hN5
  have hRwa_ : w_[30]? = some (ad 30, .inl (cy 1, 21, .inr (.inl (lf rw1_4)))) := hN6
  clear hU1 hN1 hN2 hN3 hN4 hN5 hN6
  refine W.eq (g2 := F0 m 7 ls [.int (nI (revN n (f_4 x_4))), .int (nI 0), .ref (ad 74)]) rfl ?_
  have hCI1 : CI ad cy w_ n wf wt od sd se nc lv cs kv kx := ⟨⟨_, _, _, hO_, hMo_, (hU.get hMl (by first | decide | (simp; done) | (simp; omega))), hMa_, by first | exact fun _ => ⟨rfl, rfl⟩ | exact fun h => by cases h | exact hfr⟩, bW0.kept hU (by first | decide | (intro k hk; simp at hk; omega)), bD.kept hU (by first | decide | (intro k hk; simp at hk; omega)), bC0.kept hU (by first | decide | (intro k hk; simp at hk; omega)), bM.kept hU (by first | decide | (intro k hk; simp at hk; omega)), bP.kept hU (by first | decide | (intro k hk; simp at hk; omega)), ⟨_, _, _, hR_, (hU.get hRao (by first | decide | (simp; done) | (simp; omega))), hRaa_, (hU.get hRwo (by first | decide | (simp; done) | (simp; omega))), hRwa_, hp4_4⟩, bX.kept hU (by first | decide | (intro k hk; simp at hk; omega)), bS.kept hU (by first | decide | (intro k hk; simp at hk; omega))⟩
  refine lv_i2l (v := (nI (revN n (f_4 x_4))).toInt64) S.1 S.2.1 dL_best_7 (rfl) ?_
  refine j_last S hK hW hOut_ (vp_in_nI (by omega) (by omega)) (nI_clamp (by omega)) dL_best_8 (fun H locs w_ hU1 hN1 hW => ?_)
  have hU := hU.then hU1 (by first | decide | (simp; done) | (simp; omega))
  have hO_ := hU1.get hO_ (by first | decide | (simp; done) | (simp; omega))
  have hMo_ := hU1.get hMo_ (by first | decide | (simp; done) | (simp; omega))
  have hMa_ := hU1.get hMa_ (by first | decide | (simp; done) | (simp; omega))
  have hR_ := hU1.get hR_ (by first | decide | (simp; done) | (simp; omega))
  have hRaa_ := hU1.get hRaa_ (by first | decide | (simp; done) | (simp; omega))
  have hRwa_ := hU1.get hRwa_ (by first | decide | (simp; done) | (simp; omega))
  have hOut_ : w_[74]? = some (ad 74, .inl (cy 1, 1, .inr (.inl (vp_updL og 0 ((nI (revN n (f_4 x_4))).toInt64))))) := hN1
  have hCI1 := hCI1.kept hU1 (by decide)
  clear hU1 hN1
  refine lv_goto (tgt := 18) S.1 S.2.1 dL_best_9 (by decide) ?_
  refine lv_iconst (v := nI 0) S.1 S.2.1 dL_best_18 (by decide) ?_
  subst hQ
  exact j_iret (u := w_) S hr (rfl) hK hW dL_best_19 ⟨by decide, by decide⟩ (Or.inl (⟨x_4, len_4, f_4, pr, rfl, hpn, hp4_0, hp4_1, hp4_2, hp4_3, ⟨_, hU, by first | decide | (intro k hk; simp at hk; omega)⟩, hCI1, hOut_, (hU.get hOuD (by first | decide | (simp; done) | (simp; omega)))⟩))
/-- the law's weightOf -/
theorem h_weightOf (l : Launch) (htr : l.stackTraces = false) (D : va_G) (cy : Nat → ClassId) {w : va_W} (ad : Nat → Nat) (n : Nat) (wf wt od : Nat → Nat) (sd se nc lv : Nat) (cs : Nat → CN) (kv : Nat → Int32) (kx : Nat → Nat → Bool) (x : Int32) (og : Nat → Int64) (ogd : Nat → UInt64) (hPI : PI n wf wt od sd se nc lv cs kv kx) (hCI : CI ad cy w n wf wt od sd se nc lv cs kv kx) (hOut : w[74]? = some (ad 74, .inl (cy 1, 1, .inr (.inl og)))) (hOuD : w[75]? = some (ad 75, .inl (cy 7, 1, .inr (.inr (.inr (.inl ogd)))))) : jMh l yL_weightOf (jwsW yL_weightOf cL_weightOf 4 (some .int) [(0, 8, 11, 21)]) (jR 10 1 6) D cy w [.ref (ad 0), .int x, .ref (ad 74)] 1 6 (fun vv uu => (∃ (y : Nat), ∃ (pr : Nat → Nat), vv = some (.int (nI 0)) ∧ (∀ a, a < 2 ^ n → pr a = prodN wf wt a n) ∧ y < 2 ^ n ∧ x = nI y ∧ jUc w uu ∧ CI ad cy uu n wf wt od sd se nc lv cs kv kx ∧ uu[74]? = some (ad 74, .inl (cy 1, 1, .inr (.inl (vp_updL og 0 (lN (pr y)))))) ∧ uu[75]? = some (ad 75, .inl (cy 7, 1, .inr (.inr (.inr (.inl ogd)))))) ∨ (vv = some (.int (nI 1)) ∧ (vB x (2 ^ n) = false) ∧ jUc w uu ∧ CI ad cy uu n wf wt od sd se nc lv cs kv kx ∧ uu[74]? = some (ad 74, .inl (cy 1, 1, .inr (.inl og))) ∧ uu[75]? = some (ad 75, .inl (cy 7, 1, .inr (.inr (.inr (.inl ogd))))))) := by
  obtain ⟨hn, hsdn, hse2, hnc, hlvn, hcs, hkI, hod, hodn, hinj⟩ := hPI
  have hp2 := two_pow10 hn
  have hsd : sd < 1024 := by omega
  have hse : se < 1024 := by rw [← hse2]; exact Nat.lt_of_le_of_lt Nat.and_le_right hsd
  have hlv : lv < 2 ^ 20 := Nat.lt_of_lt_of_le hlvn (Nat.pow_le_pow_right (by decide) hnc)
  have hCI0 := hCI
  obtain ⟨bO, bW, bD, bC, bM, bP, bR, bX, bS⟩ := hCI
  have bO0 := bO
  have bW0 := bW
  obtain ⟨fr, mv, MX, hO, hMo, hMl, hMa, hfr⟩ := bO
  obtain ⟨pr, hFo, hFa, hGo, hGa, hDo, hDa, hwf, hwt, hpr, hpn⟩ := bW
  refine j_ofH (by decide) rfl (Nat.le_of_ble_eq_true rfl) ?_
  intro p e s m args below meth c A ls Q hQ S hr hK hA H locs hW hl htab hx hnx
  have hl : lv_has ls 4 [(0, .ref (ad 0)), (1, .int x), (2, .ref (ad 74))] := hl
  refine lv_aload_n S.1 S.2.1 dL_weightOf_0 rfl (lv_at hl 2 rfl) ?_
  refine lv_iconst (v := nI 0) S.1 S.2.1 dL_weightOf_1 (by decide) ?_
  refine lv_aload_n S.1 S.2.1 dL_weightOf_2 rfl (lv_at hl 0 rfl) ?_
  refine lv_iload_n S.1 S.2.1 dL_weightOf_3 rfl (lv_at hl 1 rfl) ?_
  refine jx_callT (k := 0) (ci := 10) (q := (RX11, TX11, 15)) (As := [.int x]) (rest := [.int (nI 0), .ref (ad 74)]) S hK hA hW hx (c_X11_weightOf l htr D cy ad n sd se fr pr x hO hDo hDa   (hn)) (jgo wm_L_76) yk_X11_weightOf hO rfl rfl ⟨⟨rfl, rfl⟩, by decide, by decide⟩ rfl hl.1 rfl (Nat.le_of_ble_eq_true rfl) dL_weightOf_4 ⟨Nat.le_of_ble_eq_true rfl, Nat.le_of_ble_eq_true rfl⟩ (fun E ce q9 w_ H locs hp hW hc1 hc2 hc3 => ?_) (fun v u H locs hp hW => ?_)
  · obtain ⟨hp, rfl⟩ := hp
    obtain ⟨rfl, hp⟩ := hp
    refine vx_catch (name := "java/lang/IllegalArgumentException") S.2.2.2.1 [] ⟨0, 8, 11, 21⟩ [] (htab.trans rfl) (fun _ h => absurd h List.not_mem_nil) (by decide) (by decide) (S.2.2.2.2 _ (List.mem_cons_of_mem _ wcl_L_21)) (va_Nw.use rfl (hx.2.2.1 "java/lang/IllegalArgumentException" (by decide))) hc1 hc2 hc3 ?_
    refine W.eq (g2 := F0 m 11 ls [.ref q9]) rfl ?_
    refine lv_astore_n (lv' := [(3, .ref q9), (0, .ref (ad 0)), (1, .int x), (2, .ref (ad 74))]) S.1 S.2.1 dL_weightOf_11 rfl hl (by decide) rfl (fun ls hl => ?_)
    refine lv_iconst (v := nI 1) S.1 S.2.1 dL_weightOf_12 (by decide) ?_
    subst hQ
    exact j_iret (u := w) S hr (rfl) hK hW dL_weightOf_13 ⟨by decide, by decide⟩ (Or.inr (⟨rfl, hp, jUc.rf, hCI0, hOut, hOuD⟩))
  obtain ⟨y_4, rfl, hp4_0, hp4_1, rfl⟩ := hp
  refine W.eq (g2 := F0 m 7 ls [.long (lN (pr y_4)), .int (nI 0), .ref (ad 74)]) rfl ?_
  refine j_last S hK hW hOut (vp_in_nI (by omega) (by omega)) (nI_clamp (by omega)) dL_weightOf_7 (fun H locs w_ hU1 hN1 hW => ?_)
  have hU : jU w w_ [74] := jU.mono hU1 (by first | decide | (simp; done) | (simp; omega))
  have hOut_ : w_[74]? = some (ad 74, .inl (cy 1, 1, .inr (.inl (vp_updL og 0 (lN (pr y_4)))))) := hN1
  clear hU1 hN1
  refine lv_goto (tgt := 14) S.1 S.2.1 dL_weightOf_8 (by decide) ?_
  refine lv_iconst (v := nI 0) S.1 S.2.1 dL_weightOf_14 (by decide) ?_
  subst hQ
  exact j_iret (u := w_) S hr (rfl) hK hW dL_weightOf_15 ⟨by decide, by decide⟩ (Or.inl (⟨y_4, pr, rfl, hpn, hp4_0, hp4_1, ⟨_, hU, by first | decide | (intro k hk; simp at hk; omega)⟩, (hCI0.kept hU (by decide)), hOut_, (hU.get hOuD (by first | decide | (simp; done) | (simp; omega)))⟩))
/-- the law's lucky -/
theorem h_lucky (l : Launch) (htr : l.stackTraces = false) (D : va_G) (cy : Nat → ClassId) {w : va_W} (ad : Nat → Nat) (n : Nat) (wf wt od : Nat → Nat) (sd se nc lv : Nat) (cs : Nat → CN) (kv : Nat → Int32) (kx : Nat → Nat → Bool) (lk : Int64) (og : Nat → Int64) (ogd : Nat → UInt64) (hPI : PI n wf wt od sd se nc lv cs kv kx) (hCI : CI ad cy w n wf wt od sd se nc lv cs kv kx) (hOut : w[74]? = some (ad 74, .inl (cy 1, 1, .inr (.inl og)))) (hOuD : w[75]? = some (ad 75, .inl (cy 7, 1, .inr (.inr (.inr (.inl ogd)))))) : jMh l yL_lucky (jwsW yL_lucky cL_lucky 5 (some .int) [(0, 9, 12, 21)]) (jR 10 1 6) D cy w [.ref (ad 0), .long lk, .ref (ad 74)] 1 6 (fun vv uu => (∃ (t : Nat), ∃ (L : Nat), ∃ (pr : Nat → Nat), vv = some (.int (nI 0)) ∧ (∀ a, a < 2 ^ n → pr a = prodN wf wt a n) ∧ t < 2 ^ n ∧ lk = lN L ∧ L < 2 ^ 62 ∧ L < sumI (fun d => mdl n sd se nc cs lv (revN n d)) (fun d => pr (revN n d)) (t + 1) ∧ sumI (fun d => mdl n sd se nc cs lv (revN n d)) (fun d => pr (revN n d)) t ≤ L ∧ jUc w uu ∧ CI ad cy uu n wf wt od sd se nc lv cs kv kx ∧ uu[74]? = some (ad 74, .inl (cy 1, 1, .inr (.inl (vp_updL og 0 ((nI (revN n t)).toInt64))))) ∧ uu[75]? = some (ad 75, .inl (cy 7, 1, .inr (.inr (.inr (.inl ogd)))))) ∨ (vv = some (.int (nI 1)) ∧ (lk < 0) ∧ jUc w uu ∧ CI ad cy uu n wf wt od sd se nc lv cs kv kx ∧ uu[74]? = some (ad 74, .inl (cy 1, 1, .inr (.inl og))) ∧ uu[75]? = some (ad 75, .inl (cy 7, 1, .inr (.inr (.inr (.inl ogd)))))) ∨ (vv = some (.int (nI 1)) ∧ (∃ (pr : Nat → Nat), (∀ a, a < 2 ^ n → pr a = prodN wf wt a n) ∧ (∃ L, L < 2 ^ 63 ∧ lk = lN L ∧ sumI (fun d => mdl n sd se nc cs lv (revN n d)) (fun d => pr (revN n d)) (2 ^ n) ≤ L)) ∧ jUc w uu ∧ CI ad cy uu n wf wt od sd se nc lv cs kv kx ∧ uu[74]? = some (ad 74, .inl (cy 1, 1, .inr (.inl og))) ∧ uu[75]? = some (ad 75, .inl (cy 7, 1, .inr (.inr (.inr (.inl ogd))))))) := by
  obtain ⟨hn, hsdn, hse2, hnc, hlvn, hcs, hkI, hod, hodn, hinj⟩ := hPI
  have hp2 := two_pow10 hn
  have hsd : sd < 1024 := by omega
  have hse : se < 1024 := by rw [← hse2]; exact Nat.lt_of_le_of_lt Nat.and_le_right hsd
  have hlv : lv < 2 ^ 20 := Nat.lt_of_lt_of_le hlvn (Nat.pow_le_pow_right (by decide) hnc)
  have hCI0 := hCI
  obtain ⟨bO, bW, bD, bC, bM, bP, bR, bX, bS⟩ := hCI
  have bO0 := bO
  have bW0 := bW
  have bC0 := bC
  obtain ⟨fr, mv, MX, hO, hMo, hMl, hMa, hfr⟩ := bO
  obtain ⟨pr, hFo, hFa, hGo, hGa, hDo, hDa, hwf, hwt, hpr, hpn⟩ := bW
  obtain ⟨tf, cp, ca, hC, hT, hcon⟩ := bC
  refine j_ofH (by decide) rfl (Nat.le_of_ble_eq_true rfl) ?_
  intro p e s m args below meth c A ls Q hQ S hr hK hA H locs hW hl htab hx hnx
  have hl : lv_has ls 5 [(0, .ref (ad 0)), (1, .long lk), (3, .ref (ad 74))] := hl
  refine lv_aload_n S.1 S.2.1 dL_lucky_0 rfl (lv_at hl 2 rfl) ?_
  refine lv_iconst (v := nI 0) S.1 S.2.1 dL_lucky_1 (by decide) ?_
  refine lv_aload_n S.1 S.2.1 dL_lucky_2 rfl (lv_at hl 0 rfl) ?_
  refine lv_lload_n S.1 S.2.1 dL_lucky_3 rfl (lv_at hl 1 rfl) ?_
  refine jx_callT (k := 0) (ci := 10) (q := (RX11, TX11, 15)) (As := [.long lk]) (rest := [.int (nI 0), .ref (ad 74)]) S hK hA hW hx (c_X11_lucky l htr D cy ad n sd se fr nc lv tf cp ca cs mv MX pr lk hO hMo hMl hMa hC hT hDo hDa hcon  (hn) (hsd) (hse) (hlv) (hfr) (hpr)) (jgo wm_L_79) yk_X11_lucky hO rfl rfl ⟨⟨rfl, rfl⟩, by decide, by decide⟩ rfl hl.1 rfl (Nat.le_of_ble_eq_true rfl) dL_lucky_4 ⟨Nat.le_of_ble_eq_true rfl, Nat.le_of_ble_eq_true rfl⟩ (fun E ce q9 w_ H locs hp hW hc1 hc2 hc3 => ?_) (fun v w_ H locs hp hW => ?_)
  · rcases hp with ⟨rfl, hp, rfl⟩ | ⟨rfl, hp, hU1, hN1, hN2, hN3⟩
    · refine vx_catch (name := "java/lang/IllegalArgumentException") S.2.2.2.1 [] ⟨0, 9, 12, 21⟩ [] (htab.trans rfl) (fun _ h => absurd h List.not_mem_nil) (by decide) (by decide) (S.2.2.2.2 _ (List.mem_cons_of_mem _ wcl_L_21)) (va_Nw.use rfl (hx.2.2.1 "java/lang/IllegalArgumentException" (by decide))) hc1 hc2 hc3 ?_
      refine W.eq (g2 := F0 m 12 ls [.ref q9]) rfl ?_
      refine lv_astore (lv' := [(4, .ref q9), (0, .ref (ad 0)), (1, .long lk), (3, .ref (ad 74))]) S.1 S.2.1 dL_lucky_12 hl (by decide) rfl (fun ls hl => ?_)
      refine lv_iconst (v := nI 1) S.1 S.2.1 dL_lucky_14 (by decide) ?_
      subst hQ
      exact j_iret (u := w) S hr (rfl) hK hW dL_lucky_15 ⟨by decide, by decide⟩ (Or.inr (Or.inl (⟨rfl, hp, jUc.rf, hCI0, hOut, hOuD⟩)))
    · have hU : jU w w_ [0, 20, 22, 74] := jU.mono hU1 (by first | decide | (simp; done) | (simp; omega))
      have hOut_ := hU1.get hOut (by first | decide | (simp; done) | (simp; omega))
      have hO_ : w_[0]? = some (ad 0, .inr (10, [.int (nI n), .ref (ad 1), .ref (ad 3), .ref (ad 5), .int (nI sd), .int (nI se), .ref (ad 7), .ref (ad 9), .ref (ad 11), .ref (ad 20), .int (bI true), .ref (ad 23), .ref (ad 26), .ref (ad 31), .ref (ad 42)])) := hN1
      have hMo_ : w_[20]? = some (ad 20, .inr (0, [.ref (ad 21), .int (nI n)])) := hN2
      have hMa_ : w_[22]? = some (ad 22, .inl (cy 1, 16, .inr (.inl (wd (mdl n sd se nc cs lv))))) := hN3
      clear hU1 hN1 hN2 hN3
      refine vx_catch (name := "java/lang/IllegalArgumentException") S.2.2.2.1 [] ⟨0, 9, 12, 21⟩ [] (htab.trans rfl) (fun _ h => absurd h List.not_mem_nil) (by decide) (by decide) (S.2.2.2.2 _ (List.mem_cons_of_mem _ wcl_L_21)) (va_Nw.use rfl (hx.2.2.1 "java/lang/IllegalArgumentException" (by decide))) hc1 hc2 hc3 ?_
      refine W.eq (g2 := F0 m 12 ls [.ref q9]) rfl ?_
      refine lv_astore (lv' := [(4, .ref q9), (0, .ref (ad 0)), (1, .long lk), (3, .ref (ad 74))]) S.1 S.2.1 dL_lucky_12 hl (by decide) rfl (fun ls hl => ?_)
      refine lv_iconst (v := nI 1) S.1 S.2.1 dL_lucky_14 (by decide) ?_
      have hCI1 : CI ad cy w_ n wf wt od sd se nc lv cs kv kx := ⟨⟨_, _, _, hO_, hMo_, (hU.get hMl (by first | decide | (simp; done) | (simp; omega))), hMa_, by first | exact fun _ => ⟨rfl, rfl⟩ | exact fun h => by cases h | exact hfr⟩, bW0.kept hU (by first | decide | (intro k hk; simp at hk; omega)), bD.kept hU (by first | decide | (intro k hk; simp at hk; omega)), bC0.kept hU (by first | decide | (intro k hk; simp at hk; omega)), bM.kept hU (by first | decide | (intro k hk; simp at hk; omega)), bP.kept hU (by first | decide | (intro k hk; simp at hk; omega)), bR.kept hU (by first | decide | (intro k hk; simp at hk; omega)), bX.kept hU (by first | decide | (intro k hk; simp at hk; omega)), bS.kept hU (by first | decide | (intro k hk; simp at hk; omega))⟩
      subst hQ
      exact j_iret (u := w_) S hr (rfl) hK hW dL_lucky_15 ⟨by decide, by decide⟩ (Or.inr (Or.inr (⟨rfl, ⟨pr, hpn, hp⟩, ⟨_, hU, by first | decide | (intro k hk; simp at hk; omega)⟩, hCI1, hOut_, (hU.get hOuD (by first | decide | (simp; done) | (simp; omega)))⟩)))
  obtain ⟨t_4, L_4, rfl, hp4_0, hp4_1, hp4_2, hp4_3, hp4_4, hU1, hN1, hN2, hN3⟩ := hp
  have hU : jU w w_ [0, 20, 22, 74] := jU.mono hU1 (by first | decide | (simp; done) | (simp; omega))
  have hOut_ := hU1.get hOut (by first | decide | (simp; done) | (simp; omega))
  have hO_ : w_[0]? = some (ad 0, .inr (10, [.int (nI n), .ref (ad 1), .ref (ad 3), .ref (ad 5), .int (nI sd), .int (nI se), .ref (ad 7), .ref (ad 9), .ref (ad 11), .ref (ad 20), .int (bI true), .ref (ad 23), .ref (ad 26), .ref (ad 31), .ref (ad 42)])) := hN1
  have hMo_ : w_[20]? = some (ad 20, .inr (0, [.ref (ad 21), .int (nI n)])) := hN2
  have hMa_ : w_[22]? = some (ad 22, .inl (cy 1, 16, .inr (.inl (wd (mdl n sd se nc cs lv))))) := hN3
  clear hU1 hN1 hN2 hN3
  refine W.eq (g2 := F0 m 7 ls [.int (nI (revN n t_4)), .int (nI 0), .ref (ad 74)]) rfl ?_
  have hCI1 : CI ad cy w_ n wf wt od sd se nc lv cs kv kx := ⟨⟨_, _, _, hO_, hMo_, (hU.get hMl (by first | decide | (simp; done) | (simp; omega))), hMa_, by first | exact fun _ => ⟨rfl, rfl⟩ | exact fun h => by cases h | exact hfr⟩, bW0.kept hU (by first | decide | (intro k hk; simp at hk; omega)), bD.kept hU (by first | decide | (intro k hk; simp at hk; omega)), bC0.kept hU (by first | decide | (intro k hk; simp at hk; omega)), bM.kept hU (by first | decide | (intro k hk; simp at hk; omega)), bP.kept hU (by first | decide | (intro k hk; simp at hk; omega)), bR.kept hU (by first | decide | (intro k hk; simp at hk; omega)), bX.kept hU (by first | decide | (intro k hk; simp at hk; omega)), bS.kept hU (by first | decide | (intro k hk; simp at hk; omega))⟩
  refine lv_i2l (v := (nI (revN n t_4)).toInt64) S.1 S.2.1 dL_lucky_7 (rfl) ?_
  refine j_last S hK hW hOut_ (vp_in_nI (by omega) (by omega)) (nI_clamp (by omega)) dL_lucky_8 (fun H locs w_ hU1 hN1 hW => ?_)
  have hU := hU.then hU1 (by first | decide | (simp; done) | (simp; omega))
  have hO_ := hU1.get hO_ (by first | decide | (simp; done) | (simp; omega))
  have hMo_ := hU1.get hMo_ (by first | decide | (simp; done) | (simp; omega))
  have hMa_ := hU1.get hMa_ (by first | decide | (simp; done) | (simp; omega))
  have hOut_ : w_[74]? = some (ad 74, .inl (cy 1, 1, .inr (.inl (vp_updL og 0 ((nI (revN n t_4)).toInt64))))) := hN1
  have hCI1 := hCI1.kept hU1 (by decide)
  clear hU1 hN1
  refine lv_goto (tgt := 16) S.1 S.2.1 dL_lucky_9 (by decide) ?_
  refine lv_iconst (v := nI 0) S.1 S.2.1 dL_lucky_16 (by decide) ?_
  subst hQ
  exact j_iret (u := w_) S hr (rfl) hK hW dL_lucky_17 ⟨by decide, by decide⟩ (Or.inl (⟨t_4, L_4, pr, rfl, hpn, hp4_0, hp4_1, hp4_2, hp4_3, hp4_4, ⟨_, hU, by first | decide | (intro k hk; simp at hk; omega)⟩, hCI1, hOut_, (hU.get hOuD (by first | decide | (simp; done) | (simp; omega)))⟩))
/-- the law's first -/
theorem h_first (l : Launch) (htr : l.stackTraces = false) (D : va_G) (cy : Nat → ClassId) {w : va_W} (ad : Nat → Nat) (n : Nat) (wf wt od : Nat → Nat) (sd se nc lv : Nat) (cs : Nat → CN) (kv : Nat → Int32) (kx : Nat → Nat → Bool) (og : Nat → Int64) (ogd : Nat → UInt64) (hPI : PI n wf wt od sd se nc lv cs kv kx) (hCI : CI ad cy w n wf wt od sd se nc lv cs kv kx) (hOut : w[74]? = some (ad 74, .inl (cy 1, 1, .inr (.inl og)))) (hOuD : w[75]? = some (ad 75, .inl (cy 7, 1, .inr (.inr (.inr (.inl ogd)))))) : jMh l yL_first (jwsW yL_first cL_first 3 (some .int) [(0, 8, 11, 56)]) (jR 10 1 6) D cy w [.ref (ad 0), .ref (ad 74)] 1 6 (fun vv uu => (∃ (t : Nat), vv = some (.int (nI 0)) ∧ t < 2 ^ n ∧ (fun d => mdl n sd se nc cs lv (revN n d)) t = true ∧ (∀ j, j < t → (fun d => mdl n sd se nc cs lv (revN n d)) j = false) ∧ jUc w uu ∧ CI ad cy uu n wf wt od sd se nc lv cs kv kx ∧ uu[74]? = some (ad 74, .inl (cy 1, 1, .inr (.inl (vp_updL og 0 ((nI (revN n t)).toInt64))))) ∧ uu[75]? = some (ad 75, .inl (cy 7, 1, .inr (.inr (.inr (.inl ogd)))))) ∨ (vv = some (.int (nI 1)) ∧ (cnt (fun d => mdl n sd se nc cs lv (revN n d)) (2 ^ n) = 0) ∧ jUc w uu ∧ CI ad cy uu n wf wt od sd se nc lv cs kv kx ∧ uu[74]? = some (ad 74, .inl (cy 1, 1, .inr (.inl og))) ∧ uu[75]? = some (ad 75, .inl (cy 7, 1, .inr (.inr (.inr (.inl ogd))))))) := by
  obtain ⟨hn, hsdn, hse2, hnc, hlvn, hcs, hkI, hod, hodn, hinj⟩ := hPI
  have hp2 := two_pow10 hn
  have hsd : sd < 1024 := by omega
  have hse : se < 1024 := by rw [← hse2]; exact Nat.lt_of_le_of_lt Nat.and_le_right hsd
  have hlv : lv < 2 ^ 20 := Nat.lt_of_lt_of_le hlvn (Nat.pow_le_pow_right (by decide) hnc)
  have hCI0 := hCI
  obtain ⟨bO, bW, bD, bC, bM, bP, bR, bX, bS⟩ := hCI
  have bO0 := bO
  have bC0 := bC
  obtain ⟨fr, mv, MX, hO, hMo, hMl, hMa, hfr⟩ := bO
  obtain ⟨tf, cp, ca, hC, hT, hcon⟩ := bC
  refine j_ofH (by decide) rfl (Nat.le_of_ble_eq_true rfl) ?_
  intro p e s m args below meth c A ls Q hQ S hr hK hA H locs hW hl htab hx hnx
  have hl : lv_has ls 3 [(0, .ref (ad 0)), (1, .ref (ad 74))] := hl
  refine lv_aload_n S.1 S.2.1 dL_first_0 rfl (lv_at hl 1 rfl) ?_
  refine lv_iconst (v := nI 0) S.1 S.2.1 dL_first_1 (by decide) ?_
  refine lv_aload_n S.1 S.2.1 dL_first_2 rfl (lv_at hl 0 rfl) ?_
  refine jx_callT (k := 0) (ci := 10) (q := (RX11, TX11, 15)) (As := []) (rest := [.int (nI 0), .ref (ad 74)]) S hK hA hW hx (c_X11_first l htr D cy ad n sd se fr nc lv tf cp ca cs mv MX hO hMo hMl hMa hC hT hcon  (hn) (hsd) (hse) (hlv) (hfr)) (jgo wm_L_83) yk_X11_first hO rfl rfl ⟨⟨rfl, rfl⟩, by decide, by decide⟩ rfl hl.1 rfl (Nat.le_of_ble_eq_true rfl) dL_first_3 ⟨Nat.le_of_ble_eq_true rfl, Nat.le_of_ble_eq_true rfl⟩ (fun E ce q9 w_ H locs hp hW hc1 hc2 hc3 => ?_) (fun v w_ H locs hp hW => ?_)
  · obtain ⟨rfl, hp, hU1, hN1, hN2, hN3⟩ := hp
    have hU : jU w w_ [0, 20, 22, 74] := jU.mono hU1 (by first | decide | (simp; done) | (simp; omega))
    have hOut_ := hU1.get hOut (by first | decide | (simp; done) | (simp; omega))
    have hO_ : w_[0]? = some (ad 0, .inr (10, [.int (nI n), .ref (ad 1), .ref (ad 3), .ref (ad 5), .int (nI sd), .int (nI se), .ref (ad 7), .ref (ad 9), .ref (ad 11), .ref (ad 20), .int (bI true), .ref (ad 23), .ref (ad 26), .ref (ad 31), .ref (ad 42)])) := hN1
    have hMo_ : w_[20]? = some (ad 20, .inr (0, [.ref (ad 21), .int (nI n)])) := hN2
    have hMa_ : w_[22]? = some (ad 22, .inl (cy 1, 16, .inr (.inl (wd (mdl n sd se nc cs lv))))) := hN3
    clear hU1 hN1 hN2 hN3
    refine vx_catch (name := "java/util/NoSuchElementException") S.2.2.2.1 [] ⟨0, 8, 11, 56⟩ [] (htab.trans rfl) (fun _ h => absurd h List.not_mem_nil) (by decide) (by decide) (S.2.2.2.2 _ (List.mem_cons_of_mem _ wcl_L_56)) (va_Nw.use rfl (hx.2.2.1 "java/util/NoSuchElementException" (by decide))) hc1 hc2 hc3 ?_
    refine W.eq (g2 := F0 m 11 ls [.ref q9]) rfl ?_
    refine lv_astore_n (lv' := [(2, .ref q9), (0, .ref (ad 0)), (1, .ref (ad 74))]) S.1 S.2.1 dL_first_11 rfl hl (by decide) rfl (fun ls hl => ?_)
    refine lv_iconst (v := nI 1) S.1 S.2.1 dL_first_12 (by decide) ?_
    have hCI1 : CI ad cy w_ n wf wt od sd se nc lv cs kv kx := ⟨⟨_, _, _, hO_, hMo_, (hU.get hMl (by first | decide | (simp; done) | (simp; omega))), hMa_, by first | exact fun _ => ⟨rfl, rfl⟩ | exact fun h => by cases h | exact hfr⟩, bW.kept hU (by first | decide | (intro k hk; simp at hk; omega)), bD.kept hU (by first | decide | (intro k hk; simp at hk; omega)), bC0.kept hU (by first | decide | (intro k hk; simp at hk; omega)), bM.kept hU (by first | decide | (intro k hk; simp at hk; omega)), bP.kept hU (by first | decide | (intro k hk; simp at hk; omega)), bR.kept hU (by first | decide | (intro k hk; simp at hk; omega)), bX.kept hU (by first | decide | (intro k hk; simp at hk; omega)), bS.kept hU (by first | decide | (intro k hk; simp at hk; omega))⟩
    subst hQ
    exact j_iret (u := w_) S hr (rfl) hK hW dL_first_13 ⟨by decide, by decide⟩ (Or.inr (⟨rfl, hp, ⟨_, hU, by first | decide | (intro k hk; simp at hk; omega)⟩, hCI1, hOut_, (hU.get hOuD (by first | decide | (simp; done) | (simp; omega)))⟩))
  obtain ⟨t_3, rfl, hp3_0, hp3_1, hp3_2, hU1, hN1, hN2, hN3⟩ := hp
  have hU : jU w w_ [0, 20, 22, 74] := jU.mono hU1 (by first | decide | (simp; done) | (simp; omega))
  have hOut_ := hU1.get hOut (by first | decide | (simp; done) | (simp; omega))
  have hO_ : w_[0]? = some (ad 0, .inr (10, [.int (nI n), .ref (ad 1), .ref (ad 3), .ref (ad 5), .int (nI sd), .int (nI se), .ref (ad 7), .ref (ad 9), .ref (ad 11), .ref (ad 20), .int (bI true), .ref (ad 23), .ref (ad 26), .ref (ad 31), .ref (ad 42)])) := hN1
  have hMo_ : w_[20]? = some (ad 20, .inr (0, [.ref (ad 21), .int (nI n)])) := hN2
  have hMa_ : w_[22]? = some (ad 22, .inl (cy 1, 16, .inr (.inl (wd (mdl n sd se nc cs lv))))) := hN3
  clear hU1 hN1 hN2 hN3
  refine W.eq (g2 := F0 m 6 ls [.int (nI (revN n t_3)), .int (nI 0), .ref (ad 74)]) rfl ?_
  have hCI1 : CI ad cy w_ n wf wt od sd se nc lv cs kv kx := ⟨⟨_, _, _, hO_, hMo_, (hU.get hMl (by first | decide | (simp; done) | (simp; omega))), hMa_, by first | exact fun _ => ⟨rfl, rfl⟩ | exact fun h => by cases h | exact hfr⟩, bW.kept hU (by first | decide | (intro k hk; simp at hk; omega)), bD.kept hU (by first | decide | (intro k hk; simp at hk; omega)), bC0.kept hU (by first | decide | (intro k hk; simp at hk; omega)), bM.kept hU (by first | decide | (intro k hk; simp at hk; omega)), bP.kept hU (by first | decide | (intro k hk; simp at hk; omega)), bR.kept hU (by first | decide | (intro k hk; simp at hk; omega)), bX.kept hU (by first | decide | (intro k hk; simp at hk; omega)), bS.kept hU (by first | decide | (intro k hk; simp at hk; omega))⟩
  refine lv_i2l (v := (nI (revN n t_3)).toInt64) S.1 S.2.1 dL_first_6 (rfl) ?_
  refine j_last S hK hW hOut_ (vp_in_nI (by omega) (by omega)) (nI_clamp (by omega)) dL_first_7 (fun H locs w_ hU1 hN1 hW => ?_)
  have hU := hU.then hU1 (by first | decide | (simp; done) | (simp; omega))
  have hO_ := hU1.get hO_ (by first | decide | (simp; done) | (simp; omega))
  have hMo_ := hU1.get hMo_ (by first | decide | (simp; done) | (simp; omega))
  have hMa_ := hU1.get hMa_ (by first | decide | (simp; done) | (simp; omega))
  have hOut_ : w_[74]? = some (ad 74, .inl (cy 1, 1, .inr (.inl (vp_updL og 0 ((nI (revN n t_3)).toInt64))))) := hN1
  have hCI1 := hCI1.kept hU1 (by decide)
  clear hU1 hN1
  refine lv_goto (tgt := 14) S.1 S.2.1 dL_first_8 (by decide) ?_
  refine lv_iconst (v := nI 0) S.1 S.2.1 dL_first_14 (by decide) ?_
  subst hQ
  exact j_iret (u := w_) S hr (rfl) hK hW dL_first_15 ⟨by decide, by decide⟩ (Or.inl (⟨t_3, rfl, hp3_0, hp3_1, hp3_2, ⟨_, hU, by first | decide | (intro k hk; simp at hk; omega)⟩, hCI1, hOut_, (hU.get hOuD (by first | decide | (simp; done) | (simp; omega)))⟩))
