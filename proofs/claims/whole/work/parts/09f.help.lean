/-! THE LAW'S HELPERS: orders and slots (laid by wip/whole/tools, from the specs there) -/
/-- the law's nodesFor -/
theorem h_nodesFor (l : Launch) (htr : l.stackTraces = false) (D : va_G) (cy : Nat → ClassId) {w : va_W} (ad : Nat → Nat) (n : Nat) (wf wt od : Nat → Nat) (sd se nc lv : Nat) (cs : Nat → CN) (kv : Nat → Int32) (kx : Nat → Nat → Bool) (v : Int32) (og : Nat → Int64) (ogd : Nat → UInt64) (hPI : PI n wf wt od sd se nc lv cs kv kx) (hCI : CI ad cy w n wf wt od sd se nc lv cs kv kx) (hOut : w[74]? = some (ad 74, .inl (cy 1, 1, .inr (.inl og)))) (hOuD : w[75]? = some (ad 75, .inl (cy 7, 1, .inr (.inr (.inr (.inl ogd)))))) : jMh l yL_nodesFor (jwsW yL_nodesFor cL_nodesFor 4 (some .int) [(0, 9, 12, 19)]) (jR 10 1 6) D cy w [.ref (ad 0), .int v, .ref (ad 74)] 1 6 (fun vv uu => (∃ (x : Nat), vv = some (.int (nI 0)) ∧ x < n ∧ v = nI x ∧ jUc w uu ∧ CI ad cy uu n wf wt od sd se nc lv cs kv kx ∧ uu[74]? = some (ad 74, .inl (cy 1, 1, .inr (.inl (vp_updL og 0 ((nI (lstN (fun q => decide (od q = x)) (nodesB (fun d => (mdl n sd se nc cs lv) (layP n od d n)) n) n)).toInt64))))) ∧ uu[75]? = some (ad 75, .inl (cy 7, 1, .inr (.inr (.inr (.inl ogd)))))) ∨ (vv = some (.int (nI 1)) ∧ (vB v n = false) ∧ jUc w uu ∧ CI ad cy uu n wf wt od sd se nc lv cs kv kx ∧ uu[74]? = some (ad 74, .inl (cy 1, 1, .inr (.inl og))) ∧ uu[75]? = some (ad 75, .inl (cy 7, 1, .inr (.inr (.inr (.inl ogd))))))) := by
  obtain ⟨hn, hsdn, hse2, hnc, hlvn, hcs, hkI, hod, hodn, hinj⟩ := hPI
  have hp2 := two_pow10 hn
  have hsd : sd < 1024 := by omega
  have hse : se < 1024 := by rw [← hse2]; exact Nat.lt_of_le_of_lt Nat.and_le_right hsd
  have hlv : lv < 2 ^ 20 := Nat.lt_of_lt_of_le hlvn (Nat.pow_le_pow_right (by decide) hnc)
  have hCI0 := hCI
  obtain ⟨bO, bW, bD, bC, bM, bP, bR, bX, bS⟩ := hCI
  have bO0 := bO
  have bD0 := bD
  have bC0 := bC
  have bX0 := bX
  obtain ⟨fr, mv, MX, hO, hMo, hMl, hMa, hfr⟩ := bO
  obtain ⟨hOo, hOa⟩ := bD
  obtain ⟨tf, cp, ca, hC, hT, hcon⟩ := bC
  obtain ⟨sz, tp, fw, tw, yw, pcn, hX, hXto, hXta, hXfo, hXfa, hXwo, hXwa, hXyo, hXya, hXpo, hXpa, hf, ht⟩ := bX
  refine j_ofH (by decide) rfl (Nat.le_of_ble_eq_true rfl) ?_
  intro p e s m args below meth c A ls Q hQ S hr hK hA H locs hW hl htab hx hnx
  have hl : lv_has ls 4 [(0, .ref (ad 0)), (1, .int v), (2, .ref (ad 74))] := hl
  refine lv_aload_n S.1 S.2.1 dL_nodesFor_0 rfl (lv_at hl 2 rfl) ?_
  refine lv_iconst (v := nI 0) S.1 S.2.1 dL_nodesFor_1 (by decide) ?_
  refine lv_aload_n S.1 S.2.1 dL_nodesFor_2 rfl (lv_at hl 0 rfl) ?_
  refine lv_iload_n S.1 S.2.1 dL_nodesFor_3 rfl (lv_at hl 1 rfl) ?_
  refine jx_callT (k := 0) (ci := 10) (q := (RX11, TX11, 15)) (As := [.int v]) (rest := [.int (nI 0), .ref (ad 74)]) S hK hA hW hx (c_X11_nodesFor l htr D cy ad n sd se fr nc lv tf cp ca cs mv MX sz tp fw tw yw pcn od v hO hMo hMl hMa hC hT hX hXto hXta hXfo hXfa hXwo hXwa hXyo hXya hXpo hXpa hOo hOa hcon  (hn) (hsd) (hse) (hlv) (hfr) (hod) (hf) (ht)) (jgo wm_L_86) yk_X11_nodesFor hO rfl rfl ⟨⟨rfl, rfl⟩, by decide, by decide⟩ rfl hl.1 rfl (Nat.le_of_ble_eq_true rfl) dL_nodesFor_4 ⟨Nat.le_of_ble_eq_true rfl, Nat.le_of_ble_eq_true rfl⟩ (fun E ce q9 w_ H locs hp hW hc1 hc2 hc3 => ?_) (fun v w_ H locs hp hW => ?_)
  · obtain ⟨hp, rfl⟩ := hp
    obtain ⟨rfl, hp⟩ := hp
    refine vx_catch (name := "java/lang/IndexOutOfBoundsException") S.2.2.2.1 [] ⟨0, 9, 12, 19⟩ [] (htab.trans rfl) (fun _ h => absurd h List.not_mem_nil) (by decide) (by decide) (S.2.2.2.2 _ (List.mem_cons_of_mem _ wcl_L_19)) (va_Nw.use rfl (hx.2.2.1 "java/lang/IndexOutOfBoundsException" (by decide))) hc1 hc2 hc3 ?_
    refine W.eq (g2 := F0 m 12 ls [.ref q9]) rfl ?_
    refine lv_astore_n (lv' := [(3, .ref q9), (0, .ref (ad 0)), (1, .int v), (2, .ref (ad 74))]) S.1 S.2.1 dL_nodesFor_12 rfl hl (by decide) rfl (fun ls hl => ?_)
    refine lv_iconst (v := nI 1) S.1 S.2.1 dL_nodesFor_13 (by decide) ?_
    subst hQ
    exact j_iret (u := w) S hr (rfl) hK hW dL_nodesFor_14 ⟨by decide, by decide⟩ (Or.inr (⟨rfl, hp, jUc.rf, hCI0, hOut, hOuD⟩))
  obtain ⟨sz1_4, tp1_4, fw1_4, tw1_4, yw1_4, pcn1_4, x_4, rfl, hp4_0, hp4_1, hp4_2, hU1, hN1, hN2, hN3, hN4, hN5, hN6, hN7, hN8, hN9⟩ := hp
  have hU : jU w w_ [0, 20, 22, 31, 33, 35, 37, 39, 41, 74] := jU.mono hU1 (by first | decide | (simp; done) | (simp; omega))
  have hOut_ := hU1.get hOut (by first | decide | (simp; done) | (simp; omega))
  have hO_ : w_[0]? = some (ad 0, .inr (10, [.int (nI n), .ref (ad 1), .ref (ad 3), .ref (ad 5), .int (nI sd), .int (nI se), .ref (ad 7), .ref (ad 9), .ref (ad 11), .ref (ad 20), .int (bI true), .ref (ad 23), .ref (ad 26), .ref (ad 31), .ref (ad 42)])) := hN1
  have hMo_ : w_[20]? = some (ad 20, .inr (0, [.ref (ad 21), .int (nI n)])) := hN2
  have hMa_ : w_[22]? = some (ad 22, .inl (cy 1, 16, .inr (.inl (wd (mdl n sd se nc cs lv))))) := hN3
  have hX_ : w_[31]? = some (ad 31, .inr (2, [.ref (ad 32), .ref (ad 34), .ref (ad 36), .ref (ad 38), .ref (ad 40), .int (nI sz1_4)])) := hN4
  have hXta_ : w_[33]? = some (ad 33, .inl (cy 0, 1024, .inl (nf tp1_4))) := hN5
  have hXfa_ : w_[35]? = some (ad 35, .inl (cy 0, 272, .inl (nf fw1_4))) := hN6
  have hXwa_ : w_[37]? = some (ad 37, .inl (cy 0, 272, .inl (nf tw1_4))) := hN7
  have hXya_ : w_[39]? = some (ad 39, .inl (cy 0, 272, .inl (nf yw1_4))) := hN8
  have hXpa_ : w_[41]? = some (ad 41, .inl (cy 0, 10, .inl (nf pcn1_4))) := hN9
  clear hU1 hN1 hN2 hN3 hN4 hN5 hN6 hN7 hN8 hN9
  refine W.eq (g2 := F0 m 7 ls [.int (nI (lstN (fun q => decide (od q = x_4)) (nodesB (fun d => (mdl n sd se nc cs lv) (layP n od d n)) n) n)), .int (nI 0), .ref (ad 74)]) rfl ?_
  have hCI1 : CI ad cy w_ n wf wt od sd se nc lv cs kv kx := ⟨⟨_, _, _, hO_, hMo_, (hU.get hMl (by first | decide | (simp; done) | (simp; omega))), hMa_, by first | exact fun _ => ⟨rfl, rfl⟩ | exact fun h => by cases h | exact hfr⟩, bW.kept hU (by first | decide | (intro k hk; simp at hk; omega)), bD0.kept hU (by first | decide | (intro k hk; simp at hk; omega)), bC0.kept hU (by first | decide | (intro k hk; simp at hk; omega)), bM.kept hU (by first | decide | (intro k hk; simp at hk; omega)), bP.kept hU (by first | decide | (intro k hk; simp at hk; omega)), bR.kept hU (by first | decide | (intro k hk; simp at hk; omega)), ⟨_, _, _, _, _, _, hX_, (hU.get hXto (by first | decide | (simp; done) | (simp; omega))), hXta_, (hU.get hXfo (by first | decide | (simp; done) | (simp; omega))), hXfa_, (hU.get hXwo (by first | decide | (simp; done) | (simp; omega))), hXwa_, (hU.get hXyo (by first | decide | (simp; done) | (simp; omega))), hXya_, (hU.get hXpo (by first | decide | (simp; done) | (simp; omega))), hXpa_, hp4_0.1, hp4_0.2⟩, bS.kept hU (by first | decide | (intro k hk; simp at hk; omega))⟩
  refine lv_i2l (v := (nI (lstN (fun q => decide (od q = x_4)) (nodesB (fun d => (mdl n sd se nc cs lv) (layP n od d n)) n) n)).toInt64) S.1 S.2.1 dL_nodesFor_7 (rfl) ?_
  refine j_last S hK hW hOut_ (vp_in_nI (by omega) (by omega)) (nI_clamp (by omega)) dL_nodesFor_8 (fun H locs w_ hU1 hN1 hW => ?_)
  have hU := hU.then hU1 (by first | decide | (simp; done) | (simp; omega))
  have hO_ := hU1.get hO_ (by first | decide | (simp; done) | (simp; omega))
  have hMo_ := hU1.get hMo_ (by first | decide | (simp; done) | (simp; omega))
  have hMa_ := hU1.get hMa_ (by first | decide | (simp; done) | (simp; omega))
  have hX_ := hU1.get hX_ (by first | decide | (simp; done) | (simp; omega))
  have hXta_ := hU1.get hXta_ (by first | decide | (simp; done) | (simp; omega))
  have hXfa_ := hU1.get hXfa_ (by first | decide | (simp; done) | (simp; omega))
  have hXwa_ := hU1.get hXwa_ (by first | decide | (simp; done) | (simp; omega))
  have hXya_ := hU1.get hXya_ (by first | decide | (simp; done) | (simp; omega))
  have hXpa_ := hU1.get hXpa_ (by first | decide | (simp; done) | (simp; omega))
  have hOut_ : w_[74]? = some (ad 74, .inl (cy 1, 1, .inr (.inl (vp_updL og 0 ((nI (lstN (fun q => decide (od q = x_4)) (nodesB (fun d => (mdl n sd se nc cs lv) (layP n od d n)) n) n)).toInt64))))) := hN1
  have hCI1 := hCI1.kept hU1 (by decide)
  clear hU1 hN1
  refine lv_goto (tgt := 15) S.1 S.2.1 dL_nodesFor_9 (by decide) ?_
  refine lv_iconst (v := nI 0) S.1 S.2.1 dL_nodesFor_15 (by decide) ?_
  subst hQ
  exact j_iret (u := w_) S hr (rfl) hK hW dL_nodesFor_16 ⟨by decide, by decide⟩ (Or.inl (⟨x_4, rfl, hp4_1, hp4_2, ⟨_, hU, by first | decide | (intro k hk; simp at hk; omega)⟩, hCI1, hOut_, (hU.get hOuD (by first | decide | (simp; done) | (simp; omega)))⟩))
/-- the law's exchange -/
theorem h_exchange (l : Launch) (htr : l.stackTraces = false) (D : va_G) (cy : Nat → ClassId) {w : va_W} (ad : Nat → Nat) (n : Nat) (wf wt od : Nat → Nat) (sd se nc lv : Nat) (cs : Nat → CN) (kv : Nat → Int32) (kx : Nat → Nat → Bool) (v : Int32) (u1 : Int32) (og : Nat → Int64) (ogd : Nat → UInt64) (hPI : PI n wf wt od sd se nc lv cs kv kx) (hCI : CI ad cy w n wf wt od sd se nc lv cs kv kx) (hOut : w[74]? = some (ad 74, .inl (cy 1, 1, .inr (.inl og)))) (hOuD : w[75]? = some (ad 75, .inl (cy 7, 1, .inr (.inr (.inr (.inl ogd)))))) : jMh l yL_exchange (jwsW yL_exchange cL_exchange 5 (some .int) [(0, 10, 13, 19)]) (jR 10 2 12) D cy w [.ref (ad 0), .int v, .int u1, .ref (ad 74)] 2 12 (fun vv uu => (∃ (x : Nat), ∃ (y : Nat), vv = some (.int (nI 0)) ∧ x < n ∧ v = nI x ∧ y < n ∧ u1 = nI y ∧ jUc w uu ∧ CI ad cy uu n wf wt (upB (upB od x (od y)) y (od x)) sd se nc lv cs kv kx ∧ uu[74]? = some (ad 74, .inl (cy 1, 1, .inr (.inl (vp_updL og 0 ((nI (sumN (nodesB (fun d => (mdl n sd se nc cs lv) (layP n (upB (upB od x (od y)) y (od x)) d n)) n) n)).toInt64))))) ∧ uu[75]? = some (ad 75, .inl (cy 7, 1, .inr (.inr (.inr (.inl ogd)))))) ∨ (vv = some (.int (nI 1)) ∧ (vB v n = false ∨ vB u1 n = false) ∧ jUc w uu ∧ CI ad cy uu n wf wt od sd se nc lv cs kv kx ∧ uu[74]? = some (ad 74, .inl (cy 1, 1, .inr (.inl og))) ∧ uu[75]? = some (ad 75, .inl (cy 7, 1, .inr (.inr (.inr (.inl ogd))))))) := by
  obtain ⟨hn, hsdn, hse2, hnc, hlvn, hcs, hkI, hod, hodn, hinj⟩ := hPI
  have hp2 := two_pow10 hn
  have hsd : sd < 1024 := by omega
  have hse : se < 1024 := by rw [← hse2]; exact Nat.lt_of_le_of_lt Nat.and_le_right hsd
  have hlv : lv < 2 ^ 20 := Nat.lt_of_lt_of_le hlvn (Nat.pow_le_pow_right (by decide) hnc)
  have hCI0 := hCI
  obtain ⟨bO, bW, bD, bC, bM, bP, bR, bX, bS⟩ := hCI
  have bO0 := bO
  have bD0 := bD
  have bC0 := bC
  have bX0 := bX
  obtain ⟨fr, mv, MX, hO, hMo, hMl, hMa, hfr⟩ := bO
  obtain ⟨hOo, hOa⟩ := bD
  obtain ⟨tf, cp, ca, hC, hT, hcon⟩ := bC
  obtain ⟨sz, tp, fw, tw, yw, pcn, hX, hXto, hXta, hXfo, hXfa, hXwo, hXwa, hXyo, hXya, hXpo, hXpa, hf, ht⟩ := bX
  refine j_ofH (by decide) rfl (Nat.le_of_ble_eq_true rfl) ?_
  intro p e s m args below meth c A ls Q hQ S hr hK hA H locs hW hl htab hx hnx
  have hl : lv_has ls 5 [(0, .ref (ad 0)), (1, .int v), (2, .int u1), (3, .ref (ad 74))] := hl
  refine lv_aload_n S.1 S.2.1 dL_exchange_0 rfl (lv_at hl 3 rfl) ?_
  refine lv_iconst (v := nI 0) S.1 S.2.1 dL_exchange_1 (by decide) ?_
  refine lv_aload_n S.1 S.2.1 dL_exchange_2 rfl (lv_at hl 0 rfl) ?_
  refine lv_iload_n S.1 S.2.1 dL_exchange_3 rfl (lv_at hl 1 rfl) ?_
  refine lv_iload_n S.1 S.2.1 dL_exchange_4 rfl (lv_at hl 2 rfl) ?_
  refine jx_callT (k := 0) (ci := 10) (q := (RX11, TX11, 15)) (As := [.int v, .int u1]) (rest := [.int (nI 0), .ref (ad 74)]) S hK hA hW hx (c_X11_exchange l htr D cy ad n sd se fr nc lv tf cp ca cs mv MX sz tp fw tw yw pcn od v u1 hO hMo hMl hMa hC hT hX hXto hXta hXfo hXfa hXwo hXwa hXyo hXya hXpo hXpa hOo hOa hcon  (hn) (hsd) (hse) (hlv) (hfr) (hod) (hf) (ht)) (jgo wm_L_89) yk_X11_exchange hO rfl rfl ⟨⟨rfl, rfl⟩, by decide, by decide⟩ rfl hl.1 rfl (Nat.le_of_ble_eq_true rfl) dL_exchange_5 ⟨Nat.le_of_ble_eq_true rfl, Nat.le_of_ble_eq_true rfl⟩ (fun E ce q9 w_ H locs hp hW hc1 hc2 hc3 => ?_) (fun v w_ H locs hp hW => ?_)
  · obtain ⟨hp, rfl⟩ := hp
    obtain ⟨rfl, hp⟩ := hp
    refine vx_catch (name := "java/lang/IndexOutOfBoundsException") S.2.2.2.1 [] ⟨0, 10, 13, 19⟩ [] (htab.trans rfl) (fun _ h => absurd h List.not_mem_nil) (by decide) (by decide) (S.2.2.2.2 _ (List.mem_cons_of_mem _ wcl_L_19)) (va_Nw.use rfl (hx.2.2.1 "java/lang/IndexOutOfBoundsException" (by decide))) hc1 hc2 hc3 ?_
    refine W.eq (g2 := F0 m 13 ls [.ref q9]) rfl ?_
    refine lv_astore (lv' := [(4, .ref q9), (0, .ref (ad 0)), (1, .int v), (2, .int u1), (3, .ref (ad 74))]) S.1 S.2.1 dL_exchange_13 hl (by decide) rfl (fun ls hl => ?_)
    refine lv_iconst (v := nI 1) S.1 S.2.1 dL_exchange_15 (by decide) ?_
    subst hQ
    exact j_iret (u := w) S hr (rfl) hK hW dL_exchange_16 ⟨by decide, by decide⟩ (Or.inr (⟨rfl, hp, jUc.rf, hCI0, hOut, hOuD⟩))
  obtain ⟨sz1_5, tp1_5, fw1_5, tw1_5, yw1_5, pcn1_5, x_5, y_5, rfl, hp5_0, hp5_1, hp5_2, hp5_3, hp5_4, hU1, hN1, hN2, hN3, hN4, hN5, hN6, hN7, hN8, hN9, hN10⟩ := hp
  have hU : jU w w_ [0, 20, 22, 31, 33, 35, 37, 39, 41, 8, 74] := jU.mono hU1 (by first | decide | (simp; done) | (simp; omega))
  have hOut_ := hU1.get hOut (by first | decide | (simp; done) | (simp; omega))
  have hO_ : w_[0]? = some (ad 0, .inr (10, [.int (nI n), .ref (ad 1), .ref (ad 3), .ref (ad 5), .int (nI sd), .int (nI se), .ref (ad 7), .ref (ad 9), .ref (ad 11), .ref (ad 20), .int (bI true), .ref (ad 23), .ref (ad 26), .ref (ad 31), .ref (ad 42)])) := hN1
  have hMo_ : w_[20]? = some (ad 20, .inr (0, [.ref (ad 21), .int (nI n)])) := hN2
  have hMa_ : w_[22]? = some (ad 22, .inl (cy 1, 16, .inr (.inl (wd (mdl n sd se nc cs lv))))) := hN3
  have hX_ : w_[31]? = some (ad 31, .inr (2, [.ref (ad 32), .ref (ad 34), .ref (ad 36), .ref (ad 38), .ref (ad 40), .int (nI sz1_5)])) := hN4
  have hXta_ : w_[33]? = some (ad 33, .inl (cy 0, 1024, .inl (nf tp1_5))) := hN5
  have hXfa_ : w_[35]? = some (ad 35, .inl (cy 0, 272, .inl (nf fw1_5))) := hN6
  have hXwa_ : w_[37]? = some (ad 37, .inl (cy 0, 272, .inl (nf tw1_5))) := hN7
  have hXya_ : w_[39]? = some (ad 39, .inl (cy 0, 272, .inl (nf yw1_5))) := hN8
  have hXpa_ : w_[41]? = some (ad 41, .inl (cy 0, 10, .inl (nf pcn1_5))) := hN9
  have hOa_ : w_[8]? = some (ad 8, .inl (cy 0, 10, .inl (nf (upB (upB od x_5 (od y_5)) y_5 (od x_5))))) := hN10
  clear hU1 hN1 hN2 hN3 hN4 hN5 hN6 hN7 hN8 hN9 hN10
  refine W.eq (g2 := F0 m 8 ls [.int (nI (sumN (nodesB (fun d => (mdl n sd se nc cs lv) (layP n (upB (upB od x_5 (od y_5)) y_5 (od x_5)) d n)) n) n)), .int (nI 0), .ref (ad 74)]) rfl ?_
  have hCI1 : CI ad cy w_ n wf wt (upB (upB od x_5 (od y_5)) y_5 (od x_5)) sd se nc lv cs kv kx := ⟨⟨_, _, _, hO_, hMo_, (hU.get hMl (by first | decide | (simp; done) | (simp; omega))), hMa_, by first | exact fun _ => ⟨rfl, rfl⟩ | exact fun h => by cases h | exact hfr⟩, bW.kept hU (by first | decide | (intro k hk; simp at hk; omega)), ⟨(hU.get hOo (by first | decide | (simp; done) | (simp; omega))), hOa_⟩, bC0.kept hU (by first | decide | (intro k hk; simp at hk; omega)), bM.kept hU (by first | decide | (intro k hk; simp at hk; omega)), bP.kept hU (by first | decide | (intro k hk; simp at hk; omega)), bR.kept hU (by first | decide | (intro k hk; simp at hk; omega)), ⟨_, _, _, _, _, _, hX_, (hU.get hXto (by first | decide | (simp; done) | (simp; omega))), hXta_, (hU.get hXfo (by first | decide | (simp; done) | (simp; omega))), hXfa_, (hU.get hXwo (by first | decide | (simp; done) | (simp; omega))), hXwa_, (hU.get hXyo (by first | decide | (simp; done) | (simp; omega))), hXya_, (hU.get hXpo (by first | decide | (simp; done) | (simp; omega))), hXpa_, hp5_0.1, hp5_0.2⟩, bS.kept hU (by first | decide | (intro k hk; simp at hk; omega))⟩
  refine lv_i2l (v := (nI (sumN (nodesB (fun d => (mdl n sd se nc cs lv) (layP n (upB (upB od x_5 (od y_5)) y_5 (od x_5)) d n)) n) n)).toInt64) S.1 S.2.1 dL_exchange_8 (rfl) ?_
  refine j_last S hK hW hOut_ (vp_in_nI (by omega) (by omega)) (nI_clamp (by omega)) dL_exchange_9 (fun H locs w_ hU1 hN1 hW => ?_)
  have hU := hU.then hU1 (by first | decide | (simp; done) | (simp; omega))
  have hO_ := hU1.get hO_ (by first | decide | (simp; done) | (simp; omega))
  have hMo_ := hU1.get hMo_ (by first | decide | (simp; done) | (simp; omega))
  have hMa_ := hU1.get hMa_ (by first | decide | (simp; done) | (simp; omega))
  have hX_ := hU1.get hX_ (by first | decide | (simp; done) | (simp; omega))
  have hXta_ := hU1.get hXta_ (by first | decide | (simp; done) | (simp; omega))
  have hXfa_ := hU1.get hXfa_ (by first | decide | (simp; done) | (simp; omega))
  have hXwa_ := hU1.get hXwa_ (by first | decide | (simp; done) | (simp; omega))
  have hXya_ := hU1.get hXya_ (by first | decide | (simp; done) | (simp; omega))
  have hXpa_ := hU1.get hXpa_ (by first | decide | (simp; done) | (simp; omega))
  have hOa_ := hU1.get hOa_ (by first | decide | (simp; done) | (simp; omega))
  have hOut_ : w_[74]? = some (ad 74, .inl (cy 1, 1, .inr (.inl (vp_updL og 0 ((nI (sumN (nodesB (fun d => (mdl n sd se nc cs lv) (layP n (upB (upB od x_5 (od y_5)) y_5 (od x_5)) d n)) n) n)).toInt64))))) := hN1
  have hCI1 := hCI1.kept hU1 (by decide)
  clear hU1 hN1
  refine lv_goto (tgt := 17) S.1 S.2.1 dL_exchange_10 (by decide) ?_
  refine lv_iconst (v := nI 0) S.1 S.2.1 dL_exchange_17 (by decide) ?_
  subst hQ
  exact j_iret (u := w_) S hr (rfl) hK hW dL_exchange_18 ⟨by decide, by decide⟩ (Or.inl (⟨x_5, y_5, rfl, hp5_1, hp5_2, hp5_3, hp5_4, ⟨_, hU, by first | decide | (intro k hk; simp at hk; omega)⟩, hCI1, hOut_, (hU.get hOuD (by first | decide | (simp; done) | (simp; omega)))⟩))
/-- the law's orderAt -/
theorem h_orderAt (l : Launch) (htr : l.stackTraces = false) (D : va_G) (cy : Nat → ClassId) {w : va_W} (ad : Nat → Nat) (n : Nat) (wf wt od : Nat → Nat) (sd se nc lv : Nat) (cs : Nat → CN) (kv : Nat → Int32) (kx : Nat → Nat → Bool) (v : Int32) (og : Nat → Int64) (ogd : Nat → UInt64) (hPI : PI n wf wt od sd se nc lv cs kv kx) (hCI : CI ad cy w n wf wt od sd se nc lv cs kv kx) (hOut : w[74]? = some (ad 74, .inl (cy 1, 1, .inr (.inl og)))) (hOuD : w[75]? = some (ad 75, .inl (cy 7, 1, .inr (.inr (.inr (.inl ogd)))))) : jMh l yL_orderAt (jwsW yL_orderAt cL_orderAt 4 (some .int) [(0, 9, 12, 19)]) (jR 10 1 6) D cy w [.ref (ad 0), .int v, .ref (ad 74)] 1 6 (fun vv uu => (∃ (x : Nat), vv = some (.int (nI 0)) ∧ x < n ∧ v = nI x ∧ jUc w uu ∧ CI ad cy uu n wf wt od sd se nc lv cs kv kx ∧ uu[74]? = some (ad 74, .inl (cy 1, 1, .inr (.inl (vp_updL og 0 ((nI (od x)).toInt64))))) ∧ uu[75]? = some (ad 75, .inl (cy 7, 1, .inr (.inr (.inr (.inl ogd)))))) ∨ (vv = some (.int (nI 1)) ∧ (vB v n = false) ∧ jUc w uu ∧ CI ad cy uu n wf wt od sd se nc lv cs kv kx ∧ uu[74]? = some (ad 74, .inl (cy 1, 1, .inr (.inl og))) ∧ uu[75]? = some (ad 75, .inl (cy 7, 1, .inr (.inr (.inr (.inl ogd))))))) := by
  obtain ⟨hn, hsdn, hse2, hnc, hlvn, hcs, hkI, hod, hodn, hinj⟩ := hPI
  have hp2 := two_pow10 hn
  have hsd : sd < 1024 := by omega
  have hse : se < 1024 := by rw [← hse2]; exact Nat.lt_of_le_of_lt Nat.and_le_right hsd
  have hlv : lv < 2 ^ 20 := Nat.lt_of_lt_of_le hlvn (Nat.pow_le_pow_right (by decide) hnc)
  have hCI0 := hCI
  obtain ⟨bO, bW, bD, bC, bM, bP, bR, bX, bS⟩ := hCI
  have bO0 := bO
  have bD0 := bD
  obtain ⟨fr, mv, MX, hO, hMo, hMl, hMa, hfr⟩ := bO
  obtain ⟨hOo, hOa⟩ := bD
  refine j_ofH (by decide) rfl (Nat.le_of_ble_eq_true rfl) ?_
  intro p e s m args below meth c A ls Q hQ S hr hK hA H locs hW hl htab hx hnx
  have hl : lv_has ls 4 [(0, .ref (ad 0)), (1, .int v), (2, .ref (ad 74))] := hl
  refine lv_aload_n S.1 S.2.1 dL_orderAt_0 rfl (lv_at hl 2 rfl) ?_
  refine lv_iconst (v := nI 0) S.1 S.2.1 dL_orderAt_1 (by decide) ?_
  refine lv_aload_n S.1 S.2.1 dL_orderAt_2 rfl (lv_at hl 0 rfl) ?_
  refine lv_iload_n S.1 S.2.1 dL_orderAt_3 rfl (lv_at hl 1 rfl) ?_
  refine jx_callT (k := 0) (ci := 10) (q := (RX11, TX11, 15)) (As := [.int v]) (rest := [.int (nI 0), .ref (ad 74)]) S hK hA hW hx (c_X11_orderAt l htr D cy ad n sd se fr od v hO hOo hOa   (hn)) (jgo wm_L_92) yk_X11_orderAt hO rfl rfl ⟨⟨rfl, rfl⟩, by decide, by decide⟩ rfl hl.1 rfl (Nat.le_of_ble_eq_true rfl) dL_orderAt_4 ⟨Nat.le_of_ble_eq_true rfl, Nat.le_of_ble_eq_true rfl⟩ (fun E ce q9 w_ H locs hp hW hc1 hc2 hc3 => ?_) (fun v u H locs hp hW => ?_)
  · obtain ⟨hp, rfl⟩ := hp
    obtain ⟨rfl, hp⟩ := hp
    refine vx_catch (name := "java/lang/IndexOutOfBoundsException") S.2.2.2.1 [] ⟨0, 9, 12, 19⟩ [] (htab.trans rfl) (fun _ h => absurd h List.not_mem_nil) (by decide) (by decide) (S.2.2.2.2 _ (List.mem_cons_of_mem _ wcl_L_19)) (va_Nw.use rfl (hx.2.2.1 "java/lang/IndexOutOfBoundsException" (by decide))) hc1 hc2 hc3 ?_
    refine W.eq (g2 := F0 m 12 ls [.ref q9]) rfl ?_
    refine lv_astore_n (lv' := [(3, .ref q9), (0, .ref (ad 0)), (1, .int v), (2, .ref (ad 74))]) S.1 S.2.1 dL_orderAt_12 rfl hl (by decide) rfl (fun ls hl => ?_)
    refine lv_iconst (v := nI 1) S.1 S.2.1 dL_orderAt_13 (by decide) ?_
    subst hQ
    exact j_iret (u := w) S hr (rfl) hK hW dL_orderAt_14 ⟨by decide, by decide⟩ (Or.inr (⟨rfl, hp, jUc.rf, hCI0, hOut, hOuD⟩))
  obtain ⟨x_4, rfl, hp4_0, hp4_1, rfl⟩ := hp
  refine W.eq (g2 := F0 m 7 ls [.int (nI (od x_4)), .int (nI 0), .ref (ad 74)]) rfl ?_
  refine lv_i2l (v := (nI (od x_4)).toInt64) S.1 S.2.1 dL_orderAt_7 (rfl) ?_
  refine j_last S hK hW hOut (vp_in_nI (by omega) (by omega)) (nI_clamp (by omega)) dL_orderAt_8 (fun H locs w_ hU1 hN1 hW => ?_)
  have hU : jU w w_ [74] := jU.mono hU1 (by first | decide | (simp; done) | (simp; omega))
  have hOut_ : w_[74]? = some (ad 74, .inl (cy 1, 1, .inr (.inl (vp_updL og 0 ((nI (od x_4)).toInt64))))) := hN1
  clear hU1 hN1
  refine lv_goto (tgt := 15) S.1 S.2.1 dL_orderAt_9 (by decide) ?_
  refine lv_iconst (v := nI 0) S.1 S.2.1 dL_orderAt_15 (by decide) ?_
  subst hQ
  exact j_iret (u := w_) S hr (rfl) hK hW dL_orderAt_16 ⟨by decide, by decide⟩ (Or.inl (⟨x_4, rfl, hp4_0, hp4_1, ⟨_, hU, by first | decide | (intro k hk; simp at hk; omega)⟩, (hCI0.kept hU (by decide)), hOut_, (hU.get hOuD (by first | decide | (simp; done) | (simp; omega)))⟩))
/-- the law's keep -/
theorem h_keep (l : Launch) (htr : l.stackTraces = false) (D : va_G) (cy : Nat → ClassId) {w : va_W} (ad : Nat → Nat) (n : Nat) (wf wt od : Nat → Nat) (sd se nc lv : Nat) (cs : Nat → CN) (kv : Nat → Int32) (kx : Nat → Nat → Bool) (v : Int32) (og : Nat → Int64) (ogd : Nat → UInt64) (hPI : PI n wf wt od sd se nc lv cs kv kx) (hCI : CI ad cy w n wf wt od sd se nc lv cs kv kx) (hOut : w[74]? = some (ad 74, .inl (cy 1, 1, .inr (.inl og)))) (hOuD : w[75]? = some (ad 75, .inl (cy 7, 1, .inr (.inr (.inr (.inl ogd)))))) : jMh l yL_keep (jwsW yL_keep cL_keep 4 (some .int) [(0, 9, 12, 21)]) (jR 10 1 6) D cy w [.ref (ad 0), .int v, .ref (ad 74)] 1 6 (fun vv uu => (∃ (j : Nat), vv = some (.int (nI 0)) ∧ j < 4 ∧ v = nI j ∧ jUc w uu ∧ CI ad cy uu n wf wt od sd se nc lv cs (upd kv j (nI n)) (upB kx j (mdl n sd se nc cs lv)) ∧ uu[74]? = some (ad 74, .inl (cy 1, 1, .inr (.inl (vp_updL og 0 ((nI (sumN (nodesB (fun d => (mdl n sd se nc cs lv) (layP n od d n)) n) n)).toInt64))))) ∧ uu[75]? = some (ad 75, .inl (cy 7, 1, .inr (.inr (.inr (.inl ogd)))))) ∨ (vv = some (.int (nI 1)) ∧ (vB v 4 = false) ∧ jUc w uu ∧ CI ad cy uu n wf wt od sd se nc lv cs kv kx ∧ uu[74]? = some (ad 74, .inl (cy 1, 1, .inr (.inl og))) ∧ uu[75]? = some (ad 75, .inl (cy 7, 1, .inr (.inr (.inr (.inl ogd))))))) := by
  obtain ⟨hn, hsdn, hse2, hnc, hlvn, hcs, hkI, hod, hodn, hinj⟩ := hPI
  have hp2 := two_pow10 hn
  have hsd : sd < 1024 := by omega
  have hse : se < 1024 := by rw [← hse2]; exact Nat.lt_of_le_of_lt Nat.and_le_right hsd
  have hlv : lv < 2 ^ 20 := Nat.lt_of_lt_of_le hlvn (Nat.pow_le_pow_right (by decide) hnc)
  have hCI0 := hCI
  obtain ⟨bO, bW, bD, bC, bM, bP, bR, bX, bS⟩ := hCI
  have bO0 := bO
  have bD0 := bD
  have bC0 := bC
  have bX0 := bX
  have bS0 := bS
  obtain ⟨fr, mv, MX, hO, hMo, hMl, hMa, hfr⟩ := bO
  obtain ⟨hOo, hOa⟩ := bD
  obtain ⟨tf, cp, ca, hC, hT, hcon⟩ := bC
  obtain ⟨sz, tp, fw, tw, yw, pcn, hX, hXto, hXta, hXfo, hXfa, hXwo, hXwa, hXyo, hXya, hXpo, hXpa, hf, ht⟩ := bX
  obtain ⟨hS, hslo⟩ := bS
  refine j_ofH (by decide) rfl (Nat.le_of_ble_eq_true rfl) ?_
  intro p e s m args below meth c A ls Q hQ S hr hK hA H locs hW hl htab hx hnx
  have hl : lv_has ls 4 [(0, .ref (ad 0)), (1, .int v), (2, .ref (ad 74))] := hl
  refine lv_aload_n S.1 S.2.1 dL_keep_0 rfl (lv_at hl 2 rfl) ?_
  refine lv_iconst (v := nI 0) S.1 S.2.1 dL_keep_1 (by decide) ?_
  refine lv_aload_n S.1 S.2.1 dL_keep_2 rfl (lv_at hl 0 rfl) ?_
  refine lv_iload_n S.1 S.2.1 dL_keep_3 rfl (lv_at hl 1 rfl) ?_
  refine jx_callT (k := 0) (ci := 10) (q := (RX11, TX11, 15)) (As := [.int v]) (rest := [.int (nI 0), .ref (ad 74)]) S hK hA hW hx (c_X11_keep l htr D cy ad n sd se fr nc lv tf cp ca cs mv MX sz tp fw tw yw pcn od kv kx v hO hMo hMl hMa hC hT hX hXto hXta hXfo hXfa hXwo hXwa hXyo hXya hXpo hXpa hOo hOa hS hcon hslo  (hn) (hsd) (hse) (hlv) (hfr) (hod) (hf) (ht)) (jgo wm_L_95) yk_X11_keep hO rfl rfl ⟨⟨rfl, rfl⟩, by decide, by decide⟩ rfl hl.1 rfl (Nat.le_of_ble_eq_true rfl) dL_keep_4 ⟨Nat.le_of_ble_eq_true rfl, Nat.le_of_ble_eq_true rfl⟩ (fun E ce q9 w_ H locs hp hW hc1 hc2 hc3 => ?_) (fun v w_ H locs hp hW => ?_)
  · obtain ⟨hp, rfl⟩ := hp
    obtain ⟨rfl, hp⟩ := hp
    refine vx_catch (name := "java/lang/IllegalArgumentException") S.2.2.2.1 [] ⟨0, 9, 12, 21⟩ [] (htab.trans rfl) (fun _ h => absurd h List.not_mem_nil) (by decide) (by decide) (S.2.2.2.2 _ (List.mem_cons_of_mem _ wcl_L_21)) (va_Nw.use rfl (hx.2.2.1 "java/lang/IllegalArgumentException" (by decide))) hc1 hc2 hc3 ?_
    refine W.eq (g2 := F0 m 12 ls [.ref q9]) rfl ?_
    refine lv_astore_n (lv' := [(3, .ref q9), (0, .ref (ad 0)), (1, .int v), (2, .ref (ad 74))]) S.1 S.2.1 dL_keep_12 rfl hl (by decide) rfl (fun ls hl => ?_)
    refine lv_iconst (v := nI 1) S.1 S.2.1 dL_keep_13 (by decide) ?_
    subst hQ
    exact j_iret (u := w) S hr (rfl) hK hW dL_keep_14 ⟨by decide, by decide⟩ (Or.inr (⟨rfl, hp, jUc.rf, hCI0, hOut, hOuD⟩))
  obtain ⟨sz1_4, tp1_4, fw1_4, tw1_4, yw1_4, pcn1_4, j_4, rfl, hp4_0, hp4_1, hp4_2, hU1, hN1, hN2, hN3, hN4, hN5, hN6, hN7, hN8, hN9, hN10, hN11⟩ := hp
  have hU : jU w w_ [0, 20, 22, 31, 33, 35, 37, 39, 41, 43 + 3 * j_4, 45 + 3 * j_4, 74] := jU.mono hU1 (by first | decide | (simp; done) | (simp; omega))
  have hOut_ := hU1.get hOut (by first | decide | (simp; done) | (simp; omega))
  have hO_ : w_[0]? = some (ad 0, .inr (10, [.int (nI n), .ref (ad 1), .ref (ad 3), .ref (ad 5), .int (nI sd), .int (nI se), .ref (ad 7), .ref (ad 9), .ref (ad 11), .ref (ad 20), .int (bI true), .ref (ad 23), .ref (ad 26), .ref (ad 31), .ref (ad 42)])) := hN1
  have hMo_ : w_[20]? = some (ad 20, .inr (0, [.ref (ad 21), .int (nI n)])) := hN2
  have hMa_ : w_[22]? = some (ad 22, .inl (cy 1, 16, .inr (.inl (wd (mdl n sd se nc cs lv))))) := hN3
  have hX_ : w_[31]? = some (ad 31, .inr (2, [.ref (ad 32), .ref (ad 34), .ref (ad 36), .ref (ad 38), .ref (ad 40), .int (nI sz1_4)])) := hN4
  have hXta_ : w_[33]? = some (ad 33, .inl (cy 0, 1024, .inl (nf tp1_4))) := hN5
  have hXfa_ : w_[35]? = some (ad 35, .inl (cy 0, 272, .inl (nf fw1_4))) := hN6
  have hXwa_ : w_[37]? = some (ad 37, .inl (cy 0, 272, .inl (nf tw1_4))) := hN7
  have hXya_ : w_[39]? = some (ad 39, .inl (cy 0, 272, .inl (nf yw1_4))) := hN8
  have hXpa_ : w_[41]? = some (ad 41, .inl (cy 0, 10, .inl (nf pcn1_4))) := hN9
  have hson1_ : w_[43 + 3 * j_4]? = some (ad (43 + 3 * j_4), .inr (0, [.ref (ad (44 + 3 * j_4)), .int (nI n)])) := hN10
  have hsan2_ : w_[45 + 3 * j_4]? = some (ad (45 + 3 * j_4), .inl (cy 1, 16, .inr (.inl (wd (mdl n sd se nc cs lv))))) := hN11
  clear hU1 hN1 hN2 hN3 hN4 hN5 hN6 hN7 hN8 hN9 hN10 hN11
  refine W.eq (g2 := F0 m 7 ls [.int (nI (sumN (nodesB (fun d => (mdl n sd se nc cs lv) (layP n od d n)) n) n)), .int (nI 0), .ref (ad 74)]) rfl ?_
  have hCI1 : CI ad cy w_ n wf wt od sd se nc lv cs (upd kv j_4 (nI n)) (upB kx j_4 (mdl n sd se nc cs lv)) := ⟨⟨_, _, _, hO_, hMo_, (hU.get hMl (by first | decide | (simp; done) | (simp; omega))), hMa_, by first | exact fun _ => ⟨rfl, rfl⟩ | exact fun h => by cases h | exact hfr⟩, bW.kept hU (by first | decide | (intro k hk; simp at hk; omega)), bD0.kept hU (by first | decide | (intro k hk; simp at hk; omega)), bC0.kept hU (by first | decide | (intro k hk; simp at hk; omega)), bM.kept hU (by first | decide | (intro k hk; simp at hk; omega)), bP.kept hU (by first | decide | (intro k hk; simp at hk; omega)), bR.kept hU (by first | decide | (intro k hk; simp at hk; omega)), ⟨_, _, _, _, _, _, hX_, (hU.get hXto (by first | decide | (simp; done) | (simp; omega))), hXta_, (hU.get hXfo (by first | decide | (simp; done) | (simp; omega))), hXfa_, (hU.get hXwo (by first | decide | (simp; done) | (simp; omega))), hXwa_, (hU.get hXyo (by first | decide | (simp; done) | (simp; omega))), hXya_, (hU.get hXpo (by first | decide | (simp; done) | (simp; omega))), hXpa_, hp4_0.1, hp4_0.2⟩, ⟨(hU.get hS (by first | decide | (simp; done) | (simp; omega))), hslo.keep hU (fun k hk => by simp at hk; omega) hson1_ hsan2_⟩⟩
  refine lv_i2l (v := (nI (sumN (nodesB (fun d => (mdl n sd se nc cs lv) (layP n od d n)) n) n)).toInt64) S.1 S.2.1 dL_keep_7 (rfl) ?_
  refine j_last S hK hW hOut_ (vp_in_nI (by omega) (by omega)) (nI_clamp (by omega)) dL_keep_8 (fun H locs w_ hU1 hN1 hW => ?_)
  have hU := hU.then hU1 (by first | decide | (simp; done) | (simp; omega))
  have hO_ := hU1.get hO_ (by first | decide | (simp; done) | (simp; omega))
  have hMo_ := hU1.get hMo_ (by first | decide | (simp; done) | (simp; omega))
  have hMa_ := hU1.get hMa_ (by first | decide | (simp; done) | (simp; omega))
  have hX_ := hU1.get hX_ (by first | decide | (simp; done) | (simp; omega))
  have hXta_ := hU1.get hXta_ (by first | decide | (simp; done) | (simp; omega))
  have hXfa_ := hU1.get hXfa_ (by first | decide | (simp; done) | (simp; omega))
  have hXwa_ := hU1.get hXwa_ (by first | decide | (simp; done) | (simp; omega))
  have hXya_ := hU1.get hXya_ (by first | decide | (simp; done) | (simp; omega))
  have hXpa_ := hU1.get hXpa_ (by first | decide | (simp; done) | (simp; omega))
  have hson1_ := hU1.get hson1_ (by first | decide | (simp; done) | (simp; omega))
  have hsan2_ := hU1.get hsan2_ (by first | decide | (simp; done) | (simp; omega))
  have hOut_ : w_[74]? = some (ad 74, .inl (cy 1, 1, .inr (.inl (vp_updL og 0 ((nI (sumN (nodesB (fun d => (mdl n sd se nc cs lv) (layP n od d n)) n) n)).toInt64))))) := hN1
  have hCI1 := hCI1.kept hU1 (by decide)
  clear hU1 hN1
  refine lv_goto (tgt := 15) S.1 S.2.1 dL_keep_9 (by decide) ?_
  refine lv_iconst (v := nI 0) S.1 S.2.1 dL_keep_15 (by decide) ?_
  subst hQ
  exact j_iret (u := w_) S hr (rfl) hK hW dL_keep_16 ⟨by decide, by decide⟩ (Or.inl (⟨j_4, rfl, hp4_1, hp4_2, ⟨_, hU, by first | decide | (intro k hk; simp at hk; omega)⟩, hCI1, hOut_, (hU.get hOuD (by first | decide | (simp; done) | (simp; omega)))⟩))
/-- the law's join -/
theorem h_join (l : Launch) (htr : l.stackTraces = false) (D : va_G) (cy : Nat → ClassId) {w : va_W} (ad : Nat → Nat) (n : Nat) (wf wt od : Nat → Nat) (sd se nc lv : Nat) (cs : Nat → CN) (kv : Nat → Int32) (kx : Nat → Nat → Bool) (v : Int32) (u1 : Int32) (hw : Nat) (u2 : Int32) (og : Nat → Int64) (ogd : Nat → UInt64) (hPI : PI n wf wt od sd se nc lv cs kv kx) (hCI : CI ad cy w n wf wt od sd se nc lv cs kv kx) (hOut : w[74]? = some (ad 74, .inl (cy 1, 1, .inr (.inl og)))) (hOuD : w[75]? = some (ad 75, .inl (cy 7, 1, .inr (.inr (.inr (.inl ogd)))))) (hhw : hw < 65536) : jMh l yL_join (jwsW yL_join cL_join 7 (some .int) [(0, 14, 17, 21), (0, 14, 21, 56), (0, 14, 25, 102)]) (jR 11 7 42) D cy w [.ref (ad 0), .int v, .int u1, .int (nI hw), .int u2, .ref (ad 74)] 7 42 (fun vv uu => (∃ (j : Nat), ∃ (i : Nat), ∃ (o : Nat), vv = some (.int (nI 0)) ∧ j < 4 ∧ v = nI j ∧ i < 4 ∧ u1 = nI i ∧ o < 4 ∧ u2 = nI o ∧ howB hw ∧ kv j = nI n ∧ kv i = nI n ∧ jUc w uu ∧ CI ad cy uu n wf wt od sd se nc lv cs (upd kv o (nI n)) (upB kx o (fun a => cmb hw (kx j a) (kx i a))) ∧ uu[74]? = some (ad 74, .inl (cy 1, 1, .inr (.inl (vp_updL og 0 ((nI (sumN (nodesB (fun d => (fun a => cmb hw (kx j a) (kx i a)) (layP n od d n)) n) n)).toInt64))))) ∧ uu[75]? = some (ad 75, .inl (cy 7, 1, .inr (.inr (.inr (.inl ogd)))))) ∨ (vv = some (.int (nI 1)) ∧ (vB v 4 = false ∨ vB u1 4 = false ∨ vB u2 4 = false ∨ ¬ howB hw) ∧ jUc w uu ∧ CI ad cy uu n wf wt od sd se nc lv cs kv kx ∧ uu[74]? = some (ad 74, .inl (cy 1, 1, .inr (.inl og))) ∧ uu[75]? = some (ad 75, .inl (cy 7, 1, .inr (.inr (.inr (.inl ogd)))))) ∨ (vv = some (.int (nI 2)) ∧ (∃ j i o, j < 4 ∧ v = nI j ∧ i < 4 ∧ u1 = nI i ∧ o < 4 ∧ u2 = nI o ∧ howB hw ∧ (kv j = -1 ∨ kv i = -1)) ∧ jUc w uu ∧ CI ad cy uu n wf wt od sd se nc lv cs kv kx ∧ uu[74]? = some (ad 74, .inl (cy 1, 1, .inr (.inl og))) ∧ uu[75]? = some (ad 75, .inl (cy 7, 1, .inr (.inr (.inr (.inl ogd)))))) ∨ (vv = some (.int (nI 3)) ∧ (∃ j i o, j < 4 ∧ v = nI j ∧ i < 4 ∧ u1 = nI i ∧ o < 4 ∧ u2 = nI o ∧ howB hw ∧ kv j ≠ -1 ∧ kv i ≠ -1 ∧ (kv j ≠ nI n ∨ kv i ≠ nI n)) ∧ jUc w uu ∧ CI ad cy uu n wf wt od sd se nc lv cs kv kx ∧ uu[74]? = some (ad 74, .inl (cy 1, 1, .inr (.inl og))) ∧ uu[75]? = some (ad 75, .inl (cy 7, 1, .inr (.inr (.inr (.inl ogd))))))) := by
  obtain ⟨hn, hsdn, hse2, hnc, hlvn, hcs, hkI, hod, hodn, hinj⟩ := hPI
  have hp2 := two_pow10 hn
  have hsd : sd < 1024 := by omega
  have hse : se < 1024 := by rw [← hse2]; exact Nat.lt_of_le_of_lt Nat.and_le_right hsd
  have hlv : lv < 2 ^ 20 := Nat.lt_of_lt_of_le hlvn (Nat.pow_le_pow_right (by decide) hnc)
  have hCI0 := hCI
  obtain ⟨bO, bW, bD, bC, bM, bP, bR, bX, bS⟩ := hCI
  have bO0 := bO
  have bD0 := bD
  have bX0 := bX
  have bS0 := bS
  obtain ⟨fr, mv, MX, hO, hMo, hMl, hMa, hfr⟩ := bO
  obtain ⟨hOo, hOa⟩ := bD
  obtain ⟨sz, tp, fw, tw, yw, pcn, hX, hXto, hXta, hXfo, hXfa, hXwo, hXwa, hXyo, hXya, hXpo, hXpa, hf, ht⟩ := bX
  obtain ⟨hS, hslo⟩ := bS
  refine j_ofH (by decide) rfl (Nat.le_of_ble_eq_true rfl) ?_
  intro p e s m args below meth c A ls Q hQ S hr hK hA H locs hW hl htab hx hnx
  have hl : lv_has ls 7 [(0, .ref (ad 0)), (1, .int v), (2, .int u1), (3, .int (nI hw)), (4, .int u2), (5, .ref (ad 74))] := hl
  refine lv_aload S.1 S.2.1 dL_join_0 (lv_at hl 5 rfl) ?_
  refine lv_iconst (v := nI 0) S.1 S.2.1 dL_join_2 (by decide) ?_
  refine lv_aload_n S.1 S.2.1 dL_join_3 rfl (lv_at hl 0 rfl) ?_
  refine lv_iload_n S.1 S.2.1 dL_join_4 rfl (lv_at hl 1 rfl) ?_
  refine lv_iload_n S.1 S.2.1 dL_join_5 rfl (lv_at hl 2 rfl) ?_
  refine lv_iload_n S.1 S.2.1 dL_join_6 rfl (lv_at hl 3 rfl) ?_
  refine lv_iload S.1 S.2.1 dL_join_7 (lv_at hl 4 rfl) ?_
  refine jx_callT (k := 0) (ci := 10) (q := (RX11, TX11, 15)) (As := [.int v, .int u1, .int (nI hw), .int u2]) (rest := [.int (nI 0), .ref (ad 74)]) S hK hA hW hx (c_X11_join l htr D cy ad n sd se fr sz tp fw tw yw pcn od kv kx v u1 u2 hw hO hX hXto hXta hXfo hXfa hXwo hXwa hXyo hXya hXpo hXpa hOo hOa hS hslo  (hn) (hod) (hf) (ht) (hhw)) (jgo wm_L_98) yk_X11_join hO rfl rfl ⟨⟨rfl, rfl⟩, by decide, by decide⟩ rfl hl.1 rfl (Nat.le_of_ble_eq_true rfl) dL_join_9 ⟨Nat.le_of_ble_eq_true rfl, Nat.le_of_ble_eq_true rfl⟩ (fun E ce q9 w_ H locs hp hW hc1 hc2 hc3 => ?_) (fun v w_ H locs hp hW => ?_)
  · obtain ⟨hp, rfl⟩ := hp
    rcases hp with ⟨rfl, hp⟩ | ⟨rfl, hp⟩ | ⟨rfl, hp⟩
    · refine vx_catch (name := "java/lang/IllegalArgumentException") S.2.2.2.1 [] ⟨0, 14, 17, 21⟩ [⟨0, 14, 21, 56⟩, ⟨0, 14, 25, 102⟩] (htab.trans rfl) (fun _ h => absurd h List.not_mem_nil) (by decide) (by decide) (S.2.2.2.2 _ (List.mem_cons_of_mem _ wcl_L_21)) (va_Nw.use rfl (hx.2.2.1 "java/lang/IllegalArgumentException" (by decide))) hc1 hc2 hc3 ?_
      refine W.eq (g2 := F0 m 17 ls [.ref q9]) rfl ?_
      refine lv_astore (lv' := [(6, .ref q9), (0, .ref (ad 0)), (1, .int v), (2, .int u1), (3, .int (nI hw)), (4, .int u2), (5, .ref (ad 74))]) S.1 S.2.1 dL_join_17 hl (by decide) rfl (fun ls hl => ?_)
      refine lv_iconst (v := nI 1) S.1 S.2.1 dL_join_19 (by decide) ?_
      subst hQ
      exact j_iret (u := w) S hr (rfl) hK hW dL_join_20 ⟨by decide, by decide⟩ (Or.inr (Or.inl (⟨rfl, hp, jUc.rf, hCI0, hOut, hOuD⟩)))
    · refine vx_catch (name := "java/util/NoSuchElementException") S.2.2.2.1 [⟨0, 14, 17, 21⟩] ⟨0, 14, 21, 56⟩ [⟨0, 14, 25, 102⟩] (htab.trans rfl) (List.forall_mem_cons.mpr ⟨Or.inr ⟨by decide, "java/lang/IllegalArgumentException", S.2.2.2.2 _ (List.mem_cons_of_mem _ wcl_L_21), hnx "java/util/NoSuchElementException" (by decide) "java/lang/IllegalArgumentException" (by decide) (by decide)⟩, fun _ h => absurd h List.not_mem_nil⟩) (by decide) (by decide) (S.2.2.2.2 _ (List.mem_cons_of_mem _ wcl_L_56)) (va_Nw.use rfl (hx.2.2.1 "java/util/NoSuchElementException" (by decide))) hc1 hc2 hc3 ?_
      refine W.eq (g2 := F0 m 21 ls [.ref q9]) rfl ?_
      refine lv_astore (lv' := [(6, .ref q9), (0, .ref (ad 0)), (1, .int v), (2, .int u1), (3, .int (nI hw)), (4, .int u2), (5, .ref (ad 74))]) S.1 S.2.1 dL_join_21 hl (by decide) rfl (fun ls hl => ?_)
      refine lv_iconst (v := nI 2) S.1 S.2.1 dL_join_23 (by decide) ?_
      subst hQ
      exact j_iret (u := w) S hr (rfl) hK hW dL_join_24 ⟨by decide, by decide⟩ (Or.inr (Or.inr (Or.inl (⟨rfl, hp, jUc.rf, hCI0, hOut, hOuD⟩))))
    · refine vx_catch (name := "java/lang/UnsupportedOperationException") S.2.2.2.1 [⟨0, 14, 17, 21⟩, ⟨0, 14, 21, 56⟩] ⟨0, 14, 25, 102⟩ [] (htab.trans rfl) (List.forall_mem_cons.mpr ⟨Or.inr ⟨by decide, "java/lang/IllegalArgumentException", S.2.2.2.2 _ (List.mem_cons_of_mem _ wcl_L_21), hnx "java/lang/UnsupportedOperationException" (by decide) "java/lang/IllegalArgumentException" (by decide) (by decide)⟩, List.forall_mem_cons.mpr ⟨Or.inr ⟨by decide, "java/util/NoSuchElementException", S.2.2.2.2 _ (List.mem_cons_of_mem _ wcl_L_56), hnx "java/lang/UnsupportedOperationException" (by decide) "java/util/NoSuchElementException" (by decide) (by decide)⟩, fun _ h => absurd h List.not_mem_nil⟩⟩) (by decide) (by decide) (S.2.2.2.2 _ (List.mem_cons_of_mem _ wcl_L_102)) (va_Nw.use rfl (hx.2.2.1 "java/lang/UnsupportedOperationException" (by decide))) hc1 hc2 hc3 ?_
      refine W.eq (g2 := F0 m 25 ls [.ref q9]) rfl ?_
      refine lv_astore (lv' := [(6, .ref q9), (0, .ref (ad 0)), (1, .int v), (2, .int u1), (3, .int (nI hw)), (4, .int u2), (5, .ref (ad 74))]) S.1 S.2.1 dL_join_25 hl (by decide) rfl (fun ls hl => ?_)
      refine lv_iconst (v := nI 3) S.1 S.2.1 dL_join_27 (by decide) ?_
      subst hQ
      exact j_iret (u := w) S hr (rfl) hK hW dL_join_28 ⟨by decide, by decide⟩ (Or.inr (Or.inr (Or.inr (⟨rfl, hp, jUc.rf, hCI0, hOut, hOuD⟩))))
  obtain ⟨sz1_9, tp1_9, fw1_9, tw1_9, yw1_9, pcn1_9, j_9, i_9, o_9, rfl, hp9_0, hp9_1, hp9_2, hp9_3, hp9_4, hp9_5, hp9_6, hp9_7, hp9_8, hp9_9, hU1, hN1, hN2, hN3, hN4, hN5, hN6, hN7, hN8⟩ := hp
  have hU : jU w w_ [31, 33, 35, 37, 39, 41, 43 + 3 * o_9, 45 + 3 * o_9, 74] := jU.mono hU1 (by first | decide | (simp; done) | (simp; omega))
  have hOut_ := hU1.get hOut (by first | decide | (simp; done) | (simp; omega))
  have hX_ : w_[31]? = some (ad 31, .inr (2, [.ref (ad 32), .ref (ad 34), .ref (ad 36), .ref (ad 38), .ref (ad 40), .int (nI sz1_9)])) := hN1
  have hXta_ : w_[33]? = some (ad 33, .inl (cy 0, 1024, .inl (nf tp1_9))) := hN2
  have hXfa_ : w_[35]? = some (ad 35, .inl (cy 0, 272, .inl (nf fw1_9))) := hN3
  have hXwa_ : w_[37]? = some (ad 37, .inl (cy 0, 272, .inl (nf tw1_9))) := hN4
  have hXya_ : w_[39]? = some (ad 39, .inl (cy 0, 272, .inl (nf yw1_9))) := hN5
  have hXpa_ : w_[41]? = some (ad 41, .inl (cy 0, 10, .inl (nf pcn1_9))) := hN6
  have hson1_ : w_[43 + 3 * o_9]? = some (ad (43 + 3 * o_9), .inr (0, [.ref (ad (44 + 3 * o_9)), .int (nI n)])) := hN7
  have hoan2_ : w_[45 + 3 * o_9]? = some (ad (45 + 3 * o_9), .inl (cy 1, 16, .inr (.inl (wd (fun a => cmb hw (kx j_9 a) (kx i_9 a)))))) := hN8
  clear hU1 hN1 hN2 hN3 hN4 hN5 hN6 hN7 hN8
  refine W.eq (g2 := F0 m 12 ls [.int (nI (sumN (nodesB (fun d => (fun a => cmb hw (kx j_9 a) (kx i_9 a)) (layP n od d n)) n) n)), .int (nI 0), .ref (ad 74)]) rfl ?_
  have hCI1 : CI ad cy w_ n wf wt od sd se nc lv cs (upd kv o_9 (nI n)) (upB kx o_9 (fun a => cmb hw (kx j_9 a) (kx i_9 a))) := ⟨bO0.kept hU (by first | decide | (intro k hk; simp at hk; omega)), bW.kept hU (by first | decide | (intro k hk; simp at hk; omega)), bD0.kept hU (by first | decide | (intro k hk; simp at hk; omega)), bC.kept hU (by first | decide | (intro k hk; simp at hk; omega)), bM.kept hU (by first | decide | (intro k hk; simp at hk; omega)), bP.kept hU (by first | decide | (intro k hk; simp at hk; omega)), bR.kept hU (by first | decide | (intro k hk; simp at hk; omega)), ⟨_, _, _, _, _, _, hX_, (hU.get hXto (by first | decide | (simp; done) | (simp; omega))), hXta_, (hU.get hXfo (by first | decide | (simp; done) | (simp; omega))), hXfa_, (hU.get hXwo (by first | decide | (simp; done) | (simp; omega))), hXwa_, (hU.get hXyo (by first | decide | (simp; done) | (simp; omega))), hXya_, (hU.get hXpo (by first | decide | (simp; done) | (simp; omega))), hXpa_, hp9_0.1, hp9_0.2⟩, ⟨(hU.get hS (by first | decide | (simp; done) | (simp; omega))), hslo.keep hU (fun k hk => by simp at hk; omega) hson1_ hoan2_⟩⟩
  refine lv_i2l (v := (nI (sumN (nodesB (fun d => (fun a => cmb hw (kx j_9 a) (kx i_9 a)) (layP n od d n)) n) n)).toInt64) S.1 S.2.1 dL_join_12 (rfl) ?_
  refine j_last S hK hW hOut_ (vp_in_nI (by omega) (by omega)) (nI_clamp (by omega)) dL_join_13 (fun H locs w_ hU1 hN1 hW => ?_)
  have hU := hU.then hU1 (by first | decide | (simp; done) | (simp; omega))
  have hX_ := hU1.get hX_ (by first | decide | (simp; done) | (simp; omega))
  have hXta_ := hU1.get hXta_ (by first | decide | (simp; done) | (simp; omega))
  have hXfa_ := hU1.get hXfa_ (by first | decide | (simp; done) | (simp; omega))
  have hXwa_ := hU1.get hXwa_ (by first | decide | (simp; done) | (simp; omega))
  have hXya_ := hU1.get hXya_ (by first | decide | (simp; done) | (simp; omega))
  have hXpa_ := hU1.get hXpa_ (by first | decide | (simp; done) | (simp; omega))
  have hson1_ := hU1.get hson1_ (by first | decide | (simp; done) | (simp; omega))
  have hoan2_ := hU1.get hoan2_ (by first | decide | (simp; done) | (simp; omega))
  have hOut_ : w_[74]? = some (ad 74, .inl (cy 1, 1, .inr (.inl (vp_updL og 0 ((nI (sumN (nodesB (fun d => (fun a => cmb hw (kx j_9 a) (kx i_9 a)) (layP n od d n)) n) n)).toInt64))))) := hN1
  have hCI1 := hCI1.kept hU1 (by decide)
  clear hU1 hN1
  refine lv_goto (tgt := 29) S.1 S.2.1 dL_join_14 (by decide) ?_
  refine lv_iconst (v := nI 0) S.1 S.2.1 dL_join_29 (by decide) ?_
  subst hQ
  exact j_iret (u := w_) S hr (rfl) hK hW dL_join_30 ⟨by decide, by decide⟩ (Or.inl (⟨j_9, i_9, o_9, rfl, hp9_1, hp9_2, hp9_3, hp9_4, hp9_5, hp9_6, hp9_7, hp9_8, hp9_9, ⟨_, hU, by first | decide | (intro k hk; simp at hk; omega)⟩, hCI1, hOut_, (hU.get hOuD (by first | decide | (simp; done) | (simp; omega)))⟩))
/-- the law's fix -/
theorem h_fix (l : Launch) (htr : l.stackTraces = false) (D : va_G) (cy : Nat → ClassId) {w : va_W} (ad : Nat → Nat) (n : Nat) (wf wt od : Nat → Nat) (sd se nc lv : Nat) (cs : Nat → CN) (kv : Nat → Int32) (kx : Nat → Nat → Bool) (v : Int32) (u1 : Int32) (u2 : Int32) (og : Nat → Int64) (ogd : Nat → UInt64) (hPI : PI n wf wt od sd se nc lv cs kv kx) (hCI : CI ad cy w n wf wt od sd se nc lv cs kv kx) (hOut : w[74]? = some (ad 74, .inl (cy 1, 1, .inr (.inl og)))) (hOuD : w[75]? = some (ad 75, .inl (cy 7, 1, .inr (.inr (.inr (.inl ogd)))))) : jMh l yL_fix (jwsW yL_fix cL_fix 6 (some .int) [(0, 12, 15, 21), (0, 12, 19, 19), (0, 12, 23, 56), (0, 12, 27, 102)]) (jR 10 5 30) D cy w [.ref (ad 0), .int v, .int u1, .int u2, .ref (ad 74)] 5 30 (fun vv uu => (∃ (j : Nat), ∃ (x : Nat), ∃ (y : Nat), vv = some (.int (nI 0)) ∧ j < 4 ∧ v = nI j ∧ x < n ∧ u1 = nI x ∧ y < 2 ∧ u2 = nI y ∧ kv j = nI n ∧ jUc w uu ∧ CI ad cy uu n wf wt od sd se nc lv cs kv (upB kx j (fixS n x y (kx j))) ∧ uu[74]? = some (ad 74, .inl (cy 1, 1, .inr (.inl (vp_updL og 0 ((nI (sumN (nodesB (fun d => (fixS n x y (kx j)) (layP n od d n)) n) n)).toInt64))))) ∧ uu[75]? = some (ad 75, .inl (cy 7, 1, .inr (.inr (.inr (.inl ogd)))))) ∨ (vv = some (.int (nI 1)) ∧ (vB v 4 = false ∨ ((∃ j, j < 4 ∧ v = nI j) ∧ vB u2 2 = false)) ∧ jUc w uu ∧ CI ad cy uu n wf wt od sd se nc lv cs kv kx ∧ uu[74]? = some (ad 74, .inl (cy 1, 1, .inr (.inl og))) ∧ uu[75]? = some (ad 75, .inl (cy 7, 1, .inr (.inr (.inr (.inl ogd)))))) ∨ (vv = some (.int (nI 2)) ∧ (∃ j y, j < 4 ∧ v = nI j ∧ y < 2 ∧ u2 = nI y ∧ vB u1 n = false) ∧ jUc w uu ∧ CI ad cy uu n wf wt od sd se nc lv cs kv kx ∧ uu[74]? = some (ad 74, .inl (cy 1, 1, .inr (.inl og))) ∧ uu[75]? = some (ad 75, .inl (cy 7, 1, .inr (.inr (.inr (.inl ogd)))))) ∨ (vv = some (.int (nI 3)) ∧ (∃ j x y, j < 4 ∧ v = nI j ∧ x < n ∧ u1 = nI x ∧ y < 2 ∧ u2 = nI y ∧ kv j = -1) ∧ jUc w uu ∧ CI ad cy uu n wf wt od sd se nc lv cs kv kx ∧ uu[74]? = some (ad 74, .inl (cy 1, 1, .inr (.inl og))) ∧ uu[75]? = some (ad 75, .inl (cy 7, 1, .inr (.inr (.inr (.inl ogd)))))) ∨ (vv = some (.int (nI 4)) ∧ (∃ j x y, j < 4 ∧ v = nI j ∧ x < n ∧ u1 = nI x ∧ y < 2 ∧ u2 = nI y ∧ kv j ≠ -1 ∧ kv j ≠ nI n) ∧ jUc w uu ∧ CI ad cy uu n wf wt od sd se nc lv cs kv kx ∧ uu[74]? = some (ad 74, .inl (cy 1, 1, .inr (.inl og))) ∧ uu[75]? = some (ad 75, .inl (cy 7, 1, .inr (.inr (.inr (.inl ogd))))))) := by
  obtain ⟨hn, hsdn, hse2, hnc, hlvn, hcs, hkI, hod, hodn, hinj⟩ := hPI
  have hp2 := two_pow10 hn
  have hsd : sd < 1024 := by omega
  have hse : se < 1024 := by rw [← hse2]; exact Nat.lt_of_le_of_lt Nat.and_le_right hsd
  have hlv : lv < 2 ^ 20 := Nat.lt_of_lt_of_le hlvn (Nat.pow_le_pow_right (by decide) hnc)
  have hCI0 := hCI
  obtain ⟨bO, bW, bD, bC, bM, bP, bR, bX, bS⟩ := hCI
  have bO0 := bO
  have bD0 := bD
  have bX0 := bX
  have bS0 := bS
  obtain ⟨fr, mv, MX, hO, hMo, hMl, hMa, hfr⟩ := bO
  obtain ⟨hOo, hOa⟩ := bD
  obtain ⟨sz, tp, fw, tw, yw, pcn, hX, hXto, hXta, hXfo, hXfa, hXwo, hXwa, hXyo, hXya, hXpo, hXpa, hf, ht⟩ := bX
  obtain ⟨hS, hslo⟩ := bS
  refine j_ofH (by decide) rfl (Nat.le_of_ble_eq_true rfl) ?_
  intro p e s m args below meth c A ls Q hQ S hr hK hA H locs hW hl htab hx hnx
  have hl : lv_has ls 6 [(0, .ref (ad 0)), (1, .int v), (2, .int u1), (3, .int u2), (4, .ref (ad 74))] := hl
  refine lv_aload S.1 S.2.1 dL_fix_0 (lv_at hl 4 rfl) ?_
  refine lv_iconst (v := nI 0) S.1 S.2.1 dL_fix_2 (by decide) ?_
  refine lv_aload_n S.1 S.2.1 dL_fix_3 rfl (lv_at hl 0 rfl) ?_
  refine lv_iload_n S.1 S.2.1 dL_fix_4 rfl (lv_at hl 1 rfl) ?_
  refine lv_iload_n S.1 S.2.1 dL_fix_5 rfl (lv_at hl 2 rfl) ?_
  refine lv_iload_n S.1 S.2.1 dL_fix_6 rfl (lv_at hl 3 rfl) ?_
  refine jx_callT (k := 0) (ci := 10) (q := (RX11, TX11, 15)) (As := [.int v, .int u1, .int u2]) (rest := [.int (nI 0), .ref (ad 74)]) S hK hA hW hx (c_X11_fix l htr D cy ad n sd se fr sz tp fw tw yw pcn od kv kx v u1 u2 hO hX hXto hXta hXfo hXfa hXwo hXwa hXyo hXya hXpo hXpa hOo hOa hS hslo  (hn) (hod) (hf) (ht) (hkI)) (jgo wm_L_104) yk_X11_fix hO rfl rfl ⟨⟨rfl, rfl⟩, by decide, by decide⟩ rfl hl.1 rfl (Nat.le_of_ble_eq_true rfl) dL_fix_7 ⟨Nat.le_of_ble_eq_true rfl, Nat.le_of_ble_eq_true rfl⟩ (fun E ce q9 w_ H locs hp hW hc1 hc2 hc3 => ?_) (fun v w_ H locs hp hW => ?_)
  · obtain ⟨hp, rfl⟩ := hp
    rcases hp with ⟨rfl, hp⟩ | ⟨rfl, hp⟩ | ⟨rfl, hp⟩ | ⟨rfl, hp⟩
    · refine vx_catch (name := "java/lang/IllegalArgumentException") S.2.2.2.1 [] ⟨0, 12, 15, 21⟩ [⟨0, 12, 19, 19⟩, ⟨0, 12, 23, 56⟩, ⟨0, 12, 27, 102⟩] (htab.trans rfl) (fun _ h => absurd h List.not_mem_nil) (by decide) (by decide) (S.2.2.2.2 _ (List.mem_cons_of_mem _ wcl_L_21)) (va_Nw.use rfl (hx.2.2.1 "java/lang/IllegalArgumentException" (by decide))) hc1 hc2 hc3 ?_
      refine W.eq (g2 := F0 m 15 ls [.ref q9]) rfl ?_
      refine lv_astore (lv' := [(5, .ref q9), (0, .ref (ad 0)), (1, .int v), (2, .int u1), (3, .int u2), (4, .ref (ad 74))]) S.1 S.2.1 dL_fix_15 hl (by decide) rfl (fun ls hl => ?_)
      refine lv_iconst (v := nI 1) S.1 S.2.1 dL_fix_17 (by decide) ?_
      subst hQ
      exact j_iret (u := w) S hr (rfl) hK hW dL_fix_18 ⟨by decide, by decide⟩ (Or.inr (Or.inl (⟨rfl, hp, jUc.rf, hCI0, hOut, hOuD⟩)))
    · refine vx_catch (name := "java/lang/IndexOutOfBoundsException") S.2.2.2.1 [⟨0, 12, 15, 21⟩] ⟨0, 12, 19, 19⟩ [⟨0, 12, 23, 56⟩, ⟨0, 12, 27, 102⟩] (htab.trans rfl) (List.forall_mem_cons.mpr ⟨Or.inr ⟨by decide, "java/lang/IllegalArgumentException", S.2.2.2.2 _ (List.mem_cons_of_mem _ wcl_L_21), hnx "java/lang/IndexOutOfBoundsException" (by decide) "java/lang/IllegalArgumentException" (by decide) (by decide)⟩, fun _ h => absurd h List.not_mem_nil⟩) (by decide) (by decide) (S.2.2.2.2 _ (List.mem_cons_of_mem _ wcl_L_19)) (va_Nw.use rfl (hx.2.2.1 "java/lang/IndexOutOfBoundsException" (by decide))) hc1 hc2 hc3 ?_
      refine W.eq (g2 := F0 m 19 ls [.ref q9]) rfl ?_
      refine lv_astore (lv' := [(5, .ref q9), (0, .ref (ad 0)), (1, .int v), (2, .int u1), (3, .int u2), (4, .ref (ad 74))]) S.1 S.2.1 dL_fix_19 hl (by decide) rfl (fun ls hl => ?_)
      refine lv_iconst (v := nI 2) S.1 S.2.1 dL_fix_21 (by decide) ?_
      subst hQ
      exact j_iret (u := w) S hr (rfl) hK hW dL_fix_22 ⟨by decide, by decide⟩ (Or.inr (Or.inr (Or.inl (⟨rfl, hp, jUc.rf, hCI0, hOut, hOuD⟩))))
    · refine vx_catch (name := "java/util/NoSuchElementException") S.2.2.2.1 [⟨0, 12, 15, 21⟩, ⟨0, 12, 19, 19⟩] ⟨0, 12, 23, 56⟩ [⟨0, 12, 27, 102⟩] (htab.trans rfl) (List.forall_mem_cons.mpr ⟨Or.inr ⟨by decide, "java/lang/IllegalArgumentException", S.2.2.2.2 _ (List.mem_cons_of_mem _ wcl_L_21), hnx "java/util/NoSuchElementException" (by decide) "java/lang/IllegalArgumentException" (by decide) (by decide)⟩, List.forall_mem_cons.mpr ⟨Or.inr ⟨by decide, "java/lang/IndexOutOfBoundsException", S.2.2.2.2 _ (List.mem_cons_of_mem _ wcl_L_19), hnx "java/util/NoSuchElementException" (by decide) "java/lang/IndexOutOfBoundsException" (by decide) (by decide)⟩, fun _ h => absurd h List.not_mem_nil⟩⟩) (by decide) (by decide) (S.2.2.2.2 _ (List.mem_cons_of_mem _ wcl_L_56)) (va_Nw.use rfl (hx.2.2.1 "java/util/NoSuchElementException" (by decide))) hc1 hc2 hc3 ?_
      refine W.eq (g2 := F0 m 23 ls [.ref q9]) rfl ?_
      refine lv_astore (lv' := [(5, .ref q9), (0, .ref (ad 0)), (1, .int v), (2, .int u1), (3, .int u2), (4, .ref (ad 74))]) S.1 S.2.1 dL_fix_23 hl (by decide) rfl (fun ls hl => ?_)
      refine lv_iconst (v := nI 3) S.1 S.2.1 dL_fix_25 (by decide) ?_
      subst hQ
      exact j_iret (u := w) S hr (rfl) hK hW dL_fix_26 ⟨by decide, by decide⟩ (Or.inr (Or.inr (Or.inr (Or.inl (⟨rfl, hp, jUc.rf, hCI0, hOut, hOuD⟩)))))
    · refine vx_catch (name := "java/lang/UnsupportedOperationException") S.2.2.2.1 [⟨0, 12, 15, 21⟩, ⟨0, 12, 19, 19⟩, ⟨0, 12, 23, 56⟩] ⟨0, 12, 27, 102⟩ [] (htab.trans rfl) (List.forall_mem_cons.mpr ⟨Or.inr ⟨by decide, "java/lang/IllegalArgumentException", S.2.2.2.2 _ (List.mem_cons_of_mem _ wcl_L_21), hnx "java/lang/UnsupportedOperationException" (by decide) "java/lang/IllegalArgumentException" (by decide) (by decide)⟩, List.forall_mem_cons.mpr ⟨Or.inr ⟨by decide, "java/lang/IndexOutOfBoundsException", S.2.2.2.2 _ (List.mem_cons_of_mem _ wcl_L_19), hnx "java/lang/UnsupportedOperationException" (by decide) "java/lang/IndexOutOfBoundsException" (by decide) (by decide)⟩, List.forall_mem_cons.mpr ⟨Or.inr ⟨by decide, "java/util/NoSuchElementException", S.2.2.2.2 _ (List.mem_cons_of_mem _ wcl_L_56), hnx "java/lang/UnsupportedOperationException" (by decide) "java/util/NoSuchElementException" (by decide) (by decide)⟩, fun _ h => absurd h List.not_mem_nil⟩⟩⟩) (by decide) (by decide) (S.2.2.2.2 _ (List.mem_cons_of_mem _ wcl_L_102)) (va_Nw.use rfl (hx.2.2.1 "java/lang/UnsupportedOperationException" (by decide))) hc1 hc2 hc3 ?_
      refine W.eq (g2 := F0 m 27 ls [.ref q9]) rfl ?_
      refine lv_astore (lv' := [(5, .ref q9), (0, .ref (ad 0)), (1, .int v), (2, .int u1), (3, .int u2), (4, .ref (ad 74))]) S.1 S.2.1 dL_fix_27 hl (by decide) rfl (fun ls hl => ?_)
      refine lv_iconst (v := nI 4) S.1 S.2.1 dL_fix_29 (by decide) ?_
      subst hQ
      exact j_iret (u := w) S hr (rfl) hK hW dL_fix_30 ⟨by decide, by decide⟩ (Or.inr (Or.inr (Or.inr (Or.inr (⟨rfl, hp, jUc.rf, hCI0, hOut, hOuD⟩)))))
  obtain ⟨sz1_7, tp1_7, fw1_7, tw1_7, yw1_7, pcn1_7, j_7, x_7, y_7, rfl, hp7_0, hp7_1, hp7_2, hp7_3, hp7_4, hp7_5, hp7_6, hp7_7, hU1, hN1, hN2, hN3, hN4, hN5, hN6, hN7⟩ := hp
  have hU : jU w w_ [31, 33, 35, 37, 39, 41, 45 + 3 * j_7, 74] := jU.mono hU1 (by first | decide | (simp; done) | (simp; omega))
  have hOut_ := hU1.get hOut (by first | decide | (simp; done) | (simp; omega))
  have hX_ : w_[31]? = some (ad 31, .inr (2, [.ref (ad 32), .ref (ad 34), .ref (ad 36), .ref (ad 38), .ref (ad 40), .int (nI sz1_7)])) := hN1
  have hXta_ : w_[33]? = some (ad 33, .inl (cy 0, 1024, .inl (nf tp1_7))) := hN2
  have hXfa_ : w_[35]? = some (ad 35, .inl (cy 0, 272, .inl (nf fw1_7))) := hN3
  have hXwa_ : w_[37]? = some (ad 37, .inl (cy 0, 272, .inl (nf tw1_7))) := hN4
  have hXya_ : w_[39]? = some (ad 39, .inl (cy 0, 272, .inl (nf yw1_7))) := hN5
  have hXpa_ : w_[41]? = some (ad 41, .inl (cy 0, 10, .inl (nf pcn1_7))) := hN6
  have hsan1_ : w_[45 + 3 * j_7]? = some (ad (45 + 3 * j_7), .inl (cy 1, 16, .inr (.inl (wd (fixS n x_7 y_7 (kx j_7)))))) := hN7
  clear hU1 hN1 hN2 hN3 hN4 hN5 hN6 hN7
  refine W.eq (g2 := F0 m 10 ls [.int (nI (sumN (nodesB (fun d => (fixS n x_7 y_7 (kx j_7)) (layP n od d n)) n) n)), .int (nI 0), .ref (ad 74)]) rfl ?_
  have hCI1 : CI ad cy w_ n wf wt od sd se nc lv cs kv (upB kx j_7 (fixS n x_7 y_7 (kx j_7))) := ⟨bO0.kept hU (by first | decide | (intro k hk; simp at hk; omega)), bW.kept hU (by first | decide | (intro k hk; simp at hk; omega)), bD0.kept hU (by first | decide | (intro k hk; simp at hk; omega)), bC.kept hU (by first | decide | (intro k hk; simp at hk; omega)), bM.kept hU (by first | decide | (intro k hk; simp at hk; omega)), bP.kept hU (by first | decide | (intro k hk; simp at hk; omega)), bR.kept hU (by first | decide | (intro k hk; simp at hk; omega)), ⟨_, _, _, _, _, _, hX_, (hU.get hXto (by first | decide | (simp; done) | (simp; omega))), hXta_, (hU.get hXfo (by first | decide | (simp; done) | (simp; omega))), hXfa_, (hU.get hXwo (by first | decide | (simp; done) | (simp; omega))), hXwa_, (hU.get hXyo (by first | decide | (simp; done) | (simp; omega))), hXya_, (hU.get hXpo (by first | decide | (simp; done) | (simp; omega))), hXpa_, hp7_0.1, hp7_0.2⟩, ⟨(hU.get hS (by first | decide | (simp; done) | (simp; omega))), hslo.set hU (fun k hk => by simp at hk; omega) hsan1_⟩⟩
  refine lv_i2l (v := (nI (sumN (nodesB (fun d => (fixS n x_7 y_7 (kx j_7)) (layP n od d n)) n) n)).toInt64) S.1 S.2.1 dL_fix_10 (rfl) ?_
  refine j_last S hK hW hOut_ (vp_in_nI (by omega) (by omega)) (nI_clamp (by omega)) dL_fix_11 (fun H locs w_ hU1 hN1 hW => ?_)
  have hU := hU.then hU1 (by first | decide | (simp; done) | (simp; omega))
  have hX_ := hU1.get hX_ (by first | decide | (simp; done) | (simp; omega))
  have hXta_ := hU1.get hXta_ (by first | decide | (simp; done) | (simp; omega))
  have hXfa_ := hU1.get hXfa_ (by first | decide | (simp; done) | (simp; omega))
  have hXwa_ := hU1.get hXwa_ (by first | decide | (simp; done) | (simp; omega))
  have hXya_ := hU1.get hXya_ (by first | decide | (simp; done) | (simp; omega))
  have hXpa_ := hU1.get hXpa_ (by first | decide | (simp; done) | (simp; omega))
  have hsan1_ := hU1.get hsan1_ (by first | decide | (simp; done) | (simp; omega))
  have hOut_ : w_[74]? = some (ad 74, .inl (cy 1, 1, .inr (.inl (vp_updL og 0 ((nI (sumN (nodesB (fun d => (fixS n x_7 y_7 (kx j_7)) (layP n od d n)) n) n)).toInt64))))) := hN1
  have hCI1 := hCI1.kept hU1 (by decide)
  clear hU1 hN1
  refine lv_goto (tgt := 31) S.1 S.2.1 dL_fix_12 (by decide) ?_
  refine lv_iconst (v := nI 0) S.1 S.2.1 dL_fix_31 (by decide) ?_
  subst hQ
  exact j_iret (u := w_) S hr (rfl) hK hW dL_fix_32 ⟨by decide, by decide⟩ (Or.inl (⟨j_7, x_7, y_7, rfl, hp7_1, hp7_2, hp7_3, hp7_4, hp7_5, hp7_6, hp7_7, ⟨_, hU, by first | decide | (intro k hk; simp at hk; omega)⟩, hCI1, hOut_, (hU.get hOuD (by first | decide | (simp; done) | (simp; omega)))⟩))
/-- the law's free -/
theorem h_free (l : Launch) (htr : l.stackTraces = false) (D : va_G) (cy : Nat → ClassId) {w : va_W} (ad : Nat → Nat) (n : Nat) (wf wt od : Nat → Nat) (sd se nc lv : Nat) (cs : Nat → CN) (kv : Nat → Int32) (kx : Nat → Nat → Bool) (v : Int32) (u1 : Int32) (og : Nat → Int64) (ogd : Nat → UInt64) (hPI : PI n wf wt od sd se nc lv cs kv kx) (hCI : CI ad cy w n wf wt od sd se nc lv cs kv kx) (hOut : w[74]? = some (ad 74, .inl (cy 1, 1, .inr (.inl og)))) (hOuD : w[75]? = some (ad 75, .inl (cy 7, 1, .inr (.inr (.inr (.inl ogd)))))) : jMh l yL_free (jwsW yL_free cL_free 5 (some .int) [(0, 10, 13, 21), (0, 10, 17, 19), (0, 10, 21, 56), (0, 10, 25, 102)]) (jR 10 4 24) D cy w [.ref (ad 0), .int v, .int u1, .ref (ad 74)] 4 24 (fun vv uu => (∃ (j : Nat), ∃ (x : Nat), vv = some (.int (nI 0)) ∧ j < 4 ∧ v = nI j ∧ x < n ∧ u1 = nI x ∧ kv j = nI n ∧ jUc w uu ∧ CI ad cy uu n wf wt od sd se nc lv cs kv (upB kx j (freeS n x (kx j))) ∧ uu[74]? = some (ad 74, .inl (cy 1, 1, .inr (.inl (vp_updL og 0 ((nI (sumN (nodesB (fun d => (freeS n x (kx j)) (layP n od d n)) n) n)).toInt64))))) ∧ uu[75]? = some (ad 75, .inl (cy 7, 1, .inr (.inr (.inr (.inl ogd)))))) ∨ (vv = some (.int (nI 1)) ∧ (vB v 4 = false) ∧ jUc w uu ∧ CI ad cy uu n wf wt od sd se nc lv cs kv kx ∧ uu[74]? = some (ad 74, .inl (cy 1, 1, .inr (.inl og))) ∧ uu[75]? = some (ad 75, .inl (cy 7, 1, .inr (.inr (.inr (.inl ogd)))))) ∨ (vv = some (.int (nI 2)) ∧ (∃ j, j < 4 ∧ v = nI j ∧ vB u1 n = false) ∧ jUc w uu ∧ CI ad cy uu n wf wt od sd se nc lv cs kv kx ∧ uu[74]? = some (ad 74, .inl (cy 1, 1, .inr (.inl og))) ∧ uu[75]? = some (ad 75, .inl (cy 7, 1, .inr (.inr (.inr (.inl ogd)))))) ∨ (vv = some (.int (nI 3)) ∧ (∃ j x, j < 4 ∧ v = nI j ∧ x < n ∧ u1 = nI x ∧ kv j = -1) ∧ jUc w uu ∧ CI ad cy uu n wf wt od sd se nc lv cs kv kx ∧ uu[74]? = some (ad 74, .inl (cy 1, 1, .inr (.inl og))) ∧ uu[75]? = some (ad 75, .inl (cy 7, 1, .inr (.inr (.inr (.inl ogd)))))) ∨ (vv = some (.int (nI 4)) ∧ (∃ j x, j < 4 ∧ v = nI j ∧ x < n ∧ u1 = nI x ∧ kv j ≠ -1 ∧ kv j ≠ nI n) ∧ jUc w uu ∧ CI ad cy uu n wf wt od sd se nc lv cs kv kx ∧ uu[74]? = some (ad 74, .inl (cy 1, 1, .inr (.inl og))) ∧ uu[75]? = some (ad 75, .inl (cy 7, 1, .inr (.inr (.inr (.inl ogd))))))) := by
  obtain ⟨hn, hsdn, hse2, hnc, hlvn, hcs, hkI, hod, hodn, hinj⟩ := hPI
  have hp2 := two_pow10 hn
  have hsd : sd < 1024 := by omega
  have hse : se < 1024 := by rw [← hse2]; exact Nat.lt_of_le_of_lt Nat.and_le_right hsd
  have hlv : lv < 2 ^ 20 := Nat.lt_of_lt_of_le hlvn (Nat.pow_le_pow_right (by decide) hnc)
  have hCI0 := hCI
  obtain ⟨bO, bW, bD, bC, bM, bP, bR, bX, bS⟩ := hCI
  have bO0 := bO
  have bD0 := bD
  have bX0 := bX
  have bS0 := bS
  obtain ⟨fr, mv, MX, hO, hMo, hMl, hMa, hfr⟩ := bO
  obtain ⟨hOo, hOa⟩ := bD
  obtain ⟨sz, tp, fw, tw, yw, pcn, hX, hXto, hXta, hXfo, hXfa, hXwo, hXwa, hXyo, hXya, hXpo, hXpa, hf, ht⟩ := bX
  obtain ⟨hS, hslo⟩ := bS
  refine j_ofH (by decide) rfl (Nat.le_of_ble_eq_true rfl) ?_
  intro p e s m args below meth c A ls Q hQ S hr hK hA H locs hW hl htab hx hnx
  have hl : lv_has ls 5 [(0, .ref (ad 0)), (1, .int v), (2, .int u1), (3, .ref (ad 74))] := hl
  refine lv_aload_n S.1 S.2.1 dL_free_0 rfl (lv_at hl 3 rfl) ?_
  refine lv_iconst (v := nI 0) S.1 S.2.1 dL_free_1 (by decide) ?_
  refine lv_aload_n S.1 S.2.1 dL_free_2 rfl (lv_at hl 0 rfl) ?_
  refine lv_iload_n S.1 S.2.1 dL_free_3 rfl (lv_at hl 1 rfl) ?_
  refine lv_iload_n S.1 S.2.1 dL_free_4 rfl (lv_at hl 2 rfl) ?_
  refine jx_callT (k := 0) (ci := 10) (q := (RX11, TX11, 15)) (As := [.int v, .int u1]) (rest := [.int (nI 0), .ref (ad 74)]) S hK hA hW hx (c_X11_free l htr D cy ad n sd se fr sz tp fw tw yw pcn od kv kx v u1 hO hX hXto hXta hXfo hXfa hXwo hXwa hXyo hXya hXpo hXpa hOo hOa hS hslo  (hn) (hod) (hf) (ht) (hkI)) (jgo wm_L_107) yk_X11_free hO rfl rfl ⟨⟨rfl, rfl⟩, by decide, by decide⟩ rfl hl.1 rfl (Nat.le_of_ble_eq_true rfl) dL_free_5 ⟨Nat.le_of_ble_eq_true rfl, Nat.le_of_ble_eq_true rfl⟩ (fun E ce q9 w_ H locs hp hW hc1 hc2 hc3 => ?_) (fun v w_ H locs hp hW => ?_)
  · obtain ⟨hp, rfl⟩ := hp
    rcases hp with ⟨rfl, hp⟩ | ⟨rfl, hp⟩ | ⟨rfl, hp⟩ | ⟨rfl, hp⟩
    · refine vx_catch (name := "java/lang/IllegalArgumentException") S.2.2.2.1 [] ⟨0, 10, 13, 21⟩ [⟨0, 10, 17, 19⟩, ⟨0, 10, 21, 56⟩, ⟨0, 10, 25, 102⟩] (htab.trans rfl) (fun _ h => absurd h List.not_mem_nil) (by decide) (by decide) (S.2.2.2.2 _ (List.mem_cons_of_mem _ wcl_L_21)) (va_Nw.use rfl (hx.2.2.1 "java/lang/IllegalArgumentException" (by decide))) hc1 hc2 hc3 ?_
      refine W.eq (g2 := F0 m 13 ls [.ref q9]) rfl ?_
      refine lv_astore (lv' := [(4, .ref q9), (0, .ref (ad 0)), (1, .int v), (2, .int u1), (3, .ref (ad 74))]) S.1 S.2.1 dL_free_13 hl (by decide) rfl (fun ls hl => ?_)
      refine lv_iconst (v := nI 1) S.1 S.2.1 dL_free_15 (by decide) ?_
      subst hQ
      exact j_iret (u := w) S hr (rfl) hK hW dL_free_16 ⟨by decide, by decide⟩ (Or.inr (Or.inl (⟨rfl, hp, jUc.rf, hCI0, hOut, hOuD⟩)))
    · refine vx_catch (name := "java/lang/IndexOutOfBoundsException") S.2.2.2.1 [⟨0, 10, 13, 21⟩] ⟨0, 10, 17, 19⟩ [⟨0, 10, 21, 56⟩, ⟨0, 10, 25, 102⟩] (htab.trans rfl) (List.forall_mem_cons.mpr ⟨Or.inr ⟨by decide, "java/lang/IllegalArgumentException", S.2.2.2.2 _ (List.mem_cons_of_mem _ wcl_L_21), hnx "java/lang/IndexOutOfBoundsException" (by decide) "java/lang/IllegalArgumentException" (by decide) (by decide)⟩, fun _ h => absurd h List.not_mem_nil⟩) (by decide) (by decide) (S.2.2.2.2 _ (List.mem_cons_of_mem _ wcl_L_19)) (va_Nw.use rfl (hx.2.2.1 "java/lang/IndexOutOfBoundsException" (by decide))) hc1 hc2 hc3 ?_
      refine W.eq (g2 := F0 m 17 ls [.ref q9]) rfl ?_
      refine lv_astore (lv' := [(4, .ref q9), (0, .ref (ad 0)), (1, .int v), (2, .int u1), (3, .ref (ad 74))]) S.1 S.2.1 dL_free_17 hl (by decide) rfl (fun ls hl => ?_)
      refine lv_iconst (v := nI 2) S.1 S.2.1 dL_free_19 (by decide) ?_
      subst hQ
      exact j_iret (u := w) S hr (rfl) hK hW dL_free_20 ⟨by decide, by decide⟩ (Or.inr (Or.inr (Or.inl (⟨rfl, hp, jUc.rf, hCI0, hOut, hOuD⟩))))
    · refine vx_catch (name := "java/util/NoSuchElementException") S.2.2.2.1 [⟨0, 10, 13, 21⟩, ⟨0, 10, 17, 19⟩] ⟨0, 10, 21, 56⟩ [⟨0, 10, 25, 102⟩] (htab.trans rfl) (List.forall_mem_cons.mpr ⟨Or.inr ⟨by decide, "java/lang/IllegalArgumentException", S.2.2.2.2 _ (List.mem_cons_of_mem _ wcl_L_21), hnx "java/util/NoSuchElementException" (by decide) "java/lang/IllegalArgumentException" (by decide) (by decide)⟩, List.forall_mem_cons.mpr ⟨Or.inr ⟨by decide, "java/lang/IndexOutOfBoundsException", S.2.2.2.2 _ (List.mem_cons_of_mem _ wcl_L_19), hnx "java/util/NoSuchElementException" (by decide) "java/lang/IndexOutOfBoundsException" (by decide) (by decide)⟩, fun _ h => absurd h List.not_mem_nil⟩⟩) (by decide) (by decide) (S.2.2.2.2 _ (List.mem_cons_of_mem _ wcl_L_56)) (va_Nw.use rfl (hx.2.2.1 "java/util/NoSuchElementException" (by decide))) hc1 hc2 hc3 ?_
      refine W.eq (g2 := F0 m 21 ls [.ref q9]) rfl ?_
      refine lv_astore (lv' := [(4, .ref q9), (0, .ref (ad 0)), (1, .int v), (2, .int u1), (3, .ref (ad 74))]) S.1 S.2.1 dL_free_21 hl (by decide) rfl (fun ls hl => ?_)
      refine lv_iconst (v := nI 3) S.1 S.2.1 dL_free_23 (by decide) ?_
      subst hQ
      exact j_iret (u := w) S hr (rfl) hK hW dL_free_24 ⟨by decide, by decide⟩ (Or.inr (Or.inr (Or.inr (Or.inl (⟨rfl, hp, jUc.rf, hCI0, hOut, hOuD⟩)))))
    · refine vx_catch (name := "java/lang/UnsupportedOperationException") S.2.2.2.1 [⟨0, 10, 13, 21⟩, ⟨0, 10, 17, 19⟩, ⟨0, 10, 21, 56⟩] ⟨0, 10, 25, 102⟩ [] (htab.trans rfl) (List.forall_mem_cons.mpr ⟨Or.inr ⟨by decide, "java/lang/IllegalArgumentException", S.2.2.2.2 _ (List.mem_cons_of_mem _ wcl_L_21), hnx "java/lang/UnsupportedOperationException" (by decide) "java/lang/IllegalArgumentException" (by decide) (by decide)⟩, List.forall_mem_cons.mpr ⟨Or.inr ⟨by decide, "java/lang/IndexOutOfBoundsException", S.2.2.2.2 _ (List.mem_cons_of_mem _ wcl_L_19), hnx "java/lang/UnsupportedOperationException" (by decide) "java/lang/IndexOutOfBoundsException" (by decide) (by decide)⟩, List.forall_mem_cons.mpr ⟨Or.inr ⟨by decide, "java/util/NoSuchElementException", S.2.2.2.2 _ (List.mem_cons_of_mem _ wcl_L_56), hnx "java/lang/UnsupportedOperationException" (by decide) "java/util/NoSuchElementException" (by decide) (by decide)⟩, fun _ h => absurd h List.not_mem_nil⟩⟩⟩) (by decide) (by decide) (S.2.2.2.2 _ (List.mem_cons_of_mem _ wcl_L_102)) (va_Nw.use rfl (hx.2.2.1 "java/lang/UnsupportedOperationException" (by decide))) hc1 hc2 hc3 ?_
      refine W.eq (g2 := F0 m 25 ls [.ref q9]) rfl ?_
      refine lv_astore (lv' := [(4, .ref q9), (0, .ref (ad 0)), (1, .int v), (2, .int u1), (3, .ref (ad 74))]) S.1 S.2.1 dL_free_25 hl (by decide) rfl (fun ls hl => ?_)
      refine lv_iconst (v := nI 4) S.1 S.2.1 dL_free_27 (by decide) ?_
      subst hQ
      exact j_iret (u := w) S hr (rfl) hK hW dL_free_28 ⟨by decide, by decide⟩ (Or.inr (Or.inr (Or.inr (Or.inr (⟨rfl, hp, jUc.rf, hCI0, hOut, hOuD⟩)))))
  obtain ⟨sz1_5, tp1_5, fw1_5, tw1_5, yw1_5, pcn1_5, j_5, x_5, rfl, hp5_0, hp5_1, hp5_2, hp5_3, hp5_4, hp5_5, hU1, hN1, hN2, hN3, hN4, hN5, hN6, hN7⟩ := hp
  have hU : jU w w_ [31, 33, 35, 37, 39, 41, 45 + 3 * j_5, 74] := jU.mono hU1 (by first | decide | (simp; done) | (simp; omega))
  have hOut_ := hU1.get hOut (by first | decide | (simp; done) | (simp; omega))
  have hX_ : w_[31]? = some (ad 31, .inr (2, [.ref (ad 32), .ref (ad 34), .ref (ad 36), .ref (ad 38), .ref (ad 40), .int (nI sz1_5)])) := hN1
  have hXta_ : w_[33]? = some (ad 33, .inl (cy 0, 1024, .inl (nf tp1_5))) := hN2
  have hXfa_ : w_[35]? = some (ad 35, .inl (cy 0, 272, .inl (nf fw1_5))) := hN3
  have hXwa_ : w_[37]? = some (ad 37, .inl (cy 0, 272, .inl (nf tw1_5))) := hN4
  have hXya_ : w_[39]? = some (ad 39, .inl (cy 0, 272, .inl (nf yw1_5))) := hN5
  have hXpa_ : w_[41]? = some (ad 41, .inl (cy 0, 10, .inl (nf pcn1_5))) := hN6
  have hsan1_ : w_[45 + 3 * j_5]? = some (ad (45 + 3 * j_5), .inl (cy 1, 16, .inr (.inl (wd (freeS n x_5 (kx j_5)))))) := hN7
  clear hU1 hN1 hN2 hN3 hN4 hN5 hN6 hN7
  refine W.eq (g2 := F0 m 8 ls [.int (nI (sumN (nodesB (fun d => (freeS n x_5 (kx j_5)) (layP n od d n)) n) n)), .int (nI 0), .ref (ad 74)]) rfl ?_
  have hCI1 : CI ad cy w_ n wf wt od sd se nc lv cs kv (upB kx j_5 (freeS n x_5 (kx j_5))) := ⟨bO0.kept hU (by first | decide | (intro k hk; simp at hk; omega)), bW.kept hU (by first | decide | (intro k hk; simp at hk; omega)), bD0.kept hU (by first | decide | (intro k hk; simp at hk; omega)), bC.kept hU (by first | decide | (intro k hk; simp at hk; omega)), bM.kept hU (by first | decide | (intro k hk; simp at hk; omega)), bP.kept hU (by first | decide | (intro k hk; simp at hk; omega)), bR.kept hU (by first | decide | (intro k hk; simp at hk; omega)), ⟨_, _, _, _, _, _, hX_, (hU.get hXto (by first | decide | (simp; done) | (simp; omega))), hXta_, (hU.get hXfo (by first | decide | (simp; done) | (simp; omega))), hXfa_, (hU.get hXwo (by first | decide | (simp; done) | (simp; omega))), hXwa_, (hU.get hXyo (by first | decide | (simp; done) | (simp; omega))), hXya_, (hU.get hXpo (by first | decide | (simp; done) | (simp; omega))), hXpa_, hp5_0.1, hp5_0.2⟩, ⟨(hU.get hS (by first | decide | (simp; done) | (simp; omega))), hslo.set hU (fun k hk => by simp at hk; omega) hsan1_⟩⟩
  refine lv_i2l (v := (nI (sumN (nodesB (fun d => (freeS n x_5 (kx j_5)) (layP n od d n)) n) n)).toInt64) S.1 S.2.1 dL_free_8 (rfl) ?_
  refine j_last S hK hW hOut_ (vp_in_nI (by omega) (by omega)) (nI_clamp (by omega)) dL_free_9 (fun H locs w_ hU1 hN1 hW => ?_)
  have hU := hU.then hU1 (by first | decide | (simp; done) | (simp; omega))
  have hX_ := hU1.get hX_ (by first | decide | (simp; done) | (simp; omega))
  have hXta_ := hU1.get hXta_ (by first | decide | (simp; done) | (simp; omega))
  have hXfa_ := hU1.get hXfa_ (by first | decide | (simp; done) | (simp; omega))
  have hXwa_ := hU1.get hXwa_ (by first | decide | (simp; done) | (simp; omega))
  have hXya_ := hU1.get hXya_ (by first | decide | (simp; done) | (simp; omega))
  have hXpa_ := hU1.get hXpa_ (by first | decide | (simp; done) | (simp; omega))
  have hsan1_ := hU1.get hsan1_ (by first | decide | (simp; done) | (simp; omega))
  have hOut_ : w_[74]? = some (ad 74, .inl (cy 1, 1, .inr (.inl (vp_updL og 0 ((nI (sumN (nodesB (fun d => (freeS n x_5 (kx j_5)) (layP n od d n)) n) n)).toInt64))))) := hN1
  have hCI1 := hCI1.kept hU1 (by decide)
  clear hU1 hN1
  refine lv_goto (tgt := 29) S.1 S.2.1 dL_free_10 (by decide) ?_
  refine lv_iconst (v := nI 0) S.1 S.2.1 dL_free_29 (by decide) ?_
  subst hQ
  exact j_iret (u := w_) S hr (rfl) hK hW dL_free_30 ⟨by decide, by decide⟩ (Or.inl (⟨j_5, x_5, rfl, hp5_1, hp5_2, hp5_3, hp5_4, hp5_5, ⟨_, hU, by first | decide | (intro k hk; simp at hk; omega)⟩, hCI1, hOut_, (hU.get hOuD (by first | decide | (simp; done) | (simp; omega)))⟩))
/-- the law's nodesOf -/
theorem h_nodesOf (l : Launch) (htr : l.stackTraces = false) (D : va_G) (cy : Nat → ClassId) {w : va_W} (ad : Nat → Nat) (n : Nat) (wf wt od : Nat → Nat) (sd se nc lv : Nat) (cs : Nat → CN) (kv : Nat → Int32) (kx : Nat → Nat → Bool) (v : Int32) (og : Nat → Int64) (ogd : Nat → UInt64) (hPI : PI n wf wt od sd se nc lv cs kv kx) (hCI : CI ad cy w n wf wt od sd se nc lv cs kv kx) (hOut : w[74]? = some (ad 74, .inl (cy 1, 1, .inr (.inl og)))) (hOuD : w[75]? = some (ad 75, .inl (cy 7, 1, .inr (.inr (.inr (.inl ogd)))))) : jMh l yL_nodesOf (jwsW yL_nodesOf cL_nodesOf 4 (some .int) [(0, 9, 12, 21), (0, 9, 15, 56), (0, 9, 18, 102)]) (jR 10 3 18) D cy w [.ref (ad 0), .int v, .ref (ad 74)] 3 18 (fun vv uu => (∃ (j : Nat), vv = some (.int (nI 0)) ∧ j < 4 ∧ v = nI j ∧ kv j = nI n ∧ jUc w uu ∧ CI ad cy uu n wf wt od sd se nc lv cs kv kx ∧ uu[74]? = some (ad 74, .inl (cy 1, 1, .inr (.inl (vp_updL og 0 ((nI (sumN (nodesB (fun d => (kx j) (layP n od d n)) n) n)).toInt64))))) ∧ uu[75]? = some (ad 75, .inl (cy 7, 1, .inr (.inr (.inr (.inl ogd)))))) ∨ (vv = some (.int (nI 1)) ∧ (vB v 4 = false) ∧ jUc w uu ∧ CI ad cy uu n wf wt od sd se nc lv cs kv kx ∧ uu[74]? = some (ad 74, .inl (cy 1, 1, .inr (.inl og))) ∧ uu[75]? = some (ad 75, .inl (cy 7, 1, .inr (.inr (.inr (.inl ogd)))))) ∨ (vv = some (.int (nI 2)) ∧ (∃ j, j < 4 ∧ v = nI j ∧ kv j = -1) ∧ jUc w uu ∧ CI ad cy uu n wf wt od sd se nc lv cs kv kx ∧ uu[74]? = some (ad 74, .inl (cy 1, 1, .inr (.inl og))) ∧ uu[75]? = some (ad 75, .inl (cy 7, 1, .inr (.inr (.inr (.inl ogd)))))) ∨ (vv = some (.int (nI 3)) ∧ (∃ j, j < 4 ∧ v = nI j ∧ kv j ≠ -1 ∧ kv j ≠ nI n) ∧ jUc w uu ∧ CI ad cy uu n wf wt od sd se nc lv cs kv kx ∧ uu[74]? = some (ad 74, .inl (cy 1, 1, .inr (.inl og))) ∧ uu[75]? = some (ad 75, .inl (cy 7, 1, .inr (.inr (.inr (.inl ogd))))))) := by
  obtain ⟨hn, hsdn, hse2, hnc, hlvn, hcs, hkI, hod, hodn, hinj⟩ := hPI
  have hp2 := two_pow10 hn
  have hsd : sd < 1024 := by omega
  have hse : se < 1024 := by rw [← hse2]; exact Nat.lt_of_le_of_lt Nat.and_le_right hsd
  have hlv : lv < 2 ^ 20 := Nat.lt_of_lt_of_le hlvn (Nat.pow_le_pow_right (by decide) hnc)
  have hCI0 := hCI
  obtain ⟨bO, bW, bD, bC, bM, bP, bR, bX, bS⟩ := hCI
  have bO0 := bO
  have bD0 := bD
  have bX0 := bX
  have bS0 := bS
  obtain ⟨fr, mv, MX, hO, hMo, hMl, hMa, hfr⟩ := bO
  obtain ⟨hOo, hOa⟩ := bD
  obtain ⟨sz, tp, fw, tw, yw, pcn, hX, hXto, hXta, hXfo, hXfa, hXwo, hXwa, hXyo, hXya, hXpo, hXpa, hf, ht⟩ := bX
  obtain ⟨hS, hslo⟩ := bS
  refine j_ofH (by decide) rfl (Nat.le_of_ble_eq_true rfl) ?_
  intro p e s m args below meth c A ls Q hQ S hr hK hA H locs hW hl htab hx hnx
  have hl : lv_has ls 4 [(0, .ref (ad 0)), (1, .int v), (2, .ref (ad 74))] := hl
  refine lv_aload_n S.1 S.2.1 dL_nodesOf_0 rfl (lv_at hl 2 rfl) ?_
  refine lv_iconst (v := nI 0) S.1 S.2.1 dL_nodesOf_1 (by decide) ?_
  refine lv_aload_n S.1 S.2.1 dL_nodesOf_2 rfl (lv_at hl 0 rfl) ?_
  refine lv_iload_n S.1 S.2.1 dL_nodesOf_3 rfl (lv_at hl 1 rfl) ?_
  refine jx_callT (k := 0) (ci := 10) (q := (RX11, TX11, 15)) (As := [.int v]) (rest := [.int (nI 0), .ref (ad 74)]) S hK hA hW hx (c_X11_nodesOf l htr D cy ad n sd se fr sz tp fw tw yw pcn od kv kx v hO hX hXto hXta hXfo hXfa hXwo hXwa hXyo hXya hXpo hXpa hOo hOa hS hslo  (hn) (hod) (hf) (ht)) (jgo wm_L_110) yk_X11_nodesOf hO rfl rfl ⟨⟨rfl, rfl⟩, by decide, by decide⟩ rfl hl.1 rfl (Nat.le_of_ble_eq_true rfl) dL_nodesOf_4 ⟨Nat.le_of_ble_eq_true rfl, Nat.le_of_ble_eq_true rfl⟩ (fun E ce q9 w_ H locs hp hW hc1 hc2 hc3 => ?_) (fun v w_ H locs hp hW => ?_)
  · obtain ⟨hp, rfl⟩ := hp
    rcases hp with ⟨rfl, hp⟩ | ⟨rfl, hp⟩ | ⟨rfl, hp⟩
    · refine vx_catch (name := "java/lang/IllegalArgumentException") S.2.2.2.1 [] ⟨0, 9, 12, 21⟩ [⟨0, 9, 15, 56⟩, ⟨0, 9, 18, 102⟩] (htab.trans rfl) (fun _ h => absurd h List.not_mem_nil) (by decide) (by decide) (S.2.2.2.2 _ (List.mem_cons_of_mem _ wcl_L_21)) (va_Nw.use rfl (hx.2.2.1 "java/lang/IllegalArgumentException" (by decide))) hc1 hc2 hc3 ?_
      refine W.eq (g2 := F0 m 12 ls [.ref q9]) rfl ?_
      refine lv_astore_n (lv' := [(3, .ref q9), (0, .ref (ad 0)), (1, .int v), (2, .ref (ad 74))]) S.1 S.2.1 dL_nodesOf_12 rfl hl (by decide) rfl (fun ls hl => ?_)
      refine lv_iconst (v := nI 1) S.1 S.2.1 dL_nodesOf_13 (by decide) ?_
      subst hQ
      exact j_iret (u := w) S hr (rfl) hK hW dL_nodesOf_14 ⟨by decide, by decide⟩ (Or.inr (Or.inl (⟨rfl, hp, jUc.rf, hCI0, hOut, hOuD⟩)))
    · refine vx_catch (name := "java/util/NoSuchElementException") S.2.2.2.1 [⟨0, 9, 12, 21⟩] ⟨0, 9, 15, 56⟩ [⟨0, 9, 18, 102⟩] (htab.trans rfl) (List.forall_mem_cons.mpr ⟨Or.inr ⟨by decide, "java/lang/IllegalArgumentException", S.2.2.2.2 _ (List.mem_cons_of_mem _ wcl_L_21), hnx "java/util/NoSuchElementException" (by decide) "java/lang/IllegalArgumentException" (by decide) (by decide)⟩, fun _ h => absurd h List.not_mem_nil⟩) (by decide) (by decide) (S.2.2.2.2 _ (List.mem_cons_of_mem _ wcl_L_56)) (va_Nw.use rfl (hx.2.2.1 "java/util/NoSuchElementException" (by decide))) hc1 hc2 hc3 ?_
      refine W.eq (g2 := F0 m 15 ls [.ref q9]) rfl ?_
      refine lv_astore_n (lv' := [(3, .ref q9), (0, .ref (ad 0)), (1, .int v), (2, .ref (ad 74))]) S.1 S.2.1 dL_nodesOf_15 rfl hl (by decide) rfl (fun ls hl => ?_)
      refine lv_iconst (v := nI 2) S.1 S.2.1 dL_nodesOf_16 (by decide) ?_
      subst hQ
      exact j_iret (u := w) S hr (rfl) hK hW dL_nodesOf_17 ⟨by decide, by decide⟩ (Or.inr (Or.inr (Or.inl (⟨rfl, hp, jUc.rf, hCI0, hOut, hOuD⟩))))
    · refine vx_catch (name := "java/lang/UnsupportedOperationException") S.2.2.2.1 [⟨0, 9, 12, 21⟩, ⟨0, 9, 15, 56⟩] ⟨0, 9, 18, 102⟩ [] (htab.trans rfl) (List.forall_mem_cons.mpr ⟨Or.inr ⟨by decide, "java/lang/IllegalArgumentException", S.2.2.2.2 _ (List.mem_cons_of_mem _ wcl_L_21), hnx "java/lang/UnsupportedOperationException" (by decide) "java/lang/IllegalArgumentException" (by decide) (by decide)⟩, List.forall_mem_cons.mpr ⟨Or.inr ⟨by decide, "java/util/NoSuchElementException", S.2.2.2.2 _ (List.mem_cons_of_mem _ wcl_L_56), hnx "java/lang/UnsupportedOperationException" (by decide) "java/util/NoSuchElementException" (by decide) (by decide)⟩, fun _ h => absurd h List.not_mem_nil⟩⟩) (by decide) (by decide) (S.2.2.2.2 _ (List.mem_cons_of_mem _ wcl_L_102)) (va_Nw.use rfl (hx.2.2.1 "java/lang/UnsupportedOperationException" (by decide))) hc1 hc2 hc3 ?_
      refine W.eq (g2 := F0 m 18 ls [.ref q9]) rfl ?_
      refine lv_astore_n (lv' := [(3, .ref q9), (0, .ref (ad 0)), (1, .int v), (2, .ref (ad 74))]) S.1 S.2.1 dL_nodesOf_18 rfl hl (by decide) rfl (fun ls hl => ?_)
      refine lv_iconst (v := nI 3) S.1 S.2.1 dL_nodesOf_19 (by decide) ?_
      subst hQ
      exact j_iret (u := w) S hr (rfl) hK hW dL_nodesOf_20 ⟨by decide, by decide⟩ (Or.inr (Or.inr (Or.inr (⟨rfl, hp, jUc.rf, hCI0, hOut, hOuD⟩))))
  obtain ⟨sz1_4, tp1_4, fw1_4, tw1_4, yw1_4, pcn1_4, j_4, rfl, hp4_0, hp4_1, hp4_2, hp4_3, hU1, hN1, hN2, hN3, hN4, hN5, hN6⟩ := hp
  have hU : jU w w_ [31, 33, 35, 37, 39, 41, 74] := jU.mono hU1 (by first | decide | (simp; done) | (simp; omega))
  have hOut_ := hU1.get hOut (by first | decide | (simp; done) | (simp; omega))
  have hX_ : w_[31]? = some (ad 31, .inr (2, [.ref (ad 32), .ref (ad 34), .ref (ad 36), .ref (ad 38), .ref (ad 40), .int (nI sz1_4)])) := hN1
  have hXta_ : w_[33]? = some (ad 33, .inl (cy 0, 1024, .inl (nf tp1_4))) := hN2
  have hXfa_ : w_[35]? = some (ad 35, .inl (cy 0, 272, .inl (nf fw1_4))) := hN3
  have hXwa_ : w_[37]? = some (ad 37, .inl (cy 0, 272, .inl (nf tw1_4))) := hN4
  have hXya_ : w_[39]? = some (ad 39, .inl (cy 0, 272, .inl (nf yw1_4))) := hN5
  have hXpa_ : w_[41]? = some (ad 41, .inl (cy 0, 10, .inl (nf pcn1_4))) := hN6
  clear hU1 hN1 hN2 hN3 hN4 hN5 hN6
  refine W.eq (g2 := F0 m 7 ls [.int (nI (sumN (nodesB (fun d => (kx j_4) (layP n od d n)) n) n)), .int (nI 0), .ref (ad 74)]) rfl ?_
  have hCI1 : CI ad cy w_ n wf wt od sd se nc lv cs kv kx := ⟨bO0.kept hU (by first | decide | (intro k hk; simp at hk; omega)), bW.kept hU (by first | decide | (intro k hk; simp at hk; omega)), bD0.kept hU (by first | decide | (intro k hk; simp at hk; omega)), bC.kept hU (by first | decide | (intro k hk; simp at hk; omega)), bM.kept hU (by first | decide | (intro k hk; simp at hk; omega)), bP.kept hU (by first | decide | (intro k hk; simp at hk; omega)), bR.kept hU (by first | decide | (intro k hk; simp at hk; omega)), ⟨_, _, _, _, _, _, hX_, (hU.get hXto (by first | decide | (simp; done) | (simp; omega))), hXta_, (hU.get hXfo (by first | decide | (simp; done) | (simp; omega))), hXfa_, (hU.get hXwo (by first | decide | (simp; done) | (simp; omega))), hXwa_, (hU.get hXyo (by first | decide | (simp; done) | (simp; omega))), hXya_, (hU.get hXpo (by first | decide | (simp; done) | (simp; omega))), hXpa_, hp4_0.1, hp4_0.2⟩, bS0.kept hU (by first | decide | (intro k hk; simp at hk; omega))⟩
  refine lv_i2l (v := (nI (sumN (nodesB (fun d => (kx j_4) (layP n od d n)) n) n)).toInt64) S.1 S.2.1 dL_nodesOf_7 (rfl) ?_
  refine j_last S hK hW hOut_ (vp_in_nI (by omega) (by omega)) (nI_clamp (by omega)) dL_nodesOf_8 (fun H locs w_ hU1 hN1 hW => ?_)
  have hU := hU.then hU1 (by first | decide | (simp; done) | (simp; omega))
  have hX_ := hU1.get hX_ (by first | decide | (simp; done) | (simp; omega))
  have hXta_ := hU1.get hXta_ (by first | decide | (simp; done) | (simp; omega))
  have hXfa_ := hU1.get hXfa_ (by first | decide | (simp; done) | (simp; omega))
  have hXwa_ := hU1.get hXwa_ (by first | decide | (simp; done) | (simp; omega))
  have hXya_ := hU1.get hXya_ (by first | decide | (simp; done) | (simp; omega))
  have hXpa_ := hU1.get hXpa_ (by first | decide | (simp; done) | (simp; omega))
  have hOut_ : w_[74]? = some (ad 74, .inl (cy 1, 1, .inr (.inl (vp_updL og 0 ((nI (sumN (nodesB (fun d => (kx j_4) (layP n od d n)) n) n)).toInt64))))) := hN1
  have hCI1 := hCI1.kept hU1 (by decide)
  clear hU1 hN1
  refine lv_goto (tgt := 21) S.1 S.2.1 dL_nodesOf_9 (by decide) ?_
  refine lv_iconst (v := nI 0) S.1 S.2.1 dL_nodesOf_21 (by decide) ?_
  subst hQ
  exact j_iret (u := w_) S hr (rfl) hK hW dL_nodesOf_22 ⟨by decide, by decide⟩ (Or.inl (⟨j_4, rfl, hp4_1, hp4_2, hp4_3, ⟨_, hU, by first | decide | (intro k hk; simp at hk; omega)⟩, hCI1, hOut_, (hU.get hOuD (by first | decide | (simp; done) | (simp; omega)))⟩))
/-- the law's modelsOf -/
theorem h_modelsOf (l : Launch) (htr : l.stackTraces = false) (D : va_G) (cy : Nat → ClassId) {w : va_W} (ad : Nat → Nat) (n : Nat) (wf wt od : Nat → Nat) (sd se nc lv : Nat) (cs : Nat → CN) (kv : Nat → Int32) (kx : Nat → Nat → Bool) (v : Int32) (og : Nat → Int64) (ogd : Nat → UInt64) (hPI : PI n wf wt od sd se nc lv cs kv kx) (hCI : CI ad cy w n wf wt od sd se nc lv cs kv kx) (hOut : w[74]? = some (ad 74, .inl (cy 1, 1, .inr (.inl og)))) (hOuD : w[75]? = some (ad 75, .inl (cy 7, 1, .inr (.inr (.inr (.inl ogd)))))) : jMh l yL_modelsOf (jwsW yL_modelsOf cL_modelsOf 4 (some .int) [(0, 8, 11, 21), (0, 8, 14, 56)]) (jR 10 2 12) D cy w [.ref (ad 0), .int v, .ref (ad 74)] 2 12 (fun vv uu => (∃ (j : Nat), vv = some (.int (nI 0)) ∧ j < 4 ∧ v = nI j ∧ kv j ≠ -1 ∧ jUc w uu ∧ CI ad cy uu n wf wt od sd se nc lv cs kv kx ∧ uu[74]? = some (ad 74, .inl (cy 1, 1, .inr (.inl (vp_updL og 0 (lN (cnt (kx j) 1024)))))) ∧ uu[75]? = some (ad 75, .inl (cy 7, 1, .inr (.inr (.inr (.inl ogd)))))) ∨ (vv = some (.int (nI 1)) ∧ (vB v 4 = false) ∧ jUc w uu ∧ CI ad cy uu n wf wt od sd se nc lv cs kv kx ∧ uu[74]? = some (ad 74, .inl (cy 1, 1, .inr (.inl og))) ∧ uu[75]? = some (ad 75, .inl (cy 7, 1, .inr (.inr (.inr (.inl ogd)))))) ∨ (vv = some (.int (nI 2)) ∧ (∃ j, j < 4 ∧ v = nI j ∧ kv j = -1) ∧ jUc w uu ∧ CI ad cy uu n wf wt od sd se nc lv cs kv kx ∧ uu[74]? = some (ad 74, .inl (cy 1, 1, .inr (.inl og))) ∧ uu[75]? = some (ad 75, .inl (cy 7, 1, .inr (.inr (.inr (.inl ogd))))))) := by
  obtain ⟨hn, hsdn, hse2, hnc, hlvn, hcs, hkI, hod, hodn, hinj⟩ := hPI
  have hp2 := two_pow10 hn
  have hsd : sd < 1024 := by omega
  have hse : se < 1024 := by rw [← hse2]; exact Nat.lt_of_le_of_lt Nat.and_le_right hsd
  have hlv : lv < 2 ^ 20 := Nat.lt_of_lt_of_le hlvn (Nat.pow_le_pow_right (by decide) hnc)
  have hCI0 := hCI
  obtain ⟨bO, bW, bD, bC, bM, bP, bR, bX, bS⟩ := hCI
  have bO0 := bO
  have bS0 := bS
  obtain ⟨fr, mv, MX, hO, hMo, hMl, hMa, hfr⟩ := bO
  obtain ⟨hS, hslo⟩ := bS
  refine j_ofH (by decide) rfl (Nat.le_of_ble_eq_true rfl) ?_
  intro p e s m args below meth c A ls Q hQ S hr hK hA H locs hW hl htab hx hnx
  have hl : lv_has ls 4 [(0, .ref (ad 0)), (1, .int v), (2, .ref (ad 74))] := hl
  refine lv_aload_n S.1 S.2.1 dL_modelsOf_0 rfl (lv_at hl 2 rfl) ?_
  refine lv_iconst (v := nI 0) S.1 S.2.1 dL_modelsOf_1 (by decide) ?_
  refine lv_aload_n S.1 S.2.1 dL_modelsOf_2 rfl (lv_at hl 0 rfl) ?_
  refine lv_iload_n S.1 S.2.1 dL_modelsOf_3 rfl (lv_at hl 1 rfl) ?_
  refine jx_callT (k := 0) (ci := 10) (q := (RX11, TX11, 15)) (As := [.int v]) (rest := [.int (nI 0), .ref (ad 74)]) S hK hA hW hx (c_X11_modelsOf l htr D cy ad n sd se fr kv kx v hO hS hslo  (hn)) (jgo wm_L_113) yk_X11_modelsOf hO rfl rfl ⟨⟨rfl, rfl⟩, by decide, by decide⟩ rfl hl.1 rfl (Nat.le_of_ble_eq_true rfl) dL_modelsOf_4 ⟨Nat.le_of_ble_eq_true rfl, Nat.le_of_ble_eq_true rfl⟩ (fun E ce q9 w_ H locs hp hW hc1 hc2 hc3 => ?_) (fun v u H locs hp hW => ?_)
  · obtain ⟨hp, rfl⟩ := hp
    rcases hp with ⟨rfl, hp⟩ | ⟨rfl, hp⟩
    · refine vx_catch (name := "java/lang/IllegalArgumentException") S.2.2.2.1 [] ⟨0, 8, 11, 21⟩ [⟨0, 8, 14, 56⟩] (htab.trans rfl) (fun _ h => absurd h List.not_mem_nil) (by decide) (by decide) (S.2.2.2.2 _ (List.mem_cons_of_mem _ wcl_L_21)) (va_Nw.use rfl (hx.2.2.1 "java/lang/IllegalArgumentException" (by decide))) hc1 hc2 hc3 ?_
      refine W.eq (g2 := F0 m 11 ls [.ref q9]) rfl ?_
      refine lv_astore_n (lv' := [(3, .ref q9), (0, .ref (ad 0)), (1, .int v), (2, .ref (ad 74))]) S.1 S.2.1 dL_modelsOf_11 rfl hl (by decide) rfl (fun ls hl => ?_)
      refine lv_iconst (v := nI 1) S.1 S.2.1 dL_modelsOf_12 (by decide) ?_
      subst hQ
      exact j_iret (u := w) S hr (rfl) hK hW dL_modelsOf_13 ⟨by decide, by decide⟩ (Or.inr (Or.inl (⟨rfl, hp, jUc.rf, hCI0, hOut, hOuD⟩)))
    · refine vx_catch (name := "java/util/NoSuchElementException") S.2.2.2.1 [⟨0, 8, 11, 21⟩] ⟨0, 8, 14, 56⟩ [] (htab.trans rfl) (List.forall_mem_cons.mpr ⟨Or.inr ⟨by decide, "java/lang/IllegalArgumentException", S.2.2.2.2 _ (List.mem_cons_of_mem _ wcl_L_21), hnx "java/util/NoSuchElementException" (by decide) "java/lang/IllegalArgumentException" (by decide) (by decide)⟩, fun _ h => absurd h List.not_mem_nil⟩) (by decide) (by decide) (S.2.2.2.2 _ (List.mem_cons_of_mem _ wcl_L_56)) (va_Nw.use rfl (hx.2.2.1 "java/util/NoSuchElementException" (by decide))) hc1 hc2 hc3 ?_
      refine W.eq (g2 := F0 m 14 ls [.ref q9]) rfl ?_
      refine lv_astore_n (lv' := [(3, .ref q9), (0, .ref (ad 0)), (1, .int v), (2, .ref (ad 74))]) S.1 S.2.1 dL_modelsOf_14 rfl hl (by decide) rfl (fun ls hl => ?_)
      refine lv_iconst (v := nI 2) S.1 S.2.1 dL_modelsOf_15 (by decide) ?_
      subst hQ
      exact j_iret (u := w) S hr (rfl) hK hW dL_modelsOf_16 ⟨by decide, by decide⟩ (Or.inr (Or.inr (⟨rfl, hp, jUc.rf, hCI0, hOut, hOuD⟩)))
  obtain ⟨j_4, rfl, hp4_0, hp4_1, hp4_2, rfl⟩ := hp
  refine W.eq (g2 := F0 m 7 ls [.long (lN (cnt (kx j_4) 1024)), .int (nI 0), .ref (ad 74)]) rfl ?_
  refine j_last S hK hW hOut (vp_in_nI (by omega) (by omega)) (nI_clamp (by omega)) dL_modelsOf_7 (fun H locs w_ hU1 hN1 hW => ?_)
  have hU : jU w w_ [74] := jU.mono hU1 (by first | decide | (simp; done) | (simp; omega))
  have hOut_ : w_[74]? = some (ad 74, .inl (cy 1, 1, .inr (.inl (vp_updL og 0 (lN (cnt (kx j_4) 1024)))))) := hN1
  clear hU1 hN1
  refine lv_goto (tgt := 17) S.1 S.2.1 dL_modelsOf_8 (by decide) ?_
  refine lv_iconst (v := nI 0) S.1 S.2.1 dL_modelsOf_17 (by decide) ?_
  subst hQ
  exact j_iret (u := w_) S hr (rfl) hK hW dL_modelsOf_18 ⟨by decide, by decide⟩ (Or.inl (⟨j_4, rfl, hp4_0, hp4_1, hp4_2, ⟨_, hU, by first | decide | (intro k hk; simp at hk; omega)⟩, (hCI0.kept hU (by decide)), hOut_, (hU.get hOuD (by first | decide | (simp; done) | (simp; omega)))⟩))
/-- the law's areSame -/
theorem h_areSame (l : Launch) (htr : l.stackTraces = false) (D : va_G) (cy : Nat → ClassId) {w : va_W} (ad : Nat → Nat) (n : Nat) (wf wt od : Nat → Nat) (sd se nc lv : Nat) (cs : Nat → CN) (kv : Nat → Int32) (kx : Nat → Nat → Bool) (v : Int32) (u1 : Int32) (og : Nat → Int64) (ogd : Nat → UInt64) (hPI : PI n wf wt od sd se nc lv cs kv kx) (hCI : CI ad cy w n wf wt od sd se nc lv cs kv kx) (hOut : w[74]? = some (ad 74, .inl (cy 1, 1, .inr (.inl og)))) (hOuD : w[75]? = some (ad 75, .inl (cy 7, 1, .inr (.inr (.inr (.inl ogd)))))) : jMh l yL_areSame (jwsW yL_areSame cL_areSame 5 (some .int) [(0, 17, 20, 21), (0, 17, 24, 56), (0, 17, 28, 102)]) (jR 11 5 30) D cy w [.ref (ad 0), .int v, .int u1, .ref (ad 74)] 5 30 (fun vv uu => (∃ (j : Nat), ∃ (i : Nat), vv = some (.int (nI 0)) ∧ j < 4 ∧ v = nI j ∧ i < 4 ∧ u1 = nI i ∧ kv j ≠ -1 ∧ kv i ≠ -1 ∧ kv j = kv i ∧ jUc w uu ∧ CI ad cy uu n wf wt od sd se nc lv cs kv kx ∧ uu[74]? = some (ad 74, .inl (cy 1, 1, .inr (.inl (vp_updL og 0 (lN (b01 (allB (fun a => !kx j a || kx i a) 1024 && allB (fun a => !kx i a || kx j a) 1024))))))) ∧ uu[75]? = some (ad 75, .inl (cy 7, 1, .inr (.inr (.inr (.inl ogd)))))) ∨ (vv = some (.int (nI 1)) ∧ (vB v 4 = false ∨ ((∃ j, j < 4 ∧ v = nI j) ∧ vB u1 4 = false)) ∧ jUc w uu ∧ CI ad cy uu n wf wt od sd se nc lv cs kv kx ∧ uu[74]? = some (ad 74, .inl (cy 1, 1, .inr (.inl og))) ∧ uu[75]? = some (ad 75, .inl (cy 7, 1, .inr (.inr (.inr (.inl ogd)))))) ∨ (vv = some (.int (nI 2)) ∧ (∃ j i, j < 4 ∧ v = nI j ∧ i < 4 ∧ u1 = nI i ∧ (kv j = -1 ∨ kv i = -1)) ∧ jUc w uu ∧ CI ad cy uu n wf wt od sd se nc lv cs kv kx ∧ uu[74]? = some (ad 74, .inl (cy 1, 1, .inr (.inl og))) ∧ uu[75]? = some (ad 75, .inl (cy 7, 1, .inr (.inr (.inr (.inl ogd)))))) ∨ (vv = some (.int (nI 3)) ∧ (∃ j i, j < 4 ∧ v = nI j ∧ i < 4 ∧ u1 = nI i ∧ kv j ≠ -1 ∧ kv i ≠ -1 ∧ kv j ≠ kv i) ∧ jUc w uu ∧ CI ad cy uu n wf wt od sd se nc lv cs kv kx ∧ uu[74]? = some (ad 74, .inl (cy 1, 1, .inr (.inl og))) ∧ uu[75]? = some (ad 75, .inl (cy 7, 1, .inr (.inr (.inr (.inl ogd))))))) := by
  obtain ⟨hn, hsdn, hse2, hnc, hlvn, hcs, hkI, hod, hodn, hinj⟩ := hPI
  have hp2 := two_pow10 hn
  have hsd : sd < 1024 := by omega
  have hse : se < 1024 := by rw [← hse2]; exact Nat.lt_of_le_of_lt Nat.and_le_right hsd
  have hlv : lv < 2 ^ 20 := Nat.lt_of_lt_of_le hlvn (Nat.pow_le_pow_right (by decide) hnc)
  have hCI0 := hCI
  obtain ⟨bO, bW, bD, bC, bM, bP, bR, bX, bS⟩ := hCI
  have bO0 := bO
  have bS0 := bS
  obtain ⟨fr, mv, MX, hO, hMo, hMl, hMa, hfr⟩ := bO
  obtain ⟨hS, hslo⟩ := bS
  refine j_ofH (by decide) rfl (Nat.le_of_ble_eq_true rfl) ?_
  intro p e s m args below meth c A ls Q hQ S hr hK hA H locs hW hl htab hx hnx
  have hl : lv_has ls 5 [(0, .ref (ad 0)), (1, .int v), (2, .int u1), (3, .ref (ad 74))] := hl
  refine lv_aload_n S.1 S.2.1 dL_areSame_0 rfl (lv_at hl 3 rfl) ?_
  refine lv_iconst (v := nI 0) S.1 S.2.1 dL_areSame_1 (by decide) ?_
  refine lv_aload_n S.1 S.2.1 dL_areSame_2 rfl (lv_at hl 0 rfl) ?_
  refine lv_iload_n S.1 S.2.1 dL_areSame_3 rfl (lv_at hl 1 rfl) ?_
  refine lv_iload_n S.1 S.2.1 dL_areSame_4 rfl (lv_at hl 2 rfl) ?_
  refine jx_callT (k := 0) (ci := 10) (q := (RX11, TX11, 15)) (As := [.int v, .int u1]) (rest := [.int (nI 0), .ref (ad 74)]) S hK hA hW hx (c_X11_areSame l htr D cy ad n sd se fr kv kx v u1 hO hS hslo  (hn)) (jgo wm_L_116) yk_X11_areSame hO rfl rfl ⟨⟨rfl, rfl⟩, by decide, by decide⟩ rfl hl.1 rfl (Nat.le_of_ble_eq_true rfl) dL_areSame_5 ⟨Nat.le_of_ble_eq_true rfl, Nat.le_of_ble_eq_true rfl⟩ (fun E ce q9 w_ H locs hp hW hc1 hc2 hc3 => ?_) (fun v u H locs hp hW => ?_)
  · obtain ⟨hp, rfl⟩ := hp
    rcases hp with ⟨rfl, hp⟩ | ⟨rfl, hp⟩ | ⟨rfl, hp⟩
    · refine vx_catch (name := "java/lang/IllegalArgumentException") S.2.2.2.1 [] ⟨0, 17, 20, 21⟩ [⟨0, 17, 24, 56⟩, ⟨0, 17, 28, 102⟩] (htab.trans rfl) (fun _ h => absurd h List.not_mem_nil) (by decide) (by decide) (S.2.2.2.2 _ (List.mem_cons_of_mem _ wcl_L_21)) (va_Nw.use rfl (hx.2.2.1 "java/lang/IllegalArgumentException" (by decide))) hc1 hc2 hc3 ?_
      refine W.eq (g2 := F0 m 20 ls [.ref q9]) rfl ?_
      refine lv_astore (lv' := [(4, .ref q9), (0, .ref (ad 0)), (1, .int v), (2, .int u1), (3, .ref (ad 74))]) S.1 S.2.1 dL_areSame_20 hl (by decide) rfl (fun ls hl => ?_)
      refine lv_iconst (v := nI 1) S.1 S.2.1 dL_areSame_22 (by decide) ?_
      subst hQ
      exact j_iret (u := w) S hr (rfl) hK hW dL_areSame_23 ⟨by decide, by decide⟩ (Or.inr (Or.inl (⟨rfl, hp, jUc.rf, hCI0, hOut, hOuD⟩)))
    · refine vx_catch (name := "java/util/NoSuchElementException") S.2.2.2.1 [⟨0, 17, 20, 21⟩] ⟨0, 17, 24, 56⟩ [⟨0, 17, 28, 102⟩] (htab.trans rfl) (List.forall_mem_cons.mpr ⟨Or.inr ⟨by decide, "java/lang/IllegalArgumentException", S.2.2.2.2 _ (List.mem_cons_of_mem _ wcl_L_21), hnx "java/util/NoSuchElementException" (by decide) "java/lang/IllegalArgumentException" (by decide) (by decide)⟩, fun _ h => absurd h List.not_mem_nil⟩) (by decide) (by decide) (S.2.2.2.2 _ (List.mem_cons_of_mem _ wcl_L_56)) (va_Nw.use rfl (hx.2.2.1 "java/util/NoSuchElementException" (by decide))) hc1 hc2 hc3 ?_
      refine W.eq (g2 := F0 m 24 ls [.ref q9]) rfl ?_
      refine lv_astore (lv' := [(4, .ref q9), (0, .ref (ad 0)), (1, .int v), (2, .int u1), (3, .ref (ad 74))]) S.1 S.2.1 dL_areSame_24 hl (by decide) rfl (fun ls hl => ?_)
      refine lv_iconst (v := nI 2) S.1 S.2.1 dL_areSame_26 (by decide) ?_
      subst hQ
      exact j_iret (u := w) S hr (rfl) hK hW dL_areSame_27 ⟨by decide, by decide⟩ (Or.inr (Or.inr (Or.inl (⟨rfl, hp, jUc.rf, hCI0, hOut, hOuD⟩))))
    · refine vx_catch (name := "java/lang/UnsupportedOperationException") S.2.2.2.1 [⟨0, 17, 20, 21⟩, ⟨0, 17, 24, 56⟩] ⟨0, 17, 28, 102⟩ [] (htab.trans rfl) (List.forall_mem_cons.mpr ⟨Or.inr ⟨by decide, "java/lang/IllegalArgumentException", S.2.2.2.2 _ (List.mem_cons_of_mem _ wcl_L_21), hnx "java/lang/UnsupportedOperationException" (by decide) "java/lang/IllegalArgumentException" (by decide) (by decide)⟩, List.forall_mem_cons.mpr ⟨Or.inr ⟨by decide, "java/util/NoSuchElementException", S.2.2.2.2 _ (List.mem_cons_of_mem _ wcl_L_56), hnx "java/lang/UnsupportedOperationException" (by decide) "java/util/NoSuchElementException" (by decide) (by decide)⟩, fun _ h => absurd h List.not_mem_nil⟩⟩) (by decide) (by decide) (S.2.2.2.2 _ (List.mem_cons_of_mem _ wcl_L_102)) (va_Nw.use rfl (hx.2.2.1 "java/lang/UnsupportedOperationException" (by decide))) hc1 hc2 hc3 ?_
      refine W.eq (g2 := F0 m 28 ls [.ref q9]) rfl ?_
      refine lv_astore (lv' := [(4, .ref q9), (0, .ref (ad 0)), (1, .int v), (2, .int u1), (3, .ref (ad 74))]) S.1 S.2.1 dL_areSame_28 hl (by decide) rfl (fun ls hl => ?_)
      refine lv_iconst (v := nI 3) S.1 S.2.1 dL_areSame_30 (by decide) ?_
      subst hQ
      exact j_iret (u := w) S hr (rfl) hK hW dL_areSame_31 ⟨by decide, by decide⟩ (Or.inr (Or.inr (Or.inr (⟨rfl, hp, jUc.rf, hCI0, hOut, hOuD⟩))))
  obtain ⟨j_5, i_5, rfl, hp5_0, hp5_1, hp5_2, hp5_3, hp5_4, hp5_5, hp5_6, rfl⟩ := hp
  refine W.eq (g2 := F0 m 8 ls [.int (bI (allB (fun a => !kx j_5 a || kx i_5 a) 1024 && allB (fun a => !kx i_5 a || kx j_5 a) 1024)), .int (nI 0), .ref (ad 74)]) rfl ?_
  refine jb_if_eq (tgt := 15) S dL_areSame_8 (by decide) (fun c_8 => ?_) (fun c_8 => ?_)
  · refine lv_lconst (v := lN 0) S.1 S.2.1 dL_areSame_15 (by decide) ?_
    refine j_last S hK hW hOut (vp_in_nI (by omega) (by omega)) (nI_clamp (by omega)) dL_areSame_16 (fun H locs w_ hU1 hN1 hW => ?_)
    have hU : jU w w_ [74] := jU.mono hU1 (by first | decide | (simp; done) | (simp; omega))
    have hOut_ : w_[74]? = some (ad 74, .inl (cy 1, 1, .inr (.inl (vp_updL og 0 (lN 0))))) := hN1
    clear hU1 hN1
    have hOut_ : w_[74]? = some (ad 74, .inl (cy 1, 1, .inr (.inl (vp_updL og 0 (lN (b01 (allB (fun a => !kx j_5 a || kx i_5 a) 1024 && allB (fun a => !kx i_5 a || kx j_5 a) 1024))))))) := by
      rw [c_8]; exact hOut_
    refine lv_goto (tgt := 32) S.1 S.2.1 dL_areSame_17 (by decide) ?_
    refine lv_iconst (v := nI 0) S.1 S.2.1 dL_areSame_32 (by decide) ?_
    subst hQ
    exact j_iret (u := w_) S hr (rfl) hK hW dL_areSame_33 ⟨by decide, by decide⟩ (Or.inl (⟨j_5, i_5, rfl, hp5_0, hp5_1, hp5_2, hp5_3, hp5_4, hp5_5, hp5_6, ⟨_, hU, by first | decide | (intro k hk; simp at hk; omega)⟩, (hCI0.kept hU (by decide)), hOut_, (hU.get hOuD (by first | decide | (simp; done) | (simp; omega)))⟩))
  · refine lv_lconst (v := lN 1) S.1 S.2.1 dL_areSame_11 (by decide) ?_
    refine lv_goto (tgt := 16) S.1 S.2.1 dL_areSame_12 (by decide) ?_
    refine j_last S hK hW hOut (vp_in_nI (by omega) (by omega)) (nI_clamp (by omega)) dL_areSame_16 (fun H locs w_ hU1 hN1 hW => ?_)
    have hU : jU w w_ [74] := jU.mono hU1 (by first | decide | (simp; done) | (simp; omega))
    have hOut_ : w_[74]? = some (ad 74, .inl (cy 1, 1, .inr (.inl (vp_updL og 0 (lN 1))))) := hN1
    clear hU1 hN1
    have hOut_ : w_[74]? = some (ad 74, .inl (cy 1, 1, .inr (.inl (vp_updL og 0 (lN (b01 (allB (fun a => !kx j_5 a || kx i_5 a) 1024 && allB (fun a => !kx i_5 a || kx j_5 a) 1024))))))) := by
      rw [c_8]; exact hOut_
    refine lv_goto (tgt := 32) S.1 S.2.1 dL_areSame_17 (by decide) ?_
    refine lv_iconst (v := nI 0) S.1 S.2.1 dL_areSame_32 (by decide) ?_
    subst hQ
    exact j_iret (u := w_) S hr (rfl) hK hW dL_areSame_33 ⟨by decide, by decide⟩ (Or.inl (⟨j_5, i_5, rfl, hp5_0, hp5_1, hp5_2, hp5_3, hp5_4, hp5_5, hp5_6, ⟨_, hU, by first | decide | (intro k hk; simp at hk; omega)⟩, (hCI0.kept hU (by decide)), hOut_, (hU.get hOuD (by first | decide | (simp; done) | (simp; omega)))⟩))
/-- the law's isWithin -/
theorem h_isWithin (l : Launch) (htr : l.stackTraces = false) (D : va_G) (cy : Nat → ClassId) {w : va_W} (ad : Nat → Nat) (n : Nat) (wf wt od : Nat → Nat) (sd se nc lv : Nat) (cs : Nat → CN) (kv : Nat → Int32) (kx : Nat → Nat → Bool) (v : Int32) (u1 : Int32) (og : Nat → Int64) (ogd : Nat → UInt64) (hPI : PI n wf wt od sd se nc lv cs kv kx) (hCI : CI ad cy w n wf wt od sd se nc lv cs kv kx) (hOut : w[74]? = some (ad 74, .inl (cy 1, 1, .inr (.inl og)))) (hOuD : w[75]? = some (ad 75, .inl (cy 7, 1, .inr (.inr (.inr (.inl ogd)))))) : jMh l yL_isWithin (jwsW yL_isWithin cL_isWithin 5 (some .int) [(0, 17, 20, 21), (0, 17, 24, 56), (0, 17, 28, 102)]) (jR 11 5 30) D cy w [.ref (ad 0), .int v, .int u1, .ref (ad 74)] 5 30 (fun vv uu => (∃ (j : Nat), ∃ (i : Nat), vv = some (.int (nI 0)) ∧ j < 4 ∧ v = nI j ∧ i < 4 ∧ u1 = nI i ∧ kv j ≠ -1 ∧ kv i ≠ -1 ∧ kv j = kv i ∧ jUc w uu ∧ CI ad cy uu n wf wt od sd se nc lv cs kv kx ∧ uu[74]? = some (ad 74, .inl (cy 1, 1, .inr (.inl (vp_updL og 0 (lN (b01 (allB (fun a => !kx j a || kx i a) 1024))))))) ∧ uu[75]? = some (ad 75, .inl (cy 7, 1, .inr (.inr (.inr (.inl ogd)))))) ∨ (vv = some (.int (nI 1)) ∧ (vB v 4 = false ∨ ((∃ j, j < 4 ∧ v = nI j) ∧ vB u1 4 = false)) ∧ jUc w uu ∧ CI ad cy uu n wf wt od sd se nc lv cs kv kx ∧ uu[74]? = some (ad 74, .inl (cy 1, 1, .inr (.inl og))) ∧ uu[75]? = some (ad 75, .inl (cy 7, 1, .inr (.inr (.inr (.inl ogd)))))) ∨ (vv = some (.int (nI 2)) ∧ (∃ j i, j < 4 ∧ v = nI j ∧ i < 4 ∧ u1 = nI i ∧ (kv j = -1 ∨ kv i = -1)) ∧ jUc w uu ∧ CI ad cy uu n wf wt od sd se nc lv cs kv kx ∧ uu[74]? = some (ad 74, .inl (cy 1, 1, .inr (.inl og))) ∧ uu[75]? = some (ad 75, .inl (cy 7, 1, .inr (.inr (.inr (.inl ogd)))))) ∨ (vv = some (.int (nI 3)) ∧ (∃ j i, j < 4 ∧ v = nI j ∧ i < 4 ∧ u1 = nI i ∧ kv j ≠ -1 ∧ kv i ≠ -1 ∧ kv j ≠ kv i) ∧ jUc w uu ∧ CI ad cy uu n wf wt od sd se nc lv cs kv kx ∧ uu[74]? = some (ad 74, .inl (cy 1, 1, .inr (.inl og))) ∧ uu[75]? = some (ad 75, .inl (cy 7, 1, .inr (.inr (.inr (.inl ogd))))))) := by
  obtain ⟨hn, hsdn, hse2, hnc, hlvn, hcs, hkI, hod, hodn, hinj⟩ := hPI
  have hp2 := two_pow10 hn
  have hsd : sd < 1024 := by omega
  have hse : se < 1024 := by rw [← hse2]; exact Nat.lt_of_le_of_lt Nat.and_le_right hsd
  have hlv : lv < 2 ^ 20 := Nat.lt_of_lt_of_le hlvn (Nat.pow_le_pow_right (by decide) hnc)
  have hCI0 := hCI
  obtain ⟨bO, bW, bD, bC, bM, bP, bR, bX, bS⟩ := hCI
  have bO0 := bO
  have bS0 := bS
  obtain ⟨fr, mv, MX, hO, hMo, hMl, hMa, hfr⟩ := bO
  obtain ⟨hS, hslo⟩ := bS
  refine j_ofH (by decide) rfl (Nat.le_of_ble_eq_true rfl) ?_
  intro p e s m args below meth c A ls Q hQ S hr hK hA H locs hW hl htab hx hnx
  have hl : lv_has ls 5 [(0, .ref (ad 0)), (1, .int v), (2, .int u1), (3, .ref (ad 74))] := hl
  refine lv_aload_n S.1 S.2.1 dL_isWithin_0 rfl (lv_at hl 3 rfl) ?_
  refine lv_iconst (v := nI 0) S.1 S.2.1 dL_isWithin_1 (by decide) ?_
  refine lv_aload_n S.1 S.2.1 dL_isWithin_2 rfl (lv_at hl 0 rfl) ?_
  refine lv_iload_n S.1 S.2.1 dL_isWithin_3 rfl (lv_at hl 1 rfl) ?_
  refine lv_iload_n S.1 S.2.1 dL_isWithin_4 rfl (lv_at hl 2 rfl) ?_
  refine jx_callT (k := 0) (ci := 10) (q := (RX11, TX11, 15)) (As := [.int v, .int u1]) (rest := [.int (nI 0), .ref (ad 74)]) S hK hA hW hx (c_X11_isWithin l htr D cy ad n sd se fr kv kx v u1 hO hS hslo  (hn)) (jgo wm_L_119) yk_X11_isWithin hO rfl rfl ⟨⟨rfl, rfl⟩, by decide, by decide⟩ rfl hl.1 rfl (Nat.le_of_ble_eq_true rfl) dL_isWithin_5 ⟨Nat.le_of_ble_eq_true rfl, Nat.le_of_ble_eq_true rfl⟩ (fun E ce q9 w_ H locs hp hW hc1 hc2 hc3 => ?_) (fun v u H locs hp hW => ?_)
  · obtain ⟨hp, rfl⟩ := hp
    rcases hp with ⟨rfl, hp⟩ | ⟨rfl, hp⟩ | ⟨rfl, hp⟩
    · refine vx_catch (name := "java/lang/IllegalArgumentException") S.2.2.2.1 [] ⟨0, 17, 20, 21⟩ [⟨0, 17, 24, 56⟩, ⟨0, 17, 28, 102⟩] (htab.trans rfl) (fun _ h => absurd h List.not_mem_nil) (by decide) (by decide) (S.2.2.2.2 _ (List.mem_cons_of_mem _ wcl_L_21)) (va_Nw.use rfl (hx.2.2.1 "java/lang/IllegalArgumentException" (by decide))) hc1 hc2 hc3 ?_
      refine W.eq (g2 := F0 m 20 ls [.ref q9]) rfl ?_
      refine lv_astore (lv' := [(4, .ref q9), (0, .ref (ad 0)), (1, .int v), (2, .int u1), (3, .ref (ad 74))]) S.1 S.2.1 dL_isWithin_20 hl (by decide) rfl (fun ls hl => ?_)
      refine lv_iconst (v := nI 1) S.1 S.2.1 dL_isWithin_22 (by decide) ?_
      subst hQ
      exact j_iret (u := w) S hr (rfl) hK hW dL_isWithin_23 ⟨by decide, by decide⟩ (Or.inr (Or.inl (⟨rfl, hp, jUc.rf, hCI0, hOut, hOuD⟩)))
    · refine vx_catch (name := "java/util/NoSuchElementException") S.2.2.2.1 [⟨0, 17, 20, 21⟩] ⟨0, 17, 24, 56⟩ [⟨0, 17, 28, 102⟩] (htab.trans rfl) (List.forall_mem_cons.mpr ⟨Or.inr ⟨by decide, "java/lang/IllegalArgumentException", S.2.2.2.2 _ (List.mem_cons_of_mem _ wcl_L_21), hnx "java/util/NoSuchElementException" (by decide) "java/lang/IllegalArgumentException" (by decide) (by decide)⟩, fun _ h => absurd h List.not_mem_nil⟩) (by decide) (by decide) (S.2.2.2.2 _ (List.mem_cons_of_mem _ wcl_L_56)) (va_Nw.use rfl (hx.2.2.1 "java/util/NoSuchElementException" (by decide))) hc1 hc2 hc3 ?_
      refine W.eq (g2 := F0 m 24 ls [.ref q9]) rfl ?_
      refine lv_astore (lv' := [(4, .ref q9), (0, .ref (ad 0)), (1, .int v), (2, .int u1), (3, .ref (ad 74))]) S.1 S.2.1 dL_isWithin_24 hl (by decide) rfl (fun ls hl => ?_)
      refine lv_iconst (v := nI 2) S.1 S.2.1 dL_isWithin_26 (by decide) ?_
      subst hQ
      exact j_iret (u := w) S hr (rfl) hK hW dL_isWithin_27 ⟨by decide, by decide⟩ (Or.inr (Or.inr (Or.inl (⟨rfl, hp, jUc.rf, hCI0, hOut, hOuD⟩))))
    · refine vx_catch (name := "java/lang/UnsupportedOperationException") S.2.2.2.1 [⟨0, 17, 20, 21⟩, ⟨0, 17, 24, 56⟩] ⟨0, 17, 28, 102⟩ [] (htab.trans rfl) (List.forall_mem_cons.mpr ⟨Or.inr ⟨by decide, "java/lang/IllegalArgumentException", S.2.2.2.2 _ (List.mem_cons_of_mem _ wcl_L_21), hnx "java/lang/UnsupportedOperationException" (by decide) "java/lang/IllegalArgumentException" (by decide) (by decide)⟩, List.forall_mem_cons.mpr ⟨Or.inr ⟨by decide, "java/util/NoSuchElementException", S.2.2.2.2 _ (List.mem_cons_of_mem _ wcl_L_56), hnx "java/lang/UnsupportedOperationException" (by decide) "java/util/NoSuchElementException" (by decide) (by decide)⟩, fun _ h => absurd h List.not_mem_nil⟩⟩) (by decide) (by decide) (S.2.2.2.2 _ (List.mem_cons_of_mem _ wcl_L_102)) (va_Nw.use rfl (hx.2.2.1 "java/lang/UnsupportedOperationException" (by decide))) hc1 hc2 hc3 ?_
      refine W.eq (g2 := F0 m 28 ls [.ref q9]) rfl ?_
      refine lv_astore (lv' := [(4, .ref q9), (0, .ref (ad 0)), (1, .int v), (2, .int u1), (3, .ref (ad 74))]) S.1 S.2.1 dL_isWithin_28 hl (by decide) rfl (fun ls hl => ?_)
      refine lv_iconst (v := nI 3) S.1 S.2.1 dL_isWithin_30 (by decide) ?_
      subst hQ
      exact j_iret (u := w) S hr (rfl) hK hW dL_isWithin_31 ⟨by decide, by decide⟩ (Or.inr (Or.inr (Or.inr (⟨rfl, hp, jUc.rf, hCI0, hOut, hOuD⟩))))
  obtain ⟨j_5, i_5, rfl, hp5_0, hp5_1, hp5_2, hp5_3, hp5_4, hp5_5, hp5_6, rfl⟩ := hp
  refine W.eq (g2 := F0 m 8 ls [.int (bI (allB (fun a => !kx j_5 a || kx i_5 a) 1024)), .int (nI 0), .ref (ad 74)]) rfl ?_
  refine jb_if_eq (tgt := 15) S dL_isWithin_8 (by decide) (fun c_8 => ?_) (fun c_8 => ?_)
  · refine lv_lconst (v := lN 0) S.1 S.2.1 dL_isWithin_15 (by decide) ?_
    refine j_last S hK hW hOut (vp_in_nI (by omega) (by omega)) (nI_clamp (by omega)) dL_isWithin_16 (fun H locs w_ hU1 hN1 hW => ?_)
    have hU : jU w w_ [74] := jU.mono hU1 (by first | decide | (simp; done) | (simp; omega))
    have hOut_ : w_[74]? = some (ad 74, .inl (cy 1, 1, .inr (.inl (vp_updL og 0 (lN 0))))) := hN1
    clear hU1 hN1
    have hOut_ : w_[74]? = some (ad 74, .inl (cy 1, 1, .inr (.inl (vp_updL og 0 (lN (b01 (allB (fun a => !kx j_5 a || kx i_5 a) 1024))))))) := by
      rw [c_8]; exact hOut_
    refine lv_goto (tgt := 32) S.1 S.2.1 dL_isWithin_17 (by decide) ?_
    refine lv_iconst (v := nI 0) S.1 S.2.1 dL_isWithin_32 (by decide) ?_
    subst hQ
    exact j_iret (u := w_) S hr (rfl) hK hW dL_isWithin_33 ⟨by decide, by decide⟩ (Or.inl (⟨j_5, i_5, rfl, hp5_0, hp5_1, hp5_2, hp5_3, hp5_4, hp5_5, hp5_6, ⟨_, hU, by first | decide | (intro k hk; simp at hk; omega)⟩, (hCI0.kept hU (by decide)), hOut_, (hU.get hOuD (by first | decide | (simp; done) | (simp; omega)))⟩))
  · refine lv_lconst (v := lN 1) S.1 S.2.1 dL_isWithin_11 (by decide) ?_
    refine lv_goto (tgt := 16) S.1 S.2.1 dL_isWithin_12 (by decide) ?_
    refine j_last S hK hW hOut (vp_in_nI (by omega) (by omega)) (nI_clamp (by omega)) dL_isWithin_16 (fun H locs w_ hU1 hN1 hW => ?_)
    have hU : jU w w_ [74] := jU.mono hU1 (by first | decide | (simp; done) | (simp; omega))
    have hOut_ : w_[74]? = some (ad 74, .inl (cy 1, 1, .inr (.inl (vp_updL og 0 (lN 1))))) := hN1
    clear hU1 hN1
    have hOut_ : w_[74]? = some (ad 74, .inl (cy 1, 1, .inr (.inl (vp_updL og 0 (lN (b01 (allB (fun a => !kx j_5 a || kx i_5 a) 1024))))))) := by
      rw [c_8]; exact hOut_
    refine lv_goto (tgt := 32) S.1 S.2.1 dL_isWithin_17 (by decide) ?_
    refine lv_iconst (v := nI 0) S.1 S.2.1 dL_isWithin_32 (by decide) ?_
    subst hQ
    exact j_iret (u := w_) S hr (rfl) hK hW dL_isWithin_33 ⟨by decide, by decide⟩ (Or.inl (⟨j_5, i_5, rfl, hp5_0, hp5_1, hp5_2, hp5_3, hp5_4, hp5_5, hp5_6, ⟨_, hU, by first | decide | (intro k hk; simp at hk; omega)⟩, (hCI0.kept hU (by decide)), hOut_, (hU.get hOuD (by first | decide | (simp; done) | (simp; omega)))⟩))
/-- the law's meanTrue -/
theorem h_meanTrue (l : Launch) (htr : l.stackTraces = false) (D : va_G) (cy : Nat → ClassId) {w : va_W} (ad : Nat → Nat) (n : Nat) (wf wt od : Nat → Nat) (sd se nc lv : Nat) (cs : Nat → CN) (kv : Nat → Int32) (kx : Nat → Nat → Bool) (og : Nat → Int64) (ogd : Nat → UInt64) (hPI : PI n wf wt od sd se nc lv cs kv kx) (hCI : CI ad cy w n wf wt od sd se nc lv cs kv kx) (hOut : w[74]? = some (ad 74, .inl (cy 1, 1, .inr (.inl og)))) (hOuD : w[75]? = some (ad 75, .inl (cy 7, 1, .inr (.inr (.inr (.inl ogd)))))) : jMh l yL_meanTrue (jwsW yL_meanTrue cL_meanTrue 3 (some .int) [(0, 7, 10, 56)]) (jR 11 1 6) D cy w [.ref (ad 0), .ref (ad 75)] 1 6 (fun vv uu => (∃ (pr : Nat → Nat), vv = some (.int (nI 0)) ∧ (∀ a, a < 2 ^ n → pr a = prodN wf wt a n) ∧ sumI (mdl n sd se nc cs lv) pr (2 ^ n) ≠ 0 ∧ jUc w uu ∧ CI ad cy uu n wf wt od sd se nc lv cs kv kx ∧ uu[74]? = some (ad 74, .inl (cy 1, 1, .inr (.inl og))) ∧ uu[75]? = some (ad 75, .inl (cy 7, 1, .inr (.inr (.inr (.inl (vf_upd ogd 0 (FP.ddiv (FP.l2d (lN (sumI (mdl n sd se nc cs lv) (fun d => pr d * cnt d.testBit 32) (2 ^ n)))) (FP.l2d (lN (sumI (mdl n sd se nc cs lv) pr (2 ^ n)))))))))))) ∨ (vv = some (.int (nI 1)) ∧ (∃ (pr : Nat → Nat), (∀ a, a < 2 ^ n → pr a = prodN wf wt a n) ∧ (sumI (mdl n sd se nc cs lv) pr (2 ^ n) = 0)) ∧ jUc w uu ∧ CI ad cy uu n wf wt od sd se nc lv cs kv kx ∧ uu[74]? = some (ad 74, .inl (cy 1, 1, .inr (.inl og))) ∧ uu[75]? = some (ad 75, .inl (cy 7, 1, .inr (.inr (.inr (.inl ogd))))))) := by
  obtain ⟨hn, hsdn, hse2, hnc, hlvn, hcs, hkI, hod, hodn, hinj⟩ := hPI
  have hp2 := two_pow10 hn
  have hsd : sd < 1024 := by omega
  have hse : se < 1024 := by rw [← hse2]; exact Nat.lt_of_le_of_lt Nat.and_le_right hsd
  have hlv : lv < 2 ^ 20 := Nat.lt_of_lt_of_le hlvn (Nat.pow_le_pow_right (by decide) hnc)
  have hCI0 := hCI
  obtain ⟨bO, bW, bD, bC, bM, bP, bR, bX, bS⟩ := hCI
  have bO0 := bO
  have bW0 := bW
  have bC0 := bC
  obtain ⟨fr, mv, MX, hO, hMo, hMl, hMa, hfr⟩ := bO
  obtain ⟨pr, hFo, hFa, hGo, hGa, hDo, hDa, hwf, hwt, hpr, hpn⟩ := bW
  obtain ⟨tf, cp, ca, hC, hT, hcon⟩ := bC
  refine j_ofH (by decide) rfl (Nat.le_of_ble_eq_true rfl) ?_
  intro p e s m args below meth c A ls Q hQ S hr hK hA H locs hW hl htab hx hnx
  have hl : lv_has ls 3 [(0, .ref (ad 0)), (1, .ref (ad 75))] := hl
  refine lv_aload_n S.1 S.2.1 dL_meanTrue_0 rfl (lv_at hl 1 rfl) ?_
  refine lv_iconst (v := nI 0) S.1 S.2.1 dL_meanTrue_1 (by decide) ?_
  refine lv_aload_n S.1 S.2.1 dL_meanTrue_2 rfl (lv_at hl 0 rfl) ?_
  refine jx_callT (k := 0) (ci := 10) (q := (RX11, TX11, 15)) (As := []) (rest := [.int (nI 0), .ref (ad 75)]) S hK hA hW hx (c_X11_meanTrue l htr D cy ad n sd se fr nc lv tf cp ca cs mv MX pr hO hMo hMl hMa hC hT hDo hDa hcon  (hn) (hsd) (hse) (hlv) (hfr) (hpr)) (jgo wm_L_122) yk_X11_meanTrue hO rfl rfl ⟨⟨rfl, rfl⟩, by decide, by decide⟩ rfl hl.1 rfl (Nat.le_of_ble_eq_true rfl) dL_meanTrue_3 ⟨Nat.le_of_ble_eq_true rfl, Nat.le_of_ble_eq_true rfl⟩ (fun E ce q9 w_ H locs hp hW hc1 hc2 hc3 => ?_) (fun v w_ H locs hp hW => ?_)
  · obtain ⟨rfl, hp, hU1, hN1, hN2, hN3⟩ := hp
    have hU : jU w w_ [0, 20, 22, 75] := jU.mono hU1 (by first | decide | (simp; done) | (simp; omega))
    have hOuD_ := hU1.get hOuD (by first | decide | (simp; done) | (simp; omega))
    have hO_ : w_[0]? = some (ad 0, .inr (10, [.int (nI n), .ref (ad 1), .ref (ad 3), .ref (ad 5), .int (nI sd), .int (nI se), .ref (ad 7), .ref (ad 9), .ref (ad 11), .ref (ad 20), .int (bI true), .ref (ad 23), .ref (ad 26), .ref (ad 31), .ref (ad 42)])) := hN1
    have hMo_ : w_[20]? = some (ad 20, .inr (0, [.ref (ad 21), .int (nI n)])) := hN2
    have hMa_ : w_[22]? = some (ad 22, .inl (cy 1, 16, .inr (.inl (wd (mdl n sd se nc cs lv))))) := hN3
    clear hU1 hN1 hN2 hN3
    refine vx_catch (name := "java/util/NoSuchElementException") S.2.2.2.1 [] ⟨0, 7, 10, 56⟩ [] (htab.trans rfl) (fun _ h => absurd h List.not_mem_nil) (by decide) (by decide) (S.2.2.2.2 _ (List.mem_cons_of_mem _ wcl_L_56)) (va_Nw.use rfl (hx.2.2.1 "java/util/NoSuchElementException" (by decide))) hc1 hc2 hc3 ?_
    refine W.eq (g2 := F0 m 10 ls [.ref q9]) rfl ?_
    refine lv_astore_n (lv' := [(2, .ref q9), (0, .ref (ad 0)), (1, .ref (ad 75))]) S.1 S.2.1 dL_meanTrue_10 rfl hl (by decide) rfl (fun ls hl => ?_)
    refine lv_iconst (v := nI 1) S.1 S.2.1 dL_meanTrue_11 (by decide) ?_
    have hCI1 : CI ad cy w_ n wf wt od sd se nc lv cs kv kx := ⟨⟨_, _, _, hO_, hMo_, (hU.get hMl (by first | decide | (simp; done) | (simp; omega))), hMa_, by first | exact fun _ => ⟨rfl, rfl⟩ | exact fun h => by cases h | exact hfr⟩, bW0.kept hU (by first | decide | (intro k hk; simp at hk; omega)), bD.kept hU (by first | decide | (intro k hk; simp at hk; omega)), bC0.kept hU (by first | decide | (intro k hk; simp at hk; omega)), bM.kept hU (by first | decide | (intro k hk; simp at hk; omega)), bP.kept hU (by first | decide | (intro k hk; simp at hk; omega)), bR.kept hU (by first | decide | (intro k hk; simp at hk; omega)), bX.kept hU (by first | decide | (intro k hk; simp at hk; omega)), bS.kept hU (by first | decide | (intro k hk; simp at hk; omega))⟩
    subst hQ
    exact j_iret (u := w_) S hr (rfl) hK hW dL_meanTrue_12 ⟨by decide, by decide⟩ (Or.inr (⟨rfl, ⟨pr, hpn, hp⟩, ⟨_, hU, by first | decide | (intro k hk; simp at hk; omega)⟩, hCI1, (hU.get hOut (by first | decide | (simp; done) | (simp; omega))), hOuD_⟩))
  obtain ⟨rfl, hp3_0, hU1, hN1, hN2, hN3⟩ := hp
  have hU : jU w w_ [0, 20, 22, 75] := jU.mono hU1 (by first | decide | (simp; done) | (simp; omega))
  have hOuD_ := hU1.get hOuD (by first | decide | (simp; done) | (simp; omega))
  have hO_ : w_[0]? = some (ad 0, .inr (10, [.int (nI n), .ref (ad 1), .ref (ad 3), .ref (ad 5), .int (nI sd), .int (nI se), .ref (ad 7), .ref (ad 9), .ref (ad 11), .ref (ad 20), .int (bI true), .ref (ad 23), .ref (ad 26), .ref (ad 31), .ref (ad 42)])) := hN1
  have hMo_ : w_[20]? = some (ad 20, .inr (0, [.ref (ad 21), .int (nI n)])) := hN2
  have hMa_ : w_[22]? = some (ad 22, .inl (cy 1, 16, .inr (.inl (wd (mdl n sd se nc cs lv))))) := hN3
  clear hU1 hN1 hN2 hN3
  refine W.eq (g2 := F0 m 6 ls [.double (FP.ddiv (FP.l2d (lN (sumI (mdl n sd se nc cs lv) (fun d => pr d * cnt d.testBit 32) (2 ^ n)))) (FP.l2d (lN (sumI (mdl n sd se nc cs lv) pr (2 ^ n))))), .int (nI 0), .ref (ad 75)]) rfl ?_
  have hCI1 : CI ad cy w_ n wf wt od sd se nc lv cs kv kx := ⟨⟨_, _, _, hO_, hMo_, (hU.get hMl (by first | decide | (simp; done) | (simp; omega))), hMa_, by first | exact fun _ => ⟨rfl, rfl⟩ | exact fun h => by cases h | exact hfr⟩, bW0.kept hU (by first | decide | (intro k hk; simp at hk; omega)), bD.kept hU (by first | decide | (intro k hk; simp at hk; omega)), bC0.kept hU (by first | decide | (intro k hk; simp at hk; omega)), bM.kept hU (by first | decide | (intro k hk; simp at hk; omega)), bP.kept hU (by first | decide | (intro k hk; simp at hk; omega)), bR.kept hU (by first | decide | (intro k hk; simp at hk; omega)), bX.kept hU (by first | decide | (intro k hk; simp at hk; omega)), bS.kept hU (by first | decide | (intro k hk; simp at hk; omega))⟩
  refine j_dast S hK hW hOuD_ (vp_in_nI (by omega) (by omega)) (nI_clamp (by omega)) dL_meanTrue_6 (fun H locs w_ hU1 hN1 hW => ?_)
  have hU := hU.then hU1 (by first | decide | (simp; done) | (simp; omega))
  have hO_ := hU1.get hO_ (by first | decide | (simp; done) | (simp; omega))
  have hMo_ := hU1.get hMo_ (by first | decide | (simp; done) | (simp; omega))
  have hMa_ := hU1.get hMa_ (by first | decide | (simp; done) | (simp; omega))
  have hOuD_ : w_[75]? = some (ad 75, .inl (cy 7, 1, .inr (.inr (.inr (.inl (vf_upd ogd 0 (FP.ddiv (FP.l2d (lN (sumI (mdl n sd se nc cs lv) (fun d => pr d * cnt d.testBit 32) (2 ^ n)))) (FP.l2d (lN (sumI (mdl n sd se nc cs lv) pr (2 ^ n))))))))))) := hN1
  have hCI1 := hCI1.kept hU1 (by decide)
  clear hU1 hN1
  refine lv_goto (tgt := 13) S.1 S.2.1 dL_meanTrue_7 (by decide) ?_
  refine lv_iconst (v := nI 0) S.1 S.2.1 dL_meanTrue_13 (by decide) ?_
  subst hQ
  exact j_iret (u := w_) S hr (rfl) hK hW dL_meanTrue_14 ⟨by decide, by decide⟩ (Or.inl (⟨pr, rfl, hpn, hp3_0, ⟨_, hU, by first | decide | (intro k hk; simp at hk; omega)⟩, hCI1, (hU.get hOut (by first | decide | (simp; done) | (simp; omega))), hOuD_⟩))
