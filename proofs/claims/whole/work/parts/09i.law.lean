/-! THE LAW: calls that ask (laid by wip/whole/tools, from the specs there) -/
/-- the law's models -/
theorem s_models {p : Program} {l : Launch} {e : Env} {s : State} {m : MethodId} {args : Array Value} {below : List Frame} {meth : Method} {c : Code} {Q : State → Prop} {D : va_G} {cy : Nat → ClassId} {A : Nat → Prop} {x0 : Cond} {ad : Nat → Nat} {b L : Nat} {xs : Nat → Int32} {i : Nat} {w : va_W} {H : Heap} {locs : List Loc} {ls : Array Slot} {cells slots : Nat} (htr : l.stackTraces = false) (C : LX p s m c args D cy A b L xs x0) (hI : INV ad cy w) (hW : jW D A s.heap w H locs) (hl : lv_has ls 10 [(0, .ref b), (1, .ref (ad 0)), (2, .ref (ad 55)), (3, .ref (ad 74)), (4, .ref (ad 75)), (5, .int (nI i))]) (hi : i + 5 ≤ L) (hL : L ≤ 2560) (hc : cells + 10 ≤ 601024) (hs : slots + 64 ≤ 7293033) (kk : LK p l e s m args below meth c Q D cy A ad b i cells slots) : W p l e room_1 s m args below meth c H locs cells slots Q (F0 m 811 ls []) := by
  obtain ⟨S, hK, hA, hX, hbl, hbA, hx, hnx⟩ := C
  obtain ⟨n, wf, wt, od, sd, se, nc, lv, cs, kv, kx, th, og, ogd, hPI, hCI, hRI, hOut, hOuD⟩ := hI
  have hPI0 := hPI
  obtain ⟨hn, hsdn, hse2, hnc, hlvn, hcs, hkI, hod, hodn, hinj⟩ := hPI0
  have hp2 := two_pow10 hn
  have hpt := Nat.two_pow_pos n
  have hWB := hCI.wb
  refine lv_aload_n S.1 S.2.1 dL_law_811 rfl (lv_at hl 1 rfl) ?_
  have hsd : sd < 1024 := by omega
  have hse : se < 1024 := by rw [← hse2]; exact Nat.lt_of_le_of_lt Nat.and_le_right hsd
  have hlv : lv < 2 ^ 20 := Nat.lt_of_lt_of_le hlvn (Nat.pow_le_pow_right (by decide) hnc)
  have hCI0 := hCI
  obtain ⟨bO, bW, bD, bC, bM, bP, bR, bX, bS⟩ := hCI0
  have bO0 := bO
  obtain ⟨fr, mv, MX, hO, hMo, hMl, hMa, hfr⟩ := bO
  have bC0 := bC
  obtain ⟨tf, cp, ca, hC, hT, hcon⟩ := bC
  have bM0 := bM
  obtain ⟨ps, pk, pv, pn, hP, hP1o, hP1a, hP2o, hP2a, hP3o, hP3a, hP4o, hP4a, hpm⟩ := bM
  refine j_callV (k := 0) (ci := 10) (q := (RX11, TX11, 15)) (As := []) (rest := []) S hK hA hW (c_X11_models l D cy ad n sd se fr nc lv tf cp ca cs ps pk pv pn hO hC hT hP hP1o hP1a hP2o hP2a hP3o hP3a hP4o hP4a hcon hn hsd hse hlv hpm) (jgo wm_L_166) yk_X11_models hO rfl rfl ⟨⟨rfl, rfl⟩, by decide, by decide⟩ rfl hl.1 rfl (Nat.le_of_ble_eq_true rfl) dL_law_812 ⟨by show cells + 0 ≤ 601024; omega, by show slots + 0 ≤ 7293033; omega⟩ (fun v w H locs hp hW => ?_)
  obtain ⟨ps1, pk1, pv1, pn1, rfl, hp0, hU1, hN1, hN2, hN3, hN4⟩ := hp
  have hCI : CI ad cy w n wf wt od sd se nc lv cs kv kx := ⟨bO0.kept hU1 (by decide), bW.kept hU1 (by decide), bD.kept hU1 (by decide), bC0.kept hU1 (by decide), ⟨_, _, _, _, (hU1.get hP (by decide)), (hU1.get hP1o (by decide)), hN1, (hU1.get hP2o (by decide)), hN2, (hU1.get hP3o (by decide)), hN3, (hU1.get hP4o (by decide)), hN4, hp0⟩, bP.kept hU1 (by decide), bR.kept hU1 (by decide), bX.kept hU1 (by decide), bS.kept hU1 (by decide)⟩
  have hOut := hU1.get hOut (by decide)
  have hOuD := hU1.get hOuD (by decide)
  have hRI := hRI.kept hU1 (by decide)
  obtain ⟨gx, rb, tu, gO, gF, gT, gE, gD, gC0, gC1, gC2, gC3, gC4, gP, gK, gV, gR, gU, hrow, hkx⟩ := hRI
  refine W.eq (g2 := F0 m 815 ls [.long (lN (if metN cs nc (nAnd lv (touchN cs lv nc (nAnd (2 ^ n - 1) sd))) se then (mprN nc cs lv se (nAnd (2 ^ n - 1) sd) n).1 else 0))]) rfl ?_
  refine lv_aload_n S.1 S.2.1 dL_law_815 rfl (lv_at hl 2 rfl) ?_
  refine j_callV (k := 55) (ci := 11) (q := (RX12, TX12, 17)) (As := []) (rest := [.long (lN (if metN cs nc (nAnd lv (touchN cs lv nc (nAnd (2 ^ n - 1) sd))) se then (mprN nc cs lv se (nAnd (2 ^ n - 1) sd) n).1 else 0))]) S hK hA hW (c_X12_models l D cy ad th n nc sd se lv cs gO gE gP gC0 gC1 gC2 gC3 gC4   (by omega) (by omega) (hse2) (by omega) (hcs)) (jgo wm_L_170) yk_X12_models gO rfl rfl ⟨⟨rfl, rfl⟩, by decide, by decide⟩ rfl hl.1 rfl (Nat.le_of_ble_eq_true rfl) dL_law_816 ⟨by show cells + 0 ≤ 601024; omega, by show slots + 0 ≤ 7293033; omega⟩ (fun v w_ H locs hp hW => ?_)
  obtain ⟨rfl, hU1, hN1⟩ := hp
  have hU : jU w w_ [55, 56, 57, 58, 59, 60, 61, 62, 63, 64, 65, 66, 71, 72, 73, 74, 75] := jU.mono hU1 (by first | decide | (simp; done) | (simp; omega))
  have gF_ := hU1.get gF (by first | decide | (simp; done) | (simp; omega))
  have gT_ := hU1.get gT (by first | decide | (simp; done) | (simp; omega))
  have gE_ := hU1.get gE (by first | decide | (simp; done) | (simp; omega))
  have gD_ := hU1.get gD (by first | decide | (simp; done) | (simp; omega))
  have gC0_ := hU1.get gC0 (by first | decide | (simp; done) | (simp; omega))
  have gC1_ := hU1.get gC1 (by first | decide | (simp; done) | (simp; omega))
  have gC2_ := hU1.get gC2 (by first | decide | (simp; done) | (simp; omega))
  have gC3_ := hU1.get gC3 (by first | decide | (simp; done) | (simp; omega))
  have gC4_ := hU1.get gC4 (by first | decide | (simp; done) | (simp; omega))
  have gP_ := hU1.get gP (by first | decide | (simp; done) | (simp; omega))
  have gK_ := hU1.get gK (by first | decide | (simp; done) | (simp; omega))
  have gV_ := hU1.get gV (by first | decide | (simp; done) | (simp; omega))
  have gR_ := hU1.get gR (by first | decide | (simp; done) | (simp; omega))
  have gU_ := hU1.get gU (by first | decide | (simp; done) | (simp; omega))
  have hOut_ := hU1.get hOut (by first | decide | (simp; done) | (simp; omega))
  have hOuD_ := hU1.get hOuD (by first | decide | (simp; done) | (simp; omega))
  have gO_ : w_[55]? = some (ad 55, .inr (11, [.int (nI 0), .ref (ad 56), .ref (ad 57), .ref (ad 58), .ref (ad 59), .ref (ad 60), .ref (ad 61), .ref (ad 62), .ref (ad 63), .ref (ad 64), .ref (ad 65), .int (nI n), .int (nI nc), .ref (ad 66), .ref (ad 71), .ref (ad 72), .ref (ad 73)])) := hN1
  clear hU1 hN1
  refine W.eq (g2 := F0 m 819 ls [.long (lN (cnt (mdc sd se nc cs lv) (2 ^ n))), .long (lN (if metN cs nc (nAnd lv (touchN cs lv nc (nAnd (2 ^ n - 1) sd))) se then (mprN nc cs lv se (nAnd (2 ^ n - 1) sd) n).1 else 0))]) rfl ?_
  refine lv_topl_to (y := lN (if metN cs nc (nAnd lv (touchN cs lv nc (nAnd (2 ^ n - 1) sd))) se then (mprN nc cs lv se (nAnd (2 ^ n - 1) sd) n).1 else 0)) (congrArg lN (models_parts hn hsdn hse2).symm) ?_
  refine jl_eq (tgt := 2382) S dL_law_819 dL_law_820 (by decide) (fun c_820 => ?_) (fun c_820 => ?_)
  · exact W.widen (by omega) (by omega) (kk _ _ _ _ ⟨_, _, _, _, _, _, _, _, _, _, _, _, _, _, hPI, (hCI.kept hU (by first | decide | (intro k hk; simp at hk; omega))), ⟨gx, _, _, gO_, gF_, gT_, gE_, gD_, gC0_, gC1_, gC2_, gC3_, gC4_, gP_, gK_, gV_, gR_, gU_, fun j hj => hU.get (hrow j hj) (by simp; omega), hkx⟩, hOut_, hOuD_⟩ hW (lv_sub hl [0, 1, 2, 3, 4, 5] rfl))
  · exact absurd rfl c_820
/-- the law's modelsByAll -/
theorem s_modelsByAll {p : Program} {l : Launch} {e : Env} {s : State} {m : MethodId} {args : Array Value} {below : List Frame} {meth : Method} {c : Code} {Q : State → Prop} {D : va_G} {cy : Nat → ClassId} {A : Nat → Prop} {x0 : Cond} {ad : Nat → Nat} {b L : Nat} {xs : Nat → Int32} {i : Nat} {w : va_W} {H : Heap} {locs : List Loc} {ls : Array Slot} {cells slots : Nat} (htr : l.stackTraces = false) (C : LX p s m c args D cy A b L xs x0) (hI : INV ad cy w) (hW : jW D A s.heap w H locs) (hl : lv_has ls 10 [(0, .ref b), (1, .ref (ad 0)), (2, .ref (ad 55)), (3, .ref (ad 74)), (4, .ref (ad 75)), (5, .int (nI i))]) (hi : i + 5 ≤ L) (hL : L ≤ 2560) (hc : cells + 10 ≤ 601024) (hs : slots + 64 ≤ 7293033) (kk : LK p l e s m args below meth c Q D cy A ad b i cells slots) : W p l e room_1 s m args below meth c H locs cells slots Q (F0 m 825 ls []) := by
  obtain ⟨S, hK, hA, hX, hbl, hbA, hx, hnx⟩ := C
  obtain ⟨n, wf, wt, od, sd, se, nc, lv, cs, kv, kx, th, og, ogd, hPI, hCI, hRI, hOut, hOuD⟩ := hI
  have hPI0 := hPI
  obtain ⟨hn, hsdn, hse2, hnc, hlvn, hcs, hkI, hod, hodn, hinj⟩ := hPI0
  have hp2 := two_pow10 hn
  have hpt := Nat.two_pow_pos n
  have hWB := hCI.wb
  refine lv_aload_n S.1 S.2.1 dL_law_825 rfl (lv_at hl 1 rfl) ?_
  have hsd : sd < 1024 := by omega
  have hse : se < 1024 := by rw [← hse2]; exact Nat.lt_of_le_of_lt Nat.and_le_right hsd
  have hlv : lv < 2 ^ 20 := Nat.lt_of_lt_of_le hlvn (Nat.pow_le_pow_right (by decide) hnc)
  have hCI0 := hCI
  obtain ⟨bO, bW, bD, bC, bM, bP, bR, bX, bS⟩ := hCI0
  have bO0 := bO
  obtain ⟨fr, mv, MX, hO, hMo, hMl, hMa, hfr⟩ := bO
  have bC0 := bC
  obtain ⟨tf, cp, ca, hC, hT, hcon⟩ := bC
  refine j_callV (k := 0) (ci := 10) (q := (RX11, TX11, 15)) (As := []) (rest := []) S hK hA hW (c_X11_modelsByAll l D cy ad n sd se fr nc lv tf cp ca cs mv MX hO hMo hMl hMa hC hT hcon hn hsd hse hlv hfr) (jgo wm_L_171) yk_X11_modelsByAll hO rfl rfl ⟨⟨rfl, rfl⟩, by decide, by decide⟩ rfl hl.1 rfl (Nat.le_of_ble_eq_true rfl) dL_law_826 ⟨by show cells + 0 ≤ 601024; omega, by show slots + 0 ≤ 7293033; omega⟩ (fun v w H locs hp hW => ?_)
  obtain ⟨rfl, hU1, hN1, hN2, hN3⟩ := hp
  have hCI : CI ad cy w n wf wt od sd se nc lv cs kv kx := ⟨⟨_, _, _, hN1, hN2, (hU1.get hMl (by decide)), hN3, by first | exact fun _ => ⟨rfl, rfl⟩ | exact hfr⟩, bW.kept hU1 (by decide), bD.kept hU1 (by decide), bC0.kept hU1 (by decide), bM.kept hU1 (by decide), bP.kept hU1 (by decide), bR.kept hU1 (by decide), bX.kept hU1 (by decide), bS.kept hU1 (by decide)⟩
  have hOut := hU1.get hOut (by decide)
  have hOuD := hU1.get hOuD (by decide)
  have hRI := hRI.kept hU1 (by decide)
  obtain ⟨gx, rb, tu, gO, gF, gT, gE, gD, gC0, gC1, gC2, gC3, gC4, gP, gK, gV, gR, gU, hrow, hkx⟩ := hRI
  refine W.eq (g2 := F0 m 829 ls [.long (lN (cnt (mdl n sd se nc cs lv) 1024))]) rfl ?_
  refine lv_aload_n S.1 S.2.1 dL_law_829 rfl (lv_at hl 2 rfl) ?_
  refine j_callV (k := 55) (ci := 11) (q := (RX12, TX12, 17)) (As := []) (rest := [.long (lN (cnt (mdl n sd se nc cs lv) 1024))]) S hK hA hW (c_X12_modelsByAll l D cy ad th n nc sd se lv cs gO gE gP gC0 gC1 gC2 gC3 gC4   (by omega) (by omega) (hse2) (by omega) (hcs)) (jgo wm_L_174) yk_X12_modelsByAll gO rfl rfl ⟨⟨rfl, rfl⟩, by decide, by decide⟩ rfl hl.1 rfl (Nat.le_of_ble_eq_true rfl) dL_law_830 ⟨by show cells + 0 ≤ 601024; omega, by show slots + 0 ≤ 7293033; omega⟩ (fun v w_ H locs hp hW => ?_)
  obtain ⟨rfl, hU1, hN1⟩ := hp
  have hU : jU w w_ [55, 56, 57, 58, 59, 60, 61, 62, 63, 64, 65, 66, 71, 72, 73, 74, 75] := jU.mono hU1 (by first | decide | (simp; done) | (simp; omega))
  have gF_ := hU1.get gF (by first | decide | (simp; done) | (simp; omega))
  have gT_ := hU1.get gT (by first | decide | (simp; done) | (simp; omega))
  have gE_ := hU1.get gE (by first | decide | (simp; done) | (simp; omega))
  have gD_ := hU1.get gD (by first | decide | (simp; done) | (simp; omega))
  have gC0_ := hU1.get gC0 (by first | decide | (simp; done) | (simp; omega))
  have gC1_ := hU1.get gC1 (by first | decide | (simp; done) | (simp; omega))
  have gC2_ := hU1.get gC2 (by first | decide | (simp; done) | (simp; omega))
  have gC3_ := hU1.get gC3 (by first | decide | (simp; done) | (simp; omega))
  have gC4_ := hU1.get gC4 (by first | decide | (simp; done) | (simp; omega))
  have gP_ := hU1.get gP (by first | decide | (simp; done) | (simp; omega))
  have gK_ := hU1.get gK (by first | decide | (simp; done) | (simp; omega))
  have gV_ := hU1.get gV (by first | decide | (simp; done) | (simp; omega))
  have gR_ := hU1.get gR (by first | decide | (simp; done) | (simp; omega))
  have gU_ := hU1.get gU (by first | decide | (simp; done) | (simp; omega))
  have hOut_ := hU1.get hOut (by first | decide | (simp; done) | (simp; omega))
  have hOuD_ := hU1.get hOuD (by first | decide | (simp; done) | (simp; omega))
  have gO_ : w_[55]? = some (ad 55, .inr (11, [.int (nI 0), .ref (ad 56), .ref (ad 57), .ref (ad 58), .ref (ad 59), .ref (ad 60), .ref (ad 61), .ref (ad 62), .ref (ad 63), .ref (ad 64), .ref (ad 65), .int (nI n), .int (nI nc), .ref (ad 66), .ref (ad 71), .ref (ad 72), .ref (ad 73)])) := hN1
  clear hU1 hN1
  refine W.eq (g2 := F0 m 833 ls [.long (lN (cnt (mdc sd se nc cs lv) (2 ^ n))), .long (lN (cnt (mdl n sd se nc cs lv) 1024))]) rfl ?_
  refine lv_topl_to (y := lN (cnt (mdl n sd se nc cs lv) 1024)) (congrArg lN (mdl_n hn).symm) ?_
  refine jl_eq (tgt := 2382) S dL_law_833 dL_law_834 (by decide) (fun c_834 => ?_) (fun c_834 => ?_)
  · exact W.widen (by omega) (by omega) (kk _ _ _ _ ⟨_, _, _, _, _, _, _, _, _, _, _, _, _, _, hPI, (hCI.kept hU (by first | decide | (intro k hk; simp at hk; omega))), ⟨gx, _, _, gO_, gF_, gT_, gE_, gD_, gC0_, gC1_, gC2_, gC3_, gC4_, gP_, gK_, gV_, gR_, gU_, fun j hj => hU.get (hrow j hj) (by simp; omega), hkx⟩, hOut_, hOuD_⟩ hW (lv_sub hl [0, 1, 2, 3, 4, 5] rfl))
  · exact absurd rfl c_834
/-- the law's weight -/
theorem s_weight {p : Program} {l : Launch} {e : Env} {s : State} {m : MethodId} {args : Array Value} {below : List Frame} {meth : Method} {c : Code} {Q : State → Prop} {D : va_G} {cy : Nat → ClassId} {A : Nat → Prop} {x0 : Cond} {ad : Nat → Nat} {b L : Nat} {xs : Nat → Int32} {i : Nat} {w : va_W} {H : Heap} {locs : List Loc} {ls : Array Slot} {cells slots : Nat} (htr : l.stackTraces = false) (C : LX p s m c args D cy A b L xs x0) (hI : INV ad cy w) (hW : jW D A s.heap w H locs) (hl : lv_has ls 10 [(0, .ref b), (1, .ref (ad 0)), (2, .ref (ad 55)), (3, .ref (ad 74)), (4, .ref (ad 75)), (5, .int (nI i))]) (hi : i + 5 ≤ L) (hL : L ≤ 2560) (hc : cells + 10 ≤ 601024) (hs : slots + 64 ≤ 7293033) (kk : LK p l e s m args below meth c Q D cy A ad b i cells slots) : W p l e room_1 s m args below meth c H locs cells slots Q (F0 m 839 ls []) := by
  obtain ⟨S, hK, hA, hX, hbl, hbA, hx, hnx⟩ := C
  obtain ⟨n, wf, wt, od, sd, se, nc, lv, cs, kv, kx, th, og, ogd, hPI, hCI, hRI, hOut, hOuD⟩ := hI
  have hPI0 := hPI
  obtain ⟨hn, hsdn, hse2, hnc, hlvn, hcs, hkI, hod, hodn, hinj⟩ := hPI0
  have hp2 := two_pow10 hn
  have hpt := Nat.two_pow_pos n
  have hWB := hCI.wb
  refine lv_aload_n S.1 S.2.1 dL_law_839 rfl (lv_at hl 1 rfl) ?_
  have hsd : sd < 1024 := by omega
  have hse : se < 1024 := by rw [← hse2]; exact Nat.lt_of_le_of_lt Nat.and_le_right hsd
  have hlv : lv < 2 ^ 20 := Nat.lt_of_lt_of_le hlvn (Nat.pow_le_pow_right (by decide) hnc)
  have hCI0 := hCI
  obtain ⟨bO, bW, bD, bC, bM, bP, bR, bX, bS⟩ := hCI0
  have bO0 := bO
  obtain ⟨fr, mv, MX, hO, hMo, hMl, hMa, hfr⟩ := bO
  have bW0 := bW
  obtain ⟨pr, hFo, hFa, hGo, hGa, hDo, hDa, hwf, hwt, hpr, hpn⟩ := bW
  have bC0 := bC
  obtain ⟨tf, cp, ca, hC, hT, hcon⟩ := bC
  refine j_callV (k := 0) (ci := 10) (q := (RX11, TX11, 15)) (As := []) (rest := []) S hK hA hW (c_X11_weight l D cy ad n sd se fr nc lv tf cp ca cs mv MX pr hO hMo hMl hMa hC hT hDo hDa hcon hn hsd hse hlv hfr) (jgo wm_L_175) yk_X11_weight hO rfl rfl ⟨⟨rfl, rfl⟩, by decide, by decide⟩ rfl hl.1 rfl (Nat.le_of_ble_eq_true rfl) dL_law_840 ⟨by show cells + 0 ≤ 601024; omega, by show slots + 0 ≤ 7293033; omega⟩ (fun v w H locs hp hW => ?_)
  obtain ⟨rfl, hU1, hN1, hN2, hN3⟩ := hp
  have hCI : CI ad cy w n wf wt od sd se nc lv cs kv kx := ⟨⟨_, _, _, hN1, hN2, (hU1.get hMl (by decide)), hN3, by first | exact fun _ => ⟨rfl, rfl⟩ | exact hfr⟩, bW0.kept hU1 (by decide), bD.kept hU1 (by decide), bC0.kept hU1 (by decide), bM.kept hU1 (by decide), bP.kept hU1 (by decide), bR.kept hU1 (by decide), bX.kept hU1 (by decide), bS.kept hU1 (by decide)⟩
  have hOut := hU1.get hOut (by decide)
  have hOuD := hU1.get hOuD (by decide)
  have hRI := hRI.kept hU1 (by decide)
  obtain ⟨gx, rb, tu, gO, gF, gT, gE, gD, gC0, gC1, gC2, gC3, gC4, gP, gK, gV, gR, gU, hrow, hkx⟩ := hRI
  refine W.eq (g2 := F0 m 843 ls [.long (lN (sumI (mdl n sd se nc cs lv) pr (2 ^ n)))]) rfl ?_
  refine lv_aload_n S.1 S.2.1 dL_law_843 rfl (lv_at hl 2 rfl) ?_
  refine j_callV (k := 55) (ci := 11) (q := (RX12, TX12, 17)) (As := []) (rest := [.long (lN (sumI (mdl n sd se nc cs lv) pr (2 ^ n)))]) S hK hA hW (c_X12_weight l D cy ad th n nc sd se lv cs wf wt gO gE gP gC0 gC1 gC2 gC3 gC4 gF gT   (by omega) (by omega) (hse2) (by omega) (hcs) (hWB.1) (hWB.2)) (jgo wm_L_178) yk_X12_weight gO rfl rfl ⟨⟨rfl, rfl⟩, by decide, by decide⟩ rfl hl.1 rfl (Nat.le_of_ble_eq_true rfl) dL_law_844 ⟨by show cells + 0 ≤ 601024; omega, by show slots + 0 ≤ 7293033; omega⟩ (fun v w_ H locs hp hW => ?_)
  obtain ⟨rfl, hU1, hN1⟩ := hp
  have hU : jU w w_ [55, 56, 57, 58, 59, 60, 61, 62, 63, 64, 65, 66, 71, 72, 73, 74, 75] := jU.mono hU1 (by first | decide | (simp; done) | (simp; omega))
  have gF_ := hU1.get gF (by first | decide | (simp; done) | (simp; omega))
  have gT_ := hU1.get gT (by first | decide | (simp; done) | (simp; omega))
  have gE_ := hU1.get gE (by first | decide | (simp; done) | (simp; omega))
  have gD_ := hU1.get gD (by first | decide | (simp; done) | (simp; omega))
  have gC0_ := hU1.get gC0 (by first | decide | (simp; done) | (simp; omega))
  have gC1_ := hU1.get gC1 (by first | decide | (simp; done) | (simp; omega))
  have gC2_ := hU1.get gC2 (by first | decide | (simp; done) | (simp; omega))
  have gC3_ := hU1.get gC3 (by first | decide | (simp; done) | (simp; omega))
  have gC4_ := hU1.get gC4 (by first | decide | (simp; done) | (simp; omega))
  have gP_ := hU1.get gP (by first | decide | (simp; done) | (simp; omega))
  have gK_ := hU1.get gK (by first | decide | (simp; done) | (simp; omega))
  have gV_ := hU1.get gV (by first | decide | (simp; done) | (simp; omega))
  have gR_ := hU1.get gR (by first | decide | (simp; done) | (simp; omega))
  have gU_ := hU1.get gU (by first | decide | (simp; done) | (simp; omega))
  have hOut_ := hU1.get hOut (by first | decide | (simp; done) | (simp; omega))
  have hOuD_ := hU1.get hOuD (by first | decide | (simp; done) | (simp; omega))
  have gO_ : w_[55]? = some (ad 55, .inr (11, [.int (nI 0), .ref (ad 56), .ref (ad 57), .ref (ad 58), .ref (ad 59), .ref (ad 60), .ref (ad 61), .ref (ad 62), .ref (ad 63), .ref (ad 64), .ref (ad 65), .int (nI n), .int (nI nc), .ref (ad 66), .ref (ad 71), .ref (ad 72), .ref (ad 73)])) := hN1
  clear hU1 hN1
  refine W.eq (g2 := F0 m 847 ls [.long (lN (sumI (mdc sd se nc cs lv) (fun d => prodN wf wt d n) (2 ^ n))), .long (lN (sumI (mdl n sd se nc cs lv) pr (2 ^ n)))]) rfl ?_
  refine lv_topl_to (y := lN (sumI (mdl n sd se nc cs lv) pr (2 ^ n))) (congrArg lN (sum_pr hpn).symm) ?_
  refine jl_eq (tgt := 2382) S dL_law_847 dL_law_848 (by decide) (fun c_848 => ?_) (fun c_848 => ?_)
  · exact W.widen (by omega) (by omega) (kk _ _ _ _ ⟨_, _, _, _, _, _, _, _, _, _, _, _, _, _, hPI, (hCI.kept hU (by first | decide | (intro k hk; simp at hk; omega))), ⟨gx, _, _, gO_, gF_, gT_, gE_, gD_, gC0_, gC1_, gC2_, gC3_, gC4_, gP_, gK_, gV_, gR_, gU_, fun j hj => hU.get (hrow j hj) (by simp; omega), hkx⟩, hOut_, hOuD_⟩ hW (lv_sub hl [0, 1, 2, 3, 4, 5] rfl))
  · exact absurd rfl c_848
/-- the law's weightWith -/
theorem s_weightWith {p : Program} {l : Launch} {e : Env} {s : State} {m : MethodId} {args : Array Value} {below : List Frame} {meth : Method} {c : Code} {Q : State → Prop} {D : va_G} {cy : Nat → ClassId} {A : Nat → Prop} {x0 : Cond} {ad : Nat → Nat} {b L : Nat} {xs : Nat → Int32} {i : Nat} {w : va_W} {H : Heap} {locs : List Loc} {ls : Array Slot} {cells slots : Nat} (htr : l.stackTraces = false) (C : LX p s m c args D cy A b L xs x0) (hI : INV ad cy w) (hW : jW D A s.heap w H locs) (hl : lv_has ls 10 [(0, .ref b), (1, .ref (ad 0)), (2, .ref (ad 55)), (3, .ref (ad 74)), (4, .ref (ad 75)), (5, .int (nI i))]) (hi : i + 5 ≤ L) (hL : L ≤ 2560) (hc : cells + 10 ≤ 601024) (hs : slots + 64 ≤ 7293033) (kk : LK p l e s m args below meth c Q D cy A ad b i cells slots) : W p l e room_1 s m args below meth c H locs cells slots Q (F0 m 853 ls []) := by
  obtain ⟨S, hK, hA, hX, hbl, hbA, hx, hnx⟩ := C
  obtain ⟨n, wf, wt, od, sd, se, nc, lv, cs, kv, kx, th, og, ogd, hPI, hCI, hRI, hOut, hOuD⟩ := hI
  have hPI0 := hPI
  obtain ⟨hn, hsdn, hse2, hnc, hlvn, hcs, hkI, hod, hodn, hinj⟩ := hPI0
  have hp2 := two_pow10 hn
  have hpt := Nat.two_pow_pos n
  have hWB := hCI.wb
  refine lv_aload_n S.1 S.2.1 dL_law_853 rfl (lv_at hl 1 rfl) ?_
  refine lv_aload_n S.1 S.2.1 dL_law_854 rfl (lv_at hl 0 rfl) ?_
  refine lv_iload S.1 S.2.1 dL_law_855 (lv_at hl 5 rfl) ?_
  refine lv_iconst (v := nI 1) S.1 S.2.1 dL_law_857 (by decide) ?_
  refine jn_add S dL_law_858 ?_
  refine j_sld (x := xs (i + 1)) S hX hbl hbA hW (vp_in_nI (by omega) (by omega)) (nI_clamp (by omega)) (rfl) dL_law_859 ?_
  refine lv_aload_n S.1 S.2.1 dL_law_860 rfl (lv_at hl 0 rfl) ?_
  refine lv_iload S.1 S.2.1 dL_law_861 (lv_at hl 5 rfl) ?_
  refine lv_iconst (v := nI 2) S.1 S.2.1 dL_law_863 (by decide) ?_
  refine jn_add S dL_law_864 ?_
  refine j_sld (x := xs (i + 2)) S hX hbl hbA hW (vp_in_nI (by omega) (by omega)) (nI_clamp (by omega)) (rfl) dL_law_865 ?_
  refine lv_aload_n S.1 S.2.1 dL_law_866 rfl (lv_at hl 3 rfl) ?_
  refine j_callH (As := [.ref (ad 0), .int (xs (i + 1)), .int (xs (i + 2)), .ref (ad 74)]) (rest := []) S hK hA hW hx hnx (h_weightWith l htr D cy ad n wf wt od sd se nc lv cs kv kx (xs (i + 1)) (xs (i + 2)) og ogd hPI hCI hOut hOuD) (jgo wm_L_179) yk_L_weightWith ⟨⟨rfl, rfl⟩, by decide, by decide⟩ rfl hl.1 rfl (Nat.le_of_ble_eq_true rfl) dL_law_867 ⟨by show cells + 2 ≤ 601024; omega, by show slots + 12 ≤ 7293033; omega⟩ (fun v w H locs hp hW => ?_)
  rcases hp with ⟨x1, z1, pr, rfl, hpn, hq0, hq1, hq2, hq3, ⟨K1, hU1, hK1⟩, hCI, hOut, hOuD⟩ | ⟨rfl, hq, ⟨K1, hU1, hK1⟩, hCI, hOut, hOuD⟩ | ⟨rfl, hq, ⟨K1, hU1, hK1⟩, hCI, hOut, hOuD⟩
  · have hRI := hRI.kept hU1 (fun k hk => by have := hK1 k hk; omega)
    obtain ⟨gx, rb, tu, gO, gF, gT, gE, gD, gC0, gC1, gC2, gC3, gC4, gP, gK, gV, gR, gU, hrow, hkx⟩ := hRI
    refine W.eq (g2 := F0 m 870 ls [.int (nI 0)]) rfl ?_
    refine lv_istore (lv' := [(6, .int (nI 0)), (0, .ref b), (1, .ref (ad 0)), (2, .ref (ad 55)), (3, .ref (ad 74)), (4, .ref (ad 75)), (5, .int (nI i))]) S.1 S.2.1 dL_law_870 hl (by decide) rfl (fun ls hl => ?_)
    refine lv_aload_n S.1 S.2.1 dL_law_872 rfl (lv_at hl 3 rfl) ?_
    refine lv_aload_n S.1 S.2.1 dL_law_873 rfl (lv_at hl 1 rfl) ?_
    refine lv_iload S.1 S.2.1 dL_law_874 (lv_at hl 6 rfl) ?_
    refine lv_iconst (v := nI 1) S.1 S.2.1 dL_law_876 (by decide) ?_
    refine jn_add S dL_law_877 ?_
    refine j_sld (x := nI x1) S hX hbl hbA hW (vp_in_nI (by omega) (by omega)) (nI_clamp (by omega)) (hq1) dL_law_878 ?_
    refine lv_aload_n S.1 S.2.1 dL_law_879 rfl (lv_at hl 1 rfl) ?_
    refine lv_iload S.1 S.2.1 dL_law_880 (lv_at hl 6 rfl) ?_
    refine lv_iconst (v := nI 2) S.1 S.2.1 dL_law_882 (by decide) ?_
    refine jn_add S dL_law_883 ?_
    refine j_sld (x := nI z1) S hX hbl hbA hW (vp_in_nI (by omega) (by omega)) (nI_clamp (by omega)) (hq3) dL_law_884 ?_
    refine j_callV (k := 55) (ci := 11) (q := (RX12, TX12, 17)) (As := [.int (nI x1), .int (nI z1)]) (rest := []) S hK hA hW (c_X12_weightWith_ok l D cy ad th n nc sd se lv cs wf wt x1 z1 gO gE gP gC0 gC1 gC2 gC3 gC4 gF gT   (by omega) (by omega) (hse2) (by omega) (hcs) (hWB.1) (hWB.2) (by omega) (by omega)) (jgo wm_L_181) yk_X12_weightWith gO rfl rfl ⟨⟨rfl, rfl⟩, by decide, by decide⟩ rfl hl.1 rfl (Nat.le_of_ble_eq_true rfl) dL_law_885 ⟨by show (cells + 2) + 0 ≤ 601024; omega, by show (slots + 12) + 0 ≤ 7293033; omega⟩ (fun v w_ H locs hp hW => ?_)
    obtain ⟨rfl, hU1, hN1⟩ := hp
    have hU : jU w w_ [55, 56, 57, 58, 59, 60, 61, 62, 63, 64, 65, 66, 71, 72, 73, 74, 75] := jU.mono hU1 (by first | decide | (simp; done) | (simp; omega))
    have gF_ := hU1.get gF (by first | decide | (simp; done) | (simp; omega))
    have gT_ := hU1.get gT (by first | decide | (simp; done) | (simp; omega))
    have gE_ := hU1.get gE (by first | decide | (simp; done) | (simp; omega))
    have gD_ := hU1.get gD (by first | decide | (simp; done) | (simp; omega))
    have gC0_ := hU1.get gC0 (by first | decide | (simp; done) | (simp; omega))
    have gC1_ := hU1.get gC1 (by first | decide | (simp; done) | (simp; omega))
    have gC2_ := hU1.get gC2 (by first | decide | (simp; done) | (simp; omega))
    have gC3_ := hU1.get gC3 (by first | decide | (simp; done) | (simp; omega))
    have gC4_ := hU1.get gC4 (by first | decide | (simp; done) | (simp; omega))
    have gP_ := hU1.get gP (by first | decide | (simp; done) | (simp; omega))
    have gK_ := hU1.get gK (by first | decide | (simp; done) | (simp; omega))
    have gV_ := hU1.get gV (by first | decide | (simp; done) | (simp; omega))
    have gR_ := hU1.get gR (by first | decide | (simp; done) | (simp; omega))
    have gU_ := hU1.get gU (by first | decide | (simp; done) | (simp; omega))
    have hOut_ := hU1.get hOut (by first | decide | (simp; done) | (simp; omega))
    have hOuD_ := hU1.get hOuD (by first | decide | (simp; done) | (simp; omega))
    have gO_ : w_[55]? = some (ad 55, .inr (11, [.int (nI 0), .ref (ad 56), .ref (ad 57), .ref (ad 58), .ref (ad 59), .ref (ad 60), .ref (ad 61), .ref (ad 62), .ref (ad 63), .ref (ad 64), .ref (ad 65), .int (nI n), .int (nI nc), .ref (ad 66), .ref (ad 71), .ref (ad 72), .ref (ad 73)])) := hN1
    clear hU1 hN1
    refine W.eq (g2 := F0 m 888 ls [.long (lN (sumI (fun d => decide (d &&& 2 ^ x1 = (z1 <<< x1)) && mdc sd se nc cs lv d) (fun d => prodN wf wt d n) (2 ^ n)))]) rfl ?_
    refine lv_topl_to (y := lN (sumI (fun d => decide (d &&& 2 ^ x1 = (z1 <<< x1)) && mdl n sd se nc cs lv d) pr (2 ^ n))) (congrArg lN (sum_prF hpn).symm) ?_
    refine lv_lstore (lv' := [(7, .long (lN (sumI (fun d => decide (d &&& 2 ^ x1 = (z1 <<< x1)) && mdl n sd se nc cs lv d) pr (2 ^ n)))), (6, .int (nI 0)), (0, .ref b), (1, .ref (ad 0)), (2, .ref (ad 55)), (3, .ref (ad 74)), (4, .ref (ad 75)), (5, .int (nI i))]) S.1 S.2.1 dL_law_888 hl (by decide) rfl (fun ls hl => ?_)
    refine lv_aload_n S.1 S.2.1 dL_law_890 rfl (lv_at hl 4 rfl) ?_
    refine j_callV (k := 55) (ci := 11) (q := (RX12, TX12, 17)) (As := []) (rest := []) S hK hA hW (c_X12_thrown l D cy ad 0 n nc gO_   ) (jgo wm_L_136) yk_X12_thrown gO_ rfl rfl ⟨⟨rfl, rfl⟩, by decide, by decide⟩ rfl hl.1 rfl (Nat.le_of_ble_eq_true rfl) dL_law_891 ⟨by show (cells + 2) + 0 ≤ 601024; omega, by show (slots + 12) + 0 ≤ 7293033; omega⟩ (fun v u H locs hp hW => ?_)
    obtain ⟨rfl, rfl⟩ := hp
    refine W.eq (g2 := F0 m 894 ls [.int (nI 0)]) rfl ?_
    refine lv_iload S.1 S.2.1 dL_law_894 (lv_at hl 1 rfl) ?_
    refine jn_cmp_eq (tgt := 901) S (by omega) (by omega) dL_law_896 (by decide) (fun c_896 => ?_) (fun c_896 => ?_)
    · refine lv_iload S.1 S.2.1 dL_law_901 (lv_at hl 1 rfl) ?_
      refine jn_if_ne (tgt := 917) S (by omega) dL_law_903 (by decide) (fun c_903 => ?_) (fun c_903 => ?_)
      · first | exact absurd (show 0 ≠ 0 from c_903) (by decide) | exact absurd c_903 (by decide)
      · refine lv_aload_n S.1 S.2.1 dL_law_906 rfl (lv_at hl 5 rfl) ?_
        refine lv_iconst (v := nI 0) S.1 S.2.1 dL_law_907 (by decide) ?_
        refine j_lald (x := lN (sumI (fun d => decide (d &&& 2 ^ x1 = (z1 <<< x1)) && mdl n sd se nc cs lv d) pr (2 ^ n))) S hK hW hOut_ (vp_in_nI (by omega) (by omega)) (nI_clamp (by omega)) (if_pos rfl) dL_law_908 ?_
        refine lv_lload S.1 S.2.1 dL_law_909 (lv_at hl 0 rfl) ?_
        refine jl_eq (tgt := 917) S dL_law_911 dL_law_912 (by decide) (fun c_912 => ?_) (fun c_912 => ?_)
        · refine lv_goto (tgt := 2382) S.1 S.2.1 dL_law_917 (by decide) ?_
          exact W.widen (by omega) (by omega) (kk _ _ _ _ ⟨_, _, _, _, _, _, _, _, _, _, _, _, _, _, hPI, (hCI.kept hU (by first | decide | (intro k hk; simp at hk; omega))), ⟨gx, _, _, gO_, gF_, gT_, gE_, gD_, gC0_, gC1_, gC2_, gC3_, gC4_, gP_, gK_, gV_, gR_, gU_, fun j hj => hU.get (hrow j hj) (by simp; omega), hkx⟩, hOut_, hOuD_⟩ hW (lv_sub hl [2, 3, 4, 5, 6, 7] rfl))
        · exact absurd rfl c_912
    · first | exact absurd (show 0 ≠ 0 from c_896) (by decide) | exact absurd c_896 (by decide)
  · have hRI := hRI.kept hU1 (fun k hk => by have := hK1 k hk; omega)
    obtain ⟨gx, rb, tu, gO, gF, gT, gE, gD, gC0, gC1, gC2, gC3, gC4, gP, gK, gV, gR, gU, hrow, hkx⟩ := hRI
    refine W.eq (g2 := F0 m 870 ls [.int (nI 1)]) rfl ?_
    refine lv_istore (lv' := [(6, .int (nI 1)), (0, .ref b), (1, .ref (ad 0)), (2, .ref (ad 55)), (3, .ref (ad 74)), (4, .ref (ad 75)), (5, .int (nI i))]) S.1 S.2.1 dL_law_870 hl (by decide) rfl (fun ls hl => ?_)
    refine lv_aload_n S.1 S.2.1 dL_law_872 rfl (lv_at hl 3 rfl) ?_
    refine lv_aload_n S.1 S.2.1 dL_law_873 rfl (lv_at hl 1 rfl) ?_
    refine lv_iload S.1 S.2.1 dL_law_874 (lv_at hl 6 rfl) ?_
    refine lv_iconst (v := nI 1) S.1 S.2.1 dL_law_876 (by decide) ?_
    refine jn_add S dL_law_877 ?_
    refine j_sld (x := xs (i + 1)) S hX hbl hbA hW (vp_in_nI (by omega) (by omega)) (nI_clamp (by omega)) (rfl) dL_law_878 ?_
    refine lv_aload_n S.1 S.2.1 dL_law_879 rfl (lv_at hl 1 rfl) ?_
    refine lv_iload S.1 S.2.1 dL_law_880 (lv_at hl 6 rfl) ?_
    refine lv_iconst (v := nI 2) S.1 S.2.1 dL_law_882 (by decide) ?_
    refine jn_add S dL_law_883 ?_
    refine j_sld (x := xs (i + 2)) S hX hbl hbA hW (vp_in_nI (by omega) (by omega)) (nI_clamp (by omega)) (rfl) dL_law_884 ?_
    refine j_callV (k := 55) (ci := 11) (q := (RX12, TX12, 17)) (As := [.int (xs (i + 1)), .int (xs (i + 2))]) (rest := []) S hK hA hW (c_X12_weightWith_b1 l D cy ad th n nc (xs (i + 1)) (xs (i + 2)) gO   (by omega) (hq)) (jgo wm_L_181) yk_X12_weightWith gO rfl rfl ⟨⟨rfl, rfl⟩, by decide, by decide⟩ rfl hl.1 rfl (Nat.le_of_ble_eq_true rfl) dL_law_885 ⟨by show (cells + 2) + 0 ≤ 601024; omega, by show (slots + 12) + 0 ≤ 7293033; omega⟩ (fun v w_ H locs hp hW => ?_)
    obtain ⟨rfl, hU1, hN1⟩ := hp
    have hU : jU w w_ [55, 56, 57, 58, 59, 60, 61, 62, 63, 64, 65, 66, 71, 72, 73, 74, 75] := jU.mono hU1 (by first | decide | (simp; done) | (simp; omega))
    have gF_ := hU1.get gF (by first | decide | (simp; done) | (simp; omega))
    have gT_ := hU1.get gT (by first | decide | (simp; done) | (simp; omega))
    have gE_ := hU1.get gE (by first | decide | (simp; done) | (simp; omega))
    have gD_ := hU1.get gD (by first | decide | (simp; done) | (simp; omega))
    have gC0_ := hU1.get gC0 (by first | decide | (simp; done) | (simp; omega))
    have gC1_ := hU1.get gC1 (by first | decide | (simp; done) | (simp; omega))
    have gC2_ := hU1.get gC2 (by first | decide | (simp; done) | (simp; omega))
    have gC3_ := hU1.get gC3 (by first | decide | (simp; done) | (simp; omega))
    have gC4_ := hU1.get gC4 (by first | decide | (simp; done) | (simp; omega))
    have gP_ := hU1.get gP (by first | decide | (simp; done) | (simp; omega))
    have gK_ := hU1.get gK (by first | decide | (simp; done) | (simp; omega))
    have gV_ := hU1.get gV (by first | decide | (simp; done) | (simp; omega))
    have gR_ := hU1.get gR (by first | decide | (simp; done) | (simp; omega))
    have gU_ := hU1.get gU (by first | decide | (simp; done) | (simp; omega))
    have hOut_ := hU1.get hOut (by first | decide | (simp; done) | (simp; omega))
    have hOuD_ := hU1.get hOuD (by first | decide | (simp; done) | (simp; omega))
    have gO_ : w_[55]? = some (ad 55, .inr (11, [.int (nI 1), .ref (ad 56), .ref (ad 57), .ref (ad 58), .ref (ad 59), .ref (ad 60), .ref (ad 61), .ref (ad 62), .ref (ad 63), .ref (ad 64), .ref (ad 65), .int (nI n), .int (nI nc), .ref (ad 66), .ref (ad 71), .ref (ad 72), .ref (ad 73)])) := hN1
    clear hU1 hN1
    refine W.eq (g2 := F0 m 888 ls [.long (lN 0)]) rfl ?_
    refine lv_lstore (lv' := [(7, .long (lN 0)), (6, .int (nI 1)), (0, .ref b), (1, .ref (ad 0)), (2, .ref (ad 55)), (3, .ref (ad 74)), (4, .ref (ad 75)), (5, .int (nI i))]) S.1 S.2.1 dL_law_888 hl (by decide) rfl (fun ls hl => ?_)
    refine lv_aload_n S.1 S.2.1 dL_law_890 rfl (lv_at hl 4 rfl) ?_
    refine j_callV (k := 55) (ci := 11) (q := (RX12, TX12, 17)) (As := []) (rest := []) S hK hA hW (c_X12_thrown l D cy ad 1 n nc gO_   ) (jgo wm_L_136) yk_X12_thrown gO_ rfl rfl ⟨⟨rfl, rfl⟩, by decide, by decide⟩ rfl hl.1 rfl (Nat.le_of_ble_eq_true rfl) dL_law_891 ⟨by show (cells + 2) + 0 ≤ 601024; omega, by show (slots + 12) + 0 ≤ 7293033; omega⟩ (fun v u H locs hp hW => ?_)
    obtain ⟨rfl, rfl⟩ := hp
    refine W.eq (g2 := F0 m 894 ls [.int (nI 1)]) rfl ?_
    refine lv_iload S.1 S.2.1 dL_law_894 (lv_at hl 1 rfl) ?_
    refine jn_cmp_eq (tgt := 901) S (by omega) (by omega) dL_law_896 (by decide) (fun c_896 => ?_) (fun c_896 => ?_)
    · refine lv_iload S.1 S.2.1 dL_law_901 (lv_at hl 1 rfl) ?_
      refine jn_if_ne (tgt := 917) S (by omega) dL_law_903 (by decide) (fun c_903 => ?_) (fun c_903 => ?_)
      · refine lv_goto (tgt := 2382) S.1 S.2.1 dL_law_917 (by decide) ?_
        exact W.widen (by omega) (by omega) (kk _ _ _ _ ⟨_, _, _, _, _, _, _, _, _, _, _, _, _, _, hPI, (hCI.kept hU (by first | decide | (intro k hk; simp at hk; omega))), ⟨gx, _, _, gO_, gF_, gT_, gE_, gD_, gC0_, gC1_, gC2_, gC3_, gC4_, gP_, gK_, gV_, gR_, gU_, fun j hj => hU.get (hrow j hj) (by simp; omega), hkx⟩, hOut_, hOuD_⟩ hW (lv_sub hl [2, 3, 4, 5, 6, 7] rfl))
      · first | exact absurd (show 1 = 0 from c_903) (by decide) | exact absurd c_903 (by decide)
    · first | exact absurd (show 1 ≠ 1 from c_896) (by decide) | exact absurd c_896 (by decide)
  · have hRI := hRI.kept hU1 (fun k hk => by have := hK1 k hk; omega)
    obtain ⟨gx, rb, tu, gO, gF, gT, gE, gD, gC0, gC1, gC2, gC3, gC4, gP, gK, gV, gR, gU, hrow, hkx⟩ := hRI
    obtain ⟨⟨x1, hx1, e1⟩, hq⟩ := hq
    refine W.eq (g2 := F0 m 870 ls [.int (nI 2)]) rfl ?_
    refine lv_istore (lv' := [(6, .int (nI 2)), (0, .ref b), (1, .ref (ad 0)), (2, .ref (ad 55)), (3, .ref (ad 74)), (4, .ref (ad 75)), (5, .int (nI i))]) S.1 S.2.1 dL_law_870 hl (by decide) rfl (fun ls hl => ?_)
    refine lv_aload_n S.1 S.2.1 dL_law_872 rfl (lv_at hl 3 rfl) ?_
    refine lv_aload_n S.1 S.2.1 dL_law_873 rfl (lv_at hl 1 rfl) ?_
    refine lv_iload S.1 S.2.1 dL_law_874 (lv_at hl 6 rfl) ?_
    refine lv_iconst (v := nI 1) S.1 S.2.1 dL_law_876 (by decide) ?_
    refine jn_add S dL_law_877 ?_
    refine j_sld (x := nI x1) S hX hbl hbA hW (vp_in_nI (by omega) (by omega)) (nI_clamp (by omega)) (e1) dL_law_878 ?_
    refine lv_aload_n S.1 S.2.1 dL_law_879 rfl (lv_at hl 1 rfl) ?_
    refine lv_iload S.1 S.2.1 dL_law_880 (lv_at hl 6 rfl) ?_
    refine lv_iconst (v := nI 2) S.1 S.2.1 dL_law_882 (by decide) ?_
    refine jn_add S dL_law_883 ?_
    refine j_sld (x := xs (i + 2)) S hX hbl hbA hW (vp_in_nI (by omega) (by omega)) (nI_clamp (by omega)) (rfl) dL_law_884 ?_
    refine j_callV (k := 55) (ci := 11) (q := (RX12, TX12, 17)) (As := [.int (nI x1), .int (xs (i + 2))]) (rest := []) S hK hA hW (c_X12_weightWith_b2 l D cy ad th n nc x1 (xs (i + 2)) gO   (by omega) (by omega) (hq)) (jgo wm_L_181) yk_X12_weightWith gO rfl rfl ⟨⟨rfl, rfl⟩, by decide, by decide⟩ rfl hl.1 rfl (Nat.le_of_ble_eq_true rfl) dL_law_885 ⟨by show (cells + 2) + 0 ≤ 601024; omega, by show (slots + 12) + 0 ≤ 7293033; omega⟩ (fun v w_ H locs hp hW => ?_)
    obtain ⟨rfl, hU1, hN1⟩ := hp
    have hU : jU w w_ [55, 56, 57, 58, 59, 60, 61, 62, 63, 64, 65, 66, 71, 72, 73, 74, 75] := jU.mono hU1 (by first | decide | (simp; done) | (simp; omega))
    have gF_ := hU1.get gF (by first | decide | (simp; done) | (simp; omega))
    have gT_ := hU1.get gT (by first | decide | (simp; done) | (simp; omega))
    have gE_ := hU1.get gE (by first | decide | (simp; done) | (simp; omega))
    have gD_ := hU1.get gD (by first | decide | (simp; done) | (simp; omega))
    have gC0_ := hU1.get gC0 (by first | decide | (simp; done) | (simp; omega))
    have gC1_ := hU1.get gC1 (by first | decide | (simp; done) | (simp; omega))
    have gC2_ := hU1.get gC2 (by first | decide | (simp; done) | (simp; omega))
    have gC3_ := hU1.get gC3 (by first | decide | (simp; done) | (simp; omega))
    have gC4_ := hU1.get gC4 (by first | decide | (simp; done) | (simp; omega))
    have gP_ := hU1.get gP (by first | decide | (simp; done) | (simp; omega))
    have gK_ := hU1.get gK (by first | decide | (simp; done) | (simp; omega))
    have gV_ := hU1.get gV (by first | decide | (simp; done) | (simp; omega))
    have gR_ := hU1.get gR (by first | decide | (simp; done) | (simp; omega))
    have gU_ := hU1.get gU (by first | decide | (simp; done) | (simp; omega))
    have hOut_ := hU1.get hOut (by first | decide | (simp; done) | (simp; omega))
    have hOuD_ := hU1.get hOuD (by first | decide | (simp; done) | (simp; omega))
    have gO_ : w_[55]? = some (ad 55, .inr (11, [.int (nI 2), .ref (ad 56), .ref (ad 57), .ref (ad 58), .ref (ad 59), .ref (ad 60), .ref (ad 61), .ref (ad 62), .ref (ad 63), .ref (ad 64), .ref (ad 65), .int (nI n), .int (nI nc), .ref (ad 66), .ref (ad 71), .ref (ad 72), .ref (ad 73)])) := hN1
    clear hU1 hN1
    refine W.eq (g2 := F0 m 888 ls [.long (lN 0)]) rfl ?_
    refine lv_lstore (lv' := [(7, .long (lN 0)), (6, .int (nI 2)), (0, .ref b), (1, .ref (ad 0)), (2, .ref (ad 55)), (3, .ref (ad 74)), (4, .ref (ad 75)), (5, .int (nI i))]) S.1 S.2.1 dL_law_888 hl (by decide) rfl (fun ls hl => ?_)
    refine lv_aload_n S.1 S.2.1 dL_law_890 rfl (lv_at hl 4 rfl) ?_
    refine j_callV (k := 55) (ci := 11) (q := (RX12, TX12, 17)) (As := []) (rest := []) S hK hA hW (c_X12_thrown l D cy ad 2 n nc gO_   ) (jgo wm_L_136) yk_X12_thrown gO_ rfl rfl ⟨⟨rfl, rfl⟩, by decide, by decide⟩ rfl hl.1 rfl (Nat.le_of_ble_eq_true rfl) dL_law_891 ⟨by show (cells + 2) + 0 ≤ 601024; omega, by show (slots + 12) + 0 ≤ 7293033; omega⟩ (fun v u H locs hp hW => ?_)
    obtain ⟨rfl, rfl⟩ := hp
    refine W.eq (g2 := F0 m 894 ls [.int (nI 2)]) rfl ?_
    refine lv_iload S.1 S.2.1 dL_law_894 (lv_at hl 1 rfl) ?_
    refine jn_cmp_eq (tgt := 901) S (by omega) (by omega) dL_law_896 (by decide) (fun c_896 => ?_) (fun c_896 => ?_)
    · refine lv_iload S.1 S.2.1 dL_law_901 (lv_at hl 1 rfl) ?_
      refine jn_if_ne (tgt := 917) S (by omega) dL_law_903 (by decide) (fun c_903 => ?_) (fun c_903 => ?_)
      · refine lv_goto (tgt := 2382) S.1 S.2.1 dL_law_917 (by decide) ?_
        exact W.widen (by omega) (by omega) (kk _ _ _ _ ⟨_, _, _, _, _, _, _, _, _, _, _, _, _, _, hPI, (hCI.kept hU (by first | decide | (intro k hk; simp at hk; omega))), ⟨gx, _, _, gO_, gF_, gT_, gE_, gD_, gC0_, gC1_, gC2_, gC3_, gC4_, gP_, gK_, gV_, gR_, gU_, fun j hj => hU.get (hrow j hj) (by simp; omega), hkx⟩, hOut_, hOuD_⟩ hW (lv_sub hl [2, 3, 4, 5, 6, 7] rfl))
      · first | exact absurd (show 2 = 0 from c_903) (by decide) | exact absurd c_903 (by decide)
    · first | exact absurd (show 2 ≠ 2 from c_896) (by decide) | exact absurd c_896 (by decide)
/-- the law's chanceTop -/
theorem s_chanceTop {p : Program} {l : Launch} {e : Env} {s : State} {m : MethodId} {args : Array Value} {below : List Frame} {meth : Method} {c : Code} {Q : State → Prop} {D : va_G} {cy : Nat → ClassId} {A : Nat → Prop} {x0 : Cond} {ad : Nat → Nat} {b L : Nat} {xs : Nat → Int32} {i : Nat} {w : va_W} {H : Heap} {locs : List Loc} {ls : Array Slot} {cells slots : Nat} (htr : l.stackTraces = false) (C : LX p s m c args D cy A b L xs x0) (hI : INV ad cy w) (hW : jW D A s.heap w H locs) (hl : lv_has ls 10 [(0, .ref b), (1, .ref (ad 0)), (2, .ref (ad 55)), (3, .ref (ad 74)), (4, .ref (ad 75)), (5, .int (nI i))]) (hi : i + 5 ≤ L) (hL : L ≤ 2560) (hc : cells + 10 ≤ 601024) (hs : slots + 64 ≤ 7293033) (kk : LK p l e s m args below meth c Q D cy A ad b i cells slots) : W p l e room_1 s m args below meth c H locs cells slots Q (F0 m 920 ls []) := by
  obtain ⟨S, hK, hA, hX, hbl, hbA, hx, hnx⟩ := C
  obtain ⟨n, wf, wt, od, sd, se, nc, lv, cs, kv, kx, th, og, ogd, hPI, hCI, hRI, hOut, hOuD⟩ := hI
  have hPI0 := hPI
  obtain ⟨hn, hsdn, hse2, hnc, hlvn, hcs, hkI, hod, hodn, hinj⟩ := hPI0
  have hp2 := two_pow10 hn
  have hpt := Nat.two_pow_pos n
  have hWB := hCI.wb
  refine lv_aload_n S.1 S.2.1 dL_law_920 rfl (lv_at hl 1 rfl) ?_
  refine lv_aload_n S.1 S.2.1 dL_law_921 rfl (lv_at hl 0 rfl) ?_
  refine lv_iload S.1 S.2.1 dL_law_922 (lv_at hl 5 rfl) ?_
  refine lv_iconst (v := nI 1) S.1 S.2.1 dL_law_924 (by decide) ?_
  refine jn_add S dL_law_925 ?_
  refine j_sld (x := xs (i + 1)) S hX hbl hbA hW (vp_in_nI (by omega) (by omega)) (nI_clamp (by omega)) (rfl) dL_law_926 ?_
  refine lv_aload_n S.1 S.2.1 dL_law_927 rfl (lv_at hl 3 rfl) ?_
  refine j_callH (As := [.ref (ad 0), .int (xs (i + 1)), .ref (ad 74)]) (rest := []) S hK hA hW hx hnx (h_chanceTop l htr D cy ad n wf wt od sd se nc lv cs kv kx (xs (i + 1)) og ogd hPI hCI hOut hOuD) (jgo wm_L_182) yk_L_chanceTop ⟨⟨rfl, rfl⟩, by decide, by decide⟩ rfl hl.1 rfl (Nat.le_of_ble_eq_true rfl) dL_law_928 ⟨by show cells + 2 ≤ 601024; omega, by show slots + 12 ≤ 7293033; omega⟩ (fun v w H locs hp hW => ?_)
  rcases hp with ⟨x1, pr, rfl, hpn, hq0, hq1, hq2, ⟨K1, hU1, hK1⟩, hCI, hOut, hOuD⟩ | ⟨rfl, hq, ⟨K1, hU1, hK1⟩, hCI, hOut, hOuD⟩ | ⟨rfl, hq, ⟨K1, hU1, hK1⟩, hCI, hOut, hOuD⟩
  · have hRI := hRI.kept hU1 (fun k hk => by have := hK1 k hk; omega)
    obtain ⟨gx, rb, tu, gO, gF, gT, gE, gD, gC0, gC1, gC2, gC3, gC4, gP, gK, gV, gR, gU, hrow, hkx⟩ := hRI
    refine W.eq (g2 := F0 m 931 ls [.int (nI 0)]) rfl ?_
    refine lv_istore (lv' := [(6, .int (nI 0)), (0, .ref b), (1, .ref (ad 0)), (2, .ref (ad 55)), (3, .ref (ad 74)), (4, .ref (ad 75)), (5, .int (nI i))]) S.1 S.2.1 dL_law_931 hl (by decide) rfl (fun ls hl => ?_)
    refine lv_aload_n S.1 S.2.1 dL_law_933 rfl (lv_at hl 3 rfl) ?_
    refine lv_aload_n S.1 S.2.1 dL_law_934 rfl (lv_at hl 1 rfl) ?_
    refine lv_iload S.1 S.2.1 dL_law_935 (lv_at hl 6 rfl) ?_
    refine lv_iconst (v := nI 1) S.1 S.2.1 dL_law_937 (by decide) ?_
    refine jn_add S dL_law_938 ?_
    refine j_sld (x := nI x1) S hX hbl hbA hW (vp_in_nI (by omega) (by omega)) (nI_clamp (by omega)) (hq1) dL_law_939 ?_
    refine j_callV (k := 55) (ci := 11) (q := (RX12, TX12, 17)) (As := [.int (nI x1)]) (rest := []) S hK hA hW (c_X12_chanceTop_ok l D cy ad th n nc sd se lv cs wf wt x1 gO gE gP gC0 gC1 gC2 gC3 gC4 gF gT   (by omega) (by omega) (hse2) (by omega) (hcs) (hWB.1) (hWB.2) (by omega) (by rw [← sum_pr hpn]; exact hq2)) (jgo wm_L_184) yk_X12_chanceTop gO rfl rfl ⟨⟨rfl, rfl⟩, by decide, by decide⟩ rfl hl.1 rfl (Nat.le_of_ble_eq_true rfl) dL_law_940 ⟨by show (cells + 2) + 0 ≤ 601024; omega, by show (slots + 12) + 0 ≤ 7293033; omega⟩ (fun v w_ H locs hp hW => ?_)
    obtain ⟨rfl, hU1, hN1⟩ := hp
    have hU : jU w w_ [55, 56, 57, 58, 59, 60, 61, 62, 63, 64, 65, 66, 71, 72, 73, 74, 75] := jU.mono hU1 (by first | decide | (simp; done) | (simp; omega))
    have gF_ := hU1.get gF (by first | decide | (simp; done) | (simp; omega))
    have gT_ := hU1.get gT (by first | decide | (simp; done) | (simp; omega))
    have gE_ := hU1.get gE (by first | decide | (simp; done) | (simp; omega))
    have gD_ := hU1.get gD (by first | decide | (simp; done) | (simp; omega))
    have gC0_ := hU1.get gC0 (by first | decide | (simp; done) | (simp; omega))
    have gC1_ := hU1.get gC1 (by first | decide | (simp; done) | (simp; omega))
    have gC2_ := hU1.get gC2 (by first | decide | (simp; done) | (simp; omega))
    have gC3_ := hU1.get gC3 (by first | decide | (simp; done) | (simp; omega))
    have gC4_ := hU1.get gC4 (by first | decide | (simp; done) | (simp; omega))
    have gP_ := hU1.get gP (by first | decide | (simp; done) | (simp; omega))
    have gK_ := hU1.get gK (by first | decide | (simp; done) | (simp; omega))
    have gV_ := hU1.get gV (by first | decide | (simp; done) | (simp; omega))
    have gR_ := hU1.get gR (by first | decide | (simp; done) | (simp; omega))
    have gU_ := hU1.get gU (by first | decide | (simp; done) | (simp; omega))
    have hOut_ := hU1.get hOut (by first | decide | (simp; done) | (simp; omega))
    have hOuD_ := hU1.get hOuD (by first | decide | (simp; done) | (simp; omega))
    have gO_ : w_[55]? = some (ad 55, .inr (11, [.int (nI 0), .ref (ad 56), .ref (ad 57), .ref (ad 58), .ref (ad 59), .ref (ad 60), .ref (ad 61), .ref (ad 62), .ref (ad 63), .ref (ad 64), .ref (ad 65), .int (nI n), .int (nI nc), .ref (ad 66), .ref (ad 71), .ref (ad 72), .ref (ad 73)])) := hN1
    clear hU1 hN1
    refine W.eq (g2 := F0 m 943 ls [.long (lN ((sumI (fun d => decide (d &&& 2 ^ x1 = 2 ^ x1) && mdc sd se nc cs lv d) (fun d => prodN wf wt d n) (2 ^ n)) / Nat.gcd (sumI (mdc sd se nc cs lv) (fun d => prodN wf wt d n) (2 ^ n)) (sumI (fun d => decide (d &&& 2 ^ x1 = 2 ^ x1) && mdc sd se nc cs lv d) (fun d => prodN wf wt d n) (2 ^ n))))]) rfl ?_
    refine lv_topl_to (y := lN ((sumI (fun d => decide (d &&& 2 ^ x1 = 2 ^ x1) && mdl n sd se nc cs lv d) pr (2 ^ n)) / Nat.gcd (sumI (fun d => decide (d &&& 2 ^ x1 = 2 ^ x1) && mdl n sd se nc cs lv d) pr (2 ^ n)) (sumI (mdl n sd se nc cs lv) pr (2 ^ n)))) (congrArg lN (by rw [sum_pr hpn, sum_prF hpn, Nat.gcd_comm])) ?_
    refine lv_lstore (lv' := [(7, .long (lN ((sumI (fun d => decide (d &&& 2 ^ x1 = 2 ^ x1) && mdl n sd se nc cs lv d) pr (2 ^ n)) / Nat.gcd (sumI (fun d => decide (d &&& 2 ^ x1 = 2 ^ x1) && mdl n sd se nc cs lv d) pr (2 ^ n)) (sumI (mdl n sd se nc cs lv) pr (2 ^ n))))), (6, .int (nI 0)), (0, .ref b), (1, .ref (ad 0)), (2, .ref (ad 55)), (3, .ref (ad 74)), (4, .ref (ad 75)), (5, .int (nI i))]) S.1 S.2.1 dL_law_943 hl (by decide) rfl (fun ls hl => ?_)
    refine lv_aload_n S.1 S.2.1 dL_law_945 rfl (lv_at hl 4 rfl) ?_
    refine j_callV (k := 55) (ci := 11) (q := (RX12, TX12, 17)) (As := []) (rest := []) S hK hA hW (c_X12_thrown l D cy ad 0 n nc gO_   ) (jgo wm_L_136) yk_X12_thrown gO_ rfl rfl ⟨⟨rfl, rfl⟩, by decide, by decide⟩ rfl hl.1 rfl (Nat.le_of_ble_eq_true rfl) dL_law_946 ⟨by show (cells + 2) + 0 ≤ 601024; omega, by show (slots + 12) + 0 ≤ 7293033; omega⟩ (fun v u H locs hp hW => ?_)
    obtain ⟨rfl, rfl⟩ := hp
    refine W.eq (g2 := F0 m 949 ls [.int (nI 0)]) rfl ?_
    refine lv_iload S.1 S.2.1 dL_law_949 (lv_at hl 1 rfl) ?_
    refine jn_cmp_eq (tgt := 956) S (by omega) (by omega) dL_law_951 (by decide) (fun c_951 => ?_) (fun c_951 => ?_)
    · refine lv_iload S.1 S.2.1 dL_law_956 (lv_at hl 1 rfl) ?_
      refine jn_if_ne (tgt := 972) S (by omega) dL_law_958 (by decide) (fun c_958 => ?_) (fun c_958 => ?_)
      · first | exact absurd (show 0 ≠ 0 from c_958) (by decide) | exact absurd c_958 (by decide)
      · refine lv_aload_n S.1 S.2.1 dL_law_961 rfl (lv_at hl 5 rfl) ?_
        refine lv_iconst (v := nI 0) S.1 S.2.1 dL_law_962 (by decide) ?_
        refine j_lald (x := lN ((sumI (fun d => decide (d &&& 2 ^ x1 = 2 ^ x1) && mdl n sd se nc cs lv d) pr (2 ^ n)) / Nat.gcd (sumI (fun d => decide (d &&& 2 ^ x1 = 2 ^ x1) && mdl n sd se nc cs lv d) pr (2 ^ n)) (sumI (mdl n sd se nc cs lv) pr (2 ^ n)))) S hK hW hOut_ (vp_in_nI (by omega) (by omega)) (nI_clamp (by omega)) (if_pos rfl) dL_law_963 ?_
        refine lv_lload S.1 S.2.1 dL_law_964 (lv_at hl 0 rfl) ?_
        refine jl_eq (tgt := 972) S dL_law_966 dL_law_967 (by decide) (fun c_967 => ?_) (fun c_967 => ?_)
        · refine lv_goto (tgt := 2382) S.1 S.2.1 dL_law_972 (by decide) ?_
          exact W.widen (by omega) (by omega) (kk _ _ _ _ ⟨_, _, _, _, _, _, _, _, _, _, _, _, _, _, hPI, (hCI.kept hU (by first | decide | (intro k hk; simp at hk; omega))), ⟨gx, _, _, gO_, gF_, gT_, gE_, gD_, gC0_, gC1_, gC2_, gC3_, gC4_, gP_, gK_, gV_, gR_, gU_, fun j hj => hU.get (hrow j hj) (by simp; omega), hkx⟩, hOut_, hOuD_⟩ hW (lv_sub hl [2, 3, 4, 5, 6, 7] rfl))
        · exact absurd rfl c_967
    · first | exact absurd (show 0 ≠ 0 from c_951) (by decide) | exact absurd c_951 (by decide)
  · have hRI := hRI.kept hU1 (fun k hk => by have := hK1 k hk; omega)
    obtain ⟨gx, rb, tu, gO, gF, gT, gE, gD, gC0, gC1, gC2, gC3, gC4, gP, gK, gV, gR, gU, hrow, hkx⟩ := hRI
    refine W.eq (g2 := F0 m 931 ls [.int (nI 1)]) rfl ?_
    refine lv_istore (lv' := [(6, .int (nI 1)), (0, .ref b), (1, .ref (ad 0)), (2, .ref (ad 55)), (3, .ref (ad 74)), (4, .ref (ad 75)), (5, .int (nI i))]) S.1 S.2.1 dL_law_931 hl (by decide) rfl (fun ls hl => ?_)
    refine lv_aload_n S.1 S.2.1 dL_law_933 rfl (lv_at hl 3 rfl) ?_
    refine lv_aload_n S.1 S.2.1 dL_law_934 rfl (lv_at hl 1 rfl) ?_
    refine lv_iload S.1 S.2.1 dL_law_935 (lv_at hl 6 rfl) ?_
    refine lv_iconst (v := nI 1) S.1 S.2.1 dL_law_937 (by decide) ?_
    refine jn_add S dL_law_938 ?_
    refine j_sld (x := xs (i + 1)) S hX hbl hbA hW (vp_in_nI (by omega) (by omega)) (nI_clamp (by omega)) (rfl) dL_law_939 ?_
    refine j_callV (k := 55) (ci := 11) (q := (RX12, TX12, 17)) (As := [.int (xs (i + 1))]) (rest := []) S hK hA hW (c_X12_chanceTop_b1 l D cy ad th n nc (xs (i + 1)) gO   (by omega) (hq)) (jgo wm_L_184) yk_X12_chanceTop gO rfl rfl ⟨⟨rfl, rfl⟩, by decide, by decide⟩ rfl hl.1 rfl (Nat.le_of_ble_eq_true rfl) dL_law_940 ⟨by show (cells + 2) + 0 ≤ 601024; omega, by show (slots + 12) + 0 ≤ 7293033; omega⟩ (fun v w_ H locs hp hW => ?_)
    obtain ⟨rfl, hU1, hN1⟩ := hp
    have hU : jU w w_ [55, 56, 57, 58, 59, 60, 61, 62, 63, 64, 65, 66, 71, 72, 73, 74, 75] := jU.mono hU1 (by first | decide | (simp; done) | (simp; omega))
    have gF_ := hU1.get gF (by first | decide | (simp; done) | (simp; omega))
    have gT_ := hU1.get gT (by first | decide | (simp; done) | (simp; omega))
    have gE_ := hU1.get gE (by first | decide | (simp; done) | (simp; omega))
    have gD_ := hU1.get gD (by first | decide | (simp; done) | (simp; omega))
    have gC0_ := hU1.get gC0 (by first | decide | (simp; done) | (simp; omega))
    have gC1_ := hU1.get gC1 (by first | decide | (simp; done) | (simp; omega))
    have gC2_ := hU1.get gC2 (by first | decide | (simp; done) | (simp; omega))
    have gC3_ := hU1.get gC3 (by first | decide | (simp; done) | (simp; omega))
    have gC4_ := hU1.get gC4 (by first | decide | (simp; done) | (simp; omega))
    have gP_ := hU1.get gP (by first | decide | (simp; done) | (simp; omega))
    have gK_ := hU1.get gK (by first | decide | (simp; done) | (simp; omega))
    have gV_ := hU1.get gV (by first | decide | (simp; done) | (simp; omega))
    have gR_ := hU1.get gR (by first | decide | (simp; done) | (simp; omega))
    have gU_ := hU1.get gU (by first | decide | (simp; done) | (simp; omega))
    have hOut_ := hU1.get hOut (by first | decide | (simp; done) | (simp; omega))
    have hOuD_ := hU1.get hOuD (by first | decide | (simp; done) | (simp; omega))
    have gO_ : w_[55]? = some (ad 55, .inr (11, [.int (nI 1), .ref (ad 56), .ref (ad 57), .ref (ad 58), .ref (ad 59), .ref (ad 60), .ref (ad 61), .ref (ad 62), .ref (ad 63), .ref (ad 64), .ref (ad 65), .int (nI n), .int (nI nc), .ref (ad 66), .ref (ad 71), .ref (ad 72), .ref (ad 73)])) := hN1
    clear hU1 hN1
    refine W.eq (g2 := F0 m 943 ls [.long (lN 0)]) rfl ?_
    refine lv_lstore (lv' := [(7, .long (lN 0)), (6, .int (nI 1)), (0, .ref b), (1, .ref (ad 0)), (2, .ref (ad 55)), (3, .ref (ad 74)), (4, .ref (ad 75)), (5, .int (nI i))]) S.1 S.2.1 dL_law_943 hl (by decide) rfl (fun ls hl => ?_)
    refine lv_aload_n S.1 S.2.1 dL_law_945 rfl (lv_at hl 4 rfl) ?_
    refine j_callV (k := 55) (ci := 11) (q := (RX12, TX12, 17)) (As := []) (rest := []) S hK hA hW (c_X12_thrown l D cy ad 1 n nc gO_   ) (jgo wm_L_136) yk_X12_thrown gO_ rfl rfl ⟨⟨rfl, rfl⟩, by decide, by decide⟩ rfl hl.1 rfl (Nat.le_of_ble_eq_true rfl) dL_law_946 ⟨by show (cells + 2) + 0 ≤ 601024; omega, by show (slots + 12) + 0 ≤ 7293033; omega⟩ (fun v u H locs hp hW => ?_)
    obtain ⟨rfl, rfl⟩ := hp
    refine W.eq (g2 := F0 m 949 ls [.int (nI 1)]) rfl ?_
    refine lv_iload S.1 S.2.1 dL_law_949 (lv_at hl 1 rfl) ?_
    refine jn_cmp_eq (tgt := 956) S (by omega) (by omega) dL_law_951 (by decide) (fun c_951 => ?_) (fun c_951 => ?_)
    · refine lv_iload S.1 S.2.1 dL_law_956 (lv_at hl 1 rfl) ?_
      refine jn_if_ne (tgt := 972) S (by omega) dL_law_958 (by decide) (fun c_958 => ?_) (fun c_958 => ?_)
      · refine lv_goto (tgt := 2382) S.1 S.2.1 dL_law_972 (by decide) ?_
        exact W.widen (by omega) (by omega) (kk _ _ _ _ ⟨_, _, _, _, _, _, _, _, _, _, _, _, _, _, hPI, (hCI.kept hU (by first | decide | (intro k hk; simp at hk; omega))), ⟨gx, _, _, gO_, gF_, gT_, gE_, gD_, gC0_, gC1_, gC2_, gC3_, gC4_, gP_, gK_, gV_, gR_, gU_, fun j hj => hU.get (hrow j hj) (by simp; omega), hkx⟩, hOut_, hOuD_⟩ hW (lv_sub hl [2, 3, 4, 5, 6, 7] rfl))
      · first | exact absurd (show 1 = 0 from c_958) (by decide) | exact absurd c_958 (by decide)
    · first | exact absurd (show 1 ≠ 1 from c_951) (by decide) | exact absurd c_951 (by decide)
  · have hRI := hRI.kept hU1 (fun k hk => by have := hK1 k hk; omega)
    obtain ⟨gx, rb, tu, gO, gF, gT, gE, gD, gC0, gC1, gC2, gC3, gC4, gP, gK, gV, gR, gU, hrow, hkx⟩ := hRI
    obtain ⟨pr, hpn, ⟨x1, hx1, e1⟩, h0⟩ := hq
    refine W.eq (g2 := F0 m 931 ls [.int (nI 2)]) rfl ?_
    refine lv_istore (lv' := [(6, .int (nI 2)), (0, .ref b), (1, .ref (ad 0)), (2, .ref (ad 55)), (3, .ref (ad 74)), (4, .ref (ad 75)), (5, .int (nI i))]) S.1 S.2.1 dL_law_931 hl (by decide) rfl (fun ls hl => ?_)
    refine lv_aload_n S.1 S.2.1 dL_law_933 rfl (lv_at hl 3 rfl) ?_
    refine lv_aload_n S.1 S.2.1 dL_law_934 rfl (lv_at hl 1 rfl) ?_
    refine lv_iload S.1 S.2.1 dL_law_935 (lv_at hl 6 rfl) ?_
    refine lv_iconst (v := nI 1) S.1 S.2.1 dL_law_937 (by decide) ?_
    refine jn_add S dL_law_938 ?_
    refine j_sld (x := nI x1) S hX hbl hbA hW (vp_in_nI (by omega) (by omega)) (nI_clamp (by omega)) (e1) dL_law_939 ?_
    refine j_callV (k := 55) (ci := 11) (q := (RX12, TX12, 17)) (As := [.int (nI x1)]) (rest := []) S hK hA hW (c_X12_chanceTop_b2 l D cy ad th n nc sd se lv cs wf wt x1 gO gE gP gC0 gC1 gC2 gC3 gC4 gF gT   (by omega) (by omega) (hse2) (by omega) (hcs) (hWB.1) (hWB.2) (by omega) (by rw [← sum_pr hpn]; exact h0)) (jgo wm_L_184) yk_X12_chanceTop gO rfl rfl ⟨⟨rfl, rfl⟩, by decide, by decide⟩ rfl hl.1 rfl (Nat.le_of_ble_eq_true rfl) dL_law_940 ⟨by show (cells + 2) + 0 ≤ 601024; omega, by show (slots + 12) + 0 ≤ 7293033; omega⟩ (fun v w_ H locs hp hW => ?_)
    obtain ⟨rfl, hU1, hN1⟩ := hp
    have hU : jU w w_ [55, 56, 57, 58, 59, 60, 61, 62, 63, 64, 65, 66, 71, 72, 73, 74, 75] := jU.mono hU1 (by first | decide | (simp; done) | (simp; omega))
    have gF_ := hU1.get gF (by first | decide | (simp; done) | (simp; omega))
    have gT_ := hU1.get gT (by first | decide | (simp; done) | (simp; omega))
    have gE_ := hU1.get gE (by first | decide | (simp; done) | (simp; omega))
    have gD_ := hU1.get gD (by first | decide | (simp; done) | (simp; omega))
    have gC0_ := hU1.get gC0 (by first | decide | (simp; done) | (simp; omega))
    have gC1_ := hU1.get gC1 (by first | decide | (simp; done) | (simp; omega))
    have gC2_ := hU1.get gC2 (by first | decide | (simp; done) | (simp; omega))
    have gC3_ := hU1.get gC3 (by first | decide | (simp; done) | (simp; omega))
    have gC4_ := hU1.get gC4 (by first | decide | (simp; done) | (simp; omega))
    have gP_ := hU1.get gP (by first | decide | (simp; done) | (simp; omega))
    have gK_ := hU1.get gK (by first | decide | (simp; done) | (simp; omega))
    have gV_ := hU1.get gV (by first | decide | (simp; done) | (simp; omega))
    have gR_ := hU1.get gR (by first | decide | (simp; done) | (simp; omega))
    have gU_ := hU1.get gU (by first | decide | (simp; done) | (simp; omega))
    have hOut_ := hU1.get hOut (by first | decide | (simp; done) | (simp; omega))
    have hOuD_ := hU1.get hOuD (by first | decide | (simp; done) | (simp; omega))
    have gO_ : w_[55]? = some (ad 55, .inr (11, [.int (nI 2), .ref (ad 56), .ref (ad 57), .ref (ad 58), .ref (ad 59), .ref (ad 60), .ref (ad 61), .ref (ad 62), .ref (ad 63), .ref (ad 64), .ref (ad 65), .int (nI n), .int (nI nc), .ref (ad 66), .ref (ad 71), .ref (ad 72), .ref (ad 73)])) := hN1
    clear hU1 hN1
    refine W.eq (g2 := F0 m 943 ls [.long (lN 0)]) rfl ?_
    refine lv_lstore (lv' := [(7, .long (lN 0)), (6, .int (nI 2)), (0, .ref b), (1, .ref (ad 0)), (2, .ref (ad 55)), (3, .ref (ad 74)), (4, .ref (ad 75)), (5, .int (nI i))]) S.1 S.2.1 dL_law_943 hl (by decide) rfl (fun ls hl => ?_)
    refine lv_aload_n S.1 S.2.1 dL_law_945 rfl (lv_at hl 4 rfl) ?_
    refine j_callV (k := 55) (ci := 11) (q := (RX12, TX12, 17)) (As := []) (rest := []) S hK hA hW (c_X12_thrown l D cy ad 2 n nc gO_   ) (jgo wm_L_136) yk_X12_thrown gO_ rfl rfl ⟨⟨rfl, rfl⟩, by decide, by decide⟩ rfl hl.1 rfl (Nat.le_of_ble_eq_true rfl) dL_law_946 ⟨by show (cells + 2) + 0 ≤ 601024; omega, by show (slots + 12) + 0 ≤ 7293033; omega⟩ (fun v u H locs hp hW => ?_)
    obtain ⟨rfl, rfl⟩ := hp
    refine W.eq (g2 := F0 m 949 ls [.int (nI 2)]) rfl ?_
    refine lv_iload S.1 S.2.1 dL_law_949 (lv_at hl 1 rfl) ?_
    refine jn_cmp_eq (tgt := 956) S (by omega) (by omega) dL_law_951 (by decide) (fun c_951 => ?_) (fun c_951 => ?_)
    · refine lv_iload S.1 S.2.1 dL_law_956 (lv_at hl 1 rfl) ?_
      refine jn_if_ne (tgt := 972) S (by omega) dL_law_958 (by decide) (fun c_958 => ?_) (fun c_958 => ?_)
      · refine lv_goto (tgt := 2382) S.1 S.2.1 dL_law_972 (by decide) ?_
        exact W.widen (by omega) (by omega) (kk _ _ _ _ ⟨_, _, _, _, _, _, _, _, _, _, _, _, _, _, hPI, (hCI.kept hU (by first | decide | (intro k hk; simp at hk; omega))), ⟨gx, _, _, gO_, gF_, gT_, gE_, gD_, gC0_, gC1_, gC2_, gC3_, gC4_, gP_, gK_, gV_, gR_, gU_, fun j hj => hU.get (hrow j hj) (by simp; omega), hkx⟩, hOut_, hOuD_⟩ hW (lv_sub hl [2, 3, 4, 5, 6, 7] rfl))
      · first | exact absurd (show 2 = 0 from c_958) (by decide) | exact absurd c_958 (by decide)
    · first | exact absurd (show 2 ≠ 2 from c_951) (by decide) | exact absurd c_951 (by decide)
/-- the law's chanceBottom -/
theorem s_chanceBottom {p : Program} {l : Launch} {e : Env} {s : State} {m : MethodId} {args : Array Value} {below : List Frame} {meth : Method} {c : Code} {Q : State → Prop} {D : va_G} {cy : Nat → ClassId} {A : Nat → Prop} {x0 : Cond} {ad : Nat → Nat} {b L : Nat} {xs : Nat → Int32} {i : Nat} {w : va_W} {H : Heap} {locs : List Loc} {ls : Array Slot} {cells slots : Nat} (htr : l.stackTraces = false) (C : LX p s m c args D cy A b L xs x0) (hI : INV ad cy w) (hW : jW D A s.heap w H locs) (hl : lv_has ls 10 [(0, .ref b), (1, .ref (ad 0)), (2, .ref (ad 55)), (3, .ref (ad 74)), (4, .ref (ad 75)), (5, .int (nI i))]) (hi : i + 5 ≤ L) (hL : L ≤ 2560) (hc : cells + 10 ≤ 601024) (hs : slots + 64 ≤ 7293033) (kk : LK p l e s m args below meth c Q D cy A ad b i cells slots) : W p l e room_1 s m args below meth c H locs cells slots Q (F0 m 975 ls []) := by
  obtain ⟨S, hK, hA, hX, hbl, hbA, hx, hnx⟩ := C
  obtain ⟨n, wf, wt, od, sd, se, nc, lv, cs, kv, kx, th, og, ogd, hPI, hCI, hRI, hOut, hOuD⟩ := hI
  have hPI0 := hPI
  obtain ⟨hn, hsdn, hse2, hnc, hlvn, hcs, hkI, hod, hodn, hinj⟩ := hPI0
  have hp2 := two_pow10 hn
  have hpt := Nat.two_pow_pos n
  have hWB := hCI.wb
  refine lv_aload_n S.1 S.2.1 dL_law_975 rfl (lv_at hl 1 rfl) ?_
  refine lv_aload_n S.1 S.2.1 dL_law_976 rfl (lv_at hl 0 rfl) ?_
  refine lv_iload S.1 S.2.1 dL_law_977 (lv_at hl 5 rfl) ?_
  refine lv_iconst (v := nI 1) S.1 S.2.1 dL_law_979 (by decide) ?_
  refine jn_add S dL_law_980 ?_
  refine j_sld (x := xs (i + 1)) S hX hbl hbA hW (vp_in_nI (by omega) (by omega)) (nI_clamp (by omega)) (rfl) dL_law_981 ?_
  refine lv_aload_n S.1 S.2.1 dL_law_982 rfl (lv_at hl 3 rfl) ?_
  refine j_callH (As := [.ref (ad 0), .int (xs (i + 1)), .ref (ad 74)]) (rest := []) S hK hA hW hx hnx (h_chanceBottom l htr D cy ad n wf wt od sd se nc lv cs kv kx (xs (i + 1)) og ogd hPI hCI hOut hOuD) (jgo wm_L_185) yk_L_chanceBottom ⟨⟨rfl, rfl⟩, by decide, by decide⟩ rfl hl.1 rfl (Nat.le_of_ble_eq_true rfl) dL_law_983 ⟨by show cells + 2 ≤ 601024; omega, by show slots + 12 ≤ 7293033; omega⟩ (fun v w H locs hp hW => ?_)
  rcases hp with ⟨x1, pr, rfl, hpn, hq0, hq1, hq2, ⟨K1, hU1, hK1⟩, hCI, hOut, hOuD⟩ | ⟨rfl, hq, ⟨K1, hU1, hK1⟩, hCI, hOut, hOuD⟩ | ⟨rfl, hq, ⟨K1, hU1, hK1⟩, hCI, hOut, hOuD⟩
  · have hRI := hRI.kept hU1 (fun k hk => by have := hK1 k hk; omega)
    obtain ⟨gx, rb, tu, gO, gF, gT, gE, gD, gC0, gC1, gC2, gC3, gC4, gP, gK, gV, gR, gU, hrow, hkx⟩ := hRI
    refine W.eq (g2 := F0 m 986 ls [.int (nI 0)]) rfl ?_
    refine lv_istore (lv' := [(6, .int (nI 0)), (0, .ref b), (1, .ref (ad 0)), (2, .ref (ad 55)), (3, .ref (ad 74)), (4, .ref (ad 75)), (5, .int (nI i))]) S.1 S.2.1 dL_law_986 hl (by decide) rfl (fun ls hl => ?_)
    refine lv_aload_n S.1 S.2.1 dL_law_988 rfl (lv_at hl 3 rfl) ?_
    refine lv_aload_n S.1 S.2.1 dL_law_989 rfl (lv_at hl 1 rfl) ?_
    refine lv_iload S.1 S.2.1 dL_law_990 (lv_at hl 6 rfl) ?_
    refine lv_iconst (v := nI 1) S.1 S.2.1 dL_law_992 (by decide) ?_
    refine jn_add S dL_law_993 ?_
    refine j_sld (x := nI x1) S hX hbl hbA hW (vp_in_nI (by omega) (by omega)) (nI_clamp (by omega)) (hq1) dL_law_994 ?_
    refine j_callV (k := 55) (ci := 11) (q := (RX12, TX12, 17)) (As := [.int (nI x1)]) (rest := []) S hK hA hW (c_X12_chanceBottom_ok l D cy ad th n nc sd se lv cs wf wt x1 gO gE gP gC0 gC1 gC2 gC3 gC4 gF gT   (by omega) (by omega) (hse2) (by omega) (hcs) (hWB.1) (hWB.2) (by omega) (by rw [← sum_pr hpn]; exact hq2)) (jgo wm_L_187) yk_X12_chanceBottom gO rfl rfl ⟨⟨rfl, rfl⟩, by decide, by decide⟩ rfl hl.1 rfl (Nat.le_of_ble_eq_true rfl) dL_law_995 ⟨by show (cells + 2) + 0 ≤ 601024; omega, by show (slots + 12) + 0 ≤ 7293033; omega⟩ (fun v w_ H locs hp hW => ?_)
    obtain ⟨rfl, hU1, hN1⟩ := hp
    have hU : jU w w_ [55, 56, 57, 58, 59, 60, 61, 62, 63, 64, 65, 66, 71, 72, 73, 74, 75] := jU.mono hU1 (by first | decide | (simp; done) | (simp; omega))
    have gF_ := hU1.get gF (by first | decide | (simp; done) | (simp; omega))
    have gT_ := hU1.get gT (by first | decide | (simp; done) | (simp; omega))
    have gE_ := hU1.get gE (by first | decide | (simp; done) | (simp; omega))
    have gD_ := hU1.get gD (by first | decide | (simp; done) | (simp; omega))
    have gC0_ := hU1.get gC0 (by first | decide | (simp; done) | (simp; omega))
    have gC1_ := hU1.get gC1 (by first | decide | (simp; done) | (simp; omega))
    have gC2_ := hU1.get gC2 (by first | decide | (simp; done) | (simp; omega))
    have gC3_ := hU1.get gC3 (by first | decide | (simp; done) | (simp; omega))
    have gC4_ := hU1.get gC4 (by first | decide | (simp; done) | (simp; omega))
    have gP_ := hU1.get gP (by first | decide | (simp; done) | (simp; omega))
    have gK_ := hU1.get gK (by first | decide | (simp; done) | (simp; omega))
    have gV_ := hU1.get gV (by first | decide | (simp; done) | (simp; omega))
    have gR_ := hU1.get gR (by first | decide | (simp; done) | (simp; omega))
    have gU_ := hU1.get gU (by first | decide | (simp; done) | (simp; omega))
    have hOut_ := hU1.get hOut (by first | decide | (simp; done) | (simp; omega))
    have hOuD_ := hU1.get hOuD (by first | decide | (simp; done) | (simp; omega))
    have gO_ : w_[55]? = some (ad 55, .inr (11, [.int (nI 0), .ref (ad 56), .ref (ad 57), .ref (ad 58), .ref (ad 59), .ref (ad 60), .ref (ad 61), .ref (ad 62), .ref (ad 63), .ref (ad 64), .ref (ad 65), .int (nI n), .int (nI nc), .ref (ad 66), .ref (ad 71), .ref (ad 72), .ref (ad 73)])) := hN1
    clear hU1 hN1
    refine W.eq (g2 := F0 m 998 ls [.long (lN ((sumI (mdc sd se nc cs lv) (fun d => prodN wf wt d n) (2 ^ n)) / Nat.gcd (sumI (mdc sd se nc cs lv) (fun d => prodN wf wt d n) (2 ^ n)) (sumI (fun d => decide (d &&& 2 ^ x1 = 2 ^ x1) && mdc sd se nc cs lv d) (fun d => prodN wf wt d n) (2 ^ n))))]) rfl ?_
    refine lv_topl_to (y := lN ((sumI (mdl n sd se nc cs lv) pr (2 ^ n)) / Nat.gcd (sumI (fun d => decide (d &&& 2 ^ x1 = 2 ^ x1) && mdl n sd se nc cs lv d) pr (2 ^ n)) (sumI (mdl n sd se nc cs lv) pr (2 ^ n)))) (congrArg lN (by rw [sum_pr hpn, sum_prF hpn, Nat.gcd_comm])) ?_
    refine lv_lstore (lv' := [(7, .long (lN ((sumI (mdl n sd se nc cs lv) pr (2 ^ n)) / Nat.gcd (sumI (fun d => decide (d &&& 2 ^ x1 = 2 ^ x1) && mdl n sd se nc cs lv d) pr (2 ^ n)) (sumI (mdl n sd se nc cs lv) pr (2 ^ n))))), (6, .int (nI 0)), (0, .ref b), (1, .ref (ad 0)), (2, .ref (ad 55)), (3, .ref (ad 74)), (4, .ref (ad 75)), (5, .int (nI i))]) S.1 S.2.1 dL_law_998 hl (by decide) rfl (fun ls hl => ?_)
    refine lv_aload_n S.1 S.2.1 dL_law_1000 rfl (lv_at hl 4 rfl) ?_
    refine j_callV (k := 55) (ci := 11) (q := (RX12, TX12, 17)) (As := []) (rest := []) S hK hA hW (c_X12_thrown l D cy ad 0 n nc gO_   ) (jgo wm_L_136) yk_X12_thrown gO_ rfl rfl ⟨⟨rfl, rfl⟩, by decide, by decide⟩ rfl hl.1 rfl (Nat.le_of_ble_eq_true rfl) dL_law_1001 ⟨by show (cells + 2) + 0 ≤ 601024; omega, by show (slots + 12) + 0 ≤ 7293033; omega⟩ (fun v u H locs hp hW => ?_)
    obtain ⟨rfl, rfl⟩ := hp
    refine W.eq (g2 := F0 m 1004 ls [.int (nI 0)]) rfl ?_
    refine lv_iload S.1 S.2.1 dL_law_1004 (lv_at hl 1 rfl) ?_
    refine jn_cmp_eq (tgt := 1011) S (by omega) (by omega) dL_law_1006 (by decide) (fun c_1006 => ?_) (fun c_1006 => ?_)
    · refine lv_iload S.1 S.2.1 dL_law_1011 (lv_at hl 1 rfl) ?_
      refine jn_if_ne (tgt := 1027) S (by omega) dL_law_1013 (by decide) (fun c_1013 => ?_) (fun c_1013 => ?_)
      · first | exact absurd (show 0 ≠ 0 from c_1013) (by decide) | exact absurd c_1013 (by decide)
      · refine lv_aload_n S.1 S.2.1 dL_law_1016 rfl (lv_at hl 5 rfl) ?_
        refine lv_iconst (v := nI 0) S.1 S.2.1 dL_law_1017 (by decide) ?_
        refine j_lald (x := lN ((sumI (mdl n sd se nc cs lv) pr (2 ^ n)) / Nat.gcd (sumI (fun d => decide (d &&& 2 ^ x1 = 2 ^ x1) && mdl n sd se nc cs lv d) pr (2 ^ n)) (sumI (mdl n sd se nc cs lv) pr (2 ^ n)))) S hK hW hOut_ (vp_in_nI (by omega) (by omega)) (nI_clamp (by omega)) (if_pos rfl) dL_law_1018 ?_
        refine lv_lload S.1 S.2.1 dL_law_1019 (lv_at hl 0 rfl) ?_
        refine jl_eq (tgt := 1027) S dL_law_1021 dL_law_1022 (by decide) (fun c_1022 => ?_) (fun c_1022 => ?_)
        · refine lv_goto (tgt := 2382) S.1 S.2.1 dL_law_1027 (by decide) ?_
          exact W.widen (by omega) (by omega) (kk _ _ _ _ ⟨_, _, _, _, _, _, _, _, _, _, _, _, _, _, hPI, (hCI.kept hU (by first | decide | (intro k hk; simp at hk; omega))), ⟨gx, _, _, gO_, gF_, gT_, gE_, gD_, gC0_, gC1_, gC2_, gC3_, gC4_, gP_, gK_, gV_, gR_, gU_, fun j hj => hU.get (hrow j hj) (by simp; omega), hkx⟩, hOut_, hOuD_⟩ hW (lv_sub hl [2, 3, 4, 5, 6, 7] rfl))
        · exact absurd rfl c_1022
    · first | exact absurd (show 0 ≠ 0 from c_1006) (by decide) | exact absurd c_1006 (by decide)
  · have hRI := hRI.kept hU1 (fun k hk => by have := hK1 k hk; omega)
    obtain ⟨gx, rb, tu, gO, gF, gT, gE, gD, gC0, gC1, gC2, gC3, gC4, gP, gK, gV, gR, gU, hrow, hkx⟩ := hRI
    refine W.eq (g2 := F0 m 986 ls [.int (nI 1)]) rfl ?_
    refine lv_istore (lv' := [(6, .int (nI 1)), (0, .ref b), (1, .ref (ad 0)), (2, .ref (ad 55)), (3, .ref (ad 74)), (4, .ref (ad 75)), (5, .int (nI i))]) S.1 S.2.1 dL_law_986 hl (by decide) rfl (fun ls hl => ?_)
    refine lv_aload_n S.1 S.2.1 dL_law_988 rfl (lv_at hl 3 rfl) ?_
    refine lv_aload_n S.1 S.2.1 dL_law_989 rfl (lv_at hl 1 rfl) ?_
    refine lv_iload S.1 S.2.1 dL_law_990 (lv_at hl 6 rfl) ?_
    refine lv_iconst (v := nI 1) S.1 S.2.1 dL_law_992 (by decide) ?_
    refine jn_add S dL_law_993 ?_
    refine j_sld (x := xs (i + 1)) S hX hbl hbA hW (vp_in_nI (by omega) (by omega)) (nI_clamp (by omega)) (rfl) dL_law_994 ?_
    refine j_callV (k := 55) (ci := 11) (q := (RX12, TX12, 17)) (As := [.int (xs (i + 1))]) (rest := []) S hK hA hW (c_X12_chanceBottom_b1 l D cy ad th n nc (xs (i + 1)) gO   (by omega) (hq)) (jgo wm_L_187) yk_X12_chanceBottom gO rfl rfl ⟨⟨rfl, rfl⟩, by decide, by decide⟩ rfl hl.1 rfl (Nat.le_of_ble_eq_true rfl) dL_law_995 ⟨by show (cells + 2) + 0 ≤ 601024; omega, by show (slots + 12) + 0 ≤ 7293033; omega⟩ (fun v w_ H locs hp hW => ?_)
    obtain ⟨rfl, hU1, hN1⟩ := hp
    have hU : jU w w_ [55, 56, 57, 58, 59, 60, 61, 62, 63, 64, 65, 66, 71, 72, 73, 74, 75] := jU.mono hU1 (by first | decide | (simp; done) | (simp; omega))
    have gF_ := hU1.get gF (by first | decide | (simp; done) | (simp; omega))
    have gT_ := hU1.get gT (by first | decide | (simp; done) | (simp; omega))
    have gE_ := hU1.get gE (by first | decide | (simp; done) | (simp; omega))
    have gD_ := hU1.get gD (by first | decide | (simp; done) | (simp; omega))
    have gC0_ := hU1.get gC0 (by first | decide | (simp; done) | (simp; omega))
    have gC1_ := hU1.get gC1 (by first | decide | (simp; done) | (simp; omega))
    have gC2_ := hU1.get gC2 (by first | decide | (simp; done) | (simp; omega))
    have gC3_ := hU1.get gC3 (by first | decide | (simp; done) | (simp; omega))
    have gC4_ := hU1.get gC4 (by first | decide | (simp; done) | (simp; omega))
    have gP_ := hU1.get gP (by first | decide | (simp; done) | (simp; omega))
    have gK_ := hU1.get gK (by first | decide | (simp; done) | (simp; omega))
    have gV_ := hU1.get gV (by first | decide | (simp; done) | (simp; omega))
    have gR_ := hU1.get gR (by first | decide | (simp; done) | (simp; omega))
    have gU_ := hU1.get gU (by first | decide | (simp; done) | (simp; omega))
    have hOut_ := hU1.get hOut (by first | decide | (simp; done) | (simp; omega))
    have hOuD_ := hU1.get hOuD (by first | decide | (simp; done) | (simp; omega))
    have gO_ : w_[55]? = some (ad 55, .inr (11, [.int (nI 1), .ref (ad 56), .ref (ad 57), .ref (ad 58), .ref (ad 59), .ref (ad 60), .ref (ad 61), .ref (ad 62), .ref (ad 63), .ref (ad 64), .ref (ad 65), .int (nI n), .int (nI nc), .ref (ad 66), .ref (ad 71), .ref (ad 72), .ref (ad 73)])) := hN1
    clear hU1 hN1
    refine W.eq (g2 := F0 m 998 ls [.long (lN 0)]) rfl ?_
    refine lv_lstore (lv' := [(7, .long (lN 0)), (6, .int (nI 1)), (0, .ref b), (1, .ref (ad 0)), (2, .ref (ad 55)), (3, .ref (ad 74)), (4, .ref (ad 75)), (5, .int (nI i))]) S.1 S.2.1 dL_law_998 hl (by decide) rfl (fun ls hl => ?_)
    refine lv_aload_n S.1 S.2.1 dL_law_1000 rfl (lv_at hl 4 rfl) ?_
    refine j_callV (k := 55) (ci := 11) (q := (RX12, TX12, 17)) (As := []) (rest := []) S hK hA hW (c_X12_thrown l D cy ad 1 n nc gO_   ) (jgo wm_L_136) yk_X12_thrown gO_ rfl rfl ⟨⟨rfl, rfl⟩, by decide, by decide⟩ rfl hl.1 rfl (Nat.le_of_ble_eq_true rfl) dL_law_1001 ⟨by show (cells + 2) + 0 ≤ 601024; omega, by show (slots + 12) + 0 ≤ 7293033; omega⟩ (fun v u H locs hp hW => ?_)
    obtain ⟨rfl, rfl⟩ := hp
    refine W.eq (g2 := F0 m 1004 ls [.int (nI 1)]) rfl ?_
    refine lv_iload S.1 S.2.1 dL_law_1004 (lv_at hl 1 rfl) ?_
    refine jn_cmp_eq (tgt := 1011) S (by omega) (by omega) dL_law_1006 (by decide) (fun c_1006 => ?_) (fun c_1006 => ?_)
    · refine lv_iload S.1 S.2.1 dL_law_1011 (lv_at hl 1 rfl) ?_
      refine jn_if_ne (tgt := 1027) S (by omega) dL_law_1013 (by decide) (fun c_1013 => ?_) (fun c_1013 => ?_)
      · refine lv_goto (tgt := 2382) S.1 S.2.1 dL_law_1027 (by decide) ?_
        exact W.widen (by omega) (by omega) (kk _ _ _ _ ⟨_, _, _, _, _, _, _, _, _, _, _, _, _, _, hPI, (hCI.kept hU (by first | decide | (intro k hk; simp at hk; omega))), ⟨gx, _, _, gO_, gF_, gT_, gE_, gD_, gC0_, gC1_, gC2_, gC3_, gC4_, gP_, gK_, gV_, gR_, gU_, fun j hj => hU.get (hrow j hj) (by simp; omega), hkx⟩, hOut_, hOuD_⟩ hW (lv_sub hl [2, 3, 4, 5, 6, 7] rfl))
      · first | exact absurd (show 1 = 0 from c_1013) (by decide) | exact absurd c_1013 (by decide)
    · first | exact absurd (show 1 ≠ 1 from c_1006) (by decide) | exact absurd c_1006 (by decide)
  · have hRI := hRI.kept hU1 (fun k hk => by have := hK1 k hk; omega)
    obtain ⟨gx, rb, tu, gO, gF, gT, gE, gD, gC0, gC1, gC2, gC3, gC4, gP, gK, gV, gR, gU, hrow, hkx⟩ := hRI
    obtain ⟨pr, hpn, ⟨x1, hx1, e1⟩, h0⟩ := hq
    refine W.eq (g2 := F0 m 986 ls [.int (nI 2)]) rfl ?_
    refine lv_istore (lv' := [(6, .int (nI 2)), (0, .ref b), (1, .ref (ad 0)), (2, .ref (ad 55)), (3, .ref (ad 74)), (4, .ref (ad 75)), (5, .int (nI i))]) S.1 S.2.1 dL_law_986 hl (by decide) rfl (fun ls hl => ?_)
    refine lv_aload_n S.1 S.2.1 dL_law_988 rfl (lv_at hl 3 rfl) ?_
    refine lv_aload_n S.1 S.2.1 dL_law_989 rfl (lv_at hl 1 rfl) ?_
    refine lv_iload S.1 S.2.1 dL_law_990 (lv_at hl 6 rfl) ?_
    refine lv_iconst (v := nI 1) S.1 S.2.1 dL_law_992 (by decide) ?_
    refine jn_add S dL_law_993 ?_
    refine j_sld (x := nI x1) S hX hbl hbA hW (vp_in_nI (by omega) (by omega)) (nI_clamp (by omega)) (e1) dL_law_994 ?_
    refine j_callV (k := 55) (ci := 11) (q := (RX12, TX12, 17)) (As := [.int (nI x1)]) (rest := []) S hK hA hW (c_X12_chanceBottom_b2 l D cy ad th n nc sd se lv cs wf wt x1 gO gE gP gC0 gC1 gC2 gC3 gC4 gF gT   (by omega) (by omega) (hse2) (by omega) (hcs) (hWB.1) (hWB.2) (by omega) (by rw [← sum_pr hpn]; exact h0)) (jgo wm_L_187) yk_X12_chanceBottom gO rfl rfl ⟨⟨rfl, rfl⟩, by decide, by decide⟩ rfl hl.1 rfl (Nat.le_of_ble_eq_true rfl) dL_law_995 ⟨by show (cells + 2) + 0 ≤ 601024; omega, by show (slots + 12) + 0 ≤ 7293033; omega⟩ (fun v w_ H locs hp hW => ?_)
    obtain ⟨rfl, hU1, hN1⟩ := hp
    have hU : jU w w_ [55, 56, 57, 58, 59, 60, 61, 62, 63, 64, 65, 66, 71, 72, 73, 74, 75] := jU.mono hU1 (by first | decide | (simp; done) | (simp; omega))
    have gF_ := hU1.get gF (by first | decide | (simp; done) | (simp; omega))
    have gT_ := hU1.get gT (by first | decide | (simp; done) | (simp; omega))
    have gE_ := hU1.get gE (by first | decide | (simp; done) | (simp; omega))
    have gD_ := hU1.get gD (by first | decide | (simp; done) | (simp; omega))
    have gC0_ := hU1.get gC0 (by first | decide | (simp; done) | (simp; omega))
    have gC1_ := hU1.get gC1 (by first | decide | (simp; done) | (simp; omega))
    have gC2_ := hU1.get gC2 (by first | decide | (simp; done) | (simp; omega))
    have gC3_ := hU1.get gC3 (by first | decide | (simp; done) | (simp; omega))
    have gC4_ := hU1.get gC4 (by first | decide | (simp; done) | (simp; omega))
    have gP_ := hU1.get gP (by first | decide | (simp; done) | (simp; omega))
    have gK_ := hU1.get gK (by first | decide | (simp; done) | (simp; omega))
    have gV_ := hU1.get gV (by first | decide | (simp; done) | (simp; omega))
    have gR_ := hU1.get gR (by first | decide | (simp; done) | (simp; omega))
    have gU_ := hU1.get gU (by first | decide | (simp; done) | (simp; omega))
    have hOut_ := hU1.get hOut (by first | decide | (simp; done) | (simp; omega))
    have hOuD_ := hU1.get hOuD (by first | decide | (simp; done) | (simp; omega))
    have gO_ : w_[55]? = some (ad 55, .inr (11, [.int (nI 2), .ref (ad 56), .ref (ad 57), .ref (ad 58), .ref (ad 59), .ref (ad 60), .ref (ad 61), .ref (ad 62), .ref (ad 63), .ref (ad 64), .ref (ad 65), .int (nI n), .int (nI nc), .ref (ad 66), .ref (ad 71), .ref (ad 72), .ref (ad 73)])) := hN1
    clear hU1 hN1
    refine W.eq (g2 := F0 m 998 ls [.long (lN 0)]) rfl ?_
    refine lv_lstore (lv' := [(7, .long (lN 0)), (6, .int (nI 2)), (0, .ref b), (1, .ref (ad 0)), (2, .ref (ad 55)), (3, .ref (ad 74)), (4, .ref (ad 75)), (5, .int (nI i))]) S.1 S.2.1 dL_law_998 hl (by decide) rfl (fun ls hl => ?_)
    refine lv_aload_n S.1 S.2.1 dL_law_1000 rfl (lv_at hl 4 rfl) ?_
    refine j_callV (k := 55) (ci := 11) (q := (RX12, TX12, 17)) (As := []) (rest := []) S hK hA hW (c_X12_thrown l D cy ad 2 n nc gO_   ) (jgo wm_L_136) yk_X12_thrown gO_ rfl rfl ⟨⟨rfl, rfl⟩, by decide, by decide⟩ rfl hl.1 rfl (Nat.le_of_ble_eq_true rfl) dL_law_1001 ⟨by show (cells + 2) + 0 ≤ 601024; omega, by show (slots + 12) + 0 ≤ 7293033; omega⟩ (fun v u H locs hp hW => ?_)
    obtain ⟨rfl, rfl⟩ := hp
    refine W.eq (g2 := F0 m 1004 ls [.int (nI 2)]) rfl ?_
    refine lv_iload S.1 S.2.1 dL_law_1004 (lv_at hl 1 rfl) ?_
    refine jn_cmp_eq (tgt := 1011) S (by omega) (by omega) dL_law_1006 (by decide) (fun c_1006 => ?_) (fun c_1006 => ?_)
    · refine lv_iload S.1 S.2.1 dL_law_1011 (lv_at hl 1 rfl) ?_
      refine jn_if_ne (tgt := 1027) S (by omega) dL_law_1013 (by decide) (fun c_1013 => ?_) (fun c_1013 => ?_)
      · refine lv_goto (tgt := 2382) S.1 S.2.1 dL_law_1027 (by decide) ?_
        exact W.widen (by omega) (by omega) (kk _ _ _ _ ⟨_, _, _, _, _, _, _, _, _, _, _, _, _, _, hPI, (hCI.kept hU (by first | decide | (intro k hk; simp at hk; omega))), ⟨gx, _, _, gO_, gF_, gT_, gE_, gD_, gC0_, gC1_, gC2_, gC3_, gC4_, gP_, gK_, gV_, gR_, gU_, fun j hj => hU.get (hrow j hj) (by simp; omega), hkx⟩, hOut_, hOuD_⟩ hW (lv_sub hl [2, 3, 4, 5, 6, 7] rfl))
      · first | exact absurd (show 2 = 0 from c_1013) (by decide) | exact absurd c_1013 (by decide)
    · first | exact absurd (show 2 ≠ 2 from c_1006) (by decide) | exact absurd c_1006 (by decide)
/-- the law's projected -/
theorem s_projected {p : Program} {l : Launch} {e : Env} {s : State} {m : MethodId} {args : Array Value} {below : List Frame} {meth : Method} {c : Code} {Q : State → Prop} {D : va_G} {cy : Nat → ClassId} {A : Nat → Prop} {x0 : Cond} {ad : Nat → Nat} {b L : Nat} {xs : Nat → Int32} {i : Nat} {w : va_W} {H : Heap} {locs : List Loc} {ls : Array Slot} {cells slots : Nat} (htr : l.stackTraces = false) (C : LX p s m c args D cy A b L xs x0) (hI : INV ad cy w) (hW : jW D A s.heap w H locs) (hl : lv_has ls 10 [(0, .ref b), (1, .ref (ad 0)), (2, .ref (ad 55)), (3, .ref (ad 74)), (4, .ref (ad 75)), (5, .int (nI i))]) (hi : i + 5 ≤ L) (hL : L ≤ 2560) (hc : cells + 10 ≤ 601024) (hs : slots + 64 ≤ 7293033) (kk : LK p l e s m args below meth c Q D cy A ad b i cells slots) : W p l e room_1 s m args below meth c H locs cells slots Q (F0 m 1030 ls []) := by
  obtain ⟨S, hK, hA, hX, hbl, hbA, hx, hnx⟩ := C
  obtain ⟨n, wf, wt, od, sd, se, nc, lv, cs, kv, kx, th, og, ogd, hPI, hCI, hRI, hOut, hOuD⟩ := hI
  have hPI0 := hPI
  obtain ⟨hn, hsdn, hse2, hnc, hlvn, hcs, hkI, hod, hodn, hinj⟩ := hPI0
  have hp2 := two_pow10 hn
  have hpt := Nat.two_pow_pos n
  have hWB := hCI.wb
  refine lv_aload_n S.1 S.2.1 dL_law_1030 rfl (lv_at hl 1 rfl) ?_
  refine lv_aload_n S.1 S.2.1 dL_law_1031 rfl (lv_at hl 0 rfl) ?_
  refine lv_iload S.1 S.2.1 dL_law_1032 (lv_at hl 5 rfl) ?_
  refine lv_iconst (v := nI 1) S.1 S.2.1 dL_law_1034 (by decide) ?_
  refine jn_add S dL_law_1035 ?_
  refine j_sld (x := xs (i + 1)) S hX hbl hbA hW (vp_in_nI (by omega) (by omega)) (nI_clamp (by omega)) (rfl) dL_law_1036 ?_
  refine lv_aload_n S.1 S.2.1 dL_law_1037 rfl (lv_at hl 3 rfl) ?_
  refine j_callH (As := [.ref (ad 0), .int (xs (i + 1)), .ref (ad 74)]) (rest := []) S hK hA hW hx hnx (h_projected l htr D cy ad n wf wt od sd se nc lv cs kv kx (xs (i + 1)) og ogd hPI hCI hOut hOuD) (jgo wm_L_188) yk_L_projected ⟨⟨rfl, rfl⟩, by decide, by decide⟩ rfl hl.1 rfl (Nat.le_of_ble_eq_true rfl) dL_law_1038 ⟨by show cells + 1 ≤ 601024; omega, by show slots + 6 ≤ 7293033; omega⟩ (fun v w H locs hp hW => ?_)
  rcases hp with ⟨y1, rfl, hq0, hq1, ⟨K1, hU1, hK1⟩, hCI, hOut, hOuD⟩ | ⟨rfl, hq, ⟨K1, hU1, hK1⟩, hCI, hOut, hOuD⟩
  · have hRI := hRI.kept hU1 (fun k hk => by have := hK1 k hk; omega)
    obtain ⟨gx, rb, tu, gO, gF, gT, gE, gD, gC0, gC1, gC2, gC3, gC4, gP, gK, gV, gR, gU, hrow, hkx⟩ := hRI
    refine W.eq (g2 := F0 m 1041 ls [.int (nI 0)]) rfl ?_
    refine lv_istore (lv' := [(6, .int (nI 0)), (0, .ref b), (1, .ref (ad 0)), (2, .ref (ad 55)), (3, .ref (ad 74)), (4, .ref (ad 75)), (5, .int (nI i))]) S.1 S.2.1 dL_law_1041 hl (by decide) rfl (fun ls hl => ?_)
    refine lv_aload_n S.1 S.2.1 dL_law_1043 rfl (lv_at hl 3 rfl) ?_
    refine lv_aload_n S.1 S.2.1 dL_law_1044 rfl (lv_at hl 1 rfl) ?_
    refine lv_iload S.1 S.2.1 dL_law_1045 (lv_at hl 6 rfl) ?_
    refine lv_iconst (v := nI 1) S.1 S.2.1 dL_law_1047 (by decide) ?_
    refine jn_add S dL_law_1048 ?_
    refine j_sld (x := nI y1) S hX hbl hbA hW (vp_in_nI (by omega) (by omega)) (nI_clamp (by omega)) (hq1) dL_law_1049 ?_
    refine j_callV (k := 55) (ci := 11) (q := (RX12, TX12, 17)) (As := [.int (nI y1)]) (rest := []) S hK hA hW (c_X12_projected_ok l D cy ad th n nc sd se lv cs rb y1 gO gE gP gC0 gC1 gC2 gC3 gC4 gR   (by omega) (by omega) (hse2) (by omega) (hcs) (by omega)) (jgo wm_L_190) yk_X12_projected gO rfl rfl ⟨⟨rfl, rfl⟩, by decide, by decide⟩ rfl hl.1 rfl (Nat.le_of_ble_eq_true rfl) dL_law_1050 ⟨by show (cells + 1) + 0 ≤ 601024; omega, by show (slots + 6) + 0 ≤ 7293033; omega⟩ (fun v w_ H locs hp hW => ?_)
    obtain ⟨rb1_1050, rfl, hU1, hN1, hN2⟩ := hp
    have hU : jU w w_ [55, 56, 57, 58, 59, 60, 61, 62, 63, 64, 65, 66, 71, 72, 73, 74, 75] := jU.mono hU1 (by first | decide | (simp; done) | (simp; omega))
    have gF_ := hU1.get gF (by first | decide | (simp; done) | (simp; omega))
    have gT_ := hU1.get gT (by first | decide | (simp; done) | (simp; omega))
    have gE_ := hU1.get gE (by first | decide | (simp; done) | (simp; omega))
    have gD_ := hU1.get gD (by first | decide | (simp; done) | (simp; omega))
    have gC0_ := hU1.get gC0 (by first | decide | (simp; done) | (simp; omega))
    have gC1_ := hU1.get gC1 (by first | decide | (simp; done) | (simp; omega))
    have gC2_ := hU1.get gC2 (by first | decide | (simp; done) | (simp; omega))
    have gC3_ := hU1.get gC3 (by first | decide | (simp; done) | (simp; omega))
    have gC4_ := hU1.get gC4 (by first | decide | (simp; done) | (simp; omega))
    have gP_ := hU1.get gP (by first | decide | (simp; done) | (simp; omega))
    have gK_ := hU1.get gK (by first | decide | (simp; done) | (simp; omega))
    have gV_ := hU1.get gV (by first | decide | (simp; done) | (simp; omega))
    have gU_ := hU1.get gU (by first | decide | (simp; done) | (simp; omega))
    have hOut_ := hU1.get hOut (by first | decide | (simp; done) | (simp; omega))
    have hOuD_ := hU1.get hOuD (by first | decide | (simp; done) | (simp; omega))
    have gO_ : w_[55]? = some (ad 55, .inr (11, [.int (nI 0), .ref (ad 56), .ref (ad 57), .ref (ad 58), .ref (ad 59), .ref (ad 60), .ref (ad 61), .ref (ad 62), .ref (ad 63), .ref (ad 64), .ref (ad 65), .int (nI n), .int (nI nc), .ref (ad 66), .ref (ad 71), .ref (ad 72), .ref (ad 73)])) := hN1
    have gR_ : w_[72]? = some (ad 72, .inl (cy 3, 1024, .inl (bf rb1_1050))) := hN2
    clear hU1 hN1 hN2
    refine W.eq (g2 := F0 m 1053 ls [.long (lN (cnt (prjS (mdc sd se nc cs lv) y1 (2 ^ n)) 1024))]) rfl ?_
    refine lv_topl_to (y := lN (cnt (prjS (mdl n sd se nc cs lv) y1 (2 ^ n)) 1024)) (congrArg lN prj_ref.symm) ?_
    refine lv_lstore (lv' := [(7, .long (lN (cnt (prjS (mdl n sd se nc cs lv) y1 (2 ^ n)) 1024))), (6, .int (nI 0)), (0, .ref b), (1, .ref (ad 0)), (2, .ref (ad 55)), (3, .ref (ad 74)), (4, .ref (ad 75)), (5, .int (nI i))]) S.1 S.2.1 dL_law_1053 hl (by decide) rfl (fun ls hl => ?_)
    refine lv_aload_n S.1 S.2.1 dL_law_1055 rfl (lv_at hl 4 rfl) ?_
    refine j_callV (k := 55) (ci := 11) (q := (RX12, TX12, 17)) (As := []) (rest := []) S hK hA hW (c_X12_thrown l D cy ad 0 n nc gO_   ) (jgo wm_L_136) yk_X12_thrown gO_ rfl rfl ⟨⟨rfl, rfl⟩, by decide, by decide⟩ rfl hl.1 rfl (Nat.le_of_ble_eq_true rfl) dL_law_1056 ⟨by show (cells + 1) + 0 ≤ 601024; omega, by show (slots + 6) + 0 ≤ 7293033; omega⟩ (fun v u H locs hp hW => ?_)
    obtain ⟨rfl, rfl⟩ := hp
    refine W.eq (g2 := F0 m 1059 ls [.int (nI 0)]) rfl ?_
    refine lv_iload S.1 S.2.1 dL_law_1059 (lv_at hl 1 rfl) ?_
    refine jn_cmp_eq (tgt := 1066) S (by omega) (by omega) dL_law_1061 (by decide) (fun c_1061 => ?_) (fun c_1061 => ?_)
    · refine lv_iload S.1 S.2.1 dL_law_1066 (lv_at hl 1 rfl) ?_
      refine jn_if_ne (tgt := 1082) S (by omega) dL_law_1068 (by decide) (fun c_1068 => ?_) (fun c_1068 => ?_)
      · first | exact absurd (show 0 ≠ 0 from c_1068) (by decide) | exact absurd c_1068 (by decide)
      · refine lv_aload_n S.1 S.2.1 dL_law_1071 rfl (lv_at hl 5 rfl) ?_
        refine lv_iconst (v := nI 0) S.1 S.2.1 dL_law_1072 (by decide) ?_
        refine j_lald (x := lN (cnt (prjS (mdl n sd se nc cs lv) y1 (2 ^ n)) 1024)) S hK hW hOut_ (vp_in_nI (by omega) (by omega)) (nI_clamp (by omega)) (if_pos rfl) dL_law_1073 ?_
        refine lv_lload S.1 S.2.1 dL_law_1074 (lv_at hl 0 rfl) ?_
        refine jl_eq (tgt := 1082) S dL_law_1076 dL_law_1077 (by decide) (fun c_1077 => ?_) (fun c_1077 => ?_)
        · refine lv_goto (tgt := 2382) S.1 S.2.1 dL_law_1082 (by decide) ?_
          exact W.widen (by omega) (by omega) (kk _ _ _ _ ⟨_, _, _, _, _, _, _, _, _, _, _, _, _, _, hPI, (hCI.kept hU (by first | decide | (intro k hk; simp at hk; omega))), ⟨gx, _, _, gO_, gF_, gT_, gE_, gD_, gC0_, gC1_, gC2_, gC3_, gC4_, gP_, gK_, gV_, gR_, gU_, fun j hj => hU.get (hrow j hj) (by simp; omega), hkx⟩, hOut_, hOuD_⟩ hW (lv_sub hl [2, 3, 4, 5, 6, 7] rfl))
        · exact absurd rfl c_1077
    · first | exact absurd (show 0 ≠ 0 from c_1061) (by decide) | exact absurd c_1061 (by decide)
  · have hRI := hRI.kept hU1 (fun k hk => by have := hK1 k hk; omega)
    obtain ⟨gx, rb, tu, gO, gF, gT, gE, gD, gC0, gC1, gC2, gC3, gC4, gP, gK, gV, gR, gU, hrow, hkx⟩ := hRI
    refine W.eq (g2 := F0 m 1041 ls [.int (nI 1)]) rfl ?_
    refine lv_istore (lv' := [(6, .int (nI 1)), (0, .ref b), (1, .ref (ad 0)), (2, .ref (ad 55)), (3, .ref (ad 74)), (4, .ref (ad 75)), (5, .int (nI i))]) S.1 S.2.1 dL_law_1041 hl (by decide) rfl (fun ls hl => ?_)
    refine lv_aload_n S.1 S.2.1 dL_law_1043 rfl (lv_at hl 3 rfl) ?_
    refine lv_aload_n S.1 S.2.1 dL_law_1044 rfl (lv_at hl 1 rfl) ?_
    refine lv_iload S.1 S.2.1 dL_law_1045 (lv_at hl 6 rfl) ?_
    refine lv_iconst (v := nI 1) S.1 S.2.1 dL_law_1047 (by decide) ?_
    refine jn_add S dL_law_1048 ?_
    refine j_sld (x := xs (i + 1)) S hX hbl hbA hW (vp_in_nI (by omega) (by omega)) (nI_clamp (by omega)) (rfl) dL_law_1049 ?_
    refine j_callV (k := 55) (ci := 11) (q := (RX12, TX12, 17)) (As := [.int (xs (i + 1))]) (rest := []) S hK hA hW (c_X12_projected_b l D cy ad th n nc (xs (i + 1)) gO   (by omega) (hq)) (jgo wm_L_190) yk_X12_projected gO rfl rfl ⟨⟨rfl, rfl⟩, by decide, by decide⟩ rfl hl.1 rfl (Nat.le_of_ble_eq_true rfl) dL_law_1050 ⟨by show (cells + 1) + 0 ≤ 601024; omega, by show (slots + 6) + 0 ≤ 7293033; omega⟩ (fun v w_ H locs hp hW => ?_)
    obtain ⟨rfl, hU1, hN1⟩ := hp
    have hU : jU w w_ [55, 56, 57, 58, 59, 60, 61, 62, 63, 64, 65, 66, 71, 72, 73, 74, 75] := jU.mono hU1 (by first | decide | (simp; done) | (simp; omega))
    have gF_ := hU1.get gF (by first | decide | (simp; done) | (simp; omega))
    have gT_ := hU1.get gT (by first | decide | (simp; done) | (simp; omega))
    have gE_ := hU1.get gE (by first | decide | (simp; done) | (simp; omega))
    have gD_ := hU1.get gD (by first | decide | (simp; done) | (simp; omega))
    have gC0_ := hU1.get gC0 (by first | decide | (simp; done) | (simp; omega))
    have gC1_ := hU1.get gC1 (by first | decide | (simp; done) | (simp; omega))
    have gC2_ := hU1.get gC2 (by first | decide | (simp; done) | (simp; omega))
    have gC3_ := hU1.get gC3 (by first | decide | (simp; done) | (simp; omega))
    have gC4_ := hU1.get gC4 (by first | decide | (simp; done) | (simp; omega))
    have gP_ := hU1.get gP (by first | decide | (simp; done) | (simp; omega))
    have gK_ := hU1.get gK (by first | decide | (simp; done) | (simp; omega))
    have gV_ := hU1.get gV (by first | decide | (simp; done) | (simp; omega))
    have gR_ := hU1.get gR (by first | decide | (simp; done) | (simp; omega))
    have gU_ := hU1.get gU (by first | decide | (simp; done) | (simp; omega))
    have hOut_ := hU1.get hOut (by first | decide | (simp; done) | (simp; omega))
    have hOuD_ := hU1.get hOuD (by first | decide | (simp; done) | (simp; omega))
    have gO_ : w_[55]? = some (ad 55, .inr (11, [.int (nI 1), .ref (ad 56), .ref (ad 57), .ref (ad 58), .ref (ad 59), .ref (ad 60), .ref (ad 61), .ref (ad 62), .ref (ad 63), .ref (ad 64), .ref (ad 65), .int (nI n), .int (nI nc), .ref (ad 66), .ref (ad 71), .ref (ad 72), .ref (ad 73)])) := hN1
    clear hU1 hN1
    refine W.eq (g2 := F0 m 1053 ls [.long (lN 0)]) rfl ?_
    refine lv_lstore (lv' := [(7, .long (lN 0)), (6, .int (nI 1)), (0, .ref b), (1, .ref (ad 0)), (2, .ref (ad 55)), (3, .ref (ad 74)), (4, .ref (ad 75)), (5, .int (nI i))]) S.1 S.2.1 dL_law_1053 hl (by decide) rfl (fun ls hl => ?_)
    refine lv_aload_n S.1 S.2.1 dL_law_1055 rfl (lv_at hl 4 rfl) ?_
    refine j_callV (k := 55) (ci := 11) (q := (RX12, TX12, 17)) (As := []) (rest := []) S hK hA hW (c_X12_thrown l D cy ad 1 n nc gO_   ) (jgo wm_L_136) yk_X12_thrown gO_ rfl rfl ⟨⟨rfl, rfl⟩, by decide, by decide⟩ rfl hl.1 rfl (Nat.le_of_ble_eq_true rfl) dL_law_1056 ⟨by show (cells + 1) + 0 ≤ 601024; omega, by show (slots + 6) + 0 ≤ 7293033; omega⟩ (fun v u H locs hp hW => ?_)
    obtain ⟨rfl, rfl⟩ := hp
    refine W.eq (g2 := F0 m 1059 ls [.int (nI 1)]) rfl ?_
    refine lv_iload S.1 S.2.1 dL_law_1059 (lv_at hl 1 rfl) ?_
    refine jn_cmp_eq (tgt := 1066) S (by omega) (by omega) dL_law_1061 (by decide) (fun c_1061 => ?_) (fun c_1061 => ?_)
    · refine lv_iload S.1 S.2.1 dL_law_1066 (lv_at hl 1 rfl) ?_
      refine jn_if_ne (tgt := 1082) S (by omega) dL_law_1068 (by decide) (fun c_1068 => ?_) (fun c_1068 => ?_)
      · refine lv_goto (tgt := 2382) S.1 S.2.1 dL_law_1082 (by decide) ?_
        exact W.widen (by omega) (by omega) (kk _ _ _ _ ⟨_, _, _, _, _, _, _, _, _, _, _, _, _, _, hPI, (hCI.kept hU (by first | decide | (intro k hk; simp at hk; omega))), ⟨gx, _, _, gO_, gF_, gT_, gE_, gD_, gC0_, gC1_, gC2_, gC3_, gC4_, gP_, gK_, gV_, gR_, gU_, fun j hj => hU.get (hrow j hj) (by simp; omega), hkx⟩, hOut_, hOuD_⟩ hW (lv_sub hl [2, 3, 4, 5, 6, 7] rfl))
      · first | exact absurd (show 1 = 0 from c_1068) (by decide) | exact absurd c_1068 (by decide)
    · first | exact absurd (show 1 ≠ 1 from c_1061) (by decide) | exact absurd c_1061 (by decide)
/-- the law's implied -/
theorem s_implied {p : Program} {l : Launch} {e : Env} {s : State} {m : MethodId} {args : Array Value} {below : List Frame} {meth : Method} {c : Code} {Q : State → Prop} {D : va_G} {cy : Nat → ClassId} {A : Nat → Prop} {x0 : Cond} {ad : Nat → Nat} {b L : Nat} {xs : Nat → Int32} {i : Nat} {w : va_W} {H : Heap} {locs : List Loc} {ls : Array Slot} {cells slots : Nat} (htr : l.stackTraces = false) (C : LX p s m c args D cy A b L xs x0) (hI : INV ad cy w) (hW : jW D A s.heap w H locs) (hl : lv_has ls 10 [(0, .ref b), (1, .ref (ad 0)), (2, .ref (ad 55)), (3, .ref (ad 74)), (4, .ref (ad 75)), (5, .int (nI i))]) (hi : i + 5 ≤ L) (hL : L ≤ 2560) (hc : cells + 10 ≤ 601024) (hs : slots + 64 ≤ 7293033) (kk : LK p l e s m args below meth c Q D cy A ad b i cells slots) : W p l e room_1 s m args below meth c H locs cells slots Q (F0 m 1085 ls []) := by
  obtain ⟨S, hK, hA, hX, hbl, hbA, hx, hnx⟩ := C
  obtain ⟨n, wf, wt, od, sd, se, nc, lv, cs, kv, kx, th, og, ogd, hPI, hCI, hRI, hOut, hOuD⟩ := hI
  have hPI0 := hPI
  obtain ⟨hn, hsdn, hse2, hnc, hlvn, hcs, hkI, hod, hodn, hinj⟩ := hPI0
  have hp2 := two_pow10 hn
  have hpt := Nat.two_pow_pos n
  have hWB := hCI.wb
  refine lv_aload_n S.1 S.2.1 dL_law_1085 rfl (lv_at hl 1 rfl) ?_
  refine lv_aload_n S.1 S.2.1 dL_law_1086 rfl (lv_at hl 0 rfl) ?_
  refine lv_iload S.1 S.2.1 dL_law_1087 (lv_at hl 5 rfl) ?_
  refine lv_iconst (v := nI 1) S.1 S.2.1 dL_law_1089 (by decide) ?_
  refine jn_add S dL_law_1090 ?_
  refine j_sld (x := xs (i + 1)) S hX hbl hbA hW (vp_in_nI (by omega) (by omega)) (nI_clamp (by omega)) (rfl) dL_law_1091 ?_
  refine lv_aload_n S.1 S.2.1 dL_law_1092 rfl (lv_at hl 3 rfl) ?_
  refine j_callH (As := [.ref (ad 0), .int (xs (i + 1)), .ref (ad 74)]) (rest := []) S hK hA hW hx hnx (h_implied l htr D cy ad n wf wt od sd se nc lv cs kv kx (xs (i + 1)) og ogd hPI hCI hOut hOuD) (jgo wm_L_191) yk_L_implied ⟨⟨rfl, rfl⟩, by decide, by decide⟩ rfl hl.1 rfl (Nat.le_of_ble_eq_true rfl) dL_law_1093 ⟨by show cells + 1 ≤ 601024; omega, by show slots + 6 ≤ 7293033; omega⟩ (fun v w H locs hp hW => ?_)
  rcases hp with ⟨x1, rfl, hq0, hq1, ⟨K1, hU1, hK1⟩, hCI, hOut, hOuD⟩ | ⟨rfl, hq, ⟨K1, hU1, hK1⟩, hCI, hOut, hOuD⟩
  · have hRI := hRI.kept hU1 (fun k hk => by have := hK1 k hk; omega)
    obtain ⟨gx, rb, tu, gO, gF, gT, gE, gD, gC0, gC1, gC2, gC3, gC4, gP, gK, gV, gR, gU, hrow, hkx⟩ := hRI
    refine W.eq (g2 := F0 m 1096 ls [.int (nI 0)]) rfl ?_
    refine lv_istore (lv' := [(6, .int (nI 0)), (0, .ref b), (1, .ref (ad 0)), (2, .ref (ad 55)), (3, .ref (ad 74)), (4, .ref (ad 75)), (5, .int (nI i))]) S.1 S.2.1 dL_law_1096 hl (by decide) rfl (fun ls hl => ?_)
    refine lv_aload_n S.1 S.2.1 dL_law_1098 rfl (lv_at hl 3 rfl) ?_
    refine lv_aload_n S.1 S.2.1 dL_law_1099 rfl (lv_at hl 1 rfl) ?_
    refine lv_iload S.1 S.2.1 dL_law_1100 (lv_at hl 6 rfl) ?_
    refine lv_iconst (v := nI 1) S.1 S.2.1 dL_law_1102 (by decide) ?_
    refine jn_add S dL_law_1103 ?_
    refine j_sld (x := nI x1) S hX hbl hbA hW (vp_in_nI (by omega) (by omega)) (nI_clamp (by omega)) (hq1) dL_law_1104 ?_
    refine j_callV (k := 55) (ci := 11) (q := (RX12, TX12, 17)) (As := [.int (nI x1)]) (rest := []) S hK hA hW (c_X12_implied_ok l D cy ad th n nc sd se lv cs x1 gO gE gP gC0 gC1 gC2 gC3 gC4   (by omega) (by omega) (hse2) (by omega) (hcs) (by omega)) (jgo wm_L_193) yk_X12_implied gO rfl rfl ⟨⟨rfl, rfl⟩, by decide, by decide⟩ rfl hl.1 rfl (Nat.le_of_ble_eq_true rfl) dL_law_1105 ⟨by show (cells + 1) + 0 ≤ 601024; omega, by show (slots + 6) + 0 ≤ 7293033; omega⟩ (fun v w_ H locs hp hW => ?_)
    obtain ⟨rfl, hU1, hN1⟩ := hp
    have hU : jU w w_ [55, 56, 57, 58, 59, 60, 61, 62, 63, 64, 65, 66, 71, 72, 73, 74, 75] := jU.mono hU1 (by first | decide | (simp; done) | (simp; omega))
    have gF_ := hU1.get gF (by first | decide | (simp; done) | (simp; omega))
    have gT_ := hU1.get gT (by first | decide | (simp; done) | (simp; omega))
    have gE_ := hU1.get gE (by first | decide | (simp; done) | (simp; omega))
    have gD_ := hU1.get gD (by first | decide | (simp; done) | (simp; omega))
    have gC0_ := hU1.get gC0 (by first | decide | (simp; done) | (simp; omega))
    have gC1_ := hU1.get gC1 (by first | decide | (simp; done) | (simp; omega))
    have gC2_ := hU1.get gC2 (by first | decide | (simp; done) | (simp; omega))
    have gC3_ := hU1.get gC3 (by first | decide | (simp; done) | (simp; omega))
    have gC4_ := hU1.get gC4 (by first | decide | (simp; done) | (simp; omega))
    have gP_ := hU1.get gP (by first | decide | (simp; done) | (simp; omega))
    have gK_ := hU1.get gK (by first | decide | (simp; done) | (simp; omega))
    have gV_ := hU1.get gV (by first | decide | (simp; done) | (simp; omega))
    have gR_ := hU1.get gR (by first | decide | (simp; done) | (simp; omega))
    have gU_ := hU1.get gU (by first | decide | (simp; done) | (simp; omega))
    have hOut_ := hU1.get hOut (by first | decide | (simp; done) | (simp; omega))
    have hOuD_ := hU1.get hOuD (by first | decide | (simp; done) | (simp; omega))
    have gO_ : w_[55]? = some (ad 55, .inr (11, [.int (nI 0), .ref (ad 56), .ref (ad 57), .ref (ad 58), .ref (ad 59), .ref (ad 60), .ref (ad 61), .ref (ad 62), .ref (ad 63), .ref (ad 64), .ref (ad 65), .int (nI n), .int (nI nc), .ref (ad 66), .ref (ad 71), .ref (ad 72), .ref (ad 73)])) := hN1
    clear hU1 hN1
    refine W.eq (g2 := F0 m 1108 ls [.int (nI (impC (anyB (fun d => mdc sd se nc cs lv d && !d.testBit x1) (2 ^ n)) (anyB (fun d => mdc sd se nc cs lv d && d.testBit x1) (2 ^ n))))]) rfl ?_
    refine lv_topi_to (y := nI (impC (anyB (fun d => mdl n sd se nc cs lv d && !d.testBit x1) (2 ^ n)) (anyB (fun d => mdl n sd se nc cs lv d && d.testBit x1) (2 ^ n)))) (congrArg nI imp_ref.symm) ?_
    refine lv_istore (lv' := [(7, .int (nI (impC (anyB (fun d => mdl n sd se nc cs lv d && !d.testBit x1) (2 ^ n)) (anyB (fun d => mdl n sd se nc cs lv d && d.testBit x1) (2 ^ n))))), (6, .int (nI 0)), (0, .ref b), (1, .ref (ad 0)), (2, .ref (ad 55)), (3, .ref (ad 74)), (4, .ref (ad 75)), (5, .int (nI i))]) S.1 S.2.1 dL_law_1108 hl (by decide) rfl (fun ls hl => ?_)
    refine lv_aload_n S.1 S.2.1 dL_law_1110 rfl (lv_at hl 4 rfl) ?_
    refine j_callV (k := 55) (ci := 11) (q := (RX12, TX12, 17)) (As := []) (rest := []) S hK hA hW (c_X12_thrown l D cy ad 0 n nc gO_   ) (jgo wm_L_136) yk_X12_thrown gO_ rfl rfl ⟨⟨rfl, rfl⟩, by decide, by decide⟩ rfl hl.1 rfl (Nat.le_of_ble_eq_true rfl) dL_law_1111 ⟨by show (cells + 1) + 0 ≤ 601024; omega, by show (slots + 6) + 0 ≤ 7293033; omega⟩ (fun v u H locs hp hW => ?_)
    obtain ⟨rfl, rfl⟩ := hp
    refine W.eq (g2 := F0 m 1114 ls [.int (nI 0)]) rfl ?_
    refine lv_iload S.1 S.2.1 dL_law_1114 (lv_at hl 1 rfl) ?_
    refine jn_cmp_eq (tgt := 1121) S (by omega) (by omega) dL_law_1116 (by decide) (fun c_1116 => ?_) (fun c_1116 => ?_)
    · refine lv_iload S.1 S.2.1 dL_law_1121 (lv_at hl 1 rfl) ?_
      refine jn_if_ne (tgt := 1138) S (by omega) dL_law_1123 (by decide) (fun c_1123 => ?_) (fun c_1123 => ?_)
      · first | exact absurd (show 0 ≠ 0 from c_1123) (by decide) | exact absurd c_1123 (by decide)
      · refine lv_aload_n S.1 S.2.1 dL_law_1126 rfl (lv_at hl 5 rfl) ?_
        refine lv_iconst (v := nI 0) S.1 S.2.1 dL_law_1127 (by decide) ?_
        refine j_lald (x := (nI (impC (anyB (fun d => mdl n sd se nc cs lv d && !d.testBit x1) (2 ^ n)) (anyB (fun d => mdl n sd se nc cs lv d && d.testBit x1) (2 ^ n)))).toInt64) S hK hW hOut_ (vp_in_nI (by omega) (by omega)) (nI_clamp (by omega)) (if_pos rfl) dL_law_1128 ?_
        refine lv_iload S.1 S.2.1 dL_law_1129 (lv_at hl 0 rfl) ?_
        refine lv_i2l (v := (nI (impC (anyB (fun d => mdl n sd se nc cs lv d && !d.testBit x1) (2 ^ n)) (anyB (fun d => mdl n sd se nc cs lv d && d.testBit x1) (2 ^ n)))).toInt64) S.1 S.2.1 dL_law_1131 (rfl) ?_
        refine jl_eq (tgt := 1138) S dL_law_1132 dL_law_1133 (by decide) (fun c_1133 => ?_) (fun c_1133 => ?_)
        · refine lv_goto (tgt := 2382) S.1 S.2.1 dL_law_1138 (by decide) ?_
          exact W.widen (by omega) (by omega) (kk _ _ _ _ ⟨_, _, _, _, _, _, _, _, _, _, _, _, _, _, hPI, (hCI.kept hU (by first | decide | (intro k hk; simp at hk; omega))), ⟨gx, _, _, gO_, gF_, gT_, gE_, gD_, gC0_, gC1_, gC2_, gC3_, gC4_, gP_, gK_, gV_, gR_, gU_, fun j hj => hU.get (hrow j hj) (by simp; omega), hkx⟩, hOut_, hOuD_⟩ hW (lv_sub hl [2, 3, 4, 5, 6, 7] rfl))
        · exact absurd rfl c_1133
    · first | exact absurd (show 0 ≠ 0 from c_1116) (by decide) | exact absurd c_1116 (by decide)
  · have hRI := hRI.kept hU1 (fun k hk => by have := hK1 k hk; omega)
    obtain ⟨gx, rb, tu, gO, gF, gT, gE, gD, gC0, gC1, gC2, gC3, gC4, gP, gK, gV, gR, gU, hrow, hkx⟩ := hRI
    refine W.eq (g2 := F0 m 1096 ls [.int (nI 1)]) rfl ?_
    refine lv_istore (lv' := [(6, .int (nI 1)), (0, .ref b), (1, .ref (ad 0)), (2, .ref (ad 55)), (3, .ref (ad 74)), (4, .ref (ad 75)), (5, .int (nI i))]) S.1 S.2.1 dL_law_1096 hl (by decide) rfl (fun ls hl => ?_)
    refine lv_aload_n S.1 S.2.1 dL_law_1098 rfl (lv_at hl 3 rfl) ?_
    refine lv_aload_n S.1 S.2.1 dL_law_1099 rfl (lv_at hl 1 rfl) ?_
    refine lv_iload S.1 S.2.1 dL_law_1100 (lv_at hl 6 rfl) ?_
    refine lv_iconst (v := nI 1) S.1 S.2.1 dL_law_1102 (by decide) ?_
    refine jn_add S dL_law_1103 ?_
    refine j_sld (x := xs (i + 1)) S hX hbl hbA hW (vp_in_nI (by omega) (by omega)) (nI_clamp (by omega)) (rfl) dL_law_1104 ?_
    refine j_callV (k := 55) (ci := 11) (q := (RX12, TX12, 17)) (As := [.int (xs (i + 1))]) (rest := []) S hK hA hW (c_X12_implied_b l D cy ad th n nc (xs (i + 1)) gO   (by omega) (hq)) (jgo wm_L_193) yk_X12_implied gO rfl rfl ⟨⟨rfl, rfl⟩, by decide, by decide⟩ rfl hl.1 rfl (Nat.le_of_ble_eq_true rfl) dL_law_1105 ⟨by show (cells + 1) + 0 ≤ 601024; omega, by show (slots + 6) + 0 ≤ 7293033; omega⟩ (fun v w_ H locs hp hW => ?_)
    obtain ⟨rfl, hU1, hN1⟩ := hp
    have hU : jU w w_ [55, 56, 57, 58, 59, 60, 61, 62, 63, 64, 65, 66, 71, 72, 73, 74, 75] := jU.mono hU1 (by first | decide | (simp; done) | (simp; omega))
    have gF_ := hU1.get gF (by first | decide | (simp; done) | (simp; omega))
    have gT_ := hU1.get gT (by first | decide | (simp; done) | (simp; omega))
    have gE_ := hU1.get gE (by first | decide | (simp; done) | (simp; omega))
    have gD_ := hU1.get gD (by first | decide | (simp; done) | (simp; omega))
    have gC0_ := hU1.get gC0 (by first | decide | (simp; done) | (simp; omega))
    have gC1_ := hU1.get gC1 (by first | decide | (simp; done) | (simp; omega))
    have gC2_ := hU1.get gC2 (by first | decide | (simp; done) | (simp; omega))
    have gC3_ := hU1.get gC3 (by first | decide | (simp; done) | (simp; omega))
    have gC4_ := hU1.get gC4 (by first | decide | (simp; done) | (simp; omega))
    have gP_ := hU1.get gP (by first | decide | (simp; done) | (simp; omega))
    have gK_ := hU1.get gK (by first | decide | (simp; done) | (simp; omega))
    have gV_ := hU1.get gV (by first | decide | (simp; done) | (simp; omega))
    have gR_ := hU1.get gR (by first | decide | (simp; done) | (simp; omega))
    have gU_ := hU1.get gU (by first | decide | (simp; done) | (simp; omega))
    have hOut_ := hU1.get hOut (by first | decide | (simp; done) | (simp; omega))
    have hOuD_ := hU1.get hOuD (by first | decide | (simp; done) | (simp; omega))
    have gO_ : w_[55]? = some (ad 55, .inr (11, [.int (nI 1), .ref (ad 56), .ref (ad 57), .ref (ad 58), .ref (ad 59), .ref (ad 60), .ref (ad 61), .ref (ad 62), .ref (ad 63), .ref (ad 64), .ref (ad 65), .int (nI n), .int (nI nc), .ref (ad 66), .ref (ad 71), .ref (ad 72), .ref (ad 73)])) := hN1
    clear hU1 hN1
    refine W.eq (g2 := F0 m 1108 ls [.int (nI 0)]) rfl ?_
    refine lv_istore (lv' := [(7, .int (nI 0)), (6, .int (nI 1)), (0, .ref b), (1, .ref (ad 0)), (2, .ref (ad 55)), (3, .ref (ad 74)), (4, .ref (ad 75)), (5, .int (nI i))]) S.1 S.2.1 dL_law_1108 hl (by decide) rfl (fun ls hl => ?_)
    refine lv_aload_n S.1 S.2.1 dL_law_1110 rfl (lv_at hl 4 rfl) ?_
    refine j_callV (k := 55) (ci := 11) (q := (RX12, TX12, 17)) (As := []) (rest := []) S hK hA hW (c_X12_thrown l D cy ad 1 n nc gO_   ) (jgo wm_L_136) yk_X12_thrown gO_ rfl rfl ⟨⟨rfl, rfl⟩, by decide, by decide⟩ rfl hl.1 rfl (Nat.le_of_ble_eq_true rfl) dL_law_1111 ⟨by show (cells + 1) + 0 ≤ 601024; omega, by show (slots + 6) + 0 ≤ 7293033; omega⟩ (fun v u H locs hp hW => ?_)
    obtain ⟨rfl, rfl⟩ := hp
    refine W.eq (g2 := F0 m 1114 ls [.int (nI 1)]) rfl ?_
    refine lv_iload S.1 S.2.1 dL_law_1114 (lv_at hl 1 rfl) ?_
    refine jn_cmp_eq (tgt := 1121) S (by omega) (by omega) dL_law_1116 (by decide) (fun c_1116 => ?_) (fun c_1116 => ?_)
    · refine lv_iload S.1 S.2.1 dL_law_1121 (lv_at hl 1 rfl) ?_
      refine jn_if_ne (tgt := 1138) S (by omega) dL_law_1123 (by decide) (fun c_1123 => ?_) (fun c_1123 => ?_)
      · refine lv_goto (tgt := 2382) S.1 S.2.1 dL_law_1138 (by decide) ?_
        exact W.widen (by omega) (by omega) (kk _ _ _ _ ⟨_, _, _, _, _, _, _, _, _, _, _, _, _, _, hPI, (hCI.kept hU (by first | decide | (intro k hk; simp at hk; omega))), ⟨gx, _, _, gO_, gF_, gT_, gE_, gD_, gC0_, gC1_, gC2_, gC3_, gC4_, gP_, gK_, gV_, gR_, gU_, fun j hj => hU.get (hrow j hj) (by simp; omega), hkx⟩, hOut_, hOuD_⟩ hW (lv_sub hl [2, 3, 4, 5, 6, 7] rfl))
      · first | exact absurd (show 1 = 0 from c_1123) (by decide) | exact absurd c_1123 (by decide)
    · first | exact absurd (show 1 ≠ 1 from c_1116) (by decide) | exact absurd c_1116 (by decide)
/-- the law's parts -/
theorem s_parts {p : Program} {l : Launch} {e : Env} {s : State} {m : MethodId} {args : Array Value} {below : List Frame} {meth : Method} {c : Code} {Q : State → Prop} {D : va_G} {cy : Nat → ClassId} {A : Nat → Prop} {x0 : Cond} {ad : Nat → Nat} {b L : Nat} {xs : Nat → Int32} {i : Nat} {w : va_W} {H : Heap} {locs : List Loc} {ls : Array Slot} {cells slots : Nat} (htr : l.stackTraces = false) (C : LX p s m c args D cy A b L xs x0) (hI : INV ad cy w) (hW : jW D A s.heap w H locs) (hl : lv_has ls 10 [(0, .ref b), (1, .ref (ad 0)), (2, .ref (ad 55)), (3, .ref (ad 74)), (4, .ref (ad 75)), (5, .int (nI i))]) (hi : i + 5 ≤ L) (hL : L ≤ 2560) (hc : cells + 10 ≤ 601024) (hs : slots + 64 ≤ 7293033) (kk : LK p l e s m args below meth c Q D cy A ad b i cells slots) : W p l e room_1 s m args below meth c H locs cells slots Q (F0 m 1141 ls []) := by
  obtain ⟨S, hK, hA, hX, hbl, hbA, hx, hnx⟩ := C
  obtain ⟨n, wf, wt, od, sd, se, nc, lv, cs, kv, kx, th, og, ogd, hPI, hCI, hRI, hOut, hOuD⟩ := hI
  have hPI0 := hPI
  obtain ⟨hn, hsdn, hse2, hnc, hlvn, hcs, hkI, hod, hodn, hinj⟩ := hPI0
  have hp2 := two_pow10 hn
  have hpt := Nat.two_pow_pos n
  have hWB := hCI.wb
  refine lv_aload_n S.1 S.2.1 dL_law_1141 rfl (lv_at hl 1 rfl) ?_
  have hsd : sd < 1024 := by omega
  have hse : se < 1024 := by rw [← hse2]; exact Nat.lt_of_le_of_lt Nat.and_le_right hsd
  have hlv : lv < 2 ^ 20 := Nat.lt_of_lt_of_le hlvn (Nat.pow_le_pow_right (by decide) hnc)
  have hCI0 := hCI
  obtain ⟨bO, bW, bD, bC, bM, bP, bR, bX, bS⟩ := hCI0
  have bO0 := bO
  obtain ⟨fr, mv, MX, hO, hMo, hMl, hMa, hfr⟩ := bO
  have bC0 := bC
  obtain ⟨tf, cp, ca, hC, hT, hcon⟩ := bC
  refine j_callV (k := 0) (ci := 10) (q := (RX11, TX11, 15)) (As := []) (rest := []) S hK hA hW (c_X11_parts l D cy ad n sd se fr nc lv tf cp ca cs hO hC hT hcon hn hsd hse hlv) (jgo wm_L_194) yk_X11_parts hO rfl rfl ⟨⟨rfl, rfl⟩, by decide, by decide⟩ rfl hl.1 rfl (Nat.le_of_ble_eq_true rfl) dL_law_1142 ⟨by show cells + 0 ≤ 601024; omega, by show slots + 0 ≤ 7293033; omega⟩ (fun v u H locs hp hW => ?_)
  obtain ⟨rfl, rfl⟩ := hp
  have hU1 : jU w w [] := jU.rf
  have hRI := hRI.kept hU1 (by decide)
  obtain ⟨gx, rb, tu, gO, gF, gT, gE, gD, gC0, gC1, gC2, gC3, gC4, gP, gK, gV, gR, gU, hrow, hkx⟩ := hRI
  refine W.eq (g2 := F0 m 1145 ls [.int (nI ((prtN nc cs lv (nAnd (2 ^ n - 1) sd) n).1))]) rfl ?_
  refine lv_aload_n S.1 S.2.1 dL_law_1145 rfl (lv_at hl 2 rfl) ?_
  refine j_callV (k := 55) (ci := 11) (q := (RX12, TX12, 17)) (As := []) (rest := [.int (nI ((prtN nc cs lv (nAnd (2 ^ n - 1) sd) n).1))]) S hK hA hW (c_X12_parts l D cy ad th n nc sd se lv cs gO gE gP gC0 gC1 gC2 gC3 gC4   (by omega) (by omega) (hcs)) (jgo wm_L_197) yk_X12_parts gO rfl rfl ⟨⟨rfl, rfl⟩, by decide, by decide⟩ rfl hl.1 rfl (Nat.le_of_ble_eq_true rfl) dL_law_1146 ⟨by show cells + 0 ≤ 601024; omega, by show slots + 0 ≤ 7293033; omega⟩ (fun v w_ H locs hp hW => ?_)
  obtain ⟨rfl, hU1, hN1⟩ := hp
  have hU : jU w w_ [55, 56, 57, 58, 59, 60, 61, 62, 63, 64, 65, 66, 71, 72, 73, 74, 75] := jU.mono hU1 (by first | decide | (simp; done) | (simp; omega))
  have gF_ := hU1.get gF (by first | decide | (simp; done) | (simp; omega))
  have gT_ := hU1.get gT (by first | decide | (simp; done) | (simp; omega))
  have gE_ := hU1.get gE (by first | decide | (simp; done) | (simp; omega))
  have gD_ := hU1.get gD (by first | decide | (simp; done) | (simp; omega))
  have gC0_ := hU1.get gC0 (by first | decide | (simp; done) | (simp; omega))
  have gC1_ := hU1.get gC1 (by first | decide | (simp; done) | (simp; omega))
  have gC2_ := hU1.get gC2 (by first | decide | (simp; done) | (simp; omega))
  have gC3_ := hU1.get gC3 (by first | decide | (simp; done) | (simp; omega))
  have gC4_ := hU1.get gC4 (by first | decide | (simp; done) | (simp; omega))
  have gP_ := hU1.get gP (by first | decide | (simp; done) | (simp; omega))
  have gK_ := hU1.get gK (by first | decide | (simp; done) | (simp; omega))
  have gV_ := hU1.get gV (by first | decide | (simp; done) | (simp; omega))
  have gR_ := hU1.get gR (by first | decide | (simp; done) | (simp; omega))
  have gU_ := hU1.get gU (by first | decide | (simp; done) | (simp; omega))
  have hOut_ := hU1.get hOut (by first | decide | (simp; done) | (simp; omega))
  have hOuD_ := hU1.get hOuD (by first | decide | (simp; done) | (simp; omega))
  have gO_ : w_[55]? = some (ad 55, .inr (11, [.int (nI 0), .ref (ad 56), .ref (ad 57), .ref (ad 58), .ref (ad 59), .ref (ad 60), .ref (ad 61), .ref (ad 62), .ref (ad 63), .ref (ad 64), .ref (ad 65), .int (nI n), .int (nI nc), .ref (ad 66), .ref (ad 71), .ref (ad 72), .ref (ad 73)])) := hN1
  clear hU1 hN1
  refine W.eq (g2 := F0 m 1149 ls [.int (nI (cnt (fun v => !sd.testBit v && decide (lowN (itP nc cs lv (nAnd (2 ^ n - 1) sd) v 10) n = v)) n)), .int (nI ((prtN nc cs lv (nAnd (2 ^ n - 1) sd) n).1))]) rfl ?_
  refine lv_topi_to (y := nI ((prtN nc cs lv (nAnd (2 ^ n - 1) sd) n).1)) (congrArg nI (parts_ref hn).symm) ?_
  refine lv_icmp_eq (tgt := 2382) S.1 S.2.1 dL_law_1149 (by decide) (fun c_1149 => ?_) (fun c_1149 => ?_)
  · exact W.widen (by omega) (by omega) (kk _ _ _ _ ⟨_, _, _, _, _, _, _, _, _, _, _, _, _, _, hPI, (hCI.kept hU (by first | decide | (intro k hk; simp at hk; omega))), ⟨gx, _, _, gO_, gF_, gT_, gE_, gD_, gC0_, gC1_, gC2_, gC3_, gC4_, gP_, gK_, gV_, gR_, gU_, fun j hj => hU.get (hrow j hj) (by simp; omega), hkx⟩, hOut_, hOuD_⟩ hW (lv_sub hl [0, 1, 2, 3, 4, 5] rfl))
  · exact absurd rfl c_1149
/-- the law's partOf -/
theorem s_partOf {p : Program} {l : Launch} {e : Env} {s : State} {m : MethodId} {args : Array Value} {below : List Frame} {meth : Method} {c : Code} {Q : State → Prop} {D : va_G} {cy : Nat → ClassId} {A : Nat → Prop} {x0 : Cond} {ad : Nat → Nat} {b L : Nat} {xs : Nat → Int32} {i : Nat} {w : va_W} {H : Heap} {locs : List Loc} {ls : Array Slot} {cells slots : Nat} (htr : l.stackTraces = false) (C : LX p s m c args D cy A b L xs x0) (hI : INV ad cy w) (hW : jW D A s.heap w H locs) (hl : lv_has ls 10 [(0, .ref b), (1, .ref (ad 0)), (2, .ref (ad 55)), (3, .ref (ad 74)), (4, .ref (ad 75)), (5, .int (nI i))]) (hi : i + 5 ≤ L) (hL : L ≤ 2560) (hc : cells + 10 ≤ 601024) (hs : slots + 64 ≤ 7293033) (kk : LK p l e s m args below meth c Q D cy A ad b i cells slots) : W p l e room_1 s m args below meth c H locs cells slots Q (F0 m 1154 ls []) := by
  obtain ⟨S, hK, hA, hX, hbl, hbA, hx, hnx⟩ := C
  obtain ⟨n, wf, wt, od, sd, se, nc, lv, cs, kv, kx, th, og, ogd, hPI, hCI, hRI, hOut, hOuD⟩ := hI
  have hPI0 := hPI
  obtain ⟨hn, hsdn, hse2, hnc, hlvn, hcs, hkI, hod, hodn, hinj⟩ := hPI0
  have hp2 := two_pow10 hn
  have hpt := Nat.two_pow_pos n
  have hWB := hCI.wb
  refine lv_aload_n S.1 S.2.1 dL_law_1154 rfl (lv_at hl 1 rfl) ?_
  refine lv_aload_n S.1 S.2.1 dL_law_1155 rfl (lv_at hl 0 rfl) ?_
  refine lv_iload S.1 S.2.1 dL_law_1156 (lv_at hl 5 rfl) ?_
  refine lv_iconst (v := nI 1) S.1 S.2.1 dL_law_1158 (by decide) ?_
  refine jn_add S dL_law_1159 ?_
  refine j_sld (x := xs (i + 1)) S hX hbl hbA hW (vp_in_nI (by omega) (by omega)) (nI_clamp (by omega)) (rfl) dL_law_1160 ?_
  refine lv_aload_n S.1 S.2.1 dL_law_1161 rfl (lv_at hl 3 rfl) ?_
  refine j_callH (As := [.ref (ad 0), .int (xs (i + 1)), .ref (ad 74)]) (rest := []) S hK hA hW hx hnx (h_partOf l htr D cy ad n wf wt od sd se nc lv cs kv kx (xs (i + 1)) og ogd hPI hCI hOut hOuD) (jgo wm_L_198) yk_L_partOf ⟨⟨rfl, rfl⟩, by decide, by decide⟩ rfl hl.1 rfl (Nat.le_of_ble_eq_true rfl) dL_law_1162 ⟨by show cells + 2 ≤ 601024; omega, by show slots + 12 ≤ 7293033; omega⟩ (fun v w H locs hp hW => ?_)
  rcases hp with ⟨x1, rfl, hq0, hq1, hq2, ⟨K1, hU1, hK1⟩, hCI, hOut, hOuD⟩ | ⟨rfl, hq, ⟨K1, hU1, hK1⟩, hCI, hOut, hOuD⟩ | ⟨rfl, hq, ⟨K1, hU1, hK1⟩, hCI, hOut, hOuD⟩
  · have hRI := hRI.kept hU1 (fun k hk => by have := hK1 k hk; omega)
    obtain ⟨gx, rb, tu, gO, gF, gT, gE, gD, gC0, gC1, gC2, gC3, gC4, gP, gK, gV, gR, gU, hrow, hkx⟩ := hRI
    refine W.eq (g2 := F0 m 1165 ls [.int (nI 0)]) rfl ?_
    refine lv_istore (lv' := [(6, .int (nI 0)), (0, .ref b), (1, .ref (ad 0)), (2, .ref (ad 55)), (3, .ref (ad 74)), (4, .ref (ad 75)), (5, .int (nI i))]) S.1 S.2.1 dL_law_1165 hl (by decide) rfl (fun ls hl => ?_)
    refine lv_aload_n S.1 S.2.1 dL_law_1167 rfl (lv_at hl 3 rfl) ?_
    refine lv_aload_n S.1 S.2.1 dL_law_1168 rfl (lv_at hl 1 rfl) ?_
    refine lv_iload S.1 S.2.1 dL_law_1169 (lv_at hl 6 rfl) ?_
    refine lv_iconst (v := nI 1) S.1 S.2.1 dL_law_1171 (by decide) ?_
    refine jn_add S dL_law_1172 ?_
    refine j_sld (x := nI x1) S hX hbl hbA hW (vp_in_nI (by omega) (by omega)) (nI_clamp (by omega)) (hq1) dL_law_1173 ?_
    refine j_callV (k := 55) (ci := 11) (q := (RX12, TX12, 17)) (As := [.int (nI x1)]) (rest := []) S hK hA hW (c_X12_partOf_ok l D cy ad th n nc sd se lv cs x1 gO gE gP gC0 gC1 gC2 gC3 gC4   (by omega) (by omega) (hcs) (by omega) (hq2)) (jgo wm_L_200) yk_X12_partOf gO rfl rfl ⟨⟨rfl, rfl⟩, by decide, by decide⟩ rfl hl.1 rfl (Nat.le_of_ble_eq_true rfl) dL_law_1174 ⟨by show (cells + 2) + 0 ≤ 601024; omega, by show (slots + 12) + 0 ≤ 7293033; omega⟩ (fun v w_ H locs hp hW => ?_)
    obtain ⟨rfl, hU1, hN1⟩ := hp
    have hU : jU w w_ [55, 56, 57, 58, 59, 60, 61, 62, 63, 64, 65, 66, 71, 72, 73, 74, 75] := jU.mono hU1 (by first | decide | (simp; done) | (simp; omega))
    have gF_ := hU1.get gF (by first | decide | (simp; done) | (simp; omega))
    have gT_ := hU1.get gT (by first | decide | (simp; done) | (simp; omega))
    have gE_ := hU1.get gE (by first | decide | (simp; done) | (simp; omega))
    have gD_ := hU1.get gD (by first | decide | (simp; done) | (simp; omega))
    have gC0_ := hU1.get gC0 (by first | decide | (simp; done) | (simp; omega))
    have gC1_ := hU1.get gC1 (by first | decide | (simp; done) | (simp; omega))
    have gC2_ := hU1.get gC2 (by first | decide | (simp; done) | (simp; omega))
    have gC3_ := hU1.get gC3 (by first | decide | (simp; done) | (simp; omega))
    have gC4_ := hU1.get gC4 (by first | decide | (simp; done) | (simp; omega))
    have gP_ := hU1.get gP (by first | decide | (simp; done) | (simp; omega))
    have gK_ := hU1.get gK (by first | decide | (simp; done) | (simp; omega))
    have gV_ := hU1.get gV (by first | decide | (simp; done) | (simp; omega))
    have gR_ := hU1.get gR (by first | decide | (simp; done) | (simp; omega))
    have gU_ := hU1.get gU (by first | decide | (simp; done) | (simp; omega))
    have hOut_ := hU1.get hOut (by first | decide | (simp; done) | (simp; omega))
    have hOuD_ := hU1.get hOuD (by first | decide | (simp; done) | (simp; omega))
    have gO_ : w_[55]? = some (ad 55, .inr (11, [.int (nI 0), .ref (ad 56), .ref (ad 57), .ref (ad 58), .ref (ad 59), .ref (ad 60), .ref (ad 61), .ref (ad 62), .ref (ad 63), .ref (ad 64), .ref (ad 65), .int (nI n), .int (nI nc), .ref (ad 66), .ref (ad 71), .ref (ad 72), .ref (ad 73)])) := hN1
    clear hU1 hN1
    refine W.eq (g2 := F0 m 1177 ls [.int (nI (lowN (itP nc cs lv (nAnd (2 ^ n - 1) sd) x1 10) n))]) rfl ?_
    refine lv_istore (lv' := [(7, .int (nI (lowN (itP nc cs lv (nAnd (2 ^ n - 1) sd) x1 10) n))), (6, .int (nI 0)), (0, .ref b), (1, .ref (ad 0)), (2, .ref (ad 55)), (3, .ref (ad 74)), (4, .ref (ad 75)), (5, .int (nI i))]) S.1 S.2.1 dL_law_1177 hl (by decide) rfl (fun ls hl => ?_)
    refine lv_aload_n S.1 S.2.1 dL_law_1179 rfl (lv_at hl 4 rfl) ?_
    refine j_callV (k := 55) (ci := 11) (q := (RX12, TX12, 17)) (As := []) (rest := []) S hK hA hW (c_X12_thrown l D cy ad 0 n nc gO_   ) (jgo wm_L_136) yk_X12_thrown gO_ rfl rfl ⟨⟨rfl, rfl⟩, by decide, by decide⟩ rfl hl.1 rfl (Nat.le_of_ble_eq_true rfl) dL_law_1180 ⟨by show (cells + 2) + 0 ≤ 601024; omega, by show (slots + 12) + 0 ≤ 7293033; omega⟩ (fun v u H locs hp hW => ?_)
    obtain ⟨rfl, rfl⟩ := hp
    refine W.eq (g2 := F0 m 1183 ls [.int (nI 0)]) rfl ?_
    refine lv_iload S.1 S.2.1 dL_law_1183 (lv_at hl 1 rfl) ?_
    refine jn_cmp_eq (tgt := 1190) S (by omega) (by omega) dL_law_1185 (by decide) (fun c_1185 => ?_) (fun c_1185 => ?_)
    · refine lv_iload S.1 S.2.1 dL_law_1190 (lv_at hl 1 rfl) ?_
      refine jn_if_ne (tgt := 1207) S (by omega) dL_law_1192 (by decide) (fun c_1192 => ?_) (fun c_1192 => ?_)
      · first | exact absurd (show 0 ≠ 0 from c_1192) (by decide) | exact absurd c_1192 (by decide)
      · refine lv_aload_n S.1 S.2.1 dL_law_1195 rfl (lv_at hl 5 rfl) ?_
        refine lv_iconst (v := nI 0) S.1 S.2.1 dL_law_1196 (by decide) ?_
        refine j_lald (x := (nI (lowN (itP nc cs lv (nAnd (2 ^ n - 1) sd) x1 10) n)).toInt64) S hK hW hOut_ (vp_in_nI (by omega) (by omega)) (nI_clamp (by omega)) (if_pos rfl) dL_law_1197 ?_
        refine lv_iload S.1 S.2.1 dL_law_1198 (lv_at hl 0 rfl) ?_
        refine lv_i2l (v := (nI (lowN (itP nc cs lv (nAnd (2 ^ n - 1) sd) x1 10) n)).toInt64) S.1 S.2.1 dL_law_1200 (rfl) ?_
        refine jl_eq (tgt := 1207) S dL_law_1201 dL_law_1202 (by decide) (fun c_1202 => ?_) (fun c_1202 => ?_)
        · refine lv_goto (tgt := 2382) S.1 S.2.1 dL_law_1207 (by decide) ?_
          exact W.widen (by omega) (by omega) (kk _ _ _ _ ⟨_, _, _, _, _, _, _, _, _, _, _, _, _, _, hPI, (hCI.kept hU (by first | decide | (intro k hk; simp at hk; omega))), ⟨gx, _, _, gO_, gF_, gT_, gE_, gD_, gC0_, gC1_, gC2_, gC3_, gC4_, gP_, gK_, gV_, gR_, gU_, fun j hj => hU.get (hrow j hj) (by simp; omega), hkx⟩, hOut_, hOuD_⟩ hW (lv_sub hl [2, 3, 4, 5, 6, 7] rfl))
        · exact absurd rfl c_1202
    · first | exact absurd (show 0 ≠ 0 from c_1185) (by decide) | exact absurd c_1185 (by decide)
  · have hRI := hRI.kept hU1 (fun k hk => by have := hK1 k hk; omega)
    obtain ⟨gx, rb, tu, gO, gF, gT, gE, gD, gC0, gC1, gC2, gC3, gC4, gP, gK, gV, gR, gU, hrow, hkx⟩ := hRI
    refine W.eq (g2 := F0 m 1165 ls [.int (nI 1)]) rfl ?_
    refine lv_istore (lv' := [(6, .int (nI 1)), (0, .ref b), (1, .ref (ad 0)), (2, .ref (ad 55)), (3, .ref (ad 74)), (4, .ref (ad 75)), (5, .int (nI i))]) S.1 S.2.1 dL_law_1165 hl (by decide) rfl (fun ls hl => ?_)
    refine lv_aload_n S.1 S.2.1 dL_law_1167 rfl (lv_at hl 3 rfl) ?_
    refine lv_aload_n S.1 S.2.1 dL_law_1168 rfl (lv_at hl 1 rfl) ?_
    refine lv_iload S.1 S.2.1 dL_law_1169 (lv_at hl 6 rfl) ?_
    refine lv_iconst (v := nI 1) S.1 S.2.1 dL_law_1171 (by decide) ?_
    refine jn_add S dL_law_1172 ?_
    refine j_sld (x := xs (i + 1)) S hX hbl hbA hW (vp_in_nI (by omega) (by omega)) (nI_clamp (by omega)) (rfl) dL_law_1173 ?_
    refine j_callV (k := 55) (ci := 11) (q := (RX12, TX12, 17)) (As := [.int (xs (i + 1))]) (rest := []) S hK hA hW (c_X12_partOf_b1 l D cy ad th n nc (xs (i + 1)) gO   (by omega) (hq)) (jgo wm_L_200) yk_X12_partOf gO rfl rfl ⟨⟨rfl, rfl⟩, by decide, by decide⟩ rfl hl.1 rfl (Nat.le_of_ble_eq_true rfl) dL_law_1174 ⟨by show (cells + 2) + 0 ≤ 601024; omega, by show (slots + 12) + 0 ≤ 7293033; omega⟩ (fun v w_ H locs hp hW => ?_)
    obtain ⟨rfl, hU1, hN1⟩ := hp
    have hU : jU w w_ [55, 56, 57, 58, 59, 60, 61, 62, 63, 64, 65, 66, 71, 72, 73, 74, 75] := jU.mono hU1 (by first | decide | (simp; done) | (simp; omega))
    have gF_ := hU1.get gF (by first | decide | (simp; done) | (simp; omega))
    have gT_ := hU1.get gT (by first | decide | (simp; done) | (simp; omega))
    have gE_ := hU1.get gE (by first | decide | (simp; done) | (simp; omega))
    have gD_ := hU1.get gD (by first | decide | (simp; done) | (simp; omega))
    have gC0_ := hU1.get gC0 (by first | decide | (simp; done) | (simp; omega))
    have gC1_ := hU1.get gC1 (by first | decide | (simp; done) | (simp; omega))
    have gC2_ := hU1.get gC2 (by first | decide | (simp; done) | (simp; omega))
    have gC3_ := hU1.get gC3 (by first | decide | (simp; done) | (simp; omega))
    have gC4_ := hU1.get gC4 (by first | decide | (simp; done) | (simp; omega))
    have gP_ := hU1.get gP (by first | decide | (simp; done) | (simp; omega))
    have gK_ := hU1.get gK (by first | decide | (simp; done) | (simp; omega))
    have gV_ := hU1.get gV (by first | decide | (simp; done) | (simp; omega))
    have gR_ := hU1.get gR (by first | decide | (simp; done) | (simp; omega))
    have gU_ := hU1.get gU (by first | decide | (simp; done) | (simp; omega))
    have hOut_ := hU1.get hOut (by first | decide | (simp; done) | (simp; omega))
    have hOuD_ := hU1.get hOuD (by first | decide | (simp; done) | (simp; omega))
    have gO_ : w_[55]? = some (ad 55, .inr (11, [.int (nI 1), .ref (ad 56), .ref (ad 57), .ref (ad 58), .ref (ad 59), .ref (ad 60), .ref (ad 61), .ref (ad 62), .ref (ad 63), .ref (ad 64), .ref (ad 65), .int (nI n), .int (nI nc), .ref (ad 66), .ref (ad 71), .ref (ad 72), .ref (ad 73)])) := hN1
    clear hU1 hN1
    refine W.eq (g2 := F0 m 1177 ls [.int (nI 0)]) rfl ?_
    refine lv_istore (lv' := [(7, .int (nI 0)), (6, .int (nI 1)), (0, .ref b), (1, .ref (ad 0)), (2, .ref (ad 55)), (3, .ref (ad 74)), (4, .ref (ad 75)), (5, .int (nI i))]) S.1 S.2.1 dL_law_1177 hl (by decide) rfl (fun ls hl => ?_)
    refine lv_aload_n S.1 S.2.1 dL_law_1179 rfl (lv_at hl 4 rfl) ?_
    refine j_callV (k := 55) (ci := 11) (q := (RX12, TX12, 17)) (As := []) (rest := []) S hK hA hW (c_X12_thrown l D cy ad 1 n nc gO_   ) (jgo wm_L_136) yk_X12_thrown gO_ rfl rfl ⟨⟨rfl, rfl⟩, by decide, by decide⟩ rfl hl.1 rfl (Nat.le_of_ble_eq_true rfl) dL_law_1180 ⟨by show (cells + 2) + 0 ≤ 601024; omega, by show (slots + 12) + 0 ≤ 7293033; omega⟩ (fun v u H locs hp hW => ?_)
    obtain ⟨rfl, rfl⟩ := hp
    refine W.eq (g2 := F0 m 1183 ls [.int (nI 1)]) rfl ?_
    refine lv_iload S.1 S.2.1 dL_law_1183 (lv_at hl 1 rfl) ?_
    refine jn_cmp_eq (tgt := 1190) S (by omega) (by omega) dL_law_1185 (by decide) (fun c_1185 => ?_) (fun c_1185 => ?_)
    · refine lv_iload S.1 S.2.1 dL_law_1190 (lv_at hl 1 rfl) ?_
      refine jn_if_ne (tgt := 1207) S (by omega) dL_law_1192 (by decide) (fun c_1192 => ?_) (fun c_1192 => ?_)
      · refine lv_goto (tgt := 2382) S.1 S.2.1 dL_law_1207 (by decide) ?_
        exact W.widen (by omega) (by omega) (kk _ _ _ _ ⟨_, _, _, _, _, _, _, _, _, _, _, _, _, _, hPI, (hCI.kept hU (by first | decide | (intro k hk; simp at hk; omega))), ⟨gx, _, _, gO_, gF_, gT_, gE_, gD_, gC0_, gC1_, gC2_, gC3_, gC4_, gP_, gK_, gV_, gR_, gU_, fun j hj => hU.get (hrow j hj) (by simp; omega), hkx⟩, hOut_, hOuD_⟩ hW (lv_sub hl [2, 3, 4, 5, 6, 7] rfl))
      · first | exact absurd (show 1 = 0 from c_1192) (by decide) | exact absurd c_1192 (by decide)
    · first | exact absurd (show 1 ≠ 1 from c_1185) (by decide) | exact absurd c_1185 (by decide)
  · have hRI := hRI.kept hU1 (fun k hk => by have := hK1 k hk; omega)
    obtain ⟨gx, rb, tu, gO, gF, gT, gE, gD, gC0, gC1, gC2, gC3, gC4, gP, gK, gV, gR, gU, hrow, hkx⟩ := hRI
    obtain ⟨x1, hx1, e1, h1⟩ := hq
    refine W.eq (g2 := F0 m 1165 ls [.int (nI 2)]) rfl ?_
    refine lv_istore (lv' := [(6, .int (nI 2)), (0, .ref b), (1, .ref (ad 0)), (2, .ref (ad 55)), (3, .ref (ad 74)), (4, .ref (ad 75)), (5, .int (nI i))]) S.1 S.2.1 dL_law_1165 hl (by decide) rfl (fun ls hl => ?_)
    refine lv_aload_n S.1 S.2.1 dL_law_1167 rfl (lv_at hl 3 rfl) ?_
    refine lv_aload_n S.1 S.2.1 dL_law_1168 rfl (lv_at hl 1 rfl) ?_
    refine lv_iload S.1 S.2.1 dL_law_1169 (lv_at hl 6 rfl) ?_
    refine lv_iconst (v := nI 1) S.1 S.2.1 dL_law_1171 (by decide) ?_
    refine jn_add S dL_law_1172 ?_
    refine j_sld (x := nI x1) S hX hbl hbA hW (vp_in_nI (by omega) (by omega)) (nI_clamp (by omega)) (e1) dL_law_1173 ?_
    refine j_callV (k := 55) (ci := 11) (q := (RX12, TX12, 17)) (As := [.int (nI x1)]) (rest := []) S hK hA hW (c_X12_partOf_b2 l D cy ad th n nc sd se x1 gO gE   (by omega) (by omega) (h1)) (jgo wm_L_200) yk_X12_partOf gO rfl rfl ⟨⟨rfl, rfl⟩, by decide, by decide⟩ rfl hl.1 rfl (Nat.le_of_ble_eq_true rfl) dL_law_1174 ⟨by show (cells + 2) + 0 ≤ 601024; omega, by show (slots + 12) + 0 ≤ 7293033; omega⟩ (fun v w_ H locs hp hW => ?_)
    obtain ⟨rfl, hU1, hN1⟩ := hp
    have hU : jU w w_ [55, 56, 57, 58, 59, 60, 61, 62, 63, 64, 65, 66, 71, 72, 73, 74, 75] := jU.mono hU1 (by first | decide | (simp; done) | (simp; omega))
    have gF_ := hU1.get gF (by first | decide | (simp; done) | (simp; omega))
    have gT_ := hU1.get gT (by first | decide | (simp; done) | (simp; omega))
    have gE_ := hU1.get gE (by first | decide | (simp; done) | (simp; omega))
    have gD_ := hU1.get gD (by first | decide | (simp; done) | (simp; omega))
    have gC0_ := hU1.get gC0 (by first | decide | (simp; done) | (simp; omega))
    have gC1_ := hU1.get gC1 (by first | decide | (simp; done) | (simp; omega))
    have gC2_ := hU1.get gC2 (by first | decide | (simp; done) | (simp; omega))
    have gC3_ := hU1.get gC3 (by first | decide | (simp; done) | (simp; omega))
    have gC4_ := hU1.get gC4 (by first | decide | (simp; done) | (simp; omega))
    have gP_ := hU1.get gP (by first | decide | (simp; done) | (simp; omega))
    have gK_ := hU1.get gK (by first | decide | (simp; done) | (simp; omega))
    have gV_ := hU1.get gV (by first | decide | (simp; done) | (simp; omega))
    have gR_ := hU1.get gR (by first | decide | (simp; done) | (simp; omega))
    have gU_ := hU1.get gU (by first | decide | (simp; done) | (simp; omega))
    have hOut_ := hU1.get hOut (by first | decide | (simp; done) | (simp; omega))
    have hOuD_ := hU1.get hOuD (by first | decide | (simp; done) | (simp; omega))
    have gO_ : w_[55]? = some (ad 55, .inr (11, [.int (nI 2), .ref (ad 56), .ref (ad 57), .ref (ad 58), .ref (ad 59), .ref (ad 60), .ref (ad 61), .ref (ad 62), .ref (ad 63), .ref (ad 64), .ref (ad 65), .int (nI n), .int (nI nc), .ref (ad 66), .ref (ad 71), .ref (ad 72), .ref (ad 73)])) := hN1
    clear hU1 hN1
    refine W.eq (g2 := F0 m 1177 ls [.int (nI 0)]) rfl ?_
    refine lv_istore (lv' := [(7, .int (nI 0)), (6, .int (nI 2)), (0, .ref b), (1, .ref (ad 0)), (2, .ref (ad 55)), (3, .ref (ad 74)), (4, .ref (ad 75)), (5, .int (nI i))]) S.1 S.2.1 dL_law_1177 hl (by decide) rfl (fun ls hl => ?_)
    refine lv_aload_n S.1 S.2.1 dL_law_1179 rfl (lv_at hl 4 rfl) ?_
    refine j_callV (k := 55) (ci := 11) (q := (RX12, TX12, 17)) (As := []) (rest := []) S hK hA hW (c_X12_thrown l D cy ad 2 n nc gO_   ) (jgo wm_L_136) yk_X12_thrown gO_ rfl rfl ⟨⟨rfl, rfl⟩, by decide, by decide⟩ rfl hl.1 rfl (Nat.le_of_ble_eq_true rfl) dL_law_1180 ⟨by show (cells + 2) + 0 ≤ 601024; omega, by show (slots + 12) + 0 ≤ 7293033; omega⟩ (fun v u H locs hp hW => ?_)
    obtain ⟨rfl, rfl⟩ := hp
    refine W.eq (g2 := F0 m 1183 ls [.int (nI 2)]) rfl ?_
    refine lv_iload S.1 S.2.1 dL_law_1183 (lv_at hl 1 rfl) ?_
    refine jn_cmp_eq (tgt := 1190) S (by omega) (by omega) dL_law_1185 (by decide) (fun c_1185 => ?_) (fun c_1185 => ?_)
    · refine lv_iload S.1 S.2.1 dL_law_1190 (lv_at hl 1 rfl) ?_
      refine jn_if_ne (tgt := 1207) S (by omega) dL_law_1192 (by decide) (fun c_1192 => ?_) (fun c_1192 => ?_)
      · refine lv_goto (tgt := 2382) S.1 S.2.1 dL_law_1207 (by decide) ?_
        exact W.widen (by omega) (by omega) (kk _ _ _ _ ⟨_, _, _, _, _, _, _, _, _, _, _, _, _, _, hPI, (hCI.kept hU (by first | decide | (intro k hk; simp at hk; omega))), ⟨gx, _, _, gO_, gF_, gT_, gE_, gD_, gC0_, gC1_, gC2_, gC3_, gC4_, gP_, gK_, gV_, gR_, gU_, fun j hj => hU.get (hrow j hj) (by simp; omega), hkx⟩, hOut_, hOuD_⟩ hW (lv_sub hl [2, 3, 4, 5, 6, 7] rfl))
      · first | exact absurd (show 2 = 0 from c_1192) (by decide) | exact absurd c_1192 (by decide)
    · first | exact absurd (show 2 ≠ 2 from c_1185) (by decide) | exact absurd c_1185 (by decide)
