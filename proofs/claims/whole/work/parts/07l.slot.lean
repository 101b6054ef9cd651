/-! COUNTFALL: slots, first part (laid by wip/whole/tools, from the specs there) -/
/-- keep -/
theorem c_X11_keep (l : Launch) (htr : l.stackTraces = false) (D : va_G) (cy : Nat → ClassId) {w : va_W} (ad : Nat → Nat) (n sd se : Nat) (fr : Bool) (nc lv : Nat) (tf : Nat → Option Nat) (cp ca : Nat → Nat) (cs : Nat → CN) (mv : Int32) (MX : Nat → Bool) (sz : Nat) (tp fw tw yw pcn od : Nat → Nat) (kv : Nat → Int32) (kx : Nat → Nat → Bool) (v : Int32) (hO : w[0]? = some (ad 0, .inr (10, [.int (nI n), .ref (ad 1), .ref (ad 3), .ref (ad 5), .int (nI sd), .int (nI se), .ref (ad 7), .ref (ad 9), .ref (ad 11), .ref (ad 20), .int (bI fr), .ref (ad 23), .ref (ad 26), .ref (ad 31), .ref (ad 42)]))) (hMo : w[20]? = some (ad 20, .inr (0, [.ref (ad 21), .int mv]))) (hMl : w[21]? = some (ad 21, .inr (6, [.ref (ad 22)]))) (hMa : w[22]? = some (ad 22, .inl (cy 1, 16, .inr (.inl (wd MX))))) (hC : w[9]? = some (ad 9, .inr (4, [.ref (ad 10), .int (nI nc), .int (nI lv)]))) (hT : w[10]? = some (ad 10, .inl (cy 5, 20, .inr (.inr (.inr (.inr tf)))))) (hX : w[31]? = some (ad 31, .inr (2, [.ref (ad 32), .ref (ad 34), .ref (ad 36), .ref (ad 38), .ref (ad 40), .int (nI sz)]))) (hXto : w[32]? = some (ad 32, .inr (5, [.ref (ad 33)]))) (hXta : w[33]? = some (ad 33, .inl (cy 0, 1024, .inl (nf tp)))) (hXfo : w[34]? = some (ad 34, .inr (5, [.ref (ad 35)]))) (hXfa : w[35]? = some (ad 35, .inl (cy 0, 272, .inl (nf fw)))) (hXwo : w[36]? = some (ad 36, .inr (5, [.ref (ad 37)]))) (hXwa : w[37]? = some (ad 37, .inl (cy 0, 272, .inl (nf tw)))) (hXyo : w[38]? = some (ad 38, .inr (5, [.ref (ad 39)]))) (hXya : w[39]? = some (ad 39, .inl (cy 0, 272, .inl (nf yw)))) (hXpo : w[40]? = some (ad 40, .inr (5, [.ref (ad 41)]))) (hXpa : w[41]? = some (ad 41, .inl (cy 0, 10, .inl (nf pcn)))) (hOo : w[7]? = some (ad 7, .inr (5, [.ref (ad 8)]))) (hOa : w[8]? = some (ad 8, .inl (cy 0, 10, .inl (nf od)))) (hS : w[42]? = some (ad 42, .inl (cy 4, 4, .inr (.inr (.inr (.inr (slF ad))))))) (hcon : conOK w nc tf cp ca cs) (hslo : slOK w ad cy kv kx) (hn : n ≤ 10) (hsd : sd < 1024) (hse : se < 1024) (hlv : lv < 2 ^ 20) (hfr : fr = true → mv = nI n ∧ MX = mdl n sd se nc cs lv) (hod : ∀ j, od j < 10) (hf : ∀ a, fw a < 272) (ht : ∀ a, tw a < 272) : jMx jTexts l yX11_keep (jws yX11_keep cX11_keep 3 (some .int)) (jR 9 1 6) D cy w [.ref (ad 0), .int v] 1 6 (fun vv uu => ∃ (sz1 : Nat), ∃ (tp1 : Nat → Nat), ∃ (fw1 : Nat → Nat), ∃ (tw1 : Nat → Nat), ∃ (yw1 : Nat → Nat), ∃ (pcn1 : Nat → Nat), ∃ (j : Nat), vv = some (.int (nI (sumN (nodesB (fun d => (mdl n sd se nc cs lv) (layP n od d n)) n) n))) ∧ ((∀ a, fw1 a < 272) ∧ (∀ a, tw1 a < 272)) ∧ j < 4 ∧ v = nI j ∧ jU w uu [0, 20, 22, 31, 33, 35, 37, 39, 41, 43 + 3 * j, 45 + 3 * j] ∧ uu[0]? = some (ad 0, .inr (10, [.int (nI n), .ref (ad 1), .ref (ad 3), .ref (ad 5), .int (nI sd), .int (nI se), .ref (ad 7), .ref (ad 9), .ref (ad 11), .ref (ad 20), .int (bI true), .ref (ad 23), .ref (ad 26), .ref (ad 31), .ref (ad 42)])) ∧ uu[20]? = some (ad 20, .inr (0, [.ref (ad 21), .int (nI n)])) ∧ uu[22]? = some (ad 22, .inl (cy 1, 16, .inr (.inl (wd (mdl n sd se nc cs lv))))) ∧ uu[31]? = some (ad 31, .inr (2, [.ref (ad 32), .ref (ad 34), .ref (ad 36), .ref (ad 38), .ref (ad 40), .int (nI sz1)])) ∧ uu[33]? = some (ad 33, .inl (cy 0, 1024, .inl (nf tp1))) ∧ uu[35]? = some (ad 35, .inl (cy 0, 272, .inl (nf fw1))) ∧ uu[37]? = some (ad 37, .inl (cy 0, 272, .inl (nf tw1))) ∧ uu[39]? = some (ad 39, .inl (cy 0, 272, .inl (nf yw1))) ∧ uu[41]? = some (ad 41, .inl (cy 0, 10, .inl (nf pcn1))) ∧ uu[43 + 3 * j]? = some (ad (43 + 3 * j), .inr (0, [.ref (ad (44 + 3 * j)), .int (nI n)])) ∧ uu[45 + 3 * j]? = some (ad (45 + 3 * j), .inl (cy 1, 16, .inr (.inl (wd (mdl n sd se nc cs lv)))))) (fun EE uu => ((EE = "java/lang/IllegalArgumentException" ∧ (vB v 4 = false))) ∧ w = uu) := by
  refine jx_of (by decide) rfl (Nat.le_of_ble_eq_true rfl) ?_
  intro p e s m args below meth c A ls Q hQ S hr hK hA H locs hW hl htab hx
  have hl : lv_has ls 3 [(0, .ref (ad 0)), (1, .int v)] := hl
  rcases i_cases v 4 (by decide) with ⟨j, hsj, rfl⟩ | hvj
  · obtain ⟨hso, hsl, hsa⟩ := hslo j hsj
    refine lv_aload_n S.1 S.2.1 dX11_keep_0 rfl (lv_at hl 0 rfl) ?_
    refine lv_iload_n S.1 S.2.1 dX11_keep_1 rfl (lv_at hl 1 rfl) ?_
    refine j_callV (k := 0) (ci := 10) (q := (RX11, TX11, 15)) (As := [.int (nI j)]) (rest := []) S hK hA hW (c_X11_slotAtY l D cy ad n sd se fr j hO hS   (hsj)) (jgo wm_X11_277) yk_X11_slotAt hO rfl rfl ⟨⟨rfl, rfl⟩, by decide, by decide⟩ rfl hl.1 rfl (Nat.le_of_ble_eq_true rfl) dX11_keep_2 ⟨Nat.le_of_ble_eq_true rfl, Nat.le_of_ble_eq_true rfl⟩ (fun v u H locs hp hW => ?_)
    obtain ⟨rfl, rfl⟩ := hp
    refine W.eq (g2 := F0 m 5 ls [.ref (ad (43 + 3 * j))]) rfl ?_
    refine lv_astore_n (lv' := [(2, .ref (ad (43 + 3 * j))), (0, .ref (ad 0)), (1, .int (nI j))]) S.1 S.2.1 dX11_keep_5 rfl hl (by decide) rfl (fun ls hl => ?_)
    refine lv_aload_n S.1 S.2.1 dX11_keep_6 rfl (lv_at hl 0 rfl) ?_
    refine lv_aload_n S.1 S.2.1 dX11_keep_7 rfl (lv_at hl 1 rfl) ?_
    refine j_callV (k := 0) (ci := 10) (q := (RX11, TX11, 15)) (As := []) (rest := [.ref (ad (43 + 3 * j))]) S hK hA hW (c_X11_freshModels l D cy ad n sd se fr nc lv tf cp ca cs mv MX hO hMo hMl hMa hC hT hcon  (by omega) (by omega) (by omega) (by omega) (by first | omega | exact fun _ => ⟨rfl, rfl⟩)) (jgo wm_X11_199) yk_X11_freshModels hO rfl rfl ⟨⟨rfl, rfl⟩, by decide, by decide⟩ rfl hl.1 rfl (Nat.le_of_ble_eq_true rfl) dX11_keep_8 ⟨Nat.le_of_ble_eq_true rfl, Nat.le_of_ble_eq_true rfl⟩ (fun v w_ H locs hp hW => ?_)
    obtain ⟨rfl, hU1, hN1, hN2, hN3⟩ := hp
    have hU : jU w w_ [0, 20, 22, 31, 33, 35, 37, 39, 41, 43 + 3 * j, 45 + 3 * j] := jU.mono hU1 (by first | decide | (simp; done) | (simp; omega))
    have hX_ := hU1.get hX (by first | decide | (simp; done) | (simp; omega))
    have hXta_ := hU1.get hXta (by first | decide | (simp; done) | (simp; omega))
    have hXfa_ := hU1.get hXfa (by first | decide | (simp; done) | (simp; omega))
    have hXwa_ := hU1.get hXwa (by first | decide | (simp; done) | (simp; omega))
    have hXya_ := hU1.get hXya (by first | decide | (simp; done) | (simp; omega))
    have hXpa_ := hU1.get hXpa (by first | decide | (simp; done) | (simp; omega))
    have hso_ := hU1.get hso (by first | decide | (simp; done) | (simp; omega))
    have hsa_ := hU1.get hsa (by first | decide | (simp; done) | (simp; omega))
    have hO_ : w_[0]? = some (ad 0, .inr (10, [.int (nI n), .ref (ad 1), .ref (ad 3), .ref (ad 5), .int (nI sd), .int (nI se), .ref (ad 7), .ref (ad 9), .ref (ad 11), .ref (ad 20), .int (bI true), .ref (ad 23), .ref (ad 26), .ref (ad 31), .ref (ad 42)])) := hN1
    have hMo_ : w_[20]? = some (ad 20, .inr (0, [.ref (ad 21), .int (nI n)])) := hN2
    have hMa_ : w_[22]? = some (ad 22, .inl (cy 1, 16, .inr (.inl (wd (mdl n sd se nc cs lv))))) := hN3
    clear hU1 hN1 hN2 hN3
    refine W.eq (g2 := F0 m 11 ls [.ref (ad 20), .ref (ad (43 + 3 * j))]) rfl ?_
    refine j_callV (k := 43 + 3 * j) (ci := 0) (q := (RX0, TX0, 2)) (As := [.ref (ad 20)]) (rest := []) S hK hA hW (c_X0_copy l D cy (43 + 3 * j) (44 + 3 * j) (45 + 3 * j) (ad (43 + 3 * j)) (ad (44 + 3 * j)) (ad (45 + 3 * j)) (kv j) (kx j) 20 21 22 (ad 20) (ad 21) (ad 22) (nI n) (mdl n sd se nc cs lv) hso_ (hU.get hsl (by first | decide | (simp; done) | (simp; omega))) hsa_ hMo_ (hU.get hMl (by first | decide | (simp; done) | (simp; omega))) hMa_   (by omega) (by omega)) (jgo wm_X11_281) yk_X0_copy hso_ rfl rfl ⟨⟨rfl, rfl⟩, by decide, by decide⟩ rfl hl.1 rfl (Nat.le_of_ble_eq_true rfl) dX11_keep_11 ⟨Nat.le_of_ble_eq_true rfl, Nat.le_of_ble_eq_true rfl⟩ (fun v w_ H locs hp hW => ?_)
    obtain ⟨rfl, hU1, hN1, hN2⟩ := hp
    have hU := hU.then hU1 (by first | decide | (simp; done) | (simp; omega))
    have hX_ := hU1.get hX_ (by first | decide | (simp; done) | (simp; omega))
    have hXta_ := hU1.get hXta_ (by first | decide | (simp; done) | (simp; omega))
    have hXfa_ := hU1.get hXfa_ (by first | decide | (simp; done) | (simp; omega))
    have hXwa_ := hU1.get hXwa_ (by first | decide | (simp; done) | (simp; omega))
    have hXya_ := hU1.get hXya_ (by first | decide | (simp; done) | (simp; omega))
    have hXpa_ := hU1.get hXpa_ (by first | decide | (simp; done) | (simp; omega))
    have hO_ := hU1.get hO_ (by first | decide | (simp; done) | (simp; omega))
    have hMo_ := hU1.get hMo_ (by first | decide | (simp; done) | (simp; omega))
    have hMa_ := hU1.get hMa_ (by first | decide | (simp; done) | (simp; omega))
    have hso_ : w_[(43 + 3 * j)]? = some (ad (43 + 3 * j), .inr (0, [.ref (ad (44 + 3 * j)), .int (nI n)])) := hN1
    have hsa_ : w_[(45 + 3 * j)]? = some (ad (45 + 3 * j), .inl (cy 1, 16, .inr (.inl (wd (mdl n sd se nc cs lv))))) := hN2
    clear hU1 hN1 hN2
    refine W.eq (g2 := F0 m 14 ls []) rfl ?_
    refine lv_aload_n S.1 S.2.1 dX11_keep_14 rfl (lv_at hl 1 rfl) ?_
    refine lv_aload_n S.1 S.2.1 dX11_keep_15 rfl (lv_at hl 0 rfl) ?_
    refine j_callV (k := 0) (ci := 10) (q := (RX11, TX11, 15)) (As := [.ref (ad (43 + 3 * j))]) (rest := []) S hK hA hW (c_X11_countNodes l D cy (43 + 3 * j) (44 + 3 * j) (45 + 3 * j) (ad (43 + 3 * j)) (ad (44 + 3 * j)) (ad (45 + 3 * j)) n (mdl n sd se nc cs lv) ad sd se true sz tp fw tw yw pcn od hso_ (hU.get hsl (by first | decide | (simp; done) | (simp; omega))) hsa_ hO_ hX_ (hU.get hXto (by first | decide | (simp; done) | (simp; omega))) hXta_ (hU.get hXfo (by first | decide | (simp; done) | (simp; omega))) hXfa_ (hU.get hXwo (by first | decide | (simp; done) | (simp; omega))) hXwa_ (hU.get hXyo (by first | decide | (simp; done) | (simp; omega))) hXya_ (hU.get hXpo (by first | decide | (simp; done) | (simp; omega))) hXpa_ (hU.get hOo (by first | decide | (simp; done) | (simp; omega))) (hU.get hOa (by first | decide | (simp; done) | (simp; omega)))   (by omega) (hod) (hf) (ht) (by omega)) (jgo wm_X11_260) yk_X11_countNodes hO_ rfl rfl ⟨⟨rfl, rfl⟩, by decide, by decide⟩ rfl hl.1 rfl (Nat.le_of_ble_eq_true rfl) dX11_keep_16 ⟨Nat.le_of_ble_eq_true rfl, Nat.le_of_ble_eq_true rfl⟩ (fun v w_ H locs hp hW => ?_)
    obtain ⟨sz1_16, tp1_16, fw1_16, tw1_16, yw1_16, pcn1_16, rfl, hp16_0, hU1, hN1, hN2, hN3, hN4, hN5, hN6⟩ := hp
    have hU := hU.then hU1 (by first | decide | (simp; done) | (simp; omega))
    have hso_ := hU1.get hso_ (by first | decide | (simp; done) | (simp; omega))
    have hsa_ := hU1.get hsa_ (by first | decide | (simp; done) | (simp; omega))
    have hO_ := hU1.get hO_ (by first | decide | (simp; done) | (simp; omega))
    have hMo_ := hU1.get hMo_ (by first | decide | (simp; done) | (simp; omega))
    have hMa_ := hU1.get hMa_ (by first | decide | (simp; done) | (simp; omega))
    have hX_ : w_[31]? = some (ad 31, .inr (2, [.ref (ad 32), .ref (ad 34), .ref (ad 36), .ref (ad 38), .ref (ad 40), .int (nI sz1_16)])) := hN1
    have hXta_ : w_[33]? = some (ad 33, .inl (cy 0, 1024, .inl (nf tp1_16))) := hN2
    have hXfa_ : w_[35]? = some (ad 35, .inl (cy 0, 272, .inl (nf fw1_16))) := hN3
    have hXwa_ : w_[37]? = some (ad 37, .inl (cy 0, 272, .inl (nf tw1_16))) := hN4
    have hXya_ : w_[39]? = some (ad 39, .inl (cy 0, 272, .inl (nf yw1_16))) := hN5
    have hXpa_ : w_[41]? = some (ad 41, .inl (cy 0, 10, .inl (nf pcn1_16))) := hN6
    clear hU1 hN1 hN2 hN3 hN4 hN5 hN6
    refine W.eq (g2 := F0 m 19 ls [.int (nI (sumN (nodesB (fun d => (mdl n sd se nc cs lv) (layP n od d n)) n) n))]) rfl ?_
    subst hQ
    refine vx_ret ?_
    exact j_iret (u := w_) S hr (rfl) hK hW dX11_keep_19 ⟨by decide, by decide⟩ (⟨_, _, _, _, _, _, j, rfl, hp16_0, hsj, rfl, hU, hO_, hMo_, hMa_, hX_, hXta_, hXfa_, hXwa_, hXya_, hXpa_, hso_, hsa_⟩)
  · have hvj := vB_f hvj
    refine lv_aload_n S.1 S.2.1 dX11_keep_0 rfl (lv_at hl 0 rfl) ?_
    refine lv_iload_n S.1 S.2.1 dX11_keep_1 rfl (lv_at hl 1 rfl) ?_
    refine jx_callq (k := 0) (ci := 10) (q := (RX11, TX11, 15)) (As := [.int v]) (rest := []) S hK hA hW hQ htab hr hx (c_X11_slotAtN l htr D cy ad n sd se fr v hO hS   (hvj)) (jgo wm_X11_277) yk_X11_slotAt hO rfl rfl ⟨⟨rfl, rfl⟩, by decide, by decide⟩ rfl hl.1 rfl (Nat.le_of_ble_eq_true rfl) dX11_keep_2 ⟨Nat.le_of_ble_eq_true rfl, Nat.le_of_ble_eq_true rfl⟩ ⟨by decide, by decide⟩ (fun E u h => by obtain ⟨⟨e1, h⟩, e⟩ := h; exact ⟨⟨e1, h⟩, e⟩) (fun v u H locs hp hW => ?_)
    obtain ⟨rfl, hp2_0, rfl⟩ := hp
    refine W.eq (g2 := F0 m 5 ls []) rfl ?_
    exact hp2_0.elim
/-- nodesOf -/
theorem c_X11_nodesOf (l : Launch) (htr : l.stackTraces = false) (D : va_G) (cy : Nat → ClassId) {w : va_W} (ad : Nat → Nat) (n sd se : Nat) (fr : Bool) (sz : Nat) (tp fw tw yw pcn od : Nat → Nat) (kv : Nat → Int32) (kx : Nat → Nat → Bool) (v : Int32) (hO : w[0]? = some (ad 0, .inr (10, [.int (nI n), .ref (ad 1), .ref (ad 3), .ref (ad 5), .int (nI sd), .int (nI se), .ref (ad 7), .ref (ad 9), .ref (ad 11), .ref (ad 20), .int (bI fr), .ref (ad 23), .ref (ad 26), .ref (ad 31), .ref (ad 42)]))) (hX : w[31]? = some (ad 31, .inr (2, [.ref (ad 32), .ref (ad 34), .ref (ad 36), .ref (ad 38), .ref (ad 40), .int (nI sz)]))) (hXto : w[32]? = some (ad 32, .inr (5, [.ref (ad 33)]))) (hXta : w[33]? = some (ad 33, .inl (cy 0, 1024, .inl (nf tp)))) (hXfo : w[34]? = some (ad 34, .inr (5, [.ref (ad 35)]))) (hXfa : w[35]? = some (ad 35, .inl (cy 0, 272, .inl (nf fw)))) (hXwo : w[36]? = some (ad 36, .inr (5, [.ref (ad 37)]))) (hXwa : w[37]? = some (ad 37, .inl (cy 0, 272, .inl (nf tw)))) (hXyo : w[38]? = some (ad 38, .inr (5, [.ref (ad 39)]))) (hXya : w[39]? = some (ad 39, .inl (cy 0, 272, .inl (nf yw)))) (hXpo : w[40]? = some (ad 40, .inr (5, [.ref (ad 41)]))) (hXpa : w[41]? = some (ad 41, .inl (cy 0, 10, .inl (nf pcn)))) (hOo : w[7]? = some (ad 7, .inr (5, [.ref (ad 8)]))) (hOa : w[8]? = some (ad 8, .inl (cy 0, 10, .inl (nf od)))) (hS : w[42]? = some (ad 42, .inl (cy 4, 4, .inr (.inr (.inr (.inr (slF ad))))))) (hslo : slOK w ad cy kv kx) (hn : n ≤ 10) (hod : ∀ j, od j < 10) (hf : ∀ a, fw a < 272) (ht : ∀ a, tw a < 272) : jMx jTexts l yX11_nodesOf (jws yX11_nodesOf cX11_nodesOf 3 (some .int)) (jR 9 3 18) D cy w [.ref (ad 0), .int v] 3 18 (fun vv uu => ∃ (sz1 : Nat), ∃ (tp1 : Nat → Nat), ∃ (fw1 : Nat → Nat), ∃ (tw1 : Nat → Nat), ∃ (yw1 : Nat → Nat), ∃ (pcn1 : Nat → Nat), ∃ (j : Nat), vv = some (.int (nI (sumN (nodesB (fun d => (kx j) (layP n od d n)) n) n))) ∧ ((∀ a, fw1 a < 272) ∧ (∀ a, tw1 a < 272)) ∧ j < 4 ∧ v = nI j ∧ kv j = nI n ∧ jU w uu [31, 33, 35, 37, 39, 41] ∧ uu[31]? = some (ad 31, .inr (2, [.ref (ad 32), .ref (ad 34), .ref (ad 36), .ref (ad 38), .ref (ad 40), .int (nI sz1)])) ∧ uu[33]? = some (ad 33, .inl (cy 0, 1024, .inl (nf tp1))) ∧ uu[35]? = some (ad 35, .inl (cy 0, 272, .inl (nf fw1))) ∧ uu[37]? = some (ad 37, .inl (cy 0, 272, .inl (nf tw1))) ∧ uu[39]? = some (ad 39, .inl (cy 0, 272, .inl (nf yw1))) ∧ uu[41]? = some (ad 41, .inl (cy 0, 10, .inl (nf pcn1)))) (fun EE uu => ((EE = "java/lang/IllegalArgumentException" ∧ (vB v 4 = false)) ∨ (EE = "java/util/NoSuchElementException" ∧ (∃ j, j < 4 ∧ v = nI j ∧ kv j = -1)) ∨ (EE = "java/lang/UnsupportedOperationException" ∧ (∃ j, j < 4 ∧ v = nI j ∧ kv j ≠ -1 ∧ kv j ≠ nI n))) ∧ w = uu) := by
  refine jx_of (by decide) rfl (Nat.le_of_ble_eq_true rfl) ?_
  intro p e s m args below meth c A ls Q hQ S hr hK hA H locs hW hl htab hx
  have hl : lv_has ls 3 [(0, .ref (ad 0)), (1, .int v)] := hl
  rcases i_cases v 4 (by decide) with ⟨j, hsj, rfl⟩ | hvj
  · obtain ⟨hso, hsl, hsa⟩ := hslo j hsj
    refine lv_aload_n S.1 S.2.1 dX11_nodesOf_0 rfl (lv_at hl 0 rfl) ?_
    refine lv_iload_n S.1 S.2.1 dX11_nodesOf_1 rfl (lv_at hl 1 rfl) ?_
    refine j_callV (k := 0) (ci := 10) (q := (RX11, TX11, 15)) (As := [.int (nI j)]) (rest := []) S hK hA hW (c_X11_slotAtY l D cy ad n sd se fr j hO hS   (hsj)) (jgo wm_X11_277) yk_X11_slotAt hO rfl rfl ⟨⟨rfl, rfl⟩, by decide, by decide⟩ rfl hl.1 rfl (Nat.le_of_ble_eq_true rfl) dX11_nodesOf_2 ⟨Nat.le_of_ble_eq_true rfl, Nat.le_of_ble_eq_true rfl⟩ (fun v u H locs hp hW => ?_)
    obtain ⟨rfl, rfl⟩ := hp
    refine W.eq (g2 := F0 m 5 ls [.ref (ad (43 + 3 * j))]) rfl ?_
    refine lv_astore_n (lv' := [(2, .ref (ad (43 + 3 * j))), (0, .ref (ad 0)), (1, .int (nI j))]) S.1 S.2.1 dX11_nodesOf_5 rfl hl (by decide) rfl (fun ls hl => ?_)
    refine lv_aload_n S.1 S.2.1 dX11_nodesOf_6 rfl (lv_at hl 1 rfl) ?_
    refine lv_aload_n S.1 S.2.1 dX11_nodesOf_7 rfl (lv_at hl 0 rfl) ?_
    refine jx_callq (k := 0) (ci := 10) (q := (RX11, TX11, 15)) (As := [.ref (ad (43 + 3 * j))]) (rest := []) S hK hA hW hQ htab hr hx (c_X11_checkKept l htr D cy (43 + 3 * j) (44 + 3 * j) (45 + 3 * j) (ad (43 + 3 * j)) (ad (44 + 3 * j)) (ad (45 + 3 * j)) (kv j) ad (kx j) hso hsl hsa   ) (jgo wm_X11_287) yk_X11_checkKept hO rfl rfl ⟨⟨rfl, rfl⟩, by decide, by decide⟩ rfl hl.1 rfl (Nat.le_of_ble_eq_true rfl) dX11_nodesOf_8 ⟨Nat.le_of_ble_eq_true rfl, Nat.le_of_ble_eq_true rfl⟩ ⟨by decide, by decide⟩ (fun E u h => by obtain ⟨⟨e1, h⟩, e⟩ := h; exact ⟨Or.inr (Or.inl ⟨e1, ⟨j, hsj, rfl, h⟩⟩), e⟩) (fun v u H locs hp hW => ?_)
    obtain ⟨rfl, hp8_0, rfl⟩ := hp
    refine W.eq (g2 := F0 m 11 ls []) rfl ?_
    refine lv_aload_n S.1 S.2.1 dX11_nodesOf_11 rfl (lv_at hl 1 rfl) ?_
    refine lv_aload_n S.1 S.2.1 dX11_nodesOf_12 rfl (lv_at hl 0 rfl) ?_
    refine jx_callq (k := 0) (ci := 10) (q := (RX11, TX11, 15)) (As := [.ref (ad (43 + 3 * j))]) (rest := []) S hK hA hW hQ htab hr hx (c_X11_checkAsManyAsNow l htr D cy (43 + 3 * j) (44 + 3 * j) (45 + 3 * j) (ad (43 + 3 * j)) (ad (44 + 3 * j)) (ad (45 + 3 * j)) (kv j) (kx j) ad n sd se fr hso hsl hsa hO   ) (jgo wm_X11_290) yk_X11_checkAsManyAsNow hO rfl rfl ⟨⟨rfl, rfl⟩, by decide, by decide⟩ rfl hl.1 rfl (Nat.le_of_ble_eq_true rfl) dX11_nodesOf_13 ⟨Nat.le_of_ble_eq_true rfl, Nat.le_of_ble_eq_true rfl⟩ ⟨by decide, by decide⟩ (fun E u h => by obtain ⟨⟨e1, h⟩, e⟩ := h; exact ⟨Or.inr (Or.inr (⟨e1, ⟨j, hsj, rfl, hp8_0, h⟩⟩)), e⟩) (fun v u H locs hp hW => ?_)
    obtain ⟨rfl, hp13_0, rfl⟩ := hp
    refine W.eq (g2 := F0 m 16 ls []) rfl ?_
    rw [hp13_0] at hso
    refine lv_aload_n S.1 S.2.1 dX11_nodesOf_16 rfl (lv_at hl 1 rfl) ?_
    refine lv_aload_n S.1 S.2.1 dX11_nodesOf_17 rfl (lv_at hl 0 rfl) ?_
    refine j_callV (k := 0) (ci := 10) (q := (RX11, TX11, 15)) (As := [.ref (ad (43 + 3 * j))]) (rest := []) S hK hA hW (c_X11_countNodes l D cy (43 + 3 * j) (44 + 3 * j) (45 + 3 * j) (ad (43 + 3 * j)) (ad (44 + 3 * j)) (ad (45 + 3 * j)) n (kx j) ad sd se fr sz tp fw tw yw pcn od hso hsl hsa hO hX hXto hXta hXfo hXfa hXwo hXwa hXyo hXya hXpo hXpa hOo hOa   (by omega) (hod) (hf) (ht) (by omega)) (jgo wm_X11_260) yk_X11_countNodes hO rfl rfl ⟨⟨rfl, rfl⟩, by decide, by decide⟩ rfl hl.1 rfl (Nat.le_of_ble_eq_true rfl) dX11_nodesOf_18 ⟨Nat.le_of_ble_eq_true rfl, Nat.le_of_ble_eq_true rfl⟩ (fun v w_ H locs hp hW => ?_)
    obtain ⟨sz1_18, tp1_18, fw1_18, tw1_18, yw1_18, pcn1_18, rfl, hp18_0, hU1, hN1, hN2, hN3, hN4, hN5, hN6⟩ := hp
    have hU : jU w w_ [31, 33, 35, 37, 39, 41] := jU.mono hU1 (by first | decide | (simp; done) | (simp; omega))
    have hX_ : w_[31]? = some (ad 31, .inr (2, [.ref (ad 32), .ref (ad 34), .ref (ad 36), .ref (ad 38), .ref (ad 40), .int (nI sz1_18)])) := hN1
    have hXta_ : w_[33]? = some (ad 33, .inl (cy 0, 1024, .inl (nf tp1_18))) := hN2
    have hXfa_ : w_[35]? = some (ad 35, .inl (cy 0, 272, .inl (nf fw1_18))) := hN3
    have hXwa_ : w_[37]? = some (ad 37, .inl (cy 0, 272, .inl (nf tw1_18))) := hN4
    have hXya_ : w_[39]? = some (ad 39, .inl (cy 0, 272, .inl (nf yw1_18))) := hN5
    have hXpa_ : w_[41]? = some (ad 41, .inl (cy 0, 10, .inl (nf pcn1_18))) := hN6
    clear hU1 hN1 hN2 hN3 hN4 hN5 hN6
    refine W.eq (g2 := F0 m 21 ls [.int (nI (sumN (nodesB (fun d => (kx j) (layP n od d n)) n) n))]) rfl ?_
    subst hQ
    refine vx_ret ?_
    exact j_iret (u := w_) S hr (rfl) hK hW dX11_nodesOf_21 ⟨by decide, by decide⟩ (⟨_, _, _, _, _, _, j, rfl, hp18_0, hsj, rfl, hp13_0, hU, hX_, hXta_, hXfa_, hXwa_, hXya_, hXpa_⟩)
  · have hvj := vB_f hvj
    refine lv_aload_n S.1 S.2.1 dX11_nodesOf_0 rfl (lv_at hl 0 rfl) ?_
    refine lv_iload_n S.1 S.2.1 dX11_nodesOf_1 rfl (lv_at hl 1 rfl) ?_
    refine jx_callq (k := 0) (ci := 10) (q := (RX11, TX11, 15)) (As := [.int v]) (rest := []) S hK hA hW hQ htab hr hx (c_X11_slotAtN l htr D cy ad n sd se fr v hO hS   (hvj)) (jgo wm_X11_277) yk_X11_slotAt hO rfl rfl ⟨⟨rfl, rfl⟩, by decide, by decide⟩ rfl hl.1 rfl (Nat.le_of_ble_eq_true rfl) dX11_nodesOf_2 ⟨Nat.le_of_ble_eq_true rfl, Nat.le_of_ble_eq_true rfl⟩ ⟨by decide, by decide⟩ (fun E u h => by obtain ⟨⟨e1, h⟩, e⟩ := h; exact ⟨Or.inl ⟨e1, h⟩, e⟩) (fun v u H locs hp hW => ?_)
    obtain ⟨rfl, hp2_0, rfl⟩ := hp
    refine W.eq (g2 := F0 m 5 ls []) rfl ?_
    exact hp2_0.elim
/-- modelsOf -/
theorem c_X11_modelsOf (l : Launch) (htr : l.stackTraces = false) (D : va_G) (cy : Nat → ClassId) {w : va_W} (ad : Nat → Nat) (n sd se : Nat) (fr : Bool) (kv : Nat → Int32) (kx : Nat → Nat → Bool) (v : Int32) (hO : w[0]? = some (ad 0, .inr (10, [.int (nI n), .ref (ad 1), .ref (ad 3), .ref (ad 5), .int (nI sd), .int (nI se), .ref (ad 7), .ref (ad 9), .ref (ad 11), .ref (ad 20), .int (bI fr), .ref (ad 23), .ref (ad 26), .ref (ad 31), .ref (ad 42)]))) (hS : w[42]? = some (ad 42, .inl (cy 4, 4, .inr (.inr (.inr (.inr (slF ad))))))) (hslo : slOK w ad cy kv kx) (hn : n ≤ 10) : jMx jTexts l yX11_modelsOf (jws yX11_modelsOf cX11_modelsOf 3 (some .long)) (jR 9 2 12) D cy w [.ref (ad 0), .int v] 2 12 (fun vv uu => ∃ (j : Nat), vv = some (.long (lN (cnt (kx j) 1024))) ∧ j < 4 ∧ v = nI j ∧ kv j ≠ -1 ∧ w = uu) (fun EE uu => ((EE = "java/lang/IllegalArgumentException" ∧ (vB v 4 = false)) ∨ (EE = "java/util/NoSuchElementException" ∧ (∃ j, j < 4 ∧ v = nI j ∧ kv j = -1))) ∧ w = uu) := by
  refine jx_of (by decide) rfl (Nat.le_of_ble_eq_true rfl) ?_
  intro p e s m args below meth c A ls Q hQ S hr hK hA H locs hW hl htab hx
  have hl : lv_has ls 3 [(0, .ref (ad 0)), (1, .int v)] := hl
  rcases i_cases v 4 (by decide) with ⟨j, hsj, rfl⟩ | hvj
  · obtain ⟨hso, hsl, hsa⟩ := hslo j hsj
    refine lv_aload_n S.1 S.2.1 dX11_modelsOf_0 rfl (lv_at hl 0 rfl) ?_
    refine lv_iload_n S.1 S.2.1 dX11_modelsOf_1 rfl (lv_at hl 1 rfl) ?_
    refine j_callV (k := 0) (ci := 10) (q := (RX11, TX11, 15)) (As := [.int (nI j)]) (rest := []) S hK hA hW (c_X11_slotAtY l D cy ad n sd se fr j hO hS   (hsj)) (jgo wm_X11_277) yk_X11_slotAt hO rfl rfl ⟨⟨rfl, rfl⟩, by decide, by decide⟩ rfl hl.1 rfl (Nat.le_of_ble_eq_true rfl) dX11_modelsOf_2 ⟨Nat.le_of_ble_eq_true rfl, Nat.le_of_ble_eq_true rfl⟩ (fun v u H locs hp hW => ?_)
    obtain ⟨rfl, rfl⟩ := hp
    refine W.eq (g2 := F0 m 5 ls [.ref (ad (43 + 3 * j))]) rfl ?_
    refine lv_astore_n (lv' := [(2, .ref (ad (43 + 3 * j))), (0, .ref (ad 0)), (1, .int (nI j))]) S.1 S.2.1 dX11_modelsOf_5 rfl hl (by decide) rfl (fun ls hl => ?_)
    refine lv_aload_n S.1 S.2.1 dX11_modelsOf_6 rfl (lv_at hl 1 rfl) ?_
    refine lv_aload_n S.1 S.2.1 dX11_modelsOf_7 rfl (lv_at hl 0 rfl) ?_
    refine jx_callq (k := 0) (ci := 10) (q := (RX11, TX11, 15)) (As := [.ref (ad (43 + 3 * j))]) (rest := []) S hK hA hW hQ htab hr hx (c_X11_checkKept l htr D cy (43 + 3 * j) (44 + 3 * j) (45 + 3 * j) (ad (43 + 3 * j)) (ad (44 + 3 * j)) (ad (45 + 3 * j)) (kv j) ad (kx j) hso hsl hsa   ) (jgo wm_X11_287) yk_X11_checkKept hO rfl rfl ⟨⟨rfl, rfl⟩, by decide, by decide⟩ rfl hl.1 rfl (Nat.le_of_ble_eq_true rfl) dX11_modelsOf_8 ⟨Nat.le_of_ble_eq_true rfl, Nat.le_of_ble_eq_true rfl⟩ ⟨by decide, by decide⟩ (fun E u h => by obtain ⟨⟨e1, h⟩, e⟩ := h; exact ⟨Or.inr (⟨e1, ⟨j, hsj, rfl, h⟩⟩), e⟩) (fun v u H locs hp hW => ?_)
    obtain ⟨rfl, hp8_0, rfl⟩ := hp
    refine W.eq (g2 := F0 m 11 ls []) rfl ?_
    refine lv_aload_n S.1 S.2.1 dX11_modelsOf_11 rfl (lv_at hl 0 rfl) ?_
    refine j_callV (k := 43 + 3 * j) (ci := 0) (q := (RX0, TX0, 2)) (As := []) (rest := []) S hK hA hW (c_X0_size l D cy (43 + 3 * j) (44 + 3 * j) (45 + 3 * j) (ad (43 + 3 * j)) (ad (44 + 3 * j)) (ad (45 + 3 * j)) (kv j) (kx j) hso hsl hsa   ) (jgo wm_X11_203) yk_X0_size hso rfl rfl ⟨⟨rfl, rfl⟩, by decide, by decide⟩ rfl hl.1 rfl (Nat.le_of_ble_eq_true rfl) dX11_modelsOf_12 ⟨Nat.le_of_ble_eq_true rfl, Nat.le_of_ble_eq_true rfl⟩ (fun v u H locs hp hW => ?_)
    obtain ⟨rfl, rfl⟩ := hp
    refine W.eq (g2 := F0 m 15 ls [.int (nI (cnt (kx j) 1024))]) rfl ?_
    have hcm := cnt_le (kx j) 1024
    refine lv_i2l (v := lN (cnt (kx j) 1024)) S.1 S.2.1 dX11_modelsOf_15 (nI_l (by omega)) ?_
    subst hQ
    refine vx_ret ?_
    exact j_lret (u := w) S hr hK hW dX11_modelsOf_16 ⟨by decide, by decide⟩ (⟨j, rfl, hsj, rfl, hp8_0, rfl⟩)
  · have hvj := vB_f hvj
    refine lv_aload_n S.1 S.2.1 dX11_modelsOf_0 rfl (lv_at hl 0 rfl) ?_
    refine lv_iload_n S.1 S.2.1 dX11_modelsOf_1 rfl (lv_at hl 1 rfl) ?_
    refine jx_callq (k := 0) (ci := 10) (q := (RX11, TX11, 15)) (As := [.int v]) (rest := []) S hK hA hW hQ htab hr hx (c_X11_slotAtN l htr D cy ad n sd se fr v hO hS   (hvj)) (jgo wm_X11_277) yk_X11_slotAt hO rfl rfl ⟨⟨rfl, rfl⟩, by decide, by decide⟩ rfl hl.1 rfl (Nat.le_of_ble_eq_true rfl) dX11_modelsOf_2 ⟨Nat.le_of_ble_eq_true rfl, Nat.le_of_ble_eq_true rfl⟩ ⟨by decide, by decide⟩ (fun E u h => by obtain ⟨⟨e1, h⟩, e⟩ := h; exact ⟨Or.inl ⟨e1, h⟩, e⟩) (fun v u H locs hp hW => ?_)
    obtain ⟨rfl, hp2_0, rfl⟩ := hp
    refine W.eq (g2 := F0 m 5 ls []) rfl ?_
    exact hp2_0.elim
