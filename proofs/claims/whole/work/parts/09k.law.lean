/-! THE LAW: slots (laid by wip/whole/tools, from the specs there) -/
/-- the law's keep -/
theorem s_keep {p : Program} {l : Launch} {e : Env} {s : State} {m : MethodId} {args : Array Value} {below : List Frame} {meth : Method} {c : Code} {Q : State → Prop} {D : va_G} {cy : Nat → ClassId} {A : Nat → Prop} {x0 : Cond} {ad : Nat → Nat} {b L : Nat} {xs : Nat → Int32} {i : Nat} {w : va_W} {H : Heap} {locs : List Loc} {ls : Array Slot} {cells slots : Nat} (htr : l.stackTraces = false) (C : LX p s m c args D cy A b L xs x0) (hI : INV ad cy w) (hW : jW D A s.heap w H locs) (hl : lv_has ls 10 [(0, .ref b), (1, .ref (ad 0)), (2, .ref (ad 55)), (3, .ref (ad 74)), (4, .ref (ad 75)), (5, .int (nI i))]) (hi : i + 5 ≤ L) (hL : L ≤ 2560) (hc : cells + 10 ≤ 601024) (hs : slots + 64 ≤ 7293033) (kk : LK p l e s m args below meth c Q D cy A ad b i cells slots) : W p l e room_1 s m args below meth c H locs cells slots Q (F0 m 1715 ls []) := by
  obtain ⟨S, hK, hA, hX, hbl, hbA, hx, hnx⟩ := C
  obtain ⟨n, wf, wt, od, sd, se, nc, lv, cs, kv, kx, th, og, ogd, hPI, hCI, hRI, hOut, hOuD⟩ := hI
  have hPI0 := hPI
  obtain ⟨hn, hsdn, hse2, hnc, hlvn, hcs, hkI, hod, hodn, hinj⟩ := hPI0
  have hp2 := two_pow10 hn
  have hpt := Nat.two_pow_pos n
  have hWB := hCI.wb
  refine lv_aload_n S.1 S.2.1 dL_law_1715 rfl (lv_at hl 1 rfl) ?_
  refine lv_aload_n S.1 S.2.1 dL_law_1716 rfl (lv_at hl 0 rfl) ?_
  refine lv_iload S.1 S.2.1 dL_law_1717 (lv_at hl 5 rfl) ?_
  refine lv_iconst (v := nI 1) S.1 S.2.1 dL_law_1719 (by decide) ?_
  refine jn_add S dL_law_1720 ?_
  refine j_sld (x := xs (i + 1)) S hX hbl hbA hW (vp_in_nI (by omega) (by omega)) (nI_clamp (by omega)) (rfl) dL_law_1721 ?_
  refine lv_aload_n S.1 S.2.1 dL_law_1722 rfl (lv_at hl 3 rfl) ?_
  refine j_callH (As := [.ref (ad 0), .int (xs (i + 1)), .ref (ad 74)]) (rest := []) S hK hA hW hx hnx (h_keep l htr D cy ad n wf wt od sd se nc lv cs kv kx (xs (i + 1)) og ogd hPI hCI hOut hOuD) (jgo wm_L_236) yk_L_keep ⟨⟨rfl, rfl⟩, by decide, by decide⟩ rfl hl.1 rfl (Nat.le_of_ble_eq_true rfl) dL_law_1723 ⟨by show cells + 1 ≤ 601024; omega, by show slots + 6 ≤ 7293033; omega⟩ (fun v w H locs hp hW => ?_)
  rcases hp with ⟨j1, rfl, hq0, hq1, ⟨K1, hU1, hK1⟩, hCI, hOut, hOuD⟩ | ⟨rfl, hq, ⟨K1, hU1, hK1⟩, hCI, hOut, hOuD⟩
  · have hRI := hRI.kept hU1 (fun k hk => by have := hK1 k hk; omega)
    obtain ⟨gx, rb, tu, gO, gF, gT, gE, gD, gC0, gC1, gC2, gC3, gC4, gP, gK, gV, gR, gU, hrow, hkx⟩ := hRI
    have hPI1 : PI n wf wt od sd se nc lv cs (upd kv j1 (nI n)) (upB kx j1 (mdl n sd se nc cs lv)) := hPI.keep (fun a ha => mdl_hi ha)
    have gXj := hrow j1 hq0
    refine W.eq (g2 := F0 m 1726 ls [.int (nI 0)]) rfl ?_
    refine lv_istore (lv' := [(6, .int (nI 0)), (0, .ref b), (1, .ref (ad 0)), (2, .ref (ad 55)), (3, .ref (ad 74)), (4, .ref (ad 75)), (5, .int (nI i))]) S.1 S.2.1 dL_law_1726 hl (by decide) rfl (fun ls hl => ?_)
    refine lv_aload_n S.1 S.2.1 dL_law_1728 rfl (lv_at hl 3 rfl) ?_
    refine lv_aload_n S.1 S.2.1 dL_law_1729 rfl (lv_at hl 1 rfl) ?_
    refine lv_iload S.1 S.2.1 dL_law_1730 (lv_at hl 6 rfl) ?_
    refine lv_iconst (v := nI 1) S.1 S.2.1 dL_law_1732 (by decide) ?_
    refine jn_add S dL_law_1733 ?_
    refine j_sld (x := nI j1) S hX hbl hbA hW (vp_in_nI (by omega) (by omega)) (nI_clamp (by omega)) (hq1) dL_law_1734 ?_
    refine j_callV (k := 55) (ci := 11) (q := (RX12, TX12, 17)) (As := [.int (nI j1)]) (rest := []) S hK hA hW (c_X12_keep_ok l D cy ad th n nc sd se lv cs od rb tu kv gx j1 gO gE gP gC0 gC1 gC2 gC3 gC4 gD gR gU gK gV gXj   (by omega) (by omega) (hse2) (by omega) (hcs) (hod) (by omega)) (jgo wm_L_238) yk_X12_keep gO rfl rfl ⟨⟨rfl, rfl⟩, by decide, by decide⟩ rfl hl.1 rfl (Nat.le_of_ble_eq_true rfl) dL_law_1735 ⟨by show (cells + 1) + 0 ≤ 601024; omega, by show (slots + 6) + 0 ≤ 7293033; omega⟩ (fun v w_ H locs hp hW => ?_)
    obtain ⟨rb1_1735, tu1_1735, rfl, hU1, hN1, hN2, hN3, hN4, hN5⟩ := hp
    have hU : jU w w_ [55, 56, 57, 58, 59, 60, 61, 62, 63, 64, 65, 66, 71, 72, 73, 74, 75, 67 + j1] := jU.mono hU1 (by first | decide | (simp; done) | (simp; omega))
    have gF_ := hU1.get gF (by first | decide | (simp; done) | (simp; omega))
    have gT_ := hU1.get gT (by first | decide | (simp; done) | (simp; omega))
    have gE_ := hU1.get gE (by first | decide | (simp; done) | (simp; omega))
    have gD_ := hU1.get gD (by first | decide | (simp; done) | (simp; omega))
    have gC0_ := hU1.get gC0 (by first | decide | (simp; done) | (simp; omega))
    have gC1_ := hU1.get gC1 (by first | decide | (simp; done) | (simp; omega))
    have gC2_ := hU1.get gC2 (by first | decide | (simp; done) | (simp; omega))
    have gC3_ := hU1.get gC3 (by first | decide | (simp; done) | (simp; omega))
    have gC4_ := hU1.get gC4 (by first | decide | (simp; done) | (simp; omega))
    have gP_ := hU1.get gP (by first | decide | (simp; done) | (simp; omega))
    have gK_ := hU1.get gK (by first | decide | (simp; done) | (simp; omega))
    have hOut_ := hU1.get hOut (by first | decide | (simp; done) | (simp; omega))
    have hOuD_ := hU1.get hOuD (by first | decide | (simp; done) | (simp; omega))
    have gO_ : w_[55]? = some (ad 55, .inr (11, [.int (nI 0), .ref (ad 56), .ref (ad 57), .ref (ad 58), .ref (ad 59), .ref (ad 60), .ref (ad 61), .ref (ad 62), .ref (ad 63), .ref (ad 64), .ref (ad 65), .int (nI n), .int (nI nc), .ref (ad 66), .ref (ad 71), .ref (ad 72), .ref (ad 73)])) := hN1
    have gXj_ : w_[67 + j1]? = some (ad (67 + j1), .inl (cy 3, 1024, .inl (bf (rowM (rowM (mdl n sd se nc cs lv) rb) (gx j1))))) := hN2
    have gV_ : w_[71]? = some (ad 71, .inl (cy 0, 4, .inl (upd kv j1 (nI n)))) := hN3
    have gR_ : w_[72]? = some (ad 72, .inl (cy 3, 1024, .inl (bf rb1_1735))) := hN4
    have gU_ : w_[73]? = some (ad 73, .inl (cy 3, 1024, .inl (bf tu1_1735))) := hN5
    clear hU1 hN1 hN2 hN3 hN4 hN5
    refine W.eq (g2 := F0 m 1738 ls [.int (nI (sumN (nodesB (fun d => (mdl n sd se nc cs lv) (layP n od d n)) n) n))]) rfl ?_
    refine lv_istore (lv' := [(7, .int (nI (sumN (nodesB (fun d => (mdl n sd se nc cs lv) (layP n od d n)) n) n))), (6, .int (nI 0)), (0, .ref b), (1, .ref (ad 0)), (2, .ref (ad 55)), (3, .ref (ad 74)), (4, .ref (ad 75)), (5, .int (nI i))]) S.1 S.2.1 dL_law_1738 hl (by decide) rfl (fun ls hl => ?_)
    refine lv_aload_n S.1 S.2.1 dL_law_1740 rfl (lv_at hl 4 rfl) ?_
    refine j_callV (k := 55) (ci := 11) (q := (RX12, TX12, 17)) (As := []) (rest := []) S hK hA hW (c_X12_thrown l D cy ad 0 n nc gO_   ) (jgo wm_L_136) yk_X12_thrown gO_ rfl rfl ⟨⟨rfl, rfl⟩, by decide, by decide⟩ rfl hl.1 rfl (Nat.le_of_ble_eq_true rfl) dL_law_1741 ⟨by show (cells + 1) + 0 ≤ 601024; omega, by show (slots + 6) + 0 ≤ 7293033; omega⟩ (fun v u H locs hp hW => ?_)
    obtain ⟨rfl, rfl⟩ := hp
    refine W.eq (g2 := F0 m 1744 ls [.int (nI 0)]) rfl ?_
    refine lv_iload S.1 S.2.1 dL_law_1744 (lv_at hl 1 rfl) ?_
    refine jn_cmp_eq (tgt := 1751) S (by omega) (by omega) dL_law_1746 (by decide) (fun c_1746 => ?_) (fun c_1746 => ?_)
    · refine lv_iload S.1 S.2.1 dL_law_1751 (lv_at hl 1 rfl) ?_
      refine jn_if_ne (tgt := 1768) S (by omega) dL_law_1753 (by decide) (fun c_1753 => ?_) (fun c_1753 => ?_)
      · first | exact absurd (show 0 ≠ 0 from c_1753) (by decide) | exact absurd c_1753 (by decide)
      · refine lv_aload_n S.1 S.2.1 dL_law_1756 rfl (lv_at hl 5 rfl) ?_
        refine lv_iconst (v := nI 0) S.1 S.2.1 dL_law_1757 (by decide) ?_
        refine j_lald (x := (nI (sumN (nodesB (fun d => (mdl n sd se nc cs lv) (layP n od d n)) n) n)).toInt64) S hK hW hOut_ (vp_in_nI (by omega) (by omega)) (nI_clamp (by omega)) (if_pos rfl) dL_law_1758 ?_
        refine lv_iload S.1 S.2.1 dL_law_1759 (lv_at hl 0 rfl) ?_
        refine lv_i2l (v := (nI (sumN (nodesB (fun d => (mdl n sd se nc cs lv) (layP n od d n)) n) n)).toInt64) S.1 S.2.1 dL_law_1761 (rfl) ?_
        refine jl_eq (tgt := 1768) S dL_law_1762 dL_law_1763 (by decide) (fun c_1763 => ?_) (fun c_1763 => ?_)
        · refine lv_goto (tgt := 2382) S.1 S.2.1 dL_law_1768 (by decide) ?_
          exact W.widen (by omega) (by omega) (kk _ _ _ _ ⟨_, _, _, _, _, _, _, _, _, _, _, _, _, _, hPI1, (hCI.kept hU (by first | decide | (intro k hk; simp at hk; omega))), ⟨upB gx j1 _, _, _, gO_, gF_, gT_, gE_, gD_, gC0_, gC1_, gC2_, gC3_, gC4_, gP_, gK_, gV_, gR_, gU_, rowK hrow hU (fun k hk => by simp at hk; omega) gXj_, kxK hkx (fun a ha => by rw [row_at ha, row_at ha]) upd_ne⟩, hOut_, hOuD_⟩ hW (lv_sub hl [2, 3, 4, 5, 6, 7] rfl))
        · exact absurd rfl c_1763
    · first | exact absurd (show 0 ≠ 0 from c_1746) (by decide) | exact absurd c_1746 (by decide)
  · have hRI := hRI.kept hU1 (fun k hk => by have := hK1 k hk; omega)
    obtain ⟨gx, rb, tu, gO, gF, gT, gE, gD, gC0, gC1, gC2, gC3, gC4, gP, gK, gV, gR, gU, hrow, hkx⟩ := hRI
    refine W.eq (g2 := F0 m 1726 ls [.int (nI 1)]) rfl ?_
    refine lv_istore (lv' := [(6, .int (nI 1)), (0, .ref b), (1, .ref (ad 0)), (2, .ref (ad 55)), (3, .ref (ad 74)), (4, .ref (ad 75)), (5, .int (nI i))]) S.1 S.2.1 dL_law_1726 hl (by decide) rfl (fun ls hl => ?_)
    refine lv_aload_n S.1 S.2.1 dL_law_1728 rfl (lv_at hl 3 rfl) ?_
    refine lv_aload_n S.1 S.2.1 dL_law_1729 rfl (lv_at hl 1 rfl) ?_
    refine lv_iload S.1 S.2.1 dL_law_1730 (lv_at hl 6 rfl) ?_
    refine lv_iconst (v := nI 1) S.1 S.2.1 dL_law_1732 (by decide) ?_
    refine jn_add S dL_law_1733 ?_
    refine j_sld (x := xs (i + 1)) S hX hbl hbA hW (vp_in_nI (by omega) (by omega)) (nI_clamp (by omega)) (rfl) dL_law_1734 ?_
    refine j_callV (k := 55) (ci := 11) (q := (RX12, TX12, 17)) (As := [.int (xs (i + 1))]) (rest := []) S hK hA hW (c_X12_keep_b l D cy ad th n nc (xs (i + 1)) gO   (hq)) (jgo wm_L_238) yk_X12_keep gO rfl rfl ⟨⟨rfl, rfl⟩, by decide, by decide⟩ rfl hl.1 rfl (Nat.le_of_ble_eq_true rfl) dL_law_1735 ⟨by show (cells + 1) + 0 ≤ 601024; omega, by show (slots + 6) + 0 ≤ 7293033; omega⟩ (fun v w_ H locs hp hW => ?_)
    obtain ⟨rfl, hU1, hN1⟩ := hp
    have hU : jU w w_ [55, 56, 57, 58, 59, 60, 61, 62, 63, 64, 65, 66, 71, 72, 73, 74, 75] := jU.mono hU1 (by first | decide | (simp; done) | (simp; omega))
    have gF_ := hU1.get gF (by first | decide | (simp; done) | (simp; omega))
    have gT_ := hU1.get gT (by first | decide | (simp; done) | (simp; omega))
    have gE_ := hU1.get gE (by first | decide | (simp; done) | (simp; omega))
    have gD_ := hU1.get gD (by first | decide | (simp; done) | (simp; omega))
    have gC0_ := hU1.get gC0 (by first | decide | (simp; done) | (simp; omega))
    have gC1_ := hU1.get gC1 (by first | decide | (simp; done) | (simp; omega))
    have gC2_ := hU1.get gC2 (by first | decide | (simp; done) | (simp; omega))
    have gC3_ := hU1.get gC3 (by first | decide | (simp; done) | (simp; omega))
    have gC4_ := hU1.get gC4 (by first | decide | (simp; done) | (simp; omega))
    have gP_ := hU1.get gP (by first | decide | (simp; done) | (simp; omega))
    have gK_ := hU1.get gK (by first | decide | (simp; done) | (simp; omega))
    have gV_ := hU1.get gV (by first | decide | (simp; done) | (simp; omega))
    have gR_ := hU1.get gR (by first | decide | (simp; done) | (simp; omega))
    have gU_ := hU1.get gU (by first | decide | (simp; done) | (simp; omega))
    have hOut_ := hU1.get hOut (by first | decide | (simp; done) | (simp; omega))
    have hOuD_ := hU1.get hOuD (by first | decide | (simp; done) | (simp; omega))
    have gO_ : w_[55]? = some (ad 55, .inr (11, [.int (nI 1), .ref (ad 56), .ref (ad 57), .ref (ad 58), .ref (ad 59), .ref (ad 60), .ref (ad 61), .ref (ad 62), .ref (ad 63), .ref (ad 64), .ref (ad 65), .int (nI n), .int (nI nc), .ref (ad 66), .ref (ad 71), .ref (ad 72), .ref (ad 73)])) := hN1
    clear hU1 hN1
    refine W.eq (g2 := F0 m 1738 ls [.int (nI 0)]) rfl ?_
    refine lv_istore (lv' := [(7, .int (nI 0)), (6, .int (nI 1)), (0, .ref b), (1, .ref (ad 0)), (2, .ref (ad 55)), (3, .ref (ad 74)), (4, .ref (ad 75)), (5, .int (nI i))]) S.1 S.2.1 dL_law_1738 hl (by decide) rfl (fun ls hl => ?_)
    refine lv_aload_n S.1 S.2.1 dL_law_1740 rfl (lv_at hl 4 rfl) ?_
    refine j_callV (k := 55) (ci := 11) (q := (RX12, TX12, 17)) (As := []) (rest := []) S hK hA hW (c_X12_thrown l D cy ad 1 n nc gO_   ) (jgo wm_L_136) yk_X12_thrown gO_ rfl rfl ⟨⟨rfl, rfl⟩, by decide, by decide⟩ rfl hl.1 rfl (Nat.le_of_ble_eq_true rfl) dL_law_1741 ⟨by show (cells + 1) + 0 ≤ 601024; omega, by show (slots + 6) + 0 ≤ 7293033; omega⟩ (fun v u H locs hp hW => ?_)
    obtain ⟨rfl, rfl⟩ := hp
    refine W.eq (g2 := F0 m 1744 ls [.int (nI 1)]) rfl ?_
    refine lv_iload S.1 S.2.1 dL_law_1744 (lv_at hl 1 rfl) ?_
    refine jn_cmp_eq (tgt := 1751) S (by omega) (by omega) dL_law_1746 (by decide) (fun c_1746 => ?_) (fun c_1746 => ?_)
    · refine lv_iload S.1 S.2.1 dL_law_1751 (lv_at hl 1 rfl) ?_
      refine jn_if_ne (tgt := 1768) S (by omega) dL_law_1753 (by decide) (fun c_1753 => ?_) (fun c_1753 => ?_)
      · refine lv_goto (tgt := 2382) S.1 S.2.1 dL_law_1768 (by decide) ?_
        exact W.widen (by omega) (by omega) (kk _ _ _ _ ⟨_, _, _, _, _, _, _, _, _, _, _, _, _, _, hPI, (hCI.kept hU (by first | decide | (intro k hk; simp at hk; omega))), ⟨gx, _, _, gO_, gF_, gT_, gE_, gD_, gC0_, gC1_, gC2_, gC3_, gC4_, gP_, gK_, gV_, gR_, gU_, fun j hj => hU.get (hrow j hj) (by simp; omega), hkx⟩, hOut_, hOuD_⟩ hW (lv_sub hl [2, 3, 4, 5, 6, 7] rfl))
      · first | exact absurd (show 1 = 0 from c_1753) (by decide) | exact absurd c_1753 (by decide)
    · first | exact absurd (show 1 ≠ 1 from c_1746) (by decide) | exact absurd c_1746 (by decide)
/-- the law's join -/
theorem s_join {p : Program} {l : Launch} {e : Env} {s : State} {m : MethodId} {args : Array Value} {below : List Frame} {meth : Method} {c : Code} {Q : State → Prop} {D : va_G} {cy : Nat → ClassId} {A : Nat → Prop} {x0 : Cond} {ad : Nat → Nat} {b L : Nat} {xs : Nat → Int32} {i : Nat} {w : va_W} {H : Heap} {locs : List Loc} {ls : Array Slot} {cells slots : Nat} (htr : l.stackTraces = false) (C : LX p s m c args D cy A b L xs x0) (hI : INV ad cy w) (hW : jW D A s.heap w H locs) (hl : lv_has ls 10 [(0, .ref b), (1, .ref (ad 0)), (2, .ref (ad 55)), (3, .ref (ad 74)), (4, .ref (ad 75)), (5, .int (nI i))]) (hi : i + 5 ≤ L) (hL : L ≤ 2560) (hc : cells + 10 ≤ 601024) (hs : slots + 64 ≤ 7293033) (kk : LK p l e s m args below meth c Q D cy A ad b i cells slots) : W p l e room_1 s m args below meth c H locs cells slots Q (F0 m 1771 ls []) := by
  obtain ⟨S, hK, hA, hX, hbl, hbA, hx, hnx⟩ := C
  obtain ⟨n, wf, wt, od, sd, se, nc, lv, cs, kv, kx, th, og, ogd, hPI, hCI, hRI, hOut, hOuD⟩ := hI
  have hPI0 := hPI
  obtain ⟨hn, hsdn, hse2, hnc, hlvn, hcs, hkI, hod, hodn, hinj⟩ := hPI0
  have hp2 := two_pow10 hn
  have hpt := Nat.two_pow_pos n
  have hWB := hCI.wb
  obtain ⟨hw, hhw, ehw⟩ := i2c_nat (xs (i + 3))
  refine lv_aload_n S.1 S.2.1 dL_law_1771 rfl (lv_at hl 1 rfl) ?_
  refine lv_aload_n S.1 S.2.1 dL_law_1772 rfl (lv_at hl 0 rfl) ?_
  refine lv_iload S.1 S.2.1 dL_law_1773 (lv_at hl 5 rfl) ?_
  refine lv_iconst (v := nI 1) S.1 S.2.1 dL_law_1775 (by decide) ?_
  refine jn_add S dL_law_1776 ?_
  refine j_sld (x := xs (i + 1)) S hX hbl hbA hW (vp_in_nI (by omega) (by omega)) (nI_clamp (by omega)) (rfl) dL_law_1777 ?_
  refine lv_aload_n S.1 S.2.1 dL_law_1778 rfl (lv_at hl 0 rfl) ?_
  refine lv_iload S.1 S.2.1 dL_law_1779 (lv_at hl 5 rfl) ?_
  refine lv_iconst (v := nI 2) S.1 S.2.1 dL_law_1781 (by decide) ?_
  refine jn_add S dL_law_1782 ?_
  refine j_sld (x := xs (i + 2)) S hX hbl hbA hW (vp_in_nI (by omega) (by omega)) (nI_clamp (by omega)) (rfl) dL_law_1783 ?_
  refine lv_aload_n S.1 S.2.1 dL_law_1784 rfl (lv_at hl 0 rfl) ?_
  refine lv_iload S.1 S.2.1 dL_law_1785 (lv_at hl 5 rfl) ?_
  refine lv_iconst (v := nI 3) S.1 S.2.1 dL_law_1787 (by decide) ?_
  refine jn_add S dL_law_1788 ?_
  refine j_sld (x := xs (i + 3)) S hX hbl hbA hW (vp_in_nI (by omega) (by omega)) (nI_clamp (by omega)) (rfl) dL_law_1789 ?_
  refine lv_i2c (v := nI hw) S.1 S.2.1 dL_law_1790 (ehw) ?_
  refine lv_aload_n S.1 S.2.1 dL_law_1791 rfl (lv_at hl 0 rfl) ?_
  refine lv_iload S.1 S.2.1 dL_law_1792 (lv_at hl 5 rfl) ?_
  refine lv_iconst (v := nI 4) S.1 S.2.1 dL_law_1794 (by decide) ?_
  refine jn_add S dL_law_1795 ?_
  refine j_sld (x := xs (i + 4)) S hX hbl hbA hW (vp_in_nI (by omega) (by omega)) (nI_clamp (by omega)) (rfl) dL_law_1796 ?_
  refine lv_aload_n S.1 S.2.1 dL_law_1797 rfl (lv_at hl 3 rfl) ?_
  refine j_callH (As := [.ref (ad 0), .int (xs (i + 1)), .int (xs (i + 2)), .int (nI hw), .int (xs (i + 4)), .ref (ad 74)]) (rest := []) S hK hA hW hx hnx (h_join l htr D cy ad n wf wt od sd se nc lv cs kv kx (xs (i + 1)) (xs (i + 2)) hw (xs (i + 4)) og ogd hPI hCI hOut hOuD hhw) (jgo wm_L_239) yk_L_join ⟨⟨rfl, rfl⟩, by decide, by decide⟩ rfl hl.1 rfl (Nat.le_of_ble_eq_true rfl) dL_law_1798 ⟨by show cells + 7 ≤ 601024; omega, by show slots + 42 ≤ 7293033; omega⟩ (fun v w H locs hp hW => ?_)
  rcases hp with ⟨j1, i1, o1, rfl, hq0, hq1, hq2, hq3, hq4, hq5, hq6, hq7, hq8, ⟨K1, hU1, hK1⟩, hCI, hOut, hOuD⟩ | ⟨rfl, hq, ⟨K1, hU1, hK1⟩, hCI, hOut, hOuD⟩ | ⟨rfl, hq, ⟨K1, hU1, hK1⟩, hCI, hOut, hOuD⟩ | ⟨rfl, hq, ⟨K1, hU1, hK1⟩, hCI, hOut, hOuD⟩
  · have hRI := hRI.kept hU1 (fun k hk => by have := hK1 k hk; omega)
    obtain ⟨gx, rb, tu, gO, gF, gT, gE, gD, gC0, gC1, gC2, gC3, gC4, gP, gK, gV, gR, gU, hrow, hkx⟩ := hRI
    have hPI1 : PI n wf wt od sd se nc lv cs (upd kv o1 (nI n)) (upB kx o1 (fun a => cmb hw (kx j1 a) (kx i1 a))) := hPI.keep (fun a ha => by show cmb hw (kx j1 a) (kx i1 a) = false; rw [kvI_hi hkI hq0 hn hq7 a ha, kvI_hi hkI hq2 hn hq8 a ha]; unfold cmb; split; rfl; split; rfl; rfl)
    have gXj := hrow j1 hq0
    have gXi := hrow i1 hq2
    have gXo := hrow o1 hq4
    refine W.eq (g2 := F0 m 1801 ls [.int (nI 0)]) rfl ?_
    refine lv_istore (lv' := [(6, .int (nI 0)), (0, .ref b), (1, .ref (ad 0)), (2, .ref (ad 55)), (3, .ref (ad 74)), (4, .ref (ad 75)), (5, .int (nI i))]) S.1 S.2.1 dL_law_1801 hl (by decide) rfl (fun ls hl => ?_)
    refine lv_aload_n S.1 S.2.1 dL_law_1803 rfl (lv_at hl 3 rfl) ?_
    refine lv_aload_n S.1 S.2.1 dL_law_1804 rfl (lv_at hl 1 rfl) ?_
    refine lv_iload S.1 S.2.1 dL_law_1805 (lv_at hl 6 rfl) ?_
    refine lv_iconst (v := nI 1) S.1 S.2.1 dL_law_1807 (by decide) ?_
    refine jn_add S dL_law_1808 ?_
    refine j_sld (x := nI j1) S hX hbl hbA hW (vp_in_nI (by omega) (by omega)) (nI_clamp (by omega)) (hq1) dL_law_1809 ?_
    refine lv_aload_n S.1 S.2.1 dL_law_1810 rfl (lv_at hl 1 rfl) ?_
    refine lv_iload S.1 S.2.1 dL_law_1811 (lv_at hl 6 rfl) ?_
    refine lv_iconst (v := nI 2) S.1 S.2.1 dL_law_1813 (by decide) ?_
    refine jn_add S dL_law_1814 ?_
    refine j_sld (x := nI i1) S hX hbl hbA hW (vp_in_nI (by omega) (by omega)) (nI_clamp (by omega)) (hq3) dL_law_1815 ?_
    refine lv_aload_n S.1 S.2.1 dL_law_1816 rfl (lv_at hl 1 rfl) ?_
    refine lv_iload S.1 S.2.1 dL_law_1817 (lv_at hl 6 rfl) ?_
    refine lv_iconst (v := nI 3) S.1 S.2.1 dL_law_1819 (by decide) ?_
    refine jn_add S dL_law_1820 ?_
    refine j_sld (x := xs (i + 3)) S hX hbl hbA hW (vp_in_nI (by omega) (by omega)) (nI_clamp (by omega)) (rfl) dL_law_1821 ?_
    refine lv_i2c (v := nI hw) S.1 S.2.1 dL_law_1822 (ehw) ?_
    refine lv_aload_n S.1 S.2.1 dL_law_1823 rfl (lv_at hl 1 rfl) ?_
    refine lv_iload S.1 S.2.1 dL_law_1824 (lv_at hl 6 rfl) ?_
    refine lv_iconst (v := nI 4) S.1 S.2.1 dL_law_1826 (by decide) ?_
    refine jn_add S dL_law_1827 ?_
    refine j_sld (x := nI o1) S hX hbl hbA hW (vp_in_nI (by omega) (by omega)) (nI_clamp (by omega)) (hq5) dL_law_1828 ?_
    refine j_callV (k := 55) (ci := 11) (q := (RX12, TX12, 17)) (As := [.int (nI j1), .int (nI i1), .int (nI hw), .int (nI o1)]) (rest := []) S hK hA hW (c_X12_join_ok l D cy ad th n nc od rb tu kv gx j1 i1 hw o1 gO gD gR gU gK gV gXj gXi gXo   (by omega) (hod) (by omega) (by omega) (by omega) (by omega) (hq6) (hq7) (hq8)) (jgo wm_L_242) yk_X12_join gO rfl rfl ⟨⟨rfl, rfl⟩, by decide, by decide⟩ rfl hl.1 rfl (Nat.le_of_ble_eq_true rfl) dL_law_1829 ⟨by show (cells + 7) + 0 ≤ 601024; omega, by show (slots + 42) + 0 ≤ 7293033; omega⟩ (fun v w_ H locs hp hW => ?_)
    obtain ⟨rb1_1829, tu1_1829, rfl, hU1, hN1, hN2, hN3, hN4, hN5⟩ := hp
    have hU : jU w w_ [55, 56, 57, 58, 59, 60, 61, 62, 63, 64, 65, 66, 71, 72, 73, 74, 75, 67 + o1] := jU.mono hU1 (by first | decide | (simp; done) | (simp; omega))
    have gF_ := hU1.get gF (by first | decide | (simp; done) | (simp; omega))
    have gT_ := hU1.get gT (by first | decide | (simp; done) | (simp; omega))
    have gE_ := hU1.get gE (by first | decide | (simp; done) | (simp; omega))
    have gD_ := hU1.get gD (by first | decide | (simp; done) | (simp; omega))
    have gC0_ := hU1.get gC0 (by first | decide | (simp; done) | (simp; omega))
    have gC1_ := hU1.get gC1 (by first | decide | (simp; done) | (simp; omega))
    have gC2_ := hU1.get gC2 (by first | decide | (simp; done) | (simp; omega))
    have gC3_ := hU1.get gC3 (by first | decide | (simp; done) | (simp; omega))
    have gC4_ := hU1.get gC4 (by first | decide | (simp; done) | (simp; omega))
    have gP_ := hU1.get gP (by first | decide | (simp; done) | (simp; omega))
    have gK_ := hU1.get gK (by first | decide | (simp; done) | (simp; omega))
    have hOut_ := hU1.get hOut (by first | decide | (simp; done) | (simp; omega))
    have hOuD_ := hU1.get hOuD (by first | decide | (simp; done) | (simp; omega))
    have gO_ : w_[55]? = some (ad 55, .inr (11, [.int (nI 0), .ref (ad 56), .ref (ad 57), .ref (ad 58), .ref (ad 59), .ref (ad 60), .ref (ad 61), .ref (ad 62), .ref (ad 63), .ref (ad 64), .ref (ad 65), .int (nI n), .int (nI nc), .ref (ad 66), .ref (ad 71), .ref (ad 72), .ref (ad 73)])) := hN1
    have gXo_ : w_[67 + o1]? = some (ad (67 + o1), .inl (cy 3, 1024, .inl (bf (rowM (rowM (fun a => cmb hw (gx j1 a) (gx i1 a)) rb) (gx o1))))) := hN2
    have gV_ : w_[71]? = some (ad 71, .inl (cy 0, 4, .inl (upd kv o1 (nI n)))) := hN3
    have gR_ : w_[72]? = some (ad 72, .inl (cy 3, 1024, .inl (bf rb1_1829))) := hN4
    have gU_ : w_[73]? = some (ad 73, .inl (cy 3, 1024, .inl (bf tu1_1829))) := hN5
    clear hU1 hN1 hN2 hN3 hN4 hN5
    refine W.eq (g2 := F0 m 1832 ls [.int (nI (sumN (nodesB (fun d => (fun a => cmb hw (gx j1 a) (gx i1 a)) (layP n od d n)) n) n))]) rfl ?_
    refine lv_topi_to (y := nI (sumN (nodesB (fun d => (fun a => cmb hw (kx j1 a) (kx i1 a)) (layP n od d n)) n) n)) (congrArg nI (nodes_x (X := fun a => cmb hw (gx j1 a) (gx i1 a)) hod (fun a ha => by show cmb hw (gx j1 a) (gx i1 a) = cmb hw (kx j1 a) (kx i1 a); rw [hkx j1 hq0 (by rw [hq7]; exact nI_nm1 hn) a ha, hkx i1 hq2 (by rw [hq8]; exact nI_nm1 hn) a ha]))) ?_
    refine lv_istore (lv' := [(7, .int (nI (sumN (nodesB (fun d => (fun a => cmb hw (kx j1 a) (kx i1 a)) (layP n od d n)) n) n))), (6, .int (nI 0)), (0, .ref b), (1, .ref (ad 0)), (2, .ref (ad 55)), (3, .ref (ad 74)), (4, .ref (ad 75)), (5, .int (nI i))]) S.1 S.2.1 dL_law_1832 hl (by decide) rfl (fun ls hl => ?_)
    refine lv_aload_n S.1 S.2.1 dL_law_1834 rfl (lv_at hl 4 rfl) ?_
    refine j_callV (k := 55) (ci := 11) (q := (RX12, TX12, 17)) (As := []) (rest := []) S hK hA hW (c_X12_thrown l D cy ad 0 n nc gO_   ) (jgo wm_L_136) yk_X12_thrown gO_ rfl rfl ⟨⟨rfl, rfl⟩, by decide, by decide⟩ rfl hl.1 rfl (Nat.le_of_ble_eq_true rfl) dL_law_1835 ⟨by show (cells + 7) + 0 ≤ 601024; omega, by show (slots + 42) + 0 ≤ 7293033; omega⟩ (fun v u H locs hp hW => ?_)
    obtain ⟨rfl, rfl⟩ := hp
    refine W.eq (g2 := F0 m 1838 ls [.int (nI 0)]) rfl ?_
    refine lv_iload S.1 S.2.1 dL_law_1838 (lv_at hl 1 rfl) ?_
    refine jn_cmp_eq (tgt := 1845) S (by omega) (by omega) dL_law_1840 (by decide) (fun c_1840 => ?_) (fun c_1840 => ?_)
    · refine lv_iload S.1 S.2.1 dL_law_1845 (lv_at hl 1 rfl) ?_
      refine jn_if_ne (tgt := 1862) S (by omega) dL_law_1847 (by decide) (fun c_1847 => ?_) (fun c_1847 => ?_)
      · first | exact absurd (show 0 ≠ 0 from c_1847) (by decide) | exact absurd c_1847 (by decide)
      · refine lv_aload_n S.1 S.2.1 dL_law_1850 rfl (lv_at hl 5 rfl) ?_
        refine lv_iconst (v := nI 0) S.1 S.2.1 dL_law_1851 (by decide) ?_
        refine j_lald (x := (nI (sumN (nodesB (fun d => (fun a => cmb hw (kx j1 a) (kx i1 a)) (layP n od d n)) n) n)).toInt64) S hK hW hOut_ (vp_in_nI (by omega) (by omega)) (nI_clamp (by omega)) (if_pos rfl) dL_law_1852 ?_
        refine lv_iload S.1 S.2.1 dL_law_1853 (lv_at hl 0 rfl) ?_
        refine lv_i2l (v := (nI (sumN (nodesB (fun d => (fun a => cmb hw (kx j1 a) (kx i1 a)) (layP n od d n)) n) n)).toInt64) S.1 S.2.1 dL_law_1855 (rfl) ?_
        refine jl_eq (tgt := 1862) S dL_law_1856 dL_law_1857 (by decide) (fun c_1857 => ?_) (fun c_1857 => ?_)
        · refine lv_goto (tgt := 2382) S.1 S.2.1 dL_law_1862 (by decide) ?_
          exact W.widen (by omega) (by omega) (kk _ _ _ _ ⟨_, _, _, _, _, _, _, _, _, _, _, _, _, _, hPI1, (hCI.kept hU (by first | decide | (intro k hk; simp at hk; omega))), ⟨upB gx o1 _, _, _, gO_, gF_, gT_, gE_, gD_, gC0_, gC1_, gC2_, gC3_, gC4_, gP_, gK_, gV_, gR_, gU_, rowK hrow hU (fun k hk => by simp at hk; omega) gXo_, kxK hkx (fun a ha => by rw [row_at ha, row_at ha]; exact (by show cmb hw (gx j1 a) (gx i1 a) = cmb hw (kx j1 a) (kx i1 a); rw [hkx j1 hq0 (by rw [hq7]; exact nI_nm1 hn) a ha, hkx i1 hq2 (by rw [hq8]; exact nI_nm1 hn) a ha])) upd_ne⟩, hOut_, hOuD_⟩ hW (lv_sub hl [2, 3, 4, 5, 6, 7] rfl))
        · exact absurd rfl c_1857
    · first | exact absurd (show 0 ≠ 0 from c_1840) (by decide) | exact absurd c_1840 (by decide)
  · have hRI := hRI.kept hU1 (fun k hk => by have := hK1 k hk; omega)
    obtain ⟨gx, rb, tu, gO, gF, gT, gE, gD, gC0, gC1, gC2, gC3, gC4, gP, gK, gV, gR, gU, hrow, hkx⟩ := hRI
    refine W.eq (g2 := F0 m 1801 ls [.int (nI 1)]) rfl ?_
    refine lv_istore (lv' := [(6, .int (nI 1)), (0, .ref b), (1, .ref (ad 0)), (2, .ref (ad 55)), (3, .ref (ad 74)), (4, .ref (ad 75)), (5, .int (nI i))]) S.1 S.2.1 dL_law_1801 hl (by decide) rfl (fun ls hl => ?_)
    refine lv_aload_n S.1 S.2.1 dL_law_1803 rfl (lv_at hl 3 rfl) ?_
    refine lv_aload_n S.1 S.2.1 dL_law_1804 rfl (lv_at hl 1 rfl) ?_
    refine lv_iload S.1 S.2.1 dL_law_1805 (lv_at hl 6 rfl) ?_
    refine lv_iconst (v := nI 1) S.1 S.2.1 dL_law_1807 (by decide) ?_
    refine jn_add S dL_law_1808 ?_
    refine j_sld (x := xs (i + 1)) S hX hbl hbA hW (vp_in_nI (by omega) (by omega)) (nI_clamp (by omega)) (rfl) dL_law_1809 ?_
    refine lv_aload_n S.1 S.2.1 dL_law_1810 rfl (lv_at hl 1 rfl) ?_
    refine lv_iload S.1 S.2.1 dL_law_1811 (lv_at hl 6 rfl) ?_
    refine lv_iconst (v := nI 2) S.1 S.2.1 dL_law_1813 (by decide) ?_
    refine jn_add S dL_law_1814 ?_
    refine j_sld (x := xs (i + 2)) S hX hbl hbA hW (vp_in_nI (by omega) (by omega)) (nI_clamp (by omega)) (rfl) dL_law_1815 ?_
    refine lv_aload_n S.1 S.2.1 dL_law_1816 rfl (lv_at hl 1 rfl) ?_
    refine lv_iload S.1 S.2.1 dL_law_1817 (lv_at hl 6 rfl) ?_
    refine lv_iconst (v := nI 3) S.1 S.2.1 dL_law_1819 (by decide) ?_
    refine jn_add S dL_law_1820 ?_
    refine j_sld (x := xs (i + 3)) S hX hbl hbA hW (vp_in_nI (by omega) (by omega)) (nI_clamp (by omega)) (rfl) dL_law_1821 ?_
    refine lv_i2c (v := nI hw) S.1 S.2.1 dL_law_1822 (ehw) ?_
    refine lv_aload_n S.1 S.2.1 dL_law_1823 rfl (lv_at hl 1 rfl) ?_
    refine lv_iload S.1 S.2.1 dL_law_1824 (lv_at hl 6 rfl) ?_
    refine lv_iconst (v := nI 4) S.1 S.2.1 dL_law_1826 (by decide) ?_
    refine jn_add S dL_law_1827 ?_
    refine j_sld (x := xs (i + 4)) S hX hbl hbA hW (vp_in_nI (by omega) (by omega)) (nI_clamp (by omega)) (rfl) dL_law_1828 ?_
    refine j_callV (k := 55) (ci := 11) (q := (RX12, TX12, 17)) (As := [.int (xs (i + 1)), .int (xs (i + 2)), .int (nI hw), .int (xs (i + 4))]) (rest := []) S hK hA hW (c_X12_join_b1 l D cy ad th n nc (xs (i + 1)) (xs (i + 2)) (xs (i + 4)) hw gO   (by omega) (hq)) (jgo wm_L_242) yk_X12_join gO rfl rfl ⟨⟨rfl, rfl⟩, by decide, by decide⟩ rfl hl.1 rfl (Nat.le_of_ble_eq_true rfl) dL_law_1829 ⟨by show (cells + 7) + 0 ≤ 601024; omega, by show (slots + 42) + 0 ≤ 7293033; omega⟩ (fun v w_ H locs hp hW => ?_)
    obtain ⟨rfl, hU1, hN1⟩ := hp
    have hU : jU w w_ [55, 56, 57, 58, 59, 60, 61, 62, 63, 64, 65, 66, 71, 72, 73, 74, 75] := jU.mono hU1 (by first | decide | (simp; done) | (simp; omega))
    have gF_ := hU1.get gF (by first | decide | (simp; done) | (simp; omega))
    have gT_ := hU1.get gT (by first | decide | (simp; done) | (simp; omega))
    have gE_ := hU1.get gE (by first | decide | (simp; done) | (simp; omega))
    have gD_ := hU1.get gD (by first | decide | (simp; done) | (simp; omega))
    have gC0_ := hU1.get gC0 (by first | decide | (simp; done) | (simp; omega))
    have gC1_ := hU1.get gC1 (by first | decide | (simp; done) | (simp; omega))
    have gC2_ := hU1.get gC2 (by first | decide | (simp; done) | (simp; omega))
    have gC3_ := hU1.get gC3 (by first | decide | (simp; done) | (simp; omega))
    have gC4_ := hU1.get gC4 (by first | decide | (simp; done) | (simp; omega))
    have gP_ := hU1.get gP (by first | decide | (simp; done) | (simp; omega))
    have gK_ := hU1.get gK (by first | decide | (simp; done) | (simp; omega))
    have gV_ := hU1.get gV (by first | decide | (simp; done) | (simp; omega))
    have gR_ := hU1.get gR (by first | decide | (simp; done) | (simp; omega))
    have gU_ := hU1.get gU (by first | decide | (simp; done) | (simp; omega))
    have hOut_ := hU1.get hOut (by first | decide | (simp; done) | (simp; omega))
    have hOuD_ := hU1.get hOuD (by first | decide | (simp; done) | (simp; omega))
    have gO_ : w_[55]? = some (ad 55, .inr (11, [.int (nI 1), .ref (ad 56), .ref (ad 57), .ref (ad 58), .ref (ad 59), .ref (ad 60), .ref (ad 61), .ref (ad 62), .ref (ad 63), .ref (ad 64), .ref (ad 65), .int (nI n), .int (nI nc), .ref (ad 66), .ref (ad 71), .ref (ad 72), .ref (ad 73)])) := hN1
    clear hU1 hN1
    refine W.eq (g2 := F0 m 1832 ls [.int (nI 0)]) rfl ?_
    refine lv_istore (lv' := [(7, .int (nI 0)), (6, .int (nI 1)), (0, .ref b), (1, .ref (ad 0)), (2, .ref (ad 55)), (3, .ref (ad 74)), (4, .ref (ad 75)), (5, .int (nI i))]) S.1 S.2.1 dL_law_1832 hl (by decide) rfl (fun ls hl => ?_)
    refine lv_aload_n S.1 S.2.1 dL_law_1834 rfl (lv_at hl 4 rfl) ?_
    refine j_callV (k := 55) (ci := 11) (q := (RX12, TX12, 17)) (As := []) (rest := []) S hK hA hW (c_X12_thrown l D cy ad 1 n nc gO_   ) (jgo wm_L_136) yk_X12_thrown gO_ rfl rfl ⟨⟨rfl, rfl⟩, by decide, by decide⟩ rfl hl.1 rfl (Nat.le_of_ble_eq_true rfl) dL_law_1835 ⟨by show (cells + 7) + 0 ≤ 601024; omega, by show (slots + 42) + 0 ≤ 7293033; omega⟩ (fun v u H locs hp hW => ?_)
    obtain ⟨rfl, rfl⟩ := hp
    refine W.eq (g2 := F0 m 1838 ls [.int (nI 1)]) rfl ?_
    refine lv_iload S.1 S.2.1 dL_law_1838 (lv_at hl 1 rfl) ?_
    refine jn_cmp_eq (tgt := 1845) S (by omega) (by omega) dL_law_1840 (by decide) (fun c_1840 => ?_) (fun c_1840 => ?_)
    · refine lv_iload S.1 S.2.1 dL_law_1845 (lv_at hl 1 rfl) ?_
      refine jn_if_ne (tgt := 1862) S (by omega) dL_law_1847 (by decide) (fun c_1847 => ?_) (fun c_1847 => ?_)
      · refine lv_goto (tgt := 2382) S.1 S.2.1 dL_law_1862 (by decide) ?_
        exact W.widen (by omega) (by omega) (kk _ _ _ _ ⟨_, _, _, _, _, _, _, _, _, _, _, _, _, _, hPI, (hCI.kept hU (by first | decide | (intro k hk; simp at hk; omega))), ⟨gx, _, _, gO_, gF_, gT_, gE_, gD_, gC0_, gC1_, gC2_, gC3_, gC4_, gP_, gK_, gV_, gR_, gU_, fun j hj => hU.get (hrow j hj) (by simp; omega), hkx⟩, hOut_, hOuD_⟩ hW (lv_sub hl [2, 3, 4, 5, 6, 7] rfl))
      · first | exact absurd (show 1 = 0 from c_1847) (by decide) | exact absurd c_1847 (by decide)
    · first | exact absurd (show 1 ≠ 1 from c_1840) (by decide) | exact absurd c_1840 (by decide)
  · have hRI := hRI.kept hU1 (fun k hk => by have := hK1 k hk; omega)
    obtain ⟨gx, rb, tu, gO, gF, gT, gE, gD, gC0, gC1, gC2, gC3, gC4, gP, gK, gV, gR, gU, hrow, hkx⟩ := hRI
    obtain ⟨j1, i1, o1, h1, e1, h2, e2, h3, e3, hh, hk⟩ := hq
    refine W.eq (g2 := F0 m 1801 ls [.int (nI 2)]) rfl ?_
    refine lv_istore (lv' := [(6, .int (nI 2)), (0, .ref b), (1, .ref (ad 0)), (2, .ref (ad 55)), (3, .ref (ad 74)), (4, .ref (ad 75)), (5, .int (nI i))]) S.1 S.2.1 dL_law_1801 hl (by decide) rfl (fun ls hl => ?_)
    refine lv_aload_n S.1 S.2.1 dL_law_1803 rfl (lv_at hl 3 rfl) ?_
    refine lv_aload_n S.1 S.2.1 dL_law_1804 rfl (lv_at hl 1 rfl) ?_
    refine lv_iload S.1 S.2.1 dL_law_1805 (lv_at hl 6 rfl) ?_
    refine lv_iconst (v := nI 1) S.1 S.2.1 dL_law_1807 (by decide) ?_
    refine jn_add S dL_law_1808 ?_
    refine j_sld (x := nI j1) S hX hbl hbA hW (vp_in_nI (by omega) (by omega)) (nI_clamp (by omega)) (e1) dL_law_1809 ?_
    refine lv_aload_n S.1 S.2.1 dL_law_1810 rfl (lv_at hl 1 rfl) ?_
    refine lv_iload S.1 S.2.1 dL_law_1811 (lv_at hl 6 rfl) ?_
    refine lv_iconst (v := nI 2) S.1 S.2.1 dL_law_1813 (by decide) ?_
    refine jn_add S dL_law_1814 ?_
    refine j_sld (x := nI i1) S hX hbl hbA hW (vp_in_nI (by omega) (by omega)) (nI_clamp (by omega)) (e2) dL_law_1815 ?_
    refine lv_aload_n S.1 S.2.1 dL_law_1816 rfl (lv_at hl 1 rfl) ?_
    refine lv_iload S.1 S.2.1 dL_law_1817 (lv_at hl 6 rfl) ?_
    refine lv_iconst (v := nI 3) S.1 S.2.1 dL_law_1819 (by decide) ?_
    refine jn_add S dL_law_1820 ?_
    refine j_sld (x := xs (i + 3)) S hX hbl hbA hW (vp_in_nI (by omega) (by omega)) (nI_clamp (by omega)) (rfl) dL_law_1821 ?_
    refine lv_i2c (v := nI hw) S.1 S.2.1 dL_law_1822 (ehw) ?_
    refine lv_aload_n S.1 S.2.1 dL_law_1823 rfl (lv_at hl 1 rfl) ?_
    refine lv_iload S.1 S.2.1 dL_law_1824 (lv_at hl 6 rfl) ?_
    refine lv_iconst (v := nI 4) S.1 S.2.1 dL_law_1826 (by decide) ?_
    refine jn_add S dL_law_1827 ?_
    refine j_sld (x := nI o1) S hX hbl hbA hW (vp_in_nI (by omega) (by omega)) (nI_clamp (by omega)) (e3) dL_law_1828 ?_
    refine j_callV (k := 55) (ci := 11) (q := (RX12, TX12, 17)) (As := [.int (nI j1), .int (nI i1), .int (nI hw), .int (nI o1)]) (rest := []) S hK hA hW (c_X12_join_b2 l D cy ad th n nc kv j1 i1 hw o1 gO gV   (by omega) (by omega) (by omega) (by omega) (hh) (hk.imp kv_neg kv_neg)) (jgo wm_L_242) yk_X12_join gO rfl rfl ⟨⟨rfl, rfl⟩, by decide, by decide⟩ rfl hl.1 rfl (Nat.le_of_ble_eq_true rfl) dL_law_1829 ⟨by show (cells + 7) + 0 ≤ 601024; omega, by show (slots + 42) + 0 ≤ 7293033; omega⟩ (fun v w_ H locs hp hW => ?_)
    obtain ⟨rfl, hU1, hN1⟩ := hp
    have hU : jU w w_ [55, 56, 57, 58, 59, 60, 61, 62, 63, 64, 65, 66, 71, 72, 73, 74, 75] := jU.mono hU1 (by first | decide | (simp; done) | (simp; omega))
    have gF_ := hU1.get gF (by first | decide | (simp; done) | (simp; omega))
    have gT_ := hU1.get gT (by first | decide | (simp; done) | (simp; omega))
    have gE_ := hU1.get gE (by first | decide | (simp; done) | (simp; omega))
    have gD_ := hU1.get gD (by first | decide | (simp; done) | (simp; omega))
    have gC0_ := hU1.get gC0 (by first | decide | (simp; done) | (simp; omega))
    have gC1_ := hU1.get gC1 (by first | decide | (simp; done) | (simp; omega))
    have gC2_ := hU1.get gC2 (by first | decide | (simp; done) | (simp; omega))
    have gC3_ := hU1.get gC3 (by first | decide | (simp; done) | (simp; omega))
    have gC4_ := hU1.get gC4 (by first | decide | (simp; done) | (simp; omega))
    have gP_ := hU1.get gP (by first | decide | (simp; done) | (simp; omega))
    have gK_ := hU1.get gK (by first | decide | (simp; done) | (simp; omega))
    have gV_ := hU1.get gV (by first | decide | (simp; done) | (simp; omega))
    have gR_ := hU1.get gR (by first | decide | (simp; done) | (simp; omega))
    have gU_ := hU1.get gU (by first | decide | (simp; done) | (simp; omega))
    have hOut_ := hU1.get hOut (by first | decide | (simp; done) | (simp; omega))
    have hOuD_ := hU1.get hOuD (by first | decide | (simp; done) | (simp; omega))
    have gO_ : w_[55]? = some (ad 55, .inr (11, [.int (nI 2), .ref (ad 56), .ref (ad 57), .ref (ad 58), .ref (ad 59), .ref (ad 60), .ref (ad 61), .ref (ad 62), .ref (ad 63), .ref (ad 64), .ref (ad 65), .int (nI n), .int (nI nc), .ref (ad 66), .ref (ad 71), .ref (ad 72), .ref (ad 73)])) := hN1
    clear hU1 hN1
    refine W.eq (g2 := F0 m 1832 ls [.int (nI 0)]) rfl ?_
    refine lv_istore (lv' := [(7, .int (nI 0)), (6, .int (nI 2)), (0, .ref b), (1, .ref (ad 0)), (2, .ref (ad 55)), (3, .ref (ad 74)), (4, .ref (ad 75)), (5, .int (nI i))]) S.1 S.2.1 dL_law_1832 hl (by decide) rfl (fun ls hl => ?_)
    refine lv_aload_n S.1 S.2.1 dL_law_1834 rfl (lv_at hl 4 rfl) ?_
    refine j_callV (k := 55) (ci := 11) (q := (RX12, TX12, 17)) (As := []) (rest := []) S hK hA hW (c_X12_thrown l D cy ad 2 n nc gO_   ) (jgo wm_L_136) yk_X12_thrown gO_ rfl rfl ⟨⟨rfl, rfl⟩, by decide, by decide⟩ rfl hl.1 rfl (Nat.le_of_ble_eq_true rfl) dL_law_1835 ⟨by show (cells + 7) + 0 ≤ 601024; omega, by show (slots + 42) + 0 ≤ 7293033; omega⟩ (fun v u H locs hp hW => ?_)
    obtain ⟨rfl, rfl⟩ := hp
    refine W.eq (g2 := F0 m 1838 ls [.int (nI 2)]) rfl ?_
    refine lv_iload S.1 S.2.1 dL_law_1838 (lv_at hl 1 rfl) ?_
    refine jn_cmp_eq (tgt := 1845) S (by omega) (by omega) dL_law_1840 (by decide) (fun c_1840 => ?_) (fun c_1840 => ?_)
    · refine lv_iload S.1 S.2.1 dL_law_1845 (lv_at hl 1 rfl) ?_
      refine jn_if_ne (tgt := 1862) S (by omega) dL_law_1847 (by decide) (fun c_1847 => ?_) (fun c_1847 => ?_)
      · refine lv_goto (tgt := 2382) S.1 S.2.1 dL_law_1862 (by decide) ?_
        exact W.widen (by omega) (by omega) (kk _ _ _ _ ⟨_, _, _, _, _, _, _, _, _, _, _, _, _, _, hPI, (hCI.kept hU (by first | decide | (intro k hk; simp at hk; omega))), ⟨gx, _, _, gO_, gF_, gT_, gE_, gD_, gC0_, gC1_, gC2_, gC3_, gC4_, gP_, gK_, gV_, gR_, gU_, fun j hj => hU.get (hrow j hj) (by simp; omega), hkx⟩, hOut_, hOuD_⟩ hW (lv_sub hl [2, 3, 4, 5, 6, 7] rfl))
      · first | exact absurd (show 2 = 0 from c_1847) (by decide) | exact absurd c_1847 (by decide)
    · first | exact absurd (show 2 ≠ 2 from c_1840) (by decide) | exact absurd c_1840 (by decide)
  · have hRI := hRI.kept hU1 (fun k hk => by have := hK1 k hk; omega)
    obtain ⟨gx, rb, tu, gO, gF, gT, gE, gD, gC0, gC1, gC2, gC3, gC4, gP, gK, gV, gR, gU, hrow, hkx⟩ := hRI
    obtain ⟨j1, i1, o1, h1, e1, h2, e2, h3, e3, hh, hk, hk2, hk3⟩ := hq
    refine W.eq (g2 := F0 m 1801 ls [.int (nI 3)]) rfl ?_
    refine lv_istore (lv' := [(6, .int (nI 3)), (0, .ref b), (1, .ref (ad 0)), (2, .ref (ad 55)), (3, .ref (ad 74)), (4, .ref (ad 75)), (5, .int (nI i))]) S.1 S.2.1 dL_law_1801 hl (by decide) rfl (fun ls hl => ?_)
    refine lv_aload_n S.1 S.2.1 dL_law_1803 rfl (lv_at hl 3 rfl) ?_
    refine lv_aload_n S.1 S.2.1 dL_law_1804 rfl (lv_at hl 1 rfl) ?_
    refine lv_iload S.1 S.2.1 dL_law_1805 (lv_at hl 6 rfl) ?_
    refine lv_iconst (v := nI 1) S.1 S.2.1 dL_law_1807 (by decide) ?_
    refine jn_add S dL_law_1808 ?_
    refine j_sld (x := nI j1) S hX hbl hbA hW (vp_in_nI (by omega) (by omega)) (nI_clamp (by omega)) (e1) dL_law_1809 ?_
    refine lv_aload_n S.1 S.2.1 dL_law_1810 rfl (lv_at hl 1 rfl) ?_
    refine lv_iload S.1 S.2.1 dL_law_1811 (lv_at hl 6 rfl) ?_
    refine lv_iconst (v := nI 2) S.1 S.2.1 dL_law_1813 (by decide) ?_
    refine jn_add S dL_law_1814 ?_
    refine j_sld (x := nI i1) S hX hbl hbA hW (vp_in_nI (by omega) (by omega)) (nI_clamp (by omega)) (e2) dL_law_1815 ?_
    refine lv_aload_n S.1 S.2.1 dL_law_1816 rfl (lv_at hl 1 rfl) ?_
    refine lv_iload S.1 S.2.1 dL_law_1817 (lv_at hl 6 rfl) ?_
    refine lv_iconst (v := nI 3) S.1 S.2.1 dL_law_1819 (by decide) ?_
    refine jn_add S dL_law_1820 ?_
    refine j_sld (x := xs (i + 3)) S hX hbl hbA hW (vp_in_nI (by omega) (by omega)) (nI_clamp (by omega)) (rfl) dL_law_1821 ?_
    refine lv_i2c (v := nI hw) S.1 S.2.1 dL_law_1822 (ehw) ?_
    refine lv_aload_n S.1 S.2.1 dL_law_1823 rfl (lv_at hl 1 rfl) ?_
    refine lv_iload S.1 S.2.1 dL_law_1824 (lv_at hl 6 rfl) ?_
    refine lv_iconst (v := nI 4) S.1 S.2.1 dL_law_1826 (by decide) ?_
    refine jn_add S dL_law_1827 ?_
    refine j_sld (x := nI o1) S hX hbl hbA hW (vp_in_nI (by omega) (by omega)) (nI_clamp (by omega)) (e3) dL_law_1828 ?_
    refine j_callV (k := 55) (ci := 11) (q := (RX12, TX12, 17)) (As := [.int (nI j1), .int (nI i1), .int (nI hw), .int (nI o1)]) (rest := []) S hK hA hW (c_X12_join_b3 l D cy ad th n nc kv j1 i1 hw o1 gO gV   (by omega) (by omega) (by omega) (by omega) (hh) (kv_pos hkI h1 hk) (kv_pos hkI h2 hk2) (hk3)) (jgo wm_L_242) yk_X12_join gO rfl rfl ⟨⟨rfl, rfl⟩, by decide, by decide⟩ rfl hl.1 rfl (Nat.le_of_ble_eq_true rfl) dL_law_1829 ⟨by show (cells + 7) + 0 ≤ 601024; omega, by show (slots + 42) + 0 ≤ 7293033; omega⟩ (fun v w_ H locs hp hW => ?_)
    obtain ⟨rfl, hU1, hN1⟩ := hp
    have hU : jU w w_ [55, 56, 57, 58, 59, 60, 61, 62, 63, 64, 65, 66, 71, 72, 73, 74, 75] := jU.mono hU1 (by first | decide | (simp; done) | (simp; omega))
    have gF_ := hU1.get gF (by first | decide | (simp; done) | (simp; omega))
    have gT_ := hU1.get gT (by first | decide | (simp; done) | (simp; omega))
    have gE_ := hU1.get gE (by first | decide | (simp; done) | (simp; omega))
    have gD_ := hU1.get gD (by first | decide | (simp; done) | (simp; omega))
    have gC0_ := hU1.get gC0 (by first | decide | (simp; done) | (simp; omega))
    have gC1_ := hU1.get gC1 (by first | decide | (simp; done) | (simp; omega))
    have gC2_ := hU1.get gC2 (by first | decide | (simp; done) | (simp; omega))
    have gC3_ := hU1.get gC3 (by first | decide | (simp; done) | (simp; omega))
    have gC4_ := hU1.get gC4 (by first | decide | (simp; done) | (simp; omega))
    have gP_ := hU1.get gP (by first | decide | (simp; done) | (simp; omega))
    have gK_ := hU1.get gK (by first | decide | (simp; done) | (simp; omega))
    have gV_ := hU1.get gV (by first | decide | (simp; done) | (simp; omega))
    have gR_ := hU1.get gR (by first | decide | (simp; done) | (simp; omega))
    have gU_ := hU1.get gU (by first | decide | (simp; done) | (simp; omega))
    have hOut_ := hU1.get hOut (by first | decide | (simp; done) | (simp; omega))
    have hOuD_ := hU1.get hOuD (by first | decide | (simp; done) | (simp; omega))
    have gO_ : w_[55]? = some (ad 55, .inr (11, [.int (nI 3), .ref (ad 56), .ref (ad 57), .ref (ad 58), .ref (ad 59), .ref (ad 60), .ref (ad 61), .ref (ad 62), .ref (ad 63), .ref (ad 64), .ref (ad 65), .int (nI n), .int (nI nc), .ref (ad 66), .ref (ad 71), .ref (ad 72), .ref (ad 73)])) := hN1
    clear hU1 hN1
    refine W.eq (g2 := F0 m 1832 ls [.int (nI 0)]) rfl ?_
    refine lv_istore (lv' := [(7, .int (nI 0)), (6, .int (nI 3)), (0, .ref b), (1, .ref (ad 0)), (2, .ref (ad 55)), (3, .ref (ad 74)), (4, .ref (ad 75)), (5, .int (nI i))]) S.1 S.2.1 dL_law_1832 hl (by decide) rfl (fun ls hl => ?_)
    refine lv_aload_n S.1 S.2.1 dL_law_1834 rfl (lv_at hl 4 rfl) ?_
    refine j_callV (k := 55) (ci := 11) (q := (RX12, TX12, 17)) (As := []) (rest := []) S hK hA hW (c_X12_thrown l D cy ad 3 n nc gO_   ) (jgo wm_L_136) yk_X12_thrown gO_ rfl rfl ⟨⟨rfl, rfl⟩, by decide, by decide⟩ rfl hl.1 rfl (Nat.le_of_ble_eq_true rfl) dL_law_1835 ⟨by show (cells + 7) + 0 ≤ 601024; omega, by show (slots + 42) + 0 ≤ 7293033; omega⟩ (fun v u H locs hp hW => ?_)
    obtain ⟨rfl, rfl⟩ := hp
    refine W.eq (g2 := F0 m 1838 ls [.int (nI 3)]) rfl ?_
    refine lv_iload S.1 S.2.1 dL_law_1838 (lv_at hl 1 rfl) ?_
    refine jn_cmp_eq (tgt := 1845) S (by omega) (by omega) dL_law_1840 (by decide) (fun c_1840 => ?_) (fun c_1840 => ?_)
    · refine lv_iload S.1 S.2.1 dL_law_1845 (lv_at hl 1 rfl) ?_
      refine jn_if_ne (tgt := 1862) S (by omega) dL_law_1847 (by decide) (fun c_1847 => ?_) (fun c_1847 => ?_)
      · refine lv_goto (tgt := 2382) S.1 S.2.1 dL_law_1862 (by decide) ?_
        exact W.widen (by omega) (by omega) (kk _ _ _ _ ⟨_, _, _, _, _, _, _, _, _, _, _, _, _, _, hPI, (hCI.kept hU (by first | decide | (intro k hk; simp at hk; omega))), ⟨gx, _, _, gO_, gF_, gT_, gE_, gD_, gC0_, gC1_, gC2_, gC3_, gC4_, gP_, gK_, gV_, gR_, gU_, fun j hj => hU.get (hrow j hj) (by simp; omega), hkx⟩, hOut_, hOuD_⟩ hW (lv_sub hl [2, 3, 4, 5, 6, 7] rfl))
      · first | exact absurd (show 3 = 0 from c_1847) (by decide) | exact absurd c_1847 (by decide)
    · first | exact absurd (show 3 ≠ 3 from c_1840) (by decide) | exact absurd c_1840 (by decide)
/-- the law's fix -/
theorem s_fix {p : Program} {l : Launch} {e : Env} {s : State} {m : MethodId} {args : Array Value} {below : List Frame} {meth : Method} {c : Code} {Q : State → Prop} {D : va_G} {cy : Nat → ClassId} {A : Nat → Prop} {x0 : Cond} {ad : Nat → Nat} {b L : Nat} {xs : Nat → Int32} {i : Nat} {w : va_W} {H : Heap} {locs : List Loc} {ls : Array Slot} {cells slots : Nat} (htr : l.stackTraces = false) (C : LX p s m c args D cy A b L xs x0) (hI : INV ad cy w) (hW : jW D A s.heap w H locs) (hl : lv_has ls 10 [(0, .ref b), (1, .ref (ad 0)), (2, .ref (ad 55)), (3, .ref (ad 74)), (4, .ref (ad 75)), (5, .int (nI i))]) (hi : i + 5 ≤ L) (hL : L ≤ 2560) (hc : cells + 10 ≤ 601024) (hs : slots + 64 ≤ 7293033) (kk : LK p l e s m args below meth c Q D cy A ad b i cells slots) : W p l e room_1 s m args below meth c H locs cells slots Q (F0 m 1865 ls []) := by
  obtain ⟨S, hK, hA, hX, hbl, hbA, hx, hnx⟩ := C
  obtain ⟨n, wf, wt, od, sd, se, nc, lv, cs, kv, kx, th, og, ogd, hPI, hCI, hRI, hOut, hOuD⟩ := hI
  have hPI0 := hPI
  obtain ⟨hn, hsdn, hse2, hnc, hlvn, hcs, hkI, hod, hodn, hinj⟩ := hPI0
  have hp2 := two_pow10 hn
  have hpt := Nat.two_pow_pos n
  have hWB := hCI.wb
  refine lv_aload_n S.1 S.2.1 dL_law_1865 rfl (lv_at hl 1 rfl) ?_
  refine lv_aload_n S.1 S.2.1 dL_law_1866 rfl (lv_at hl 0 rfl) ?_
  refine lv_iload S.1 S.2.1 dL_law_1867 (lv_at hl 5 rfl) ?_
  refine lv_iconst (v := nI 1) S.1 S.2.1 dL_law_1869 (by decide) ?_
  refine jn_add S dL_law_1870 ?_
  refine j_sld (x := xs (i + 1)) S hX hbl hbA hW (vp_in_nI (by omega) (by omega)) (nI_clamp (by omega)) (rfl) dL_law_1871 ?_
  refine lv_aload_n S.1 S.2.1 dL_law_1872 rfl (lv_at hl 0 rfl) ?_
  refine lv_iload S.1 S.2.1 dL_law_1873 (lv_at hl 5 rfl) ?_
  refine lv_iconst (v := nI 2) S.1 S.2.1 dL_law_1875 (by decide) ?_
  refine jn_add S dL_law_1876 ?_
  refine j_sld (x := xs (i + 2)) S hX hbl hbA hW (vp_in_nI (by omega) (by omega)) (nI_clamp (by omega)) (rfl) dL_law_1877 ?_
  refine lv_aload_n S.1 S.2.1 dL_law_1878 rfl (lv_at hl 0 rfl) ?_
  refine lv_iload S.1 S.2.1 dL_law_1879 (lv_at hl 5 rfl) ?_
  refine lv_iconst (v := nI 3) S.1 S.2.1 dL_law_1881 (by decide) ?_
  refine jn_add S dL_law_1882 ?_
  refine j_sld (x := xs (i + 3)) S hX hbl hbA hW (vp_in_nI (by omega) (by omega)) (nI_clamp (by omega)) (rfl) dL_law_1883 ?_
  refine lv_aload_n S.1 S.2.1 dL_law_1884 rfl (lv_at hl 3 rfl) ?_
  refine j_callH (As := [.ref (ad 0), .int (xs (i + 1)), .int (xs (i + 2)), .int (xs (i + 3)), .ref (ad 74)]) (rest := []) S hK hA hW hx hnx (h_fix l htr D cy ad n wf wt od sd se nc lv cs kv kx (xs (i + 1)) (xs (i + 2)) (xs (i + 3)) og ogd hPI hCI hOut hOuD) (jgo wm_L_243) yk_L_fix ⟨⟨rfl, rfl⟩, by decide, by decide⟩ rfl hl.1 rfl (Nat.le_of_ble_eq_true rfl) dL_law_1885 ⟨by show cells + 5 ≤ 601024; omega, by show slots + 30 ≤ 7293033; omega⟩ (fun v w H locs hp hW => ?_)
  rcases hp with ⟨j1, x1, y1, rfl, hq0, hq1, hq2, hq3, hq4, hq5, hq6, ⟨K1, hU1, hK1⟩, hCI, hOut, hOuD⟩ | ⟨rfl, hq, ⟨K1, hU1, hK1⟩, hCI, hOut, hOuD⟩ | ⟨rfl, hq, ⟨K1, hU1, hK1⟩, hCI, hOut, hOuD⟩ | ⟨rfl, hq, ⟨K1, hU1, hK1⟩, hCI, hOut, hOuD⟩ | ⟨rfl, hq, ⟨K1, hU1, hK1⟩, hCI, hOut, hOuD⟩
  · have hRI := hRI.kept hU1 (fun k hk => by have := hK1 k hk; omega)
    obtain ⟨gx, rb, tu, gO, gF, gT, gE, gD, gC0, gC1, gC2, gC3, gC4, gP, gK, gV, gR, gU, hrow, hkx⟩ := hRI
    have hPI1 : PI n wf wt od sd se nc lv cs kv (upB kx j1 (fixS n x1 y1 (kx j1))) := hPI.set hq6 (fun a ha => by unfold fixS; rw [decide_eq_false (by omega)]; rfl)
    have gXj := hrow j1 hq0
    refine W.eq (g2 := F0 m 1888 ls [.int (nI 0)]) rfl ?_
    refine lv_istore (lv' := [(6, .int (nI 0)), (0, .ref b), (1, .ref (ad 0)), (2, .ref (ad 55)), (3, .ref (ad 74)), (4, .ref (ad 75)), (5, .int (nI i))]) S.1 S.2.1 dL_law_1888 hl (by decide) rfl (fun ls hl => ?_)
    refine lv_aload_n S.1 S.2.1 dL_law_1890 rfl (lv_at hl 3 rfl) ?_
    refine lv_aload_n S.1 S.2.1 dL_law_1891 rfl (lv_at hl 1 rfl) ?_
    refine lv_iload S.1 S.2.1 dL_law_1892 (lv_at hl 6 rfl) ?_
    refine lv_iconst (v := nI 1) S.1 S.2.1 dL_law_1894 (by decide) ?_
    refine jn_add S dL_law_1895 ?_
    refine j_sld (x := nI j1) S hX hbl hbA hW (vp_in_nI (by omega) (by omega)) (nI_clamp (by omega)) (hq1) dL_law_1896 ?_
    refine lv_aload_n S.1 S.2.1 dL_law_1897 rfl (lv_at hl 1 rfl) ?_
    refine lv_iload S.1 S.2.1 dL_law_1898 (lv_at hl 6 rfl) ?_
    refine lv_iconst (v := nI 2) S.1 S.2.1 dL_law_1900 (by decide) ?_
    refine jn_add S dL_law_1901 ?_
    refine j_sld (x := nI x1) S hX hbl hbA hW (vp_in_nI (by omega) (by omega)) (nI_clamp (by omega)) (hq3) dL_law_1902 ?_
    refine lv_aload_n S.1 S.2.1 dL_law_1903 rfl (lv_at hl 1 rfl) ?_
    refine lv_iload S.1 S.2.1 dL_law_1904 (lv_at hl 6 rfl) ?_
    refine lv_iconst (v := nI 3) S.1 S.2.1 dL_law_1906 (by decide) ?_
    refine jn_add S dL_law_1907 ?_
    refine j_sld (x := nI y1) S hX hbl hbA hW (vp_in_nI (by omega) (by omega)) (nI_clamp (by omega)) (hq5) dL_law_1908 ?_
    refine j_callV (k := 55) (ci := 11) (q := (RX12, TX12, 17)) (As := [.int (nI j1), .int (nI x1), .int (nI y1)]) (rest := []) S hK hA hW (c_X12_fix_ok l D cy ad th n nc od rb tu kv gx j1 x1 y1 gO gD gR gU gK gV gXj   (by omega) (hod) (by omega) (by omega) (by omega) (hq6)) (jgo wm_L_245) yk_X12_fix gO rfl rfl ⟨⟨rfl, rfl⟩, by decide, by decide⟩ rfl hl.1 rfl (Nat.le_of_ble_eq_true rfl) dL_law_1909 ⟨by show (cells + 5) + 0 ≤ 601024; omega, by show (slots + 30) + 0 ≤ 7293033; omega⟩ (fun v w_ H locs hp hW => ?_)
    obtain ⟨rb1_1909, tu1_1909, rfl, hU1, hN1, hN2, hN3, hN4⟩ := hp
    have hU : jU w w_ [55, 56, 57, 58, 59, 60, 61, 62, 63, 64, 65, 66, 71, 72, 73, 74, 75, 67 + j1] := jU.mono hU1 (by first | decide | (simp; done) | (simp; omega))
    have gF_ := hU1.get gF (by first | decide | (simp; done) | (simp; omega))
    have gT_ := hU1.get gT (by first | decide | (simp; done) | (simp; omega))
    have gE_ := hU1.get gE (by first | decide | (simp; done) | (simp; omega))
    have gD_ := hU1.get gD (by first | decide | (simp; done) | (simp; omega))
    have gC0_ := hU1.get gC0 (by first | decide | (simp; done) | (simp; omega))
    have gC1_ := hU1.get gC1 (by first | decide | (simp; done) | (simp; omega))
    have gC2_ := hU1.get gC2 (by first | decide | (simp; done) | (simp; omega))
    have gC3_ := hU1.get gC3 (by first | decide | (simp; done) | (simp; omega))
    have gC4_ := hU1.get gC4 (by first | decide | (simp; done) | (simp; omega))
    have gP_ := hU1.get gP (by first | decide | (simp; done) | (simp; omega))
    have gK_ := hU1.get gK (by first | decide | (simp; done) | (simp; omega))
    have gV_ := hU1.get gV (by first | decide | (simp; done) | (simp; omega))
    have hOut_ := hU1.get hOut (by first | decide | (simp; done) | (simp; omega))
    have hOuD_ := hU1.get hOuD (by first | decide | (simp; done) | (simp; omega))
    have gO_ : w_[55]? = some (ad 55, .inr (11, [.int (nI 0), .ref (ad 56), .ref (ad 57), .ref (ad 58), .ref (ad 59), .ref (ad 60), .ref (ad 61), .ref (ad 62), .ref (ad 63), .ref (ad 64), .ref (ad 65), .int (nI n), .int (nI nc), .ref (ad 66), .ref (ad 71), .ref (ad 72), .ref (ad 73)])) := hN1
    have gXj_ : w_[67 + j1]? = some (ad (67 + j1), .inl (cy 3, 1024, .inl (bf (rowM (rowM (fixS n x1 y1 (gx j1)) rb) (gx j1))))) := hN2
    have gR_ : w_[72]? = some (ad 72, .inl (cy 3, 1024, .inl (bf rb1_1909))) := hN3
    have gU_ : w_[73]? = some (ad 73, .inl (cy 3, 1024, .inl (bf tu1_1909))) := hN4
    clear hU1 hN1 hN2 hN3 hN4
    refine W.eq (g2 := F0 m 1912 ls [.int (nI (sumN (nodesB (fun d => (fixS n x1 y1 (gx j1)) (layP n od d n)) n) n))]) rfl ?_
    refine lv_topi_to (y := nI (sumN (nodesB (fun d => (fixS n x1 y1 (kx j1)) (layP n od d n)) n) n)) (congrArg nI (nodes_x hod (fun a ha => by unfold fixS; rw [hkx j1 hq0 (by rw [hq6]; exact nI_nm1 hn) _ (fix_lt hn hq2 hq4 ha)]))) ?_
    refine lv_istore (lv' := [(7, .int (nI (sumN (nodesB (fun d => (fixS n x1 y1 (kx j1)) (layP n od d n)) n) n))), (6, .int (nI 0)), (0, .ref b), (1, .ref (ad 0)), (2, .ref (ad 55)), (3, .ref (ad 74)), (4, .ref (ad 75)), (5, .int (nI i))]) S.1 S.2.1 dL_law_1912 hl (by decide) rfl (fun ls hl => ?_)
    refine lv_aload_n S.1 S.2.1 dL_law_1914 rfl (lv_at hl 4 rfl) ?_
    refine j_callV (k := 55) (ci := 11) (q := (RX12, TX12, 17)) (As := []) (rest := []) S hK hA hW (c_X12_thrown l D cy ad 0 n nc gO_   ) (jgo wm_L_136) yk_X12_thrown gO_ rfl rfl ⟨⟨rfl, rfl⟩, by decide, by decide⟩ rfl hl.1 rfl (Nat.le_of_ble_eq_true rfl) dL_law_1915 ⟨by show (cells + 5) + 0 ≤ 601024; omega, by show (slots + 30) + 0 ≤ 7293033; omega⟩ (fun v u H locs hp hW => ?_)
    obtain ⟨rfl, rfl⟩ := hp
    refine W.eq (g2 := F0 m 1918 ls [.int (nI 0)]) rfl ?_
    refine lv_iload S.1 S.2.1 dL_law_1918 (lv_at hl 1 rfl) ?_
    refine jn_cmp_eq (tgt := 1925) S (by omega) (by omega) dL_law_1920 (by decide) (fun c_1920 => ?_) (fun c_1920 => ?_)
    · refine lv_iload S.1 S.2.1 dL_law_1925 (lv_at hl 1 rfl) ?_
      refine jn_if_ne (tgt := 1942) S (by omega) dL_law_1927 (by decide) (fun c_1927 => ?_) (fun c_1927 => ?_)
      · first | exact absurd (show 0 ≠ 0 from c_1927) (by decide) | exact absurd c_1927 (by decide)
      · refine lv_aload_n S.1 S.2.1 dL_law_1930 rfl (lv_at hl 5 rfl) ?_
        refine lv_iconst (v := nI 0) S.1 S.2.1 dL_law_1931 (by decide) ?_
        refine j_lald (x := (nI (sumN (nodesB (fun d => (fixS n x1 y1 (kx j1)) (layP n od d n)) n) n)).toInt64) S hK hW hOut_ (vp_in_nI (by omega) (by omega)) (nI_clamp (by omega)) (if_pos rfl) dL_law_1932 ?_
        refine lv_iload S.1 S.2.1 dL_law_1933 (lv_at hl 0 rfl) ?_
        refine lv_i2l (v := (nI (sumN (nodesB (fun d => (fixS n x1 y1 (kx j1)) (layP n od d n)) n) n)).toInt64) S.1 S.2.1 dL_law_1935 (rfl) ?_
        refine jl_eq (tgt := 1942) S dL_law_1936 dL_law_1937 (by decide) (fun c_1937 => ?_) (fun c_1937 => ?_)
        · refine lv_goto (tgt := 2382) S.1 S.2.1 dL_law_1942 (by decide) ?_
          exact W.widen (by omega) (by omega) (kk _ _ _ _ ⟨_, _, _, _, _, _, _, _, _, _, _, _, _, _, hPI1, (hCI.kept hU (by first | decide | (intro k hk; simp at hk; omega))), ⟨upB gx j1 _, _, _, gO_, gF_, gT_, gE_, gD_, gC0_, gC1_, gC2_, gC3_, gC4_, gP_, gK_, gV_, gR_, gU_, rowK hrow hU (fun k hk => by simp at hk; omega) gXj_, kxK hkx (fun a ha => by rw [row_at ha, row_at ha]; exact (by unfold fixS; rw [hkx j1 hq0 (by rw [hq6]; exact nI_nm1 hn) _ (fix_lt hn hq2 hq4 ha)])) (fun _ _ => rfl)⟩, hOut_, hOuD_⟩ hW (lv_sub hl [2, 3, 4, 5, 6, 7] rfl))
        · exact absurd rfl c_1937
    · first | exact absurd (show 0 ≠ 0 from c_1920) (by decide) | exact absurd c_1920 (by decide)
  · have hRI := hRI.kept hU1 (fun k hk => by have := hK1 k hk; omega)
    obtain ⟨gx, rb, tu, gO, gF, gT, gE, gD, gC0, gC1, gC2, gC3, gC4, gP, gK, gV, gR, gU, hrow, hkx⟩ := hRI
    refine W.eq (g2 := F0 m 1888 ls [.int (nI 1)]) rfl ?_
    refine lv_istore (lv' := [(6, .int (nI 1)), (0, .ref b), (1, .ref (ad 0)), (2, .ref (ad 55)), (3, .ref (ad 74)), (4, .ref (ad 75)), (5, .int (nI i))]) S.1 S.2.1 dL_law_1888 hl (by decide) rfl (fun ls hl => ?_)
    refine lv_aload_n S.1 S.2.1 dL_law_1890 rfl (lv_at hl 3 rfl) ?_
    refine lv_aload_n S.1 S.2.1 dL_law_1891 rfl (lv_at hl 1 rfl) ?_
    refine lv_iload S.1 S.2.1 dL_law_1892 (lv_at hl 6 rfl) ?_
    refine lv_iconst (v := nI 1) S.1 S.2.1 dL_law_1894 (by decide) ?_
    refine jn_add S dL_law_1895 ?_
    refine j_sld (x := xs (i + 1)) S hX hbl hbA hW (vp_in_nI (by omega) (by omega)) (nI_clamp (by omega)) (rfl) dL_law_1896 ?_
    refine lv_aload_n S.1 S.2.1 dL_law_1897 rfl (lv_at hl 1 rfl) ?_
    refine lv_iload S.1 S.2.1 dL_law_1898 (lv_at hl 6 rfl) ?_
    refine lv_iconst (v := nI 2) S.1 S.2.1 dL_law_1900 (by decide) ?_
    refine jn_add S dL_law_1901 ?_
    refine j_sld (x := xs (i + 2)) S hX hbl hbA hW (vp_in_nI (by omega) (by omega)) (nI_clamp (by omega)) (rfl) dL_law_1902 ?_
    refine lv_aload_n S.1 S.2.1 dL_law_1903 rfl (lv_at hl 1 rfl) ?_
    refine lv_iload S.1 S.2.1 dL_law_1904 (lv_at hl 6 rfl) ?_
    refine lv_iconst (v := nI 3) S.1 S.2.1 dL_law_1906 (by decide) ?_
    refine jn_add S dL_law_1907 ?_
    refine j_sld (x := xs (i + 3)) S hX hbl hbA hW (vp_in_nI (by omega) (by omega)) (nI_clamp (by omega)) (rfl) dL_law_1908 ?_
    refine j_callV (k := 55) (ci := 11) (q := (RX12, TX12, 17)) (As := [.int (xs (i + 1)), .int (xs (i + 2)), .int (xs (i + 3))]) (rest := []) S hK hA hW (c_X12_fix_b1 l D cy ad th n nc (xs (i + 1)) (xs (i + 2)) (xs (i + 3)) gO   (hq.imp id (fun h => h.2))) (jgo wm_L_245) yk_X12_fix gO rfl rfl ⟨⟨rfl, rfl⟩, by decide, by decide⟩ rfl hl.1 rfl (Nat.le_of_ble_eq_true rfl) dL_law_1909 ⟨by show (cells + 5) + 0 ≤ 601024; omega, by show (slots + 30) + 0 ≤ 7293033; omega⟩ (fun v w_ H locs hp hW => ?_)
    obtain ⟨rfl, hU1, hN1⟩ := hp
    have hU : jU w w_ [55, 56, 57, 58, 59, 60, 61, 62, 63, 64, 65, 66, 71, 72, 73, 74, 75] := jU.mono hU1 (by first | decide | (simp; done) | (simp; omega))
    have gF_ := hU1.get gF (by first | decide | (simp; done) | (simp; omega))
    have gT_ := hU1.get gT (by first | decide | (simp; done) | (simp; omega))
    have gE_ := hU1.get gE (by first | decide | (simp; done) | (simp; omega))
    have gD_ := hU1.get gD (by first | decide | (simp; done) | (simp; omega))
    have gC0_ := hU1.get gC0 (by first | decide | (simp; done) | (simp; omega))
    have gC1_ := hU1.get gC1 (by first | decide | (simp; done) | (simp; omega))
    have gC2_ := hU1.get gC2 (by first | decide | (simp; done) | (simp; omega))
    have gC3_ := hU1.get gC3 (by first | decide | (simp; done) | (simp; omega))
    have gC4_ := hU1.get gC4 (by first | decide | (simp; done) | (simp; omega))
    have gP_ := hU1.get gP (by first | decide | (simp; done) | (simp; omega))
    have gK_ := hU1.get gK (by first | decide | (simp; done) | (simp; omega))
    have gV_ := hU1.get gV (by first | decide | (simp; done) | (simp; omega))
    have gR_ := hU1.get gR (by first | decide | (simp; done) | (simp; omega))
    have gU_ := hU1.get gU (by first | decide | (simp; done) | (simp; omega))
    have hOut_ := hU1.get hOut (by first | decide | (simp; done) | (simp; omega))
    have hOuD_ := hU1.get hOuD (by first | decide | (simp; done) | (simp; omega))
    have gO_ : w_[55]? = some (ad 55, .inr (11, [.int (nI 1), .ref (ad 56), .ref (ad 57), .ref (ad 58), .ref (ad 59), .ref (ad 60), .ref (ad 61), .ref (ad 62), .ref (ad 63), .ref (ad 64), .ref (ad 65), .int (nI n), .int (nI nc), .ref (ad 66), .ref (ad 71), .ref (ad 72), .ref (ad 73)])) := hN1
    clear hU1 hN1
    refine W.eq (g2 := F0 m 1912 ls [.int (nI 0)]) rfl ?_
    refine lv_istore (lv' := [(7, .int (nI 0)), (6, .int (nI 1)), (0, .ref b), (1, .ref (ad 0)), (2, .ref (ad 55)), (3, .ref (ad 74)), (4, .ref (ad 75)), (5, .int (nI i))]) S.1 S.2.1 dL_law_1912 hl (by decide) rfl (fun ls hl => ?_)
    refine lv_aload_n S.1 S.2.1 dL_law_1914 rfl (lv_at hl 4 rfl) ?_
    refine j_callV (k := 55) (ci := 11) (q := (RX12, TX12, 17)) (As := []) (rest := []) S hK hA hW (c_X12_thrown l D cy ad 1 n nc gO_   ) (jgo wm_L_136) yk_X12_thrown gO_ rfl rfl ⟨⟨rfl, rfl⟩, by decide, by decide⟩ rfl hl.1 rfl (Nat.le_of_ble_eq_true rfl) dL_law_1915 ⟨by show (cells + 5) + 0 ≤ 601024; omega, by show (slots + 30) + 0 ≤ 7293033; omega⟩ (fun v u H locs hp hW => ?_)
    obtain ⟨rfl, rfl⟩ := hp
    refine W.eq (g2 := F0 m 1918 ls [.int (nI 1)]) rfl ?_
    refine lv_iload S.1 S.2.1 dL_law_1918 (lv_at hl 1 rfl) ?_
    refine jn_cmp_eq (tgt := 1925) S (by omega) (by omega) dL_law_1920 (by decide) (fun c_1920 => ?_) (fun c_1920 => ?_)
    · refine lv_iload S.1 S.2.1 dL_law_1925 (lv_at hl 1 rfl) ?_
      refine jn_if_ne (tgt := 1942) S (by omega) dL_law_1927 (by decide) (fun c_1927 => ?_) (fun c_1927 => ?_)
      · refine lv_goto (tgt := 2382) S.1 S.2.1 dL_law_1942 (by decide) ?_
        exact W.widen (by omega) (by omega) (kk _ _ _ _ ⟨_, _, _, _, _, _, _, _, _, _, _, _, _, _, hPI, (hCI.kept hU (by first | decide | (intro k hk; simp at hk; omega))), ⟨gx, _, _, gO_, gF_, gT_, gE_, gD_, gC0_, gC1_, gC2_, gC3_, gC4_, gP_, gK_, gV_, gR_, gU_, fun j hj => hU.get (hrow j hj) (by simp; omega), hkx⟩, hOut_, hOuD_⟩ hW (lv_sub hl [2, 3, 4, 5, 6, 7] rfl))
      · first | exact absurd (show 1 = 0 from c_1927) (by decide) | exact absurd c_1927 (by decide)
    · first | exact absurd (show 1 ≠ 1 from c_1920) (by decide) | exact absurd c_1920 (by decide)
  · have hRI := hRI.kept hU1 (fun k hk => by have := hK1 k hk; omega)
    obtain ⟨gx, rb, tu, gO, gF, gT, gE, gD, gC0, gC1, gC2, gC3, gC4, gP, gK, gV, gR, gU, hrow, hkx⟩ := hRI
    obtain ⟨j1, y1, h1, e1, h2, e2, h3⟩ := hq
    refine W.eq (g2 := F0 m 1888 ls [.int (nI 2)]) rfl ?_
    refine lv_istore (lv' := [(6, .int (nI 2)), (0, .ref b), (1, .ref (ad 0)), (2, .ref (ad 55)), (3, .ref (ad 74)), (4, .ref (ad 75)), (5, .int (nI i))]) S.1 S.2.1 dL_law_1888 hl (by decide) rfl (fun ls hl => ?_)
    refine lv_aload_n S.1 S.2.1 dL_law_1890 rfl (lv_at hl 3 rfl) ?_
    refine lv_aload_n S.1 S.2.1 dL_law_1891 rfl (lv_at hl 1 rfl) ?_
    refine lv_iload S.1 S.2.1 dL_law_1892 (lv_at hl 6 rfl) ?_
    refine lv_iconst (v := nI 1) S.1 S.2.1 dL_law_1894 (by decide) ?_
    refine jn_add S dL_law_1895 ?_
    refine j_sld (x := nI j1) S hX hbl hbA hW (vp_in_nI (by omega) (by omega)) (nI_clamp (by omega)) (e1) dL_law_1896 ?_
    refine lv_aload_n S.1 S.2.1 dL_law_1897 rfl (lv_at hl 1 rfl) ?_
    refine lv_iload S.1 S.2.1 dL_law_1898 (lv_at hl 6 rfl) ?_
    refine lv_iconst (v := nI 2) S.1 S.2.1 dL_law_1900 (by decide) ?_
    refine jn_add S dL_law_1901 ?_
    refine j_sld (x := xs (i + 2)) S hX hbl hbA hW (vp_in_nI (by omega) (by omega)) (nI_clamp (by omega)) (rfl) dL_law_1902 ?_
    refine lv_aload_n S.1 S.2.1 dL_law_1903 rfl (lv_at hl 1 rfl) ?_
    refine lv_iload S.1 S.2.1 dL_law_1904 (lv_at hl 6 rfl) ?_
    refine lv_iconst (v := nI 3) S.1 S.2.1 dL_law_1906 (by decide) ?_
    refine jn_add S dL_law_1907 ?_
    refine j_sld (x := nI y1) S hX hbl hbA hW (vp_in_nI (by omega) (by omega)) (nI_clamp (by omega)) (e2) dL_law_1908 ?_
    refine j_callV (k := 55) (ci := 11) (q := (RX12, TX12, 17)) (As := [.int (nI j1), .int (xs (i + 2)), .int (nI y1)]) (rest := []) S hK hA hW (c_X12_fix_b2 l D cy ad th n nc (xs (i + 2)) j1 y1 gO   (by omega) (by omega) (by omega) (h3)) (jgo wm_L_245) yk_X12_fix gO rfl rfl ⟨⟨rfl, rfl⟩, by decide, by decide⟩ rfl hl.1 rfl (Nat.le_of_ble_eq_true rfl) dL_law_1909 ⟨by show (cells + 5) + 0 ≤ 601024; omega, by show (slots + 30) + 0 ≤ 7293033; omega⟩ (fun v w_ H locs hp hW => ?_)
    obtain ⟨rfl, hU1, hN1⟩ := hp
    have hU : jU w w_ [55, 56, 57, 58, 59, 60, 61, 62, 63, 64, 65, 66, 71, 72, 73, 74, 75] := jU.mono hU1 (by first | decide | (simp; done) | (simp; omega))
    have gF_ := hU1.get gF (by first | decide | (simp; done) | (simp; omega))
    have gT_ := hU1.get gT (by first | decide | (simp; done) | (simp; omega))
    have gE_ := hU1.get gE (by first | decide | (simp; done) | (simp; omega))
    have gD_ := hU1.get gD (by first | decide | (simp; done) | (simp; omega))
    have gC0_ := hU1.get gC0 (by first | decide | (simp; done) | (simp; omega))
    have gC1_ := hU1.get gC1 (by first | decide | (simp; done) | (simp; omega))
    have gC2_ := hU1.get gC2 (by first | decide | (simp; done) | (simp; omega))
    have gC3_ := hU1.get gC3 (by first | decide | (simp; done) | (simp; omega))
    have gC4_ := hU1.get gC4 (by first | decide | (simp; done) | (simp; omega))
    have gP_ := hU1.get gP (by first | decide | (simp; done) | (simp; omega))
    have gK_ := hU1.get gK (by first | decide | (simp; done) | (simp; omega))
    have gV_ := hU1.get gV (by first | decide | (simp; done) | (simp; omega))
    have gR_ := hU1.get gR (by first | decide | (simp; done) | (simp; omega))
    have gU_ := hU1.get gU (by first | decide | (simp; done) | (simp; omega))
    have hOut_ := hU1.get hOut (by first | decide | (simp; done) | (simp; omega))
    have hOuD_ := hU1.get hOuD (by first | decide | (simp; done) | (simp; omega))
    have gO_ : w_[55]? = some (ad 55, .inr (11, [.int (nI 2), .ref (ad 56), .ref (ad 57), .ref (ad 58), .ref (ad 59), .ref (ad 60), .ref (ad 61), .ref (ad 62), .ref (ad 63), .ref (ad 64), .ref (ad 65), .int (nI n), .int (nI nc), .ref (ad 66), .ref (ad 71), .ref (ad 72), .ref (ad 73)])) := hN1
    clear hU1 hN1
    refine W.eq (g2 := F0 m 1912 ls [.int (nI 0)]) rfl ?_
    refine lv_istore (lv' := [(7, .int (nI 0)), (6, .int (nI 2)), (0, .ref b), (1, .ref (ad 0)), (2, .ref (ad 55)), (3, .ref (ad 74)), (4, .ref (ad 75)), (5, .int (nI i))]) S.1 S.2.1 dL_law_1912 hl (by decide) rfl (fun ls hl => ?_)
    refine lv_aload_n S.1 S.2.1 dL_law_1914 rfl (lv_at hl 4 rfl) ?_
    refine j_callV (k := 55) (ci := 11) (q := (RX12, TX12, 17)) (As := []) (rest := []) S hK hA hW (c_X12_thrown l D cy ad 2 n nc gO_   ) (jgo wm_L_136) yk_X12_thrown gO_ rfl rfl ⟨⟨rfl, rfl⟩, by decide, by decide⟩ rfl hl.1 rfl (Nat.le_of_ble_eq_true rfl) dL_law_1915 ⟨by show (cells + 5) + 0 ≤ 601024; omega, by show (slots + 30) + 0 ≤ 7293033; omega⟩ (fun v u H locs hp hW => ?_)
    obtain ⟨rfl, rfl⟩ := hp
    refine W.eq (g2 := F0 m 1918 ls [.int (nI 2)]) rfl ?_
    refine lv_iload S.1 S.2.1 dL_law_1918 (lv_at hl 1 rfl) ?_
    refine jn_cmp_eq (tgt := 1925) S (by omega) (by omega) dL_law_1920 (by decide) (fun c_1920 => ?_) (fun c_1920 => ?_)
    · refine lv_iload S.1 S.2.1 dL_law_1925 (lv_at hl 1 rfl) ?_
      refine jn_if_ne (tgt := 1942) S (by omega) dL_law_1927 (by decide) (fun c_1927 => ?_) (fun c_1927 => ?_)
      · refine lv_goto (tgt := 2382) S.1 S.2.1 dL_law_1942 (by decide) ?_
        exact W.widen (by omega) (by omega) (kk _ _ _ _ ⟨_, _, _, _, _, _, _, _, _, _, _, _, _, _, hPI, (hCI.kept hU (by first | decide | (intro k hk; simp at hk; omega))), ⟨gx, _, _, gO_, gF_, gT_, gE_, gD_, gC0_, gC1_, gC2_, gC3_, gC4_, gP_, gK_, gV_, gR_, gU_, fun j hj => hU.get (hrow j hj) (by simp; omega), hkx⟩, hOut_, hOuD_⟩ hW (lv_sub hl [2, 3, 4, 5, 6, 7] rfl))
      · first | exact absurd (show 2 = 0 from c_1927) (by decide) | exact absurd c_1927 (by decide)
    · first | exact absurd (show 2 ≠ 2 from c_1920) (by decide) | exact absurd c_1920 (by decide)
  · have hRI := hRI.kept hU1 (fun k hk => by have := hK1 k hk; omega)
    obtain ⟨gx, rb, tu, gO, gF, gT, gE, gD, gC0, gC1, gC2, gC3, gC4, gP, gK, gV, gR, gU, hrow, hkx⟩ := hRI
    obtain ⟨j1, x1, y1, h1, e1, h2, e2, h3, e3, hk⟩ := hq
    refine W.eq (g2 := F0 m 1888 ls [.int (nI 3)]) rfl ?_
    refine lv_istore (lv' := [(6, .int (nI 3)), (0, .ref b), (1, .ref (ad 0)), (2, .ref (ad 55)), (3, .ref (ad 74)), (4, .ref (ad 75)), (5, .int (nI i))]) S.1 S.2.1 dL_law_1888 hl (by decide) rfl (fun ls hl => ?_)
    refine lv_aload_n S.1 S.2.1 dL_law_1890 rfl (lv_at hl 3 rfl) ?_
    refine lv_aload_n S.1 S.2.1 dL_law_1891 rfl (lv_at hl 1 rfl) ?_
    refine lv_iload S.1 S.2.1 dL_law_1892 (lv_at hl 6 rfl) ?_
    refine lv_iconst (v := nI 1) S.1 S.2.1 dL_law_1894 (by decide) ?_
    refine jn_add S dL_law_1895 ?_
    refine j_sld (x := nI j1) S hX hbl hbA hW (vp_in_nI (by omega) (by omega)) (nI_clamp (by omega)) (e1) dL_law_1896 ?_
    refine lv_aload_n S.1 S.2.1 dL_law_1897 rfl (lv_at hl 1 rfl) ?_
    refine lv_iload S.1 S.2.1 dL_law_1898 (lv_at hl 6 rfl) ?_
    refine lv_iconst (v := nI 2) S.1 S.2.1 dL_law_1900 (by decide) ?_
    refine jn_add S dL_law_1901 ?_
    refine j_sld (x := nI x1) S hX hbl hbA hW (vp_in_nI (by omega) (by omega)) (nI_clamp (by omega)) (e2) dL_law_1902 ?_
    refine lv_aload_n S.1 S.2.1 dL_law_1903 rfl (lv_at hl 1 rfl) ?_
    refine lv_iload S.1 S.2.1 dL_law_1904 (lv_at hl 6 rfl) ?_
    refine lv_iconst (v := nI 3) S.1 S.2.1 dL_law_1906 (by decide) ?_
    refine jn_add S dL_law_1907 ?_
    refine j_sld (x := nI y1) S hX hbl hbA hW (vp_in_nI (by omega) (by omega)) (nI_clamp (by omega)) (e3) dL_law_1908 ?_
    refine j_callV (k := 55) (ci := 11) (q := (RX12, TX12, 17)) (As := [.int (nI j1), .int (nI x1), .int (nI y1)]) (rest := []) S hK hA hW (c_X12_fix_b3 l D cy ad th n nc kv j1 x1 y1 gO gV   (by omega) (by omega) (by omega) (by omega) (kv_neg hk)) (jgo wm_L_245) yk_X12_fix gO rfl rfl ⟨⟨rfl, rfl⟩, by decide, by decide⟩ rfl hl.1 rfl (Nat.le_of_ble_eq_true rfl) dL_law_1909 ⟨by show (cells + 5) + 0 ≤ 601024; omega, by show (slots + 30) + 0 ≤ 7293033; omega⟩ (fun v w_ H locs hp hW => ?_)
    obtain ⟨rfl, hU1, hN1⟩ := hp
    have hU : jU w w_ [55, 56, 57, 58, 59, 60, 61, 62, 63, 64, 65, 66, 71, 72, 73, 74, 75] := jU.mono hU1 (by first | decide | (simp; done) | (simp; omega))
    have gF_ := hU1.get gF (by first | decide | (simp; done) | (simp; omega))
    have gT_ := hU1.get gT (by first | decide | (simp; done) | (simp; omega))
    have gE_ := hU1.get gE (by first | decide | (simp; done) | (simp; omega))
    have gD_ := hU1.get gD (by first | decide | (simp; done) | (simp; omega))
    have gC0_ := hU1.get gC0 (by first | decide | (simp; done) | (simp; omega))
    have gC1_ := hU1.get gC1 (by first | decide | (simp; done) | (simp; omega))
    have gC2_ := hU1.get gC2 (by first | decide | (simp; done) | (simp; omega))
    have gC3_ := hU1.get gC3 (by first | decide | (simp; done) | (simp; omega))
    have gC4_ := hU1.get gC4 (by first | decide | (simp; done) | (simp; omega))
    have gP_ := hU1.get gP (by first | decide | (simp; done) | (simp; omega))
    have gK_ := hU1.get gK (by first | decide | (simp; done) | (simp; omega))
    have gV_ := hU1.get gV (by first | decide | (simp; done) | (simp; omega))
    have gR_ := hU1.get gR (by first | decide | (simp; done) | (simp; omega))
    have gU_ := hU1.get gU (by first | decide | (simp; done) | (simp; omega))
    have hOut_ := hU1.get hOut (by first | decide | (simp; done) | (simp; omega))
    have hOuD_ := hU1.get hOuD (by first | decide | (simp; done) | (simp; omega))
    have gO_ : w_[55]? = some (ad 55, .inr (11, [.int (nI 3), .ref (ad 56), .ref (ad 57), .ref (ad 58), .ref (ad 59), .ref (ad 60), .ref (ad 61), .ref (ad 62), .ref (ad 63), .ref (ad 64), .ref (ad 65), .int (nI n), .int (nI nc), .ref (ad 66), .ref (ad 71), .ref (ad 72), .ref (ad 73)])) := hN1
    clear hU1 hN1
    refine W.eq (g2 := F0 m 1912 ls [.int (nI 0)]) rfl ?_
    refine lv_istore (lv' := [(7, .int (nI 0)), (6, .int (nI 3)), (0, .ref b), (1, .ref (ad 0)), (2, .ref (ad 55)), (3, .ref (ad 74)), (4, .ref (ad 75)), (5, .int (nI i))]) S.1 S.2.1 dL_law_1912 hl (by decide) rfl (fun ls hl => ?_)
    refine lv_aload_n S.1 S.2.1 dL_law_1914 rfl (lv_at hl 4 rfl) ?_
    refine j_callV (k := 55) (ci := 11) (q := (RX12, TX12, 17)) (As := []) (rest := []) S hK hA hW (c_X12_thrown l D cy ad 3 n nc gO_   ) (jgo wm_L_136) yk_X12_thrown gO_ rfl rfl ⟨⟨rfl, rfl⟩, by decide, by decide⟩ rfl hl.1 rfl (Nat.le_of_ble_eq_true rfl) dL_law_1915 ⟨by show (cells + 5) + 0 ≤ 601024; omega, by show (slots + 30) + 0 ≤ 7293033; omega⟩ (fun v u H locs hp hW => ?_)
    obtain ⟨rfl, rfl⟩ := hp
    refine W.eq (g2 := F0 m 1918 ls [.int (nI 3)]) rfl ?_
    refine lv_iload S.1 S.2.1 dL_law_1918 (lv_at hl 1 rfl) ?_
    refine jn_cmp_eq (tgt := 1925) S (by omega) (by omega) dL_law_1920 (by decide) (fun c_1920 => ?_) (fun c_1920 => ?_)
    · refine lv_iload S.1 S.2.1 dL_law_1925 (lv_at hl 1 rfl) ?_
      refine jn_if_ne (tgt := 1942) S (by omega) dL_law_1927 (by decide) (fun c_1927 => ?_) (fun c_1927 => ?_)
      · refine lv_goto (tgt := 2382) S.1 S.2.1 dL_law_1942 (by decide) ?_
        exact W.widen (by omega) (by omega) (kk _ _ _ _ ⟨_, _, _, _, _, _, _, _, _, _, _, _, _, _, hPI, (hCI.kept hU (by first | decide | (intro k hk; simp at hk; omega))), ⟨gx, _, _, gO_, gF_, gT_, gE_, gD_, gC0_, gC1_, gC2_, gC3_, gC4_, gP_, gK_, gV_, gR_, gU_, fun j hj => hU.get (hrow j hj) (by simp; omega), hkx⟩, hOut_, hOuD_⟩ hW (lv_sub hl [2, 3, 4, 5, 6, 7] rfl))
      · first | exact absurd (show 3 = 0 from c_1927) (by decide) | exact absurd c_1927 (by decide)
    · first | exact absurd (show 3 ≠ 3 from c_1920) (by decide) | exact absurd c_1920 (by decide)
  · have hRI := hRI.kept hU1 (fun k hk => by have := hK1 k hk; omega)
    obtain ⟨gx, rb, tu, gO, gF, gT, gE, gD, gC0, gC1, gC2, gC3, gC4, gP, gK, gV, gR, gU, hrow, hkx⟩ := hRI
    obtain ⟨j1, x1, y1, h1, e1, h2, e2, h3, e3, hk, hk2⟩ := hq
    refine W.eq (g2 := F0 m 1888 ls [.int (nI 4)]) rfl ?_
    refine lv_istore (lv' := [(6, .int (nI 4)), (0, .ref b), (1, .ref (ad 0)), (2, .ref (ad 55)), (3, .ref (ad 74)), (4, .ref (ad 75)), (5, .int (nI i))]) S.1 S.2.1 dL_law_1888 hl (by decide) rfl (fun ls hl => ?_)
    refine lv_aload_n S.1 S.2.1 dL_law_1890 rfl (lv_at hl 3 rfl) ?_
    refine lv_aload_n S.1 S.2.1 dL_law_1891 rfl (lv_at hl 1 rfl) ?_
    refine lv_iload S.1 S.2.1 dL_law_1892 (lv_at hl 6 rfl) ?_
    refine lv_iconst (v := nI 1) S.1 S.2.1 dL_law_1894 (by decide) ?_
    refine jn_add S dL_law_1895 ?_
    refine j_sld (x := nI j1) S hX hbl hbA hW (vp_in_nI (by omega) (by omega)) (nI_clamp (by omega)) (e1) dL_law_1896 ?_
    refine lv_aload_n S.1 S.2.1 dL_law_1897 rfl (lv_at hl 1 rfl) ?_
    refine lv_iload S.1 S.2.1 dL_law_1898 (lv_at hl 6 rfl) ?_
    refine lv_iconst (v := nI 2) S.1 S.2.1 dL_law_1900 (by decide) ?_
    refine jn_add S dL_law_1901 ?_
    refine j_sld (x := nI x1) S hX hbl hbA hW (vp_in_nI (by omega) (by omega)) (nI_clamp (by omega)) (e2) dL_law_1902 ?_
    refine lv_aload_n S.1 S.2.1 dL_law_1903 rfl (lv_at hl 1 rfl) ?_
    refine lv_iload S.1 S.2.1 dL_law_1904 (lv_at hl 6 rfl) ?_
    refine lv_iconst (v := nI 3) S.1 S.2.1 dL_law_1906 (by decide) ?_
    refine jn_add S dL_law_1907 ?_
    refine j_sld (x := nI y1) S hX hbl hbA hW (vp_in_nI (by omega) (by omega)) (nI_clamp (by omega)) (e3) dL_law_1908 ?_
    refine j_callV (k := 55) (ci := 11) (q := (RX12, TX12, 17)) (As := [.int (nI j1), .int (nI x1), .int (nI y1)]) (rest := []) S hK hA hW (c_X12_fix_b4 l D cy ad th n nc kv j1 x1 y1 gO gV   (by omega) (by omega) (by omega) (by omega) (kv_pos hkI h1 hk) (hk2)) (jgo wm_L_245) yk_X12_fix gO rfl rfl ⟨⟨rfl, rfl⟩, by decide, by decide⟩ rfl hl.1 rfl (Nat.le_of_ble_eq_true rfl) dL_law_1909 ⟨by show (cells + 5) + 0 ≤ 601024; omega, by show (slots + 30) + 0 ≤ 7293033; omega⟩ (fun v w_ H locs hp hW => ?_)
    obtain ⟨rfl, hU1, hN1⟩ := hp
    have hU : jU w w_ [55, 56, 57, 58, 59, 60, 61, 62, 63, 64, 65, 66, 71, 72, 73, 74, 75] := jU.mono hU1 (by first | decide | (simp; done) | (simp; omega))
    have gF_ := hU1.get gF (by first | decide | (simp; done) | (simp; omega))
    have gT_ := hU1.get gT (by first | decide | (simp; done) | (simp; omega))
    have gE_ := hU1.get gE (by first | decide | (simp; done) | (simp; omega))
    have gD_ := hU1.get gD (by first | decide | (simp; done) | (simp; omega))
    have gC0_ := hU1.get gC0 (by first | decide | (simp; done) | (simp; omega))
    have gC1_ := hU1.get gC1 (by first | decide | (simp; done) | (simp; omega))
    have gC2_ := hU1.get gC2 (by first | decide | (simp; done) | (simp; omega))
    have gC3_ := hU1.get gC3 (by first | decide | (simp; done) | (simp; omega))
    have gC4_ := hU1.get gC4 (by first | decide | (simp; done) | (simp; omega))
    have gP_ := hU1.get gP (by first | decide | (simp; done) | (simp; omega))
    have gK_ := hU1.get gK (by first | decide | (simp; done) | (simp; omega))
    have gV_ := hU1.get gV (by first | decide | (simp; done) | (simp; omega))
    have gR_ := hU1.get gR (by first | decide | (simp; done) | (simp; omega))
    have gU_ := hU1.get gU (by first | decide | (simp; done) | (simp; omega))
    have hOut_ := hU1.get hOut (by first | decide | (simp; done) | (simp; omega))
    have hOuD_ := hU1.get hOuD (by first | decide | (simp; done) | (simp; omega))
    have gO_ : w_[55]? = some (ad 55, .inr (11, [.int (nI 4), .ref (ad 56), .ref (ad 57), .ref (ad 58), .ref (ad 59), .ref (ad 60), .ref (ad 61), .ref (ad 62), .ref (ad 63), .ref (ad 64), .ref (ad 65), .int (nI n), .int (nI nc), .ref (ad 66), .ref (ad 71), .ref (ad 72), .ref (ad 73)])) := hN1
    clear hU1 hN1
    refine W.eq (g2 := F0 m 1912 ls [.int (nI 0)]) rfl ?_
    refine lv_istore (lv' := [(7, .int (nI 0)), (6, .int (nI 4)), (0, .ref b), (1, .ref (ad 0)), (2, .ref (ad 55)), (3, .ref (ad 74)), (4, .ref (ad 75)), (5, .int (nI i))]) S.1 S.2.1 dL_law_1912 hl (by decide) rfl (fun ls hl => ?_)
    refine lv_aload_n S.1 S.2.1 dL_law_1914 rfl (lv_at hl 4 rfl) ?_
    refine j_callV (k := 55) (ci := 11) (q := (RX12, TX12, 17)) (As := []) (rest := []) S hK hA hW (c_X12_thrown l D cy ad 4 n nc gO_   ) (jgo wm_L_136) yk_X12_thrown gO_ rfl rfl ⟨⟨rfl, rfl⟩, by decide, by decide⟩ rfl hl.1 rfl (Nat.le_of_ble_eq_true rfl) dL_law_1915 ⟨by show (cells + 5) + 0 ≤ 601024; omega, by show (slots + 30) + 0 ≤ 7293033; omega⟩ (fun v u H locs hp hW => ?_)
    obtain ⟨rfl, rfl⟩ := hp
    refine W.eq (g2 := F0 m 1918 ls [.int (nI 4)]) rfl ?_
    refine lv_iload S.1 S.2.1 dL_law_1918 (lv_at hl 1 rfl) ?_
    refine jn_cmp_eq (tgt := 1925) S (by omega) (by omega) dL_law_1920 (by decide) (fun c_1920 => ?_) (fun c_1920 => ?_)
    · refine lv_iload S.1 S.2.1 dL_law_1925 (lv_at hl 1 rfl) ?_
      refine jn_if_ne (tgt := 1942) S (by omega) dL_law_1927 (by decide) (fun c_1927 => ?_) (fun c_1927 => ?_)
      · refine lv_goto (tgt := 2382) S.1 S.2.1 dL_law_1942 (by decide) ?_
        exact W.widen (by omega) (by omega) (kk _ _ _ _ ⟨_, _, _, _, _, _, _, _, _, _, _, _, _, _, hPI, (hCI.kept hU (by first | decide | (intro k hk; simp at hk; omega))), ⟨gx, _, _, gO_, gF_, gT_, gE_, gD_, gC0_, gC1_, gC2_, gC3_, gC4_, gP_, gK_, gV_, gR_, gU_, fun j hj => hU.get (hrow j hj) (by simp; omega), hkx⟩, hOut_, hOuD_⟩ hW (lv_sub hl [2, 3, 4, 5, 6, 7] rfl))
      · first | exact absurd (show 4 = 0 from c_1927) (by decide) | exact absurd c_1927 (by decide)
    · first | exact absurd (show 4 ≠ 4 from c_1920) (by decide) | exact absurd c_1920 (by decide)
/-- the law's free -/
theorem s_free {p : Program} {l : Launch} {e : Env} {s : State} {m : MethodId} {args : Array Value} {below : List Frame} {meth : Method} {c : Code} {Q : State → Prop} {D : va_G} {cy : Nat → ClassId} {A : Nat → Prop} {x0 : Cond} {ad : Nat → Nat} {b L : Nat} {xs : Nat → Int32} {i : Nat} {w : va_W} {H : Heap} {locs : List Loc} {ls : Array Slot} {cells slots : Nat} (htr : l.stackTraces = false) (C : LX p s m c args D cy A b L xs x0) (hI : INV ad cy w) (hW : jW D A s.heap w H locs) (hl : lv_has ls 10 [(0, .ref b), (1, .ref (ad 0)), (2, .ref (ad 55)), (3, .ref (ad 74)), (4, .ref (ad 75)), (5, .int (nI i))]) (hi : i + 5 ≤ L) (hL : L ≤ 2560) (hc : cells + 10 ≤ 601024) (hs : slots + 64 ≤ 7293033) (kk : LK p l e s m args below meth c Q D cy A ad b i cells slots) : W p l e room_1 s m args below meth c H locs cells slots Q (F0 m 1945 ls []) := by
  obtain ⟨S, hK, hA, hX, hbl, hbA, hx, hnx⟩ := C
  obtain ⟨n, wf, wt, od, sd, se, nc, lv, cs, kv, kx, th, og, ogd, hPI, hCI, hRI, hOut, hOuD⟩ := hI
  have hPI0 := hPI
  obtain ⟨hn, hsdn, hse2, hnc, hlvn, hcs, hkI, hod, hodn, hinj⟩ := hPI0
  have hp2 := two_pow10 hn
  have hpt := Nat.two_pow_pos n
  have hWB := hCI.wb
  refine lv_aload_n S.1 S.2.1 dL_law_1945 rfl (lv_at hl 1 rfl) ?_
  refine lv_aload_n S.1 S.2.1 dL_law_1946 rfl (lv_at hl 0 rfl) ?_
  refine lv_iload S.1 S.2.1 dL_law_1947 (lv_at hl 5 rfl) ?_
  refine lv_iconst (v := nI 1) S.1 S.2.1 dL_law_1949 (by decide) ?_
  refine jn_add S dL_law_1950 ?_
  refine j_sld (x := xs (i + 1)) S hX hbl hbA hW (vp_in_nI (by omega) (by omega)) (nI_clamp (by omega)) (rfl) dL_law_1951 ?_
  refine lv_aload_n S.1 S.2.1 dL_law_1952 rfl (lv_at hl 0 rfl) ?_
  refine lv_iload S.1 S.2.1 dL_law_1953 (lv_at hl 5 rfl) ?_
  refine lv_iconst (v := nI 2) S.1 S.2.1 dL_law_1955 (by decide) ?_
  refine jn_add S dL_law_1956 ?_
  refine j_sld (x := xs (i + 2)) S hX hbl hbA hW (vp_in_nI (by omega) (by omega)) (nI_clamp (by omega)) (rfl) dL_law_1957 ?_
  refine lv_aload_n S.1 S.2.1 dL_law_1958 rfl (lv_at hl 3 rfl) ?_
  refine j_callH (As := [.ref (ad 0), .int (xs (i + 1)), .int (xs (i + 2)), .ref (ad 74)]) (rest := []) S hK hA hW hx hnx (h_free l htr D cy ad n wf wt od sd se nc lv cs kv kx (xs (i + 1)) (xs (i + 2)) og ogd hPI hCI hOut hOuD) (jgo wm_L_246) yk_L_free ⟨⟨rfl, rfl⟩, by decide, by decide⟩ rfl hl.1 rfl (Nat.le_of_ble_eq_true rfl) dL_law_1959 ⟨by show cells + 4 ≤ 601024; omega, by show slots + 24 ≤ 7293033; omega⟩ (fun v w H locs hp hW => ?_)
  rcases hp with ⟨j1, x1, rfl, hq0, hq1, hq2, hq3, hq4, ⟨K1, hU1, hK1⟩, hCI, hOut, hOuD⟩ | ⟨rfl, hq, ⟨K1, hU1, hK1⟩, hCI, hOut, hOuD⟩ | ⟨rfl, hq, ⟨K1, hU1, hK1⟩, hCI, hOut, hOuD⟩ | ⟨rfl, hq, ⟨K1, hU1, hK1⟩, hCI, hOut, hOuD⟩ | ⟨rfl, hq, ⟨K1, hU1, hK1⟩, hCI, hOut, hOuD⟩
  · have hRI := hRI.kept hU1 (fun k hk => by have := hK1 k hk; omega)
    obtain ⟨gx, rb, tu, gO, gF, gT, gE, gD, gC0, gC1, gC2, gC3, gC4, gP, gK, gV, gR, gU, hrow, hkx⟩ := hRI
    have hPI1 : PI n wf wt od sd se nc lv cs kv (upB kx j1 (freeS n x1 (kx j1))) := hPI.set hq4 (fun a ha => by unfold freeS; rw [decide_eq_false (by omega)]; rfl)
    have gXj := hrow j1 hq0
    refine W.eq (g2 := F0 m 1962 ls [.int (nI 0)]) rfl ?_
    refine lv_istore (lv' := [(6, .int (nI 0)), (0, .ref b), (1, .ref (ad 0)), (2, .ref (ad 55)), (3, .ref (ad 74)), (4, .ref (ad 75)), (5, .int (nI i))]) S.1 S.2.1 dL_law_1962 hl (by decide) rfl (fun ls hl => ?_)
    refine lv_aload_n S.1 S.2.1 dL_law_1964 rfl (lv_at hl 3 rfl) ?_
    refine lv_aload_n S.1 S.2.1 dL_law_1965 rfl (lv_at hl 1 rfl) ?_
    refine lv_iload S.1 S.2.1 dL_law_1966 (lv_at hl 6 rfl) ?_
    refine lv_iconst (v := nI 1) S.1 S.2.1 dL_law_1968 (by decide) ?_
    refine jn_add S dL_law_1969 ?_
    refine j_sld (x := nI j1) S hX hbl hbA hW (vp_in_nI (by omega) (by omega)) (nI_clamp (by omega)) (hq1) dL_law_1970 ?_
    refine lv_aload_n S.1 S.2.1 dL_law_1971 rfl (lv_at hl 1 rfl) ?_
    refine lv_iload S.1 S.2.1 dL_law_1972 (lv_at hl 6 rfl) ?_
    refine lv_iconst (v := nI 2) S.1 S.2.1 dL_law_1974 (by decide) ?_
    refine jn_add S dL_law_1975 ?_
    refine j_sld (x := nI x1) S hX hbl hbA hW (vp_in_nI (by omega) (by omega)) (nI_clamp (by omega)) (hq3) dL_law_1976 ?_
    refine j_callV (k := 55) (ci := 11) (q := (RX12, TX12, 17)) (As := [.int (nI j1), .int (nI x1)]) (rest := []) S hK hA hW (c_X12_free__ok l D cy ad th n nc od rb tu kv gx j1 x1 gO gD gR gU gK gV gXj   (by omega) (hod) (by omega) (by omega) (hq4)) (jgo wm_L_248) yk_X12_free_ gO rfl rfl ⟨⟨rfl, rfl⟩, by decide, by decide⟩ rfl hl.1 rfl (Nat.le_of_ble_eq_true rfl) dL_law_1977 ⟨by show (cells + 4) + 0 ≤ 601024; omega, by show (slots + 24) + 0 ≤ 7293033; omega⟩ (fun v w_ H locs hp hW => ?_)
    obtain ⟨rb1_1977, tu1_1977, rfl, hU1, hN1, hN2, hN3, hN4⟩ := hp
    have hU : jU w w_ [55, 56, 57, 58, 59, 60, 61, 62, 63, 64, 65, 66, 71, 72, 73, 74, 75, 67 + j1] := jU.mono hU1 (by first | decide | (simp; done) | (simp; omega))
    have gF_ := hU1.get gF (by first | decide | (simp; done) | (simp; omega))
    have gT_ := hU1.get gT (by first | decide | (simp; done) | (simp; omega))
    have gE_ := hU1.get gE (by first | decide | (simp; done) | (simp; omega))
    have gD_ := hU1.get gD (by first | decide | (simp; done) | (simp; omega))
    have gC0_ := hU1.get gC0 (by first | decide | (simp; done) | (simp; omega))
    have gC1_ := hU1.get gC1 (by first | decide | (simp; done) | (simp; omega))
    have gC2_ := hU1.get gC2 (by first | decide | (simp; done) | (simp; omega))
    have gC3_ := hU1.get gC3 (by first | decide | (simp; done) | (simp; omega))
    have gC4_ := hU1.get gC4 (by first | decide | (simp; done) | (simp; omega))
    have gP_ := hU1.get gP (by first | decide | (simp; done) | (simp; omega))
    have gK_ := hU1.get gK (by first | decide | (simp; done) | (simp; omega))
    have gV_ := hU1.get gV (by first | decide | (simp; done) | (simp; omega))
    have hOut_ := hU1.get hOut (by first | decide | (simp; done) | (simp; omega))
    have hOuD_ := hU1.get hOuD (by first | decide | (simp; done) | (simp; omega))
    have gO_ : w_[55]? = some (ad 55, .inr (11, [.int (nI 0), .ref (ad 56), .ref (ad 57), .ref (ad 58), .ref (ad 59), .ref (ad 60), .ref (ad 61), .ref (ad 62), .ref (ad 63), .ref (ad 64), .ref (ad 65), .int (nI n), .int (nI nc), .ref (ad 66), .ref (ad 71), .ref (ad 72), .ref (ad 73)])) := hN1
    have gXj_ : w_[67 + j1]? = some (ad (67 + j1), .inl (cy 3, 1024, .inl (bf (rowM (rowM (freeS n x1 (gx j1)) rb) (gx j1))))) := hN2
    have gR_ : w_[72]? = some (ad 72, .inl (cy 3, 1024, .inl (bf rb1_1977))) := hN3
    have gU_ : w_[73]? = some (ad 73, .inl (cy 3, 1024, .inl (bf tu1_1977))) := hN4
    clear hU1 hN1 hN2 hN3 hN4
    refine W.eq (g2 := F0 m 1980 ls [.int (nI (sumN (nodesB (fun d => (freeS n x1 (gx j1)) (layP n od d n)) n) n))]) rfl ?_
    refine lv_topi_to (y := nI (sumN (nodesB (fun d => (freeS n x1 (kx j1)) (layP n od d n)) n) n)) (congrArg nI (nodes_x hod (fun a ha => by unfold freeS; rw [hkx j1 hq0 (by rw [hq4]; exact nI_nm1 hn) _ ha, hkx j1 hq0 (by rw [hq4]; exact nI_nm1 hn) _ (xor_lt10 (k := x1) ha (by omega))]))) ?_
    refine lv_istore (lv' := [(7, .int (nI (sumN (nodesB (fun d => (freeS n x1 (kx j1)) (layP n od d n)) n) n))), (6, .int (nI 0)), (0, .ref b), (1, .ref (ad 0)), (2, .ref (ad 55)), (3, .ref (ad 74)), (4, .ref (ad 75)), (5, .int (nI i))]) S.1 S.2.1 dL_law_1980 hl (by decide) rfl (fun ls hl => ?_)
    refine lv_aload_n S.1 S.2.1 dL_law_1982 rfl (lv_at hl 4 rfl) ?_
    refine j_callV (k := 55) (ci := 11) (q := (RX12, TX12, 17)) (As := []) (rest := []) S hK hA hW (c_X12_thrown l D cy ad 0 n nc gO_   ) (jgo wm_L_136) yk_X12_thrown gO_ rfl rfl ⟨⟨rfl, rfl⟩, by decide, by decide⟩ rfl hl.1 rfl (Nat.le_of_ble_eq_true rfl) dL_law_1983 ⟨by show (cells + 4) + 0 ≤ 601024; omega, by show (slots + 24) + 0 ≤ 7293033; omega⟩ (fun v u H locs hp hW => ?_)
    obtain ⟨rfl, rfl⟩ := hp
    refine W.eq (g2 := F0 m 1986 ls [.int (nI 0)]) rfl ?_
    refine lv_iload S.1 S.2.1 dL_law_1986 (lv_at hl 1 rfl) ?_
    refine jn_cmp_eq (tgt := 1993) S (by omega) (by omega) dL_law_1988 (by decide) (fun c_1988 => ?_) (fun c_1988 => ?_)
    · refine lv_iload S.1 S.2.1 dL_law_1993 (lv_at hl 1 rfl) ?_
      refine jn_if_ne (tgt := 2010) S (by omega) dL_law_1995 (by decide) (fun c_1995 => ?_) (fun c_1995 => ?_)
      · first | exact absurd (show 0 ≠ 0 from c_1995) (by decide) | exact absurd c_1995 (by decide)
      · refine lv_aload_n S.1 S.2.1 dL_law_1998 rfl (lv_at hl 5 rfl) ?_
        refine lv_iconst (v := nI 0) S.1 S.2.1 dL_law_1999 (by decide) ?_
        refine j_lald (x := (nI (sumN (nodesB (fun d => (freeS n x1 (kx j1)) (layP n od d n)) n) n)).toInt64) S hK hW hOut_ (vp_in_nI (by omega) (by omega)) (nI_clamp (by omega)) (if_pos rfl) dL_law_2000 ?_
        refine lv_iload S.1 S.2.1 dL_law_2001 (lv_at hl 0 rfl) ?_
        refine lv_i2l (v := (nI (sumN (nodesB (fun d => (freeS n x1 (kx j1)) (layP n od d n)) n) n)).toInt64) S.1 S.2.1 dL_law_2003 (rfl) ?_
        refine jl_eq (tgt := 2010) S dL_law_2004 dL_law_2005 (by decide) (fun c_2005 => ?_) (fun c_2005 => ?_)
        · refine lv_goto (tgt := 2382) S.1 S.2.1 dL_law_2010 (by decide) ?_
          exact W.widen (by omega) (by omega) (kk _ _ _ _ ⟨_, _, _, _, _, _, _, _, _, _, _, _, _, _, hPI1, (hCI.kept hU (by first | decide | (intro k hk; simp at hk; omega))), ⟨upB gx j1 _, _, _, gO_, gF_, gT_, gE_, gD_, gC0_, gC1_, gC2_, gC3_, gC4_, gP_, gK_, gV_, gR_, gU_, rowK hrow hU (fun k hk => by simp at hk; omega) gXj_, kxK hkx (fun a ha => by rw [row_at ha, row_at ha]; exact (by unfold freeS; rw [hkx j1 hq0 (by rw [hq4]; exact nI_nm1 hn) _ ha, hkx j1 hq0 (by rw [hq4]; exact nI_nm1 hn) _ (xor_lt10 (k := x1) ha (by omega))])) (fun _ _ => rfl)⟩, hOut_, hOuD_⟩ hW (lv_sub hl [2, 3, 4, 5, 6, 7] rfl))
        · exact absurd rfl c_2005
    · first | exact absurd (show 0 ≠ 0 from c_1988) (by decide) | exact absurd c_1988 (by decide)
  · have hRI := hRI.kept hU1 (fun k hk => by have := hK1 k hk; omega)
    obtain ⟨gx, rb, tu, gO, gF, gT, gE, gD, gC0, gC1, gC2, gC3, gC4, gP, gK, gV, gR, gU, hrow, hkx⟩ := hRI
    refine W.eq (g2 := F0 m 1962 ls [.int (nI 1)]) rfl ?_
    refine lv_istore (lv' := [(6, .int (nI 1)), (0, .ref b), (1, .ref (ad 0)), (2, .ref (ad 55)), (3, .ref (ad 74)), (4, .ref (ad 75)), (5, .int (nI i))]) S.1 S.2.1 dL_law_1962 hl (by decide) rfl (fun ls hl => ?_)
    refine lv_aload_n S.1 S.2.1 dL_law_1964 rfl (lv_at hl 3 rfl) ?_
    refine lv_aload_n S.1 S.2.1 dL_law_1965 rfl (lv_at hl 1 rfl) ?_
    refine lv_iload S.1 S.2.1 dL_law_1966 (lv_at hl 6 rfl) ?_
    refine lv_iconst (v := nI 1) S.1 S.2.1 dL_law_1968 (by decide) ?_
    refine jn_add S dL_law_1969 ?_
    refine j_sld (x := xs (i + 1)) S hX hbl hbA hW (vp_in_nI (by omega) (by omega)) (nI_clamp (by omega)) (rfl) dL_law_1970 ?_
    refine lv_aload_n S.1 S.2.1 dL_law_1971 rfl (lv_at hl 1 rfl) ?_
    refine lv_iload S.1 S.2.1 dL_law_1972 (lv_at hl 6 rfl) ?_
    refine lv_iconst (v := nI 2) S.1 S.2.1 dL_law_1974 (by decide) ?_
    refine jn_add S dL_law_1975 ?_
    refine j_sld (x := xs (i + 2)) S hX hbl hbA hW (vp_in_nI (by omega) (by omega)) (nI_clamp (by omega)) (rfl) dL_law_1976 ?_
    refine j_callV (k := 55) (ci := 11) (q := (RX12, TX12, 17)) (As := [.int (xs (i + 1)), .int (xs (i + 2))]) (rest := []) S hK hA hW (c_X12_free__b1 l D cy ad th n nc (xs (i + 1)) (xs (i + 2)) gO   (hq)) (jgo wm_L_248) yk_X12_free_ gO rfl rfl ⟨⟨rfl, rfl⟩, by decide, by decide⟩ rfl hl.1 rfl (Nat.le_of_ble_eq_true rfl) dL_law_1977 ⟨by show (cells + 4) + 0 ≤ 601024; omega, by show (slots + 24) + 0 ≤ 7293033; omega⟩ (fun v w_ H locs hp hW => ?_)
    obtain ⟨rfl, hU1, hN1⟩ := hp
    have hU : jU w w_ [55, 56, 57, 58, 59, 60, 61, 62, 63, 64, 65, 66, 71, 72, 73, 74, 75] := jU.mono hU1 (by first | decide | (simp; done) | (simp; omega))
    have gF_ := hU1.get gF (by first | decide | (simp; done) | (simp; omega))
    have gT_ := hU1.get gT (by first | decide | (simp; done) | (simp; omega))
    have gE_ := hU1.get gE (by first | decide | (simp; done) | (simp; omega))
    have gD_ := hU1.get gD (by first | decide | (simp; done) | (simp; omega))
    have gC0_ := hU1.get gC0 (by first | decide | (simp; done) | (simp; omega))
    have gC1_ := hU1.get gC1 (by first | decide | (simp; done) | (simp; omega))
    have gC2_ := hU1.get gC2 (by first | decide | (simp; done) | (simp; omega))
    have gC3_ := hU1.get gC3 (by first | decide | (simp; done) | (simp; omega))
    have gC4_ := hU1.get gC4 (by first | decide | (simp; done) | (simp; omega))
    have gP_ := hU1.get gP (by first | decide | (simp; done) | (simp; omega))
    have gK_ := hU1.get gK (by first | decide | (simp; done) | (simp; omega))
    have gV_ := hU1.get gV (by first | decide | (simp; done) | (simp; omega))
    have gR_ := hU1.get gR (by first | decide | (simp; done) | (simp; omega))
    have gU_ := hU1.get gU (by first | decide | (simp; done) | (simp; omega))
    have hOut_ := hU1.get hOut (by first | decide | (simp; done) | (simp; omega))
    have hOuD_ := hU1.get hOuD (by first | decide | (simp; done) | (simp; omega))
    have gO_ : w_[55]? = some (ad 55, .inr (11, [.int (nI 1), .ref (ad 56), .ref (ad 57), .ref (ad 58), .ref (ad 59), .ref (ad 60), .ref (ad 61), .ref (ad 62), .ref (ad 63), .ref (ad 64), .ref (ad 65), .int (nI n), .int (nI nc), .ref (ad 66), .ref (ad 71), .ref (ad 72), .ref (ad 73)])) := hN1
    clear hU1 hN1
    refine W.eq (g2 := F0 m 1980 ls [.int (nI 0)]) rfl ?_
    refine lv_istore (lv' := [(7, .int (nI 0)), (6, .int (nI 1)), (0, .ref b), (1, .ref (ad 0)), (2, .ref (ad 55)), (3, .ref (ad 74)), (4, .ref (ad 75)), (5, .int (nI i))]) S.1 S.2.1 dL_law_1980 hl (by decide) rfl (fun ls hl => ?_)
    refine lv_aload_n S.1 S.2.1 dL_law_1982 rfl (lv_at hl 4 rfl) ?_
    refine j_callV (k := 55) (ci := 11) (q := (RX12, TX12, 17)) (As := []) (rest := []) S hK hA hW (c_X12_thrown l D cy ad 1 n nc gO_   ) (jgo wm_L_136) yk_X12_thrown gO_ rfl rfl ⟨⟨rfl, rfl⟩, by decide, by decide⟩ rfl hl.1 rfl (Nat.le_of_ble_eq_true rfl) dL_law_1983 ⟨by show (cells + 4) + 0 ≤ 601024; omega, by show (slots + 24) + 0 ≤ 7293033; omega⟩ (fun v u H locs hp hW => ?_)
    obtain ⟨rfl, rfl⟩ := hp
    refine W.eq (g2 := F0 m 1986 ls [.int (nI 1)]) rfl ?_
    refine lv_iload S.1 S.2.1 dL_law_1986 (lv_at hl 1 rfl) ?_
    refine jn_cmp_eq (tgt := 1993) S (by omega) (by omega) dL_law_1988 (by decide) (fun c_1988 => ?_) (fun c_1988 => ?_)
    · refine lv_iload S.1 S.2.1 dL_law_1993 (lv_at hl 1 rfl) ?_
      refine jn_if_ne (tgt := 2010) S (by omega) dL_law_1995 (by decide) (fun c_1995 => ?_) (fun c_1995 => ?_)
      · refine lv_goto (tgt := 2382) S.1 S.2.1 dL_law_2010 (by decide) ?_
        exact W.widen (by omega) (by omega) (kk _ _ _ _ ⟨_, _, _, _, _, _, _, _, _, _, _, _, _, _, hPI, (hCI.kept hU (by first | decide | (intro k hk; simp at hk; omega))), ⟨gx, _, _, gO_, gF_, gT_, gE_, gD_, gC0_, gC1_, gC2_, gC3_, gC4_, gP_, gK_, gV_, gR_, gU_, fun j hj => hU.get (hrow j hj) (by simp; omega), hkx⟩, hOut_, hOuD_⟩ hW (lv_sub hl [2, 3, 4, 5, 6, 7] rfl))
      · first | exact absurd (show 1 = 0 from c_1995) (by decide) | exact absurd c_1995 (by decide)
    · first | exact absurd (show 1 ≠ 1 from c_1988) (by decide) | exact absurd c_1988 (by decide)
  · have hRI := hRI.kept hU1 (fun k hk => by have := hK1 k hk; omega)
    obtain ⟨gx, rb, tu, gO, gF, gT, gE, gD, gC0, gC1, gC2, gC3, gC4, gP, gK, gV, gR, gU, hrow, hkx⟩ := hRI
    obtain ⟨j1, h1, e1, h3⟩ := hq
    refine W.eq (g2 := F0 m 1962 ls [.int (nI 2)]) rfl ?_
    refine lv_istore (lv' := [(6, .int (nI 2)), (0, .ref b), (1, .ref (ad 0)), (2, .ref (ad 55)), (3, .ref (ad 74)), (4, .ref (ad 75)), (5, .int (nI i))]) S.1 S.2.1 dL_law_1962 hl (by decide) rfl (fun ls hl => ?_)
    refine lv_aload_n S.1 S.2.1 dL_law_1964 rfl (lv_at hl 3 rfl) ?_
    refine lv_aload_n S.1 S.2.1 dL_law_1965 rfl (lv_at hl 1 rfl) ?_
    refine lv_iload S.1 S.2.1 dL_law_1966 (lv_at hl 6 rfl) ?_
    refine lv_iconst (v := nI 1) S.1 S.2.1 dL_law_1968 (by decide) ?_
    refine jn_add S dL_law_1969 ?_
    refine j_sld (x := nI j1) S hX hbl hbA hW (vp_in_nI (by omega) (by omega)) (nI_clamp (by omega)) (e1) dL_law_1970 ?_
    refine lv_aload_n S.1 S.2.1 dL_law_1971 rfl (lv_at hl 1 rfl) ?_
    refine lv_iload S.1 S.2.1 dL_law_1972 (lv_at hl 6 rfl) ?_
    refine lv_iconst (v := nI 2) S.1 S.2.1 dL_law_1974 (by decide) ?_
    refine jn_add S dL_law_1975 ?_
    refine j_sld (x := xs (i + 2)) S hX hbl hbA hW (vp_in_nI (by omega) (by omega)) (nI_clamp (by omega)) (rfl) dL_law_1976 ?_
    refine j_callV (k := 55) (ci := 11) (q := (RX12, TX12, 17)) (As := [.int (nI j1), .int (xs (i + 2))]) (rest := []) S hK hA hW (c_X12_free__b2 l D cy ad th n nc (xs (i + 2)) j1 gO   (by omega) (by omega) (h3)) (jgo wm_L_248) yk_X12_free_ gO rfl rfl ⟨⟨rfl, rfl⟩, by decide, by decide⟩ rfl hl.1 rfl (Nat.le_of_ble_eq_true rfl) dL_law_1977 ⟨by show (cells + 4) + 0 ≤ 601024; omega, by show (slots + 24) + 0 ≤ 7293033; omega⟩ (fun v w_ H locs hp hW => ?_)
    obtain ⟨rfl, hU1, hN1⟩ := hp
    have hU : jU w w_ [55, 56, 57, 58, 59, 60, 61, 62, 63, 64, 65, 66, 71, 72, 73, 74, 75] := jU.mono hU1 (by first | decide | (simp; done) | (simp; omega))
    have gF_ := hU1.get gF (by first | decide | (simp; done) | (simp; omega))
    have gT_ := hU1.get gT (by first | decide | (simp; done) | (simp; omega))
    have gE_ := hU1.get gE (by first | decide | (simp; done) | (simp; omega))
    have gD_ := hU1.get gD (by first | decide | (simp; done) | (simp; omega))
    have gC0_ := hU1.get gC0 (by first | decide | (simp; done) | (simp; omega))
    have gC1_ := hU1.get gC1 (by first | decide | (simp; done) | (simp; omega))
    have gC2_ := hU1.get gC2 (by first | decide | (simp; done) | (simp; omega))
    have gC3_ := hU1.get gC3 (by first | decide | (simp; done) | (simp; omega))
    have gC4_ := hU1.get gC4 (by first | decide | (simp; done) | (simp; omega))
    have gP_ := hU1.get gP (by first | decide | (simp; done) | (simp; omega))
    have gK_ := hU1.get gK (by first | decide | (simp; done) | (simp; omega))
    have gV_ := hU1.get gV (by first | decide | (simp; done) | (simp; omega))
    have gR_ := hU1.get gR (by first | decide | (simp; done) | (simp; omega))
    have gU_ := hU1.get gU (by first | decide | (simp; done) | (simp; omega))
    have hOut_ := hU1.get hOut (by first | decide | (simp; done) | (simp; omega))
    have hOuD_ := hU1.get hOuD (by first | decide | (simp; done) | (simp; omega))
    have gO_ : w_[55]? = some (ad 55, .inr (11, [.int (nI 2), .ref (ad 56), .ref (ad 57), .ref (ad 58), .ref (ad 59), .ref (ad 60), .ref (ad 61), .ref (ad 62), .ref (ad 63), .ref (ad 64), .ref (ad 65), .int (nI n), .int (nI nc), .ref (ad 66), .ref (ad 71), .ref (ad 72), .ref (ad 73)])) := hN1
    clear hU1 hN1
    refine W.eq (g2 := F0 m 1980 ls [.int (nI 0)]) rfl ?_
    refine lv_istore (lv' := [(7, .int (nI 0)), (6, .int (nI 2)), (0, .ref b), (1, .ref (ad 0)), (2, .ref (ad 55)), (3, .ref (ad 74)), (4, .ref (ad 75)), (5, .int (nI i))]) S.1 S.2.1 dL_law_1980 hl (by decide) rfl (fun ls hl => ?_)
    refine lv_aload_n S.1 S.2.1 dL_law_1982 rfl (lv_at hl 4 rfl) ?_
    refine j_callV (k := 55) (ci := 11) (q := (RX12, TX12, 17)) (As := []) (rest := []) S hK hA hW (c_X12_thrown l D cy ad 2 n nc gO_   ) (jgo wm_L_136) yk_X12_thrown gO_ rfl rfl ⟨⟨rfl, rfl⟩, by decide, by decide⟩ rfl hl.1 rfl (Nat.le_of_ble_eq_true rfl) dL_law_1983 ⟨by show (cells + 4) + 0 ≤ 601024; omega, by show (slots + 24) + 0 ≤ 7293033; omega⟩ (fun v u H locs hp hW => ?_)
    obtain ⟨rfl, rfl⟩ := hp
    refine W.eq (g2 := F0 m 1986 ls [.int (nI 2)]) rfl ?_
    refine lv_iload S.1 S.2.1 dL_law_1986 (lv_at hl 1 rfl) ?_
    refine jn_cmp_eq (tgt := 1993) S (by omega) (by omega) dL_law_1988 (by decide) (fun c_1988 => ?_) (fun c_1988 => ?_)
    · refine lv_iload S.1 S.2.1 dL_law_1993 (lv_at hl 1 rfl) ?_
      refine jn_if_ne (tgt := 2010) S (by omega) dL_law_1995 (by decide) (fun c_1995 => ?_) (fun c_1995 => ?_)
      · refine lv_goto (tgt := 2382) S.1 S.2.1 dL_law_2010 (by decide) ?_
        exact W.widen (by omega) (by omega) (kk _ _ _ _ ⟨_, _, _, _, _, _, _, _, _, _, _, _, _, _, hPI, (hCI.kept hU (by first | decide | (intro k hk; simp at hk; omega))), ⟨gx, _, _, gO_, gF_, gT_, gE_, gD_, gC0_, gC1_, gC2_, gC3_, gC4_, gP_, gK_, gV_, gR_, gU_, fun j hj => hU.get (hrow j hj) (by simp; omega), hkx⟩, hOut_, hOuD_⟩ hW (lv_sub hl [2, 3, 4, 5, 6, 7] rfl))
      · first | exact absurd (show 2 = 0 from c_1995) (by decide) | exact absurd c_1995 (by decide)
    · first | exact absurd (show 2 ≠ 2 from c_1988) (by decide) | exact absurd c_1988 (by decide)
  · have hRI := hRI.kept hU1 (fun k hk => by have := hK1 k hk; omega)
    obtain ⟨gx, rb, tu, gO, gF, gT, gE, gD, gC0, gC1, gC2, gC3, gC4, gP, gK, gV, gR, gU, hrow, hkx⟩ := hRI
    obtain ⟨j1, x1, h1, e1, h2, e2, hk⟩ := hq
    refine W.eq (g2 := F0 m 1962 ls [.int (nI 3)]) rfl ?_
    refine lv_istore (lv' := [(6, .int (nI 3)), (0, .ref b), (1, .ref (ad 0)), (2, .ref (ad 55)), (3, .ref (ad 74)), (4, .ref (ad 75)), (5, .int (nI i))]) S.1 S.2.1 dL_law_1962 hl (by decide) rfl (fun ls hl => ?_)
    refine lv_aload_n S.1 S.2.1 dL_law_1964 rfl (lv_at hl 3 rfl) ?_
    refine lv_aload_n S.1 S.2.1 dL_law_1965 rfl (lv_at hl 1 rfl) ?_
    refine lv_iload S.1 S.2.1 dL_law_1966 (lv_at hl 6 rfl) ?_
    refine lv_iconst (v := nI 1) S.1 S.2.1 dL_law_1968 (by decide) ?_
    refine jn_add S dL_law_1969 ?_
    refine j_sld (x := nI j1) S hX hbl hbA hW (vp_in_nI (by omega) (by omega)) (nI_clamp (by omega)) (e1) dL_law_1970 ?_
    refine lv_aload_n S.1 S.2.1 dL_law_1971 rfl (lv_at hl 1 rfl) ?_
    refine lv_iload S.1 S.2.1 dL_law_1972 (lv_at hl 6 rfl) ?_
    refine lv_iconst (v := nI 2) S.1 S.2.1 dL_law_1974 (by decide) ?_
    refine jn_add S dL_law_1975 ?_
    refine j_sld (x := nI x1) S hX hbl hbA hW (vp_in_nI (by omega) (by omega)) (nI_clamp (by omega)) (e2) dL_law_1976 ?_
    refine j_callV (k := 55) (ci := 11) (q := (RX12, TX12, 17)) (As := [.int (nI j1), .int (nI x1)]) (rest := []) S hK hA hW (c_X12_free__b3 l D cy ad th n nc kv j1 x1 gO gV   (by omega) (by omega) (by omega) (kv_neg hk)) (jgo wm_L_248) yk_X12_free_ gO rfl rfl ⟨⟨rfl, rfl⟩, by decide, by decide⟩ rfl hl.1 rfl (Nat.le_of_ble_eq_true rfl) dL_law_1977 ⟨by show (cells + 4) + 0 ≤ 601024; omega, by show (slots + 24) + 0 ≤ 7293033; omega⟩ (fun v w_ H locs hp hW => ?_)
    obtain ⟨rfl, hU1, hN1⟩ := hp
    have hU : jU w w_ [55, 56, 57, 58, 59, 60, 61, 62, 63, 64, 65, 66, 71, 72, 73, 74, 75] := jU.mono hU1 (by first | decide | (simp; done) | (simp; omega))
    have gF_ := hU1.get gF (by first | decide | (simp; done) | (simp; omega))
    have gT_ := hU1.get gT (by first | decide | (simp; done) | (simp; omega))
    have gE_ := hU1.get gE (by first | decide | (simp; done) | (simp; omega))
    have gD_ := hU1.get gD (by first | decide | (simp; done) | (simp; omega))
    have gC0_ := hU1.get gC0 (by first | decide | (simp; done) | (simp; omega))
    have gC1_ := hU1.get gC1 (by first | decide | (simp; done) | (simp; omega))
    have gC2_ := hU1.get gC2 (by first | decide | (simp; done) | (simp; omega))
    have gC3_ := hU1.get gC3 (by first | decide | (simp; done) | (simp; omega))
    have gC4_ := hU1.get gC4 (by first | decide | (simp; done) | (simp; omega))
    have gP_ := hU1.get gP (by first | decide | (simp; done) | (simp; omega))
    have gK_ := hU1.get gK (by first | decide | (simp; done) | (simp; omega))
    have gV_ := hU1.get gV (by first | decide | (simp; done) | (simp; omega))
    have gR_ := hU1.get gR (by first | decide | (simp; done) | (simp; omega))
    have gU_ := hU1.get gU (by first | decide | (simp; done) | (simp; omega))
    have hOut_ := hU1.get hOut (by first | decide | (simp; done) | (simp; omega))
    have hOuD_ := hU1.get hOuD (by first | decide | (simp; done) | (simp; omega))
    have gO_ : w_[55]? = some (ad 55, .inr (11, [.int (nI 3), .ref (ad 56), .ref (ad 57), .ref (ad 58), .ref (ad 59), .ref (ad 60), .ref (ad 61), .ref (ad 62), .ref (ad 63), .ref (ad 64), .ref (ad 65), .int (nI n), .int (nI nc), .ref (ad 66), .ref (ad 71), .ref (ad 72), .ref (ad 73)])) := hN1
    clear hU1 hN1
    refine W.eq (g2 := F0 m 1980 ls [.int (nI 0)]) rfl ?_
    refine lv_istore (lv' := [(7, .int (nI 0)), (6, .int (nI 3)), (0, .ref b), (1, .ref (ad 0)), (2, .ref (ad 55)), (3, .ref (ad 74)), (4, .ref (ad 75)), (5, .int (nI i))]) S.1 S.2.1 dL_law_1980 hl (by decide) rfl (fun ls hl => ?_)
    refine lv_aload_n S.1 S.2.1 dL_law_1982 rfl (lv_at hl 4 rfl) ?_
    refine j_callV (k := 55) (ci := 11) (q := (RX12, TX12, 17)) (As := []) (rest := []) S hK hA hW (c_X12_thrown l D cy ad 3 n nc gO_   ) (jgo wm_L_136) yk_X12_thrown gO_ rfl rfl ⟨⟨rfl, rfl⟩, by decide, by decide⟩ rfl hl.1 rfl (Nat.le_of_ble_eq_true rfl) dL_law_1983 ⟨by show (cells + 4) + 0 ≤ 601024; omega, by show (slots + 24) + 0 ≤ 7293033; omega⟩ (fun v u H locs hp hW => ?_)
    obtain ⟨rfl, rfl⟩ := hp
    refine W.eq (g2 := F0 m 1986 ls [.int (nI 3)]) rfl ?_
    refine lv_iload S.1 S.2.1 dL_law_1986 (lv_at hl 1 rfl) ?_
    refine jn_cmp_eq (tgt := 1993) S (by omega) (by omega) dL_law_1988 (by decide) (fun c_1988 => ?_) (fun c_1988 => ?_)
    · refine lv_iload S.1 S.2.1 dL_law_1993 (lv_at hl 1 rfl) ?_
      refine jn_if_ne (tgt := 2010) S (by omega) dL_law_1995 (by decide) (fun c_1995 => ?_) (fun c_1995 => ?_)
      · refine lv_goto (tgt := 2382) S.1 S.2.1 dL_law_2010 (by decide) ?_
        exact W.widen (by omega) (by omega) (kk _ _ _ _ ⟨_, _, _, _, _, _, _, _, _, _, _, _, _, _, hPI, (hCI.kept hU (by first | decide | (intro k hk; simp at hk; omega))), ⟨gx, _, _, gO_, gF_, gT_, gE_, gD_, gC0_, gC1_, gC2_, gC3_, gC4_, gP_, gK_, gV_, gR_, gU_, fun j hj => hU.get (hrow j hj) (by simp; omega), hkx⟩, hOut_, hOuD_⟩ hW (lv_sub hl [2, 3, 4, 5, 6, 7] rfl))
      · first | exact absurd (show 3 = 0 from c_1995) (by decide) | exact absurd c_1995 (by decide)
    · first | exact absurd (show 3 ≠ 3 from c_1988) (by decide) | exact absurd c_1988 (by decide)
  · have hRI := hRI.kept hU1 (fun k hk => by have := hK1 k hk; omega)
    obtain ⟨gx, rb, tu, gO, gF, gT, gE, gD, gC0, gC1, gC2, gC3, gC4, gP, gK, gV, gR, gU, hrow, hkx⟩ := hRI
    obtain ⟨j1, x1, h1, e1, h2, e2, hk, hk2⟩ := hq
    refine W.eq (g2 := F0 m 1962 ls [.int (nI 4)]) rfl ?_
    refine lv_istore (lv' := [(6, .int (nI 4)), (0, .ref b), (1, .ref (ad 0)), (2, .ref (ad 55)), (3, .ref (ad 74)), (4, .ref (ad 75)), (5, .int (nI i))]) S.1 S.2.1 dL_law_1962 hl (by decide) rfl (fun ls hl => ?_)
    refine lv_aload_n S.1 S.2.1 dL_law_1964 rfl (lv_at hl 3 rfl) ?_
    refine lv_aload_n S.1 S.2.1 dL_law_1965 rfl (lv_at hl 1 rfl) ?_
    refine lv_iload S.1 S.2.1 dL_law_1966 (lv_at hl 6 rfl) ?_
    refine lv_iconst (v := nI 1) S.1 S.2.1 dL_law_1968 (by decide) ?_
    refine jn_add S dL_law_1969 ?_
    refine j_sld (x := nI j1) S hX hbl hbA hW (vp_in_nI (by omega) (by omega)) (nI_clamp (by omega)) (e1) dL_law_1970 ?_
    refine lv_aload_n S.1 S.2.1 dL_law_1971 rfl (lv_at hl 1 rfl) ?_
    refine lv_iload S.1 S.2.1 dL_law_1972 (lv_at hl 6 rfl) ?_
    refine lv_iconst (v := nI 2) S.1 S.2.1 dL_law_1974 (by decide) ?_
    refine jn_add S dL_law_1975 ?_
    refine j_sld (x := nI x1) S hX hbl hbA hW (vp_in_nI (by omega) (by omega)) (nI_clamp (by omega)) (e2) dL_law_1976 ?_
    refine j_callV (k := 55) (ci := 11) (q := (RX12, TX12, 17)) (As := [.int (nI j1), .int (nI x1)]) (rest := []) S hK hA hW (c_X12_free__b4 l D cy ad th n nc kv j1 x1 gO gV   (by omega) (by omega) (by omega) (kv_pos hkI h1 hk) (hk2)) (jgo wm_L_248) yk_X12_free_ gO rfl rfl ⟨⟨rfl, rfl⟩, by decide, by decide⟩ rfl hl.1 rfl (Nat.le_of_ble_eq_true rfl) dL_law_1977 ⟨by show (cells + 4) + 0 ≤ 601024; omega, by show (slots + 24) + 0 ≤ 7293033; omega⟩ (fun v w_ H locs hp hW => ?_)
    obtain ⟨rfl, hU1, hN1⟩ := hp
    have hU : jU w w_ [55, 56, 57, 58, 59, 60, 61, 62, 63, 64, 65, 66, 71, 72, 73, 74, 75] := jU.mono hU1 (by first | decide | (simp; done) | (simp; omega))
    have gF_ := hU1.get gF (by first | decide | (simp; done) | (simp; omega))
    have gT_ := hU1.get gT (by first | decide | (simp; done) | (simp; omega))
    have gE_ := hU1.get gE (by first | decide | (simp; done) | (simp; omega))
    have gD_ := hU1.get gD (by first | decide | (simp; done) | (simp; omega))
    have gC0_ := hU1.get gC0 (by first | decide | (simp; done) | (simp; omega))
    have gC1_ := hU1.get gC1 (by first | decide | (simp; done) | (simp; omega))
    have gC2_ := hU1.get gC2 (by first | decide | (simp; done) | (simp; omega))
    have gC3_ := hU1.get gC3 (by first | decide | (simp; done) | (simp; omega))
    have gC4_ := hU1.get gC4 (by first | decide | (simp; done) | (simp; omega))
    have gP_ := hU1.get gP (by first | decide | (simp; done) | (simp; omega))
    have gK_ := hU1.get gK (by first | decide | (simp; done) | (simp; omega))
    have gV_ := hU1.get gV (by first | decide | (simp; done) | (simp; omega))
    have gR_ := hU1.get gR (by first | decide | (simp; done) | (simp; omega))
    have gU_ := hU1.get gU (by first | decide | (simp; done) | (simp; omega))
    have hOut_ := hU1.get hOut (by first | decide | (simp; done) | (simp; omega))
    have hOuD_ := hU1.get hOuD (by first | decide | (simp; done) | (simp; omega))
    have gO_ : w_[55]? = some (ad 55, .inr (11, [.int (nI 4), .ref (ad 56), .ref (ad 57), .ref (ad 58), .ref (ad 59), .ref (ad 60), .ref (ad 61), .ref (ad 62), .ref (ad 63), .ref (ad 64), .ref (ad 65), .int (nI n), .int (nI nc), .ref (ad 66), .ref (ad 71), .ref (ad 72), .ref (ad 73)])) := hN1
    clear hU1 hN1
    refine W.eq (g2 := F0 m 1980 ls [.int (nI 0)]) rfl ?_
    refine lv_istore (lv' := [(7, .int (nI 0)), (6, .int (nI 4)), (0, .ref b), (1, .ref (ad 0)), (2, .ref (ad 55)), (3, .ref (ad 74)), (4, .ref (ad 75)), (5, .int (nI i))]) S.1 S.2.1 dL_law_1980 hl (by decide) rfl (fun ls hl => ?_)
    refine lv_aload_n S.1 S.2.1 dL_law_1982 rfl (lv_at hl 4 rfl) ?_
    refine j_callV (k := 55) (ci := 11) (q := (RX12, TX12, 17)) (As := []) (rest := []) S hK hA hW (c_X12_thrown l D cy ad 4 n nc gO_   ) (jgo wm_L_136) yk_X12_thrown gO_ rfl rfl ⟨⟨rfl, rfl⟩, by decide, by decide⟩ rfl hl.1 rfl (Nat.le_of_ble_eq_true rfl) dL_law_1983 ⟨by show (cells + 4) + 0 ≤ 601024; omega, by show (slots + 24) + 0 ≤ 7293033; omega⟩ (fun v u H locs hp hW => ?_)
    obtain ⟨rfl, rfl⟩ := hp
    refine W.eq (g2 := F0 m 1986 ls [.int (nI 4)]) rfl ?_
    refine lv_iload S.1 S.2.1 dL_law_1986 (lv_at hl 1 rfl) ?_
    refine jn_cmp_eq (tgt := 1993) S (by omega) (by omega) dL_law_1988 (by decide) (fun c_1988 => ?_) (fun c_1988 => ?_)
    · refine lv_iload S.1 S.2.1 dL_law_1993 (lv_at hl 1 rfl) ?_
      refine jn_if_ne (tgt := 2010) S (by omega) dL_law_1995 (by decide) (fun c_1995 => ?_) (fun c_1995 => ?_)
      · refine lv_goto (tgt := 2382) S.1 S.2.1 dL_law_2010 (by decide) ?_
        exact W.widen (by omega) (by omega) (kk _ _ _ _ ⟨_, _, _, _, _, _, _, _, _, _, _, _, _, _, hPI, (hCI.kept hU (by first | decide | (intro k hk; simp at hk; omega))), ⟨gx, _, _, gO_, gF_, gT_, gE_, gD_, gC0_, gC1_, gC2_, gC3_, gC4_, gP_, gK_, gV_, gR_, gU_, fun j hj => hU.get (hrow j hj) (by simp; omega), hkx⟩, hOut_, hOuD_⟩ hW (lv_sub hl [2, 3, 4, 5, 6, 7] rfl))
      · first | exact absurd (show 4 = 0 from c_1995) (by decide) | exact absurd c_1995 (by decide)
    · first | exact absurd (show 4 ≠ 4 from c_1988) (by decide) | exact absurd c_1988 (by decide)
/-- the law's nodesOf -/
theorem s_nodesOf {p : Program} {l : Launch} {e : Env} {s : State} {m : MethodId} {args : Array Value} {below : List Frame} {meth : Method} {c : Code} {Q : State → Prop} {D : va_G} {cy : Nat → ClassId} {A : Nat → Prop} {x0 : Cond} {ad : Nat → Nat} {b L : Nat} {xs : Nat → Int32} {i : Nat} {w : va_W} {H : Heap} {locs : List Loc} {ls : Array Slot} {cells slots : Nat} (htr : l.stackTraces = false) (C : LX p s m c args D cy A b L xs x0) (hI : INV ad cy w) (hW : jW D A s.heap w H locs) (hl : lv_has ls 10 [(0, .ref b), (1, .ref (ad 0)), (2, .ref (ad 55)), (3, .ref (ad 74)), (4, .ref (ad 75)), (5, .int (nI i))]) (hi : i + 5 ≤ L) (hL : L ≤ 2560) (hc : cells + 10 ≤ 601024) (hs : slots + 64 ≤ 7293033) (kk : LK p l e s m args below meth c Q D cy A ad b i cells slots) : W p l e room_1 s m args below meth c H locs cells slots Q (F0 m 2013 ls []) := by
  obtain ⟨S, hK, hA, hX, hbl, hbA, hx, hnx⟩ := C
  obtain ⟨n, wf, wt, od, sd, se, nc, lv, cs, kv, kx, th, og, ogd, hPI, hCI, hRI, hOut, hOuD⟩ := hI
  have hPI0 := hPI
  obtain ⟨hn, hsdn, hse2, hnc, hlvn, hcs, hkI, hod, hodn, hinj⟩ := hPI0
  have hp2 := two_pow10 hn
  have hpt := Nat.two_pow_pos n
  have hWB := hCI.wb
  refine lv_aload_n S.1 S.2.1 dL_law_2013 rfl (lv_at hl 1 rfl) ?_
  refine lv_aload_n S.1 S.2.1 dL_law_2014 rfl (lv_at hl 0 rfl) ?_
  refine lv_iload S.1 S.2.1 dL_law_2015 (lv_at hl 5 rfl) ?_
  refine lv_iconst (v := nI 1) S.1 S.2.1 dL_law_2017 (by decide) ?_
  refine jn_add S dL_law_2018 ?_
  refine j_sld (x := xs (i + 1)) S hX hbl hbA hW (vp_in_nI (by omega) (by omega)) (nI_clamp (by omega)) (rfl) dL_law_2019 ?_
  refine lv_aload_n S.1 S.2.1 dL_law_2020 rfl (lv_at hl 3 rfl) ?_
  refine j_callH (As := [.ref (ad 0), .int (xs (i + 1)), .ref (ad 74)]) (rest := []) S hK hA hW hx hnx (h_nodesOf l htr D cy ad n wf wt od sd se nc lv cs kv kx (xs (i + 1)) og ogd hPI hCI hOut hOuD) (jgo wm_L_249) yk_L_nodesOf ⟨⟨rfl, rfl⟩, by decide, by decide⟩ rfl hl.1 rfl (Nat.le_of_ble_eq_true rfl) dL_law_2021 ⟨by show cells + 3 ≤ 601024; omega, by show slots + 18 ≤ 7293033; omega⟩ (fun v w H locs hp hW => ?_)
  rcases hp with ⟨j1, rfl, hq0, hq1, hq2, ⟨K1, hU1, hK1⟩, hCI, hOut, hOuD⟩ | ⟨rfl, hq, ⟨K1, hU1, hK1⟩, hCI, hOut, hOuD⟩ | ⟨rfl, hq, ⟨K1, hU1, hK1⟩, hCI, hOut, hOuD⟩ | ⟨rfl, hq, ⟨K1, hU1, hK1⟩, hCI, hOut, hOuD⟩
  · have hRI := hRI.kept hU1 (fun k hk => by have := hK1 k hk; omega)
    obtain ⟨gx, rb, tu, gO, gF, gT, gE, gD, gC0, gC1, gC2, gC3, gC4, gP, gK, gV, gR, gU, hrow, hkx⟩ := hRI
    have gXj := hrow j1 hq0
    refine W.eq (g2 := F0 m 2024 ls [.int (nI 0)]) rfl ?_
    refine lv_istore (lv' := [(6, .int (nI 0)), (0, .ref b), (1, .ref (ad 0)), (2, .ref (ad 55)), (3, .ref (ad 74)), (4, .ref (ad 75)), (5, .int (nI i))]) S.1 S.2.1 dL_law_2024 hl (by decide) rfl (fun ls hl => ?_)
    refine lv_aload_n S.1 S.2.1 dL_law_2026 rfl (lv_at hl 3 rfl) ?_
    refine lv_aload_n S.1 S.2.1 dL_law_2027 rfl (lv_at hl 1 rfl) ?_
    refine lv_iload S.1 S.2.1 dL_law_2028 (lv_at hl 6 rfl) ?_
    refine lv_iconst (v := nI 1) S.1 S.2.1 dL_law_2030 (by decide) ?_
    refine jn_add S dL_law_2031 ?_
    refine j_sld (x := nI j1) S hX hbl hbA hW (vp_in_nI (by omega) (by omega)) (nI_clamp (by omega)) (hq1) dL_law_2032 ?_
    refine j_callV (k := 55) (ci := 11) (q := (RX12, TX12, 17)) (As := [.int (nI j1)]) (rest := []) S hK hA hW (c_X12_nodesOf_ok l D cy ad th n nc od rb tu kv gx j1 gO gD gR gU gK gV gXj   (by omega) (hod) (by omega) (hq2)) (jgo wm_L_251) yk_X12_nodesOf gO rfl rfl ⟨⟨rfl, rfl⟩, by decide, by decide⟩ rfl hl.1 rfl (Nat.le_of_ble_eq_true rfl) dL_law_2033 ⟨by show (cells + 3) + 0 ≤ 601024; omega, by show (slots + 18) + 0 ≤ 7293033; omega⟩ (fun v w_ H locs hp hW => ?_)
    obtain ⟨rb1_2033, tu1_2033, rfl, hU1, hN1, hN2, hN3⟩ := hp
    have hU : jU w w_ [55, 56, 57, 58, 59, 60, 61, 62, 63, 64, 65, 66, 71, 72, 73, 74, 75] := jU.mono hU1 (by first | decide | (simp; done) | (simp; omega))
    have gF_ := hU1.get gF (by first | decide | (simp; done) | (simp; omega))
    have gT_ := hU1.get gT (by first | decide | (simp; done) | (simp; omega))
    have gE_ := hU1.get gE (by first | decide | (simp; done) | (simp; omega))
    have gD_ := hU1.get gD (by first | decide | (simp; done) | (simp; omega))
    have gC0_ := hU1.get gC0 (by first | decide | (simp; done) | (simp; omega))
    have gC1_ := hU1.get gC1 (by first | decide | (simp; done) | (simp; omega))
    have gC2_ := hU1.get gC2 (by first | decide | (simp; done) | (simp; omega))
    have gC3_ := hU1.get gC3 (by first | decide | (simp; done) | (simp; omega))
    have gC4_ := hU1.get gC4 (by first | decide | (simp; done) | (simp; omega))
    have gP_ := hU1.get gP (by first | decide | (simp; done) | (simp; omega))
    have gK_ := hU1.get gK (by first | decide | (simp; done) | (simp; omega))
    have gV_ := hU1.get gV (by first | decide | (simp; done) | (simp; omega))
    have hOut_ := hU1.get hOut (by first | decide | (simp; done) | (simp; omega))
    have hOuD_ := hU1.get hOuD (by first | decide | (simp; done) | (simp; omega))
    have gO_ : w_[55]? = some (ad 55, .inr (11, [.int (nI 0), .ref (ad 56), .ref (ad 57), .ref (ad 58), .ref (ad 59), .ref (ad 60), .ref (ad 61), .ref (ad 62), .ref (ad 63), .ref (ad 64), .ref (ad 65), .int (nI n), .int (nI nc), .ref (ad 66), .ref (ad 71), .ref (ad 72), .ref (ad 73)])) := hN1
    have gR_ : w_[72]? = some (ad 72, .inl (cy 3, 1024, .inl (bf rb1_2033))) := hN2
    have gU_ : w_[73]? = some (ad 73, .inl (cy 3, 1024, .inl (bf tu1_2033))) := hN3
    clear hU1 hN1 hN2 hN3
    refine W.eq (g2 := F0 m 2036 ls [.int (nI (sumN (nodesB (fun d => (gx j1) (layP n od d n)) n) n))]) rfl ?_
    refine lv_topi_to (y := nI (sumN (nodesB (fun d => (kx j1) (layP n od d n)) n) n)) (congrArg nI (nodes_x hod (hkx j1 hq0 (by rw [hq2]; exact nI_nm1 hn)))) ?_
    refine lv_istore (lv' := [(7, .int (nI (sumN (nodesB (fun d => (kx j1) (layP n od d n)) n) n))), (6, .int (nI 0)), (0, .ref b), (1, .ref (ad 0)), (2, .ref (ad 55)), (3, .ref (ad 74)), (4, .ref (ad 75)), (5, .int (nI i))]) S.1 S.2.1 dL_law_2036 hl (by decide) rfl (fun ls hl => ?_)
    refine lv_aload_n S.1 S.2.1 dL_law_2038 rfl (lv_at hl 4 rfl) ?_
    refine j_callV (k := 55) (ci := 11) (q := (RX12, TX12, 17)) (As := []) (rest := []) S hK hA hW (c_X12_thrown l D cy ad 0 n nc gO_   ) (jgo wm_L_136) yk_X12_thrown gO_ rfl rfl ⟨⟨rfl, rfl⟩, by decide, by decide⟩ rfl hl.1 rfl (Nat.le_of_ble_eq_true rfl) dL_law_2039 ⟨by show (cells + 3) + 0 ≤ 601024; omega, by show (slots + 18) + 0 ≤ 7293033; omega⟩ (fun v u H locs hp hW => ?_)
    obtain ⟨rfl, rfl⟩ := hp
    refine W.eq (g2 := F0 m 2042 ls [.int (nI 0)]) rfl ?_
    refine lv_iload S.1 S.2.1 dL_law_2042 (lv_at hl 1 rfl) ?_
    refine jn_cmp_eq (tgt := 2049) S (by omega) (by omega) dL_law_2044 (by decide) (fun c_2044 => ?_) (fun c_2044 => ?_)
    · refine lv_iload S.1 S.2.1 dL_law_2049 (lv_at hl 1 rfl) ?_
      refine jn_if_ne (tgt := 2066) S (by omega) dL_law_2051 (by decide) (fun c_2051 => ?_) (fun c_2051 => ?_)
      · first | exact absurd (show 0 ≠ 0 from c_2051) (by decide) | exact absurd c_2051 (by decide)
      · refine lv_aload_n S.1 S.2.1 dL_law_2054 rfl (lv_at hl 5 rfl) ?_
        refine lv_iconst (v := nI 0) S.1 S.2.1 dL_law_2055 (by decide) ?_
        refine j_lald (x := (nI (sumN (nodesB (fun d => (kx j1) (layP n od d n)) n) n)).toInt64) S hK hW hOut_ (vp_in_nI (by omega) (by omega)) (nI_clamp (by omega)) (if_pos rfl) dL_law_2056 ?_
        refine lv_iload S.1 S.2.1 dL_law_2057 (lv_at hl 0 rfl) ?_
        refine lv_i2l (v := (nI (sumN (nodesB (fun d => (kx j1) (layP n od d n)) n) n)).toInt64) S.1 S.2.1 dL_law_2059 (rfl) ?_
        refine jl_eq (tgt := 2066) S dL_law_2060 dL_law_2061 (by decide) (fun c_2061 => ?_) (fun c_2061 => ?_)
        · refine lv_goto (tgt := 2382) S.1 S.2.1 dL_law_2066 (by decide) ?_
          exact W.widen (by omega) (by omega) (kk _ _ _ _ ⟨_, _, _, _, _, _, _, _, _, _, _, _, _, _, hPI, (hCI.kept hU (by first | decide | (intro k hk; simp at hk; omega))), ⟨gx, _, _, gO_, gF_, gT_, gE_, gD_, gC0_, gC1_, gC2_, gC3_, gC4_, gP_, gK_, gV_, gR_, gU_, fun j hj => hU.get (hrow j hj) (by simp; omega), hkx⟩, hOut_, hOuD_⟩ hW (lv_sub hl [2, 3, 4, 5, 6, 7] rfl))
        · exact absurd rfl c_2061
    · first | exact absurd (show 0 ≠ 0 from c_2044) (by decide) | exact absurd c_2044 (by decide)
  · have hRI := hRI.kept hU1 (fun k hk => by have := hK1 k hk; omega)
    obtain ⟨gx, rb, tu, gO, gF, gT, gE, gD, gC0, gC1, gC2, gC3, gC4, gP, gK, gV, gR, gU, hrow, hkx⟩ := hRI
    refine W.eq (g2 := F0 m 2024 ls [.int (nI 1)]) rfl ?_
    refine lv_istore (lv' := [(6, .int (nI 1)), (0, .ref b), (1, .ref (ad 0)), (2, .ref (ad 55)), (3, .ref (ad 74)), (4, .ref (ad 75)), (5, .int (nI i))]) S.1 S.2.1 dL_law_2024 hl (by decide) rfl (fun ls hl => ?_)
    refine lv_aload_n S.1 S.2.1 dL_law_2026 rfl (lv_at hl 3 rfl) ?_
    refine lv_aload_n S.1 S.2.1 dL_law_2027 rfl (lv_at hl 1 rfl) ?_
    refine lv_iload S.1 S.2.1 dL_law_2028 (lv_at hl 6 rfl) ?_
    refine lv_iconst (v := nI 1) S.1 S.2.1 dL_law_2030 (by decide) ?_
    refine jn_add S dL_law_2031 ?_
    refine j_sld (x := xs (i + 1)) S hX hbl hbA hW (vp_in_nI (by omega) (by omega)) (nI_clamp (by omega)) (rfl) dL_law_2032 ?_
    refine j_callV (k := 55) (ci := 11) (q := (RX12, TX12, 17)) (As := [.int (xs (i + 1))]) (rest := []) S hK hA hW (c_X12_nodesOf_b1 l D cy ad th n nc (xs (i + 1)) gO   (hq)) (jgo wm_L_251) yk_X12_nodesOf gO rfl rfl ⟨⟨rfl, rfl⟩, by decide, by decide⟩ rfl hl.1 rfl (Nat.le_of_ble_eq_true rfl) dL_law_2033 ⟨by show (cells + 3) + 0 ≤ 601024; omega, by show (slots + 18) + 0 ≤ 7293033; omega⟩ (fun v w_ H locs hp hW => ?_)
    obtain ⟨rfl, hU1, hN1⟩ := hp
    have hU : jU w w_ [55, 56, 57, 58, 59, 60, 61, 62, 63, 64, 65, 66, 71, 72, 73, 74, 75] := jU.mono hU1 (by first | decide | (simp; done) | (simp; omega))
    have gF_ := hU1.get gF (by first | decide | (simp; done) | (simp; omega))
    have gT_ := hU1.get gT (by first | decide | (simp; done) | (simp; omega))
    have gE_ := hU1.get gE (by first | decide | (simp; done) | (simp; omega))
    have gD_ := hU1.get gD (by first | decide | (simp; done) | (simp; omega))
    have gC0_ := hU1.get gC0 (by first | decide | (simp; done) | (simp; omega))
    have gC1_ := hU1.get gC1 (by first | decide | (simp; done) | (simp; omega))
    have gC2_ := hU1.get gC2 (by first | decide | (simp; done) | (simp; omega))
    have gC3_ := hU1.get gC3 (by first | decide | (simp; done) | (simp; omega))
    have gC4_ := hU1.get gC4 (by first | decide | (simp; done) | (simp; omega))
    have gP_ := hU1.get gP (by first | decide | (simp; done) | (simp; omega))
    have gK_ := hU1.get gK (by first | decide | (simp; done) | (simp; omega))
    have gV_ := hU1.get gV (by first | decide | (simp; done) | (simp; omega))
    have gR_ := hU1.get gR (by first | decide | (simp; done) | (simp; omega))
    have gU_ := hU1.get gU (by first | decide | (simp; done) | (simp; omega))
    have hOut_ := hU1.get hOut (by first | decide | (simp; done) | (simp; omega))
    have hOuD_ := hU1.get hOuD (by first | decide | (simp; done) | (simp; omega))
    have gO_ : w_[55]? = some (ad 55, .inr (11, [.int (nI 1), .ref (ad 56), .ref (ad 57), .ref (ad 58), .ref (ad 59), .ref (ad 60), .ref (ad 61), .ref (ad 62), .ref (ad 63), .ref (ad 64), .ref (ad 65), .int (nI n), .int (nI nc), .ref (ad 66), .ref (ad 71), .ref (ad 72), .ref (ad 73)])) := hN1
    clear hU1 hN1
    refine W.eq (g2 := F0 m 2036 ls [.int (nI 0)]) rfl ?_
    refine lv_istore (lv' := [(7, .int (nI 0)), (6, .int (nI 1)), (0, .ref b), (1, .ref (ad 0)), (2, .ref (ad 55)), (3, .ref (ad 74)), (4, .ref (ad 75)), (5, .int (nI i))]) S.1 S.2.1 dL_law_2036 hl (by decide) rfl (fun ls hl => ?_)
    refine lv_aload_n S.1 S.2.1 dL_law_2038 rfl (lv_at hl 4 rfl) ?_
    refine j_callV (k := 55) (ci := 11) (q := (RX12, TX12, 17)) (As := []) (rest := []) S hK hA hW (c_X12_thrown l D cy ad 1 n nc gO_   ) (jgo wm_L_136) yk_X12_thrown gO_ rfl rfl ⟨⟨rfl, rfl⟩, by decide, by decide⟩ rfl hl.1 rfl (Nat.le_of_ble_eq_true rfl) dL_law_2039 ⟨by show (cells + 3) + 0 ≤ 601024; omega, by show (slots + 18) + 0 ≤ 7293033; omega⟩ (fun v u H locs hp hW => ?_)
    obtain ⟨rfl, rfl⟩ := hp
    refine W.eq (g2 := F0 m 2042 ls [.int (nI 1)]) rfl ?_
    refine lv_iload S.1 S.2.1 dL_law_2042 (lv_at hl 1 rfl) ?_
    refine jn_cmp_eq (tgt := 2049) S (by omega) (by omega) dL_law_2044 (by decide) (fun c_2044 => ?_) (fun c_2044 => ?_)
    · refine lv_iload S.1 S.2.1 dL_law_2049 (lv_at hl 1 rfl) ?_
      refine jn_if_ne (tgt := 2066) S (by omega) dL_law_2051 (by decide) (fun c_2051 => ?_) (fun c_2051 => ?_)
      · refine lv_goto (tgt := 2382) S.1 S.2.1 dL_law_2066 (by decide) ?_
        exact W.widen (by omega) (by omega) (kk _ _ _ _ ⟨_, _, _, _, _, _, _, _, _, _, _, _, _, _, hPI, (hCI.kept hU (by first | decide | (intro k hk; simp at hk; omega))), ⟨gx, _, _, gO_, gF_, gT_, gE_, gD_, gC0_, gC1_, gC2_, gC3_, gC4_, gP_, gK_, gV_, gR_, gU_, fun j hj => hU.get (hrow j hj) (by simp; omega), hkx⟩, hOut_, hOuD_⟩ hW (lv_sub hl [2, 3, 4, 5, 6, 7] rfl))
      · first | exact absurd (show 1 = 0 from c_2051) (by decide) | exact absurd c_2051 (by decide)
    · first | exact absurd (show 1 ≠ 1 from c_2044) (by decide) | exact absurd c_2044 (by decide)
  · have hRI := hRI.kept hU1 (fun k hk => by have := hK1 k hk; omega)
    obtain ⟨gx, rb, tu, gO, gF, gT, gE, gD, gC0, gC1, gC2, gC3, gC4, gP, gK, gV, gR, gU, hrow, hkx⟩ := hRI
    obtain ⟨j1, h1, e1, hk⟩ := hq
    refine W.eq (g2 := F0 m 2024 ls [.int (nI 2)]) rfl ?_
    refine lv_istore (lv' := [(6, .int (nI 2)), (0, .ref b), (1, .ref (ad 0)), (2, .ref (ad 55)), (3, .ref (ad 74)), (4, .ref (ad 75)), (5, .int (nI i))]) S.1 S.2.1 dL_law_2024 hl (by decide) rfl (fun ls hl => ?_)
    refine lv_aload_n S.1 S.2.1 dL_law_2026 rfl (lv_at hl 3 rfl) ?_
    refine lv_aload_n S.1 S.2.1 dL_law_2027 rfl (lv_at hl 1 rfl) ?_
    refine lv_iload S.1 S.2.1 dL_law_2028 (lv_at hl 6 rfl) ?_
    refine lv_iconst (v := nI 1) S.1 S.2.1 dL_law_2030 (by decide) ?_
    refine jn_add S dL_law_2031 ?_
    refine j_sld (x := nI j1) S hX hbl hbA hW (vp_in_nI (by omega) (by omega)) (nI_clamp (by omega)) (e1) dL_law_2032 ?_
    refine j_callV (k := 55) (ci := 11) (q := (RX12, TX12, 17)) (As := [.int (nI j1)]) (rest := []) S hK hA hW (c_X12_nodesOf_b2 l D cy ad th n nc kv j1 gO gV   (by omega) (kv_neg hk)) (jgo wm_L_251) yk_X12_nodesOf gO rfl rfl ⟨⟨rfl, rfl⟩, by decide, by decide⟩ rfl hl.1 rfl (Nat.le_of_ble_eq_true rfl) dL_law_2033 ⟨by show (cells + 3) + 0 ≤ 601024; omega, by show (slots + 18) + 0 ≤ 7293033; omega⟩ (fun v w_ H locs hp hW => ?_)
    obtain ⟨rfl, hU1, hN1⟩ := hp
    have hU : jU w w_ [55, 56, 57, 58, 59, 60, 61, 62, 63, 64, 65, 66, 71, 72, 73, 74, 75] := jU.mono hU1 (by first | decide | (simp; done) | (simp; omega))
    have gF_ := hU1.get gF (by first | decide | (simp; done) | (simp; omega))
    have gT_ := hU1.get gT (by first | decide | (simp; done) | (simp; omega))
    have gE_ := hU1.get gE (by first | decide | (simp; done) | (simp; omega))
    have gD_ := hU1.get gD (by first | decide | (simp; done) | (simp; omega))
    have gC0_ := hU1.get gC0 (by first | decide | (simp; done) | (simp; omega))
    have gC1_ := hU1.get gC1 (by first | decide | (simp; done) | (simp; omega))
    have gC2_ := hU1.get gC2 (by first | decide | (simp; done) | (simp; omega))
    have gC3_ := hU1.get gC3 (by first | decide | (simp; done) | (simp; omega))
    have gC4_ := hU1.get gC4 (by first | decide | (simp; done) | (simp; omega))
    have gP_ := hU1.get gP (by first | decide | (simp; done) | (simp; omega))
    have gK_ := hU1.get gK (by first | decide | (simp; done) | (simp; omega))
    have gV_ := hU1.get gV (by first | decide | (simp; done) | (simp; omega))
    have gR_ := hU1.get gR (by first | decide | (simp; done) | (simp; omega))
    have gU_ := hU1.get gU (by first | decide | (simp; done) | (simp; omega))
    have hOut_ := hU1.get hOut (by first | decide | (simp; done) | (simp; omega))
    have hOuD_ := hU1.get hOuD (by first | decide | (simp; done) | (simp; omega))
    have gO_ : w_[55]? = some (ad 55, .inr (11, [.int (nI 2), .ref (ad 56), .ref (ad 57), .ref (ad 58), .ref (ad 59), .ref (ad 60), .ref (ad 61), .ref (ad 62), .ref (ad 63), .ref (ad 64), .ref (ad 65), .int (nI n), .int (nI nc), .ref (ad 66), .ref (ad 71), .ref (ad 72), .ref (ad 73)])) := hN1
    clear hU1 hN1
    refine W.eq (g2 := F0 m 2036 ls [.int (nI 0)]) rfl ?_
    refine lv_istore (lv' := [(7, .int (nI 0)), (6, .int (nI 2)), (0, .ref b), (1, .ref (ad 0)), (2, .ref (ad 55)), (3, .ref (ad 74)), (4, .ref (ad 75)), (5, .int (nI i))]) S.1 S.2.1 dL_law_2036 hl (by decide) rfl (fun ls hl => ?_)
    refine lv_aload_n S.1 S.2.1 dL_law_2038 rfl (lv_at hl 4 rfl) ?_
    refine j_callV (k := 55) (ci := 11) (q := (RX12, TX12, 17)) (As := []) (rest := []) S hK hA hW (c_X12_thrown l D cy ad 2 n nc gO_   ) (jgo wm_L_136) yk_X12_thrown gO_ rfl rfl ⟨⟨rfl, rfl⟩, by decide, by decide⟩ rfl hl.1 rfl (Nat.le_of_ble_eq_true rfl) dL_law_2039 ⟨by show (cells + 3) + 0 ≤ 601024; omega, by show (slots + 18) + 0 ≤ 7293033; omega⟩ (fun v u H locs hp hW => ?_)
    obtain ⟨rfl, rfl⟩ := hp
    refine W.eq (g2 := F0 m 2042 ls [.int (nI 2)]) rfl ?_
    refine lv_iload S.1 S.2.1 dL_law_2042 (lv_at hl 1 rfl) ?_
    refine jn_cmp_eq (tgt := 2049) S (by omega) (by omega) dL_law_2044 (by decide) (fun c_2044 => ?_) (fun c_2044 => ?_)
    · refine lv_iload S.1 S.2.1 dL_law_2049 (lv_at hl 1 rfl) ?_
      refine jn_if_ne (tgt := 2066) S (by omega) dL_law_2051 (by decide) (fun c_2051 => ?_) (fun c_2051 => ?_)
      · refine lv_goto (tgt := 2382) S.1 S.2.1 dL_law_2066 (by decide) ?_
        exact W.widen (by omega) (by omega) (kk _ _ _ _ ⟨_, _, _, _, _, _, _, _, _, _, _, _, _, _, hPI, (hCI.kept hU (by first | decide | (intro k hk; simp at hk; omega))), ⟨gx, _, _, gO_, gF_, gT_, gE_, gD_, gC0_, gC1_, gC2_, gC3_, gC4_, gP_, gK_, gV_, gR_, gU_, fun j hj => hU.get (hrow j hj) (by simp; omega), hkx⟩, hOut_, hOuD_⟩ hW (lv_sub hl [2, 3, 4, 5, 6, 7] rfl))
      · first | exact absurd (show 2 = 0 from c_2051) (by decide) | exact absurd c_2051 (by decide)
    · first | exact absurd (show 2 ≠ 2 from c_2044) (by decide) | exact absurd c_2044 (by decide)
  · have hRI := hRI.kept hU1 (fun k hk => by have := hK1 k hk; omega)
    obtain ⟨gx, rb, tu, gO, gF, gT, gE, gD, gC0, gC1, gC2, gC3, gC4, gP, gK, gV, gR, gU, hrow, hkx⟩ := hRI
    obtain ⟨j1, h1, e1, hk, hk2⟩ := hq
    refine W.eq (g2 := F0 m 2024 ls [.int (nI 3)]) rfl ?_
    refine lv_istore (lv' := [(6, .int (nI 3)), (0, .ref b), (1, .ref (ad 0)), (2, .ref (ad 55)), (3, .ref (ad 74)), (4, .ref (ad 75)), (5, .int (nI i))]) S.1 S.2.1 dL_law_2024 hl (by decide) rfl (fun ls hl => ?_)
    refine lv_aload_n S.1 S.2.1 dL_law_2026 rfl (lv_at hl 3 rfl) ?_
    refine lv_aload_n S.1 S.2.1 dL_law_2027 rfl (lv_at hl 1 rfl) ?_
    refine lv_iload S.1 S.2.1 dL_law_2028 (lv_at hl 6 rfl) ?_
    refine lv_iconst (v := nI 1) S.1 S.2.1 dL_law_2030 (by decide) ?_
    refine jn_add S dL_law_2031 ?_
    refine j_sld (x := nI j1) S hX hbl hbA hW (vp_in_nI (by omega) (by omega)) (nI_clamp (by omega)) (e1) dL_law_2032 ?_
    refine j_callV (k := 55) (ci := 11) (q := (RX12, TX12, 17)) (As := [.int (nI j1)]) (rest := []) S hK hA hW (c_X12_nodesOf_b3 l D cy ad th n nc kv j1 gO gV   (by omega) (kv_pos hkI h1 hk) (hk2)) (jgo wm_L_251) yk_X12_nodesOf gO rfl rfl ⟨⟨rfl, rfl⟩, by decide, by decide⟩ rfl hl.1 rfl (Nat.le_of_ble_eq_true rfl) dL_law_2033 ⟨by show (cells + 3) + 0 ≤ 601024; omega, by show (slots + 18) + 0 ≤ 7293033; omega⟩ (fun v w_ H locs hp hW => ?_)
    obtain ⟨rfl, hU1, hN1⟩ := hp
    have hU : jU w w_ [55, 56, 57, 58, 59, 60, 61, 62, 63, 64, 65, 66, 71, 72, 73, 74, 75] := jU.mono hU1 (by first | decide | (simp; done) | (simp; omega))
    have gF_ := hU1.get gF (by first | decide | (simp; done) | (simp; omega))
    have gT_ := hU1.get gT (by first | decide | (simp; done) | (simp; omega))
    have gE_ := hU1.get gE (by first | decide | (simp; done) | (simp; omega))
    have gD_ := hU1.get gD (by first | decide | (simp; done) | (simp; omega))
    have gC0_ := hU1.get gC0 (by first | decide | (simp; done) | (simp; omega))
    have gC1_ := hU1.get gC1 (by first | decide | (simp; done) | (simp; omega))
    have gC2_ := hU1.get gC2 (by first | decide | (simp; done) | (simp; omega))
    have gC3_ := hU1.get gC3 (by first | decide | (simp; done) | (simp; omega))
    have gC4_ := hU1.get gC4 (by first | decide | (simp; done) | (simp; omega))
    have gP_ := hU1.get gP (by first | decide | (simp; done) | (simp; omega))
    have gK_ := hU1.get gK (by first | decide | (simp; done) | (simp; omega))
    have gV_ := hU1.get gV (by first | decide | (simp; done) | (simp; omega))
    have gR_ := hU1.get gR (by first | decide | (simp; done) | (simp; omega))
    have gU_ := hU1.get gU (by first | decide | (simp; done) | (simp; omega))
    have hOut_ := hU1.get hOut (by first | decide | (simp; done) | (simp; omega))
    have hOuD_ := hU1.get hOuD (by first | decide | (simp; done) | (simp; omega))
    have gO_ : w_[55]? = some (ad 55, .inr (11, [.int (nI 3), .ref (ad 56), .ref (ad 57), .ref (ad 58), .ref (ad 59), .ref (ad 60), .ref (ad 61), .ref (ad 62), .ref (ad 63), .ref (ad 64), .ref (ad 65), .int (nI n), .int (nI nc), .ref (ad 66), .ref (ad 71), .ref (ad 72), .ref (ad 73)])) := hN1
    clear hU1 hN1
    refine W.eq (g2 := F0 m 2036 ls [.int (nI 0)]) rfl ?_
    refine lv_istore (lv' := [(7, .int (nI 0)), (6, .int (nI 3)), (0, .ref b), (1, .ref (ad 0)), (2, .ref (ad 55)), (3, .ref (ad 74)), (4, .ref (ad 75)), (5, .int (nI i))]) S.1 S.2.1 dL_law_2036 hl (by decide) rfl (fun ls hl => ?_)
    refine lv_aload_n S.1 S.2.1 dL_law_2038 rfl (lv_at hl 4 rfl) ?_
    refine j_callV (k := 55) (ci := 11) (q := (RX12, TX12, 17)) (As := []) (rest := []) S hK hA hW (c_X12_thrown l D cy ad 3 n nc gO_   ) (jgo wm_L_136) yk_X12_thrown gO_ rfl rfl ⟨⟨rfl, rfl⟩, by decide, by decide⟩ rfl hl.1 rfl (Nat.le_of_ble_eq_true rfl) dL_law_2039 ⟨by show (cells + 3) + 0 ≤ 601024; omega, by show (slots + 18) + 0 ≤ 7293033; omega⟩ (fun v u H locs hp hW => ?_)
    obtain ⟨rfl, rfl⟩ := hp
    refine W.eq (g2 := F0 m 2042 ls [.int (nI 3)]) rfl ?_
    refine lv_iload S.1 S.2.1 dL_law_2042 (lv_at hl 1 rfl) ?_
    refine jn_cmp_eq (tgt := 2049) S (by omega) (by omega) dL_law_2044 (by decide) (fun c_2044 => ?_) (fun c_2044 => ?_)
    · refine lv_iload S.1 S.2.1 dL_law_2049 (lv_at hl 1 rfl) ?_
      refine jn_if_ne (tgt := 2066) S (by omega) dL_law_2051 (by decide) (fun c_2051 => ?_) (fun c_2051 => ?_)
      · refine lv_goto (tgt := 2382) S.1 S.2.1 dL_law_2066 (by decide) ?_
        exact W.widen (by omega) (by omega) (kk _ _ _ _ ⟨_, _, _, _, _, _, _, _, _, _, _, _, _, _, hPI, (hCI.kept hU (by first | decide | (intro k hk; simp at hk; omega))), ⟨gx, _, _, gO_, gF_, gT_, gE_, gD_, gC0_, gC1_, gC2_, gC3_, gC4_, gP_, gK_, gV_, gR_, gU_, fun j hj => hU.get (hrow j hj) (by simp; omega), hkx⟩, hOut_, hOuD_⟩ hW (lv_sub hl [2, 3, 4, 5, 6, 7] rfl))
      · first | exact absurd (show 3 = 0 from c_2051) (by decide) | exact absurd c_2051 (by decide)
    · first | exact absurd (show 3 ≠ 3 from c_2044) (by decide) | exact absurd c_2044 (by decide)
/-- the law's modelsOf -/
theorem s_modelsOf {p : Program} {l : Launch} {e : Env} {s : State} {m : MethodId} {args : Array Value} {below : List Frame} {meth : Method} {c : Code} {Q : State → Prop} {D : va_G} {cy : Nat → ClassId} {A : Nat → Prop} {x0 : Cond} {ad : Nat → Nat} {b L : Nat} {xs : Nat → Int32} {i : Nat} {w : va_W} {H : Heap} {locs : List Loc} {ls : Array Slot} {cells slots : Nat} (htr : l.stackTraces = false) (C : LX p s m c args D cy A b L xs x0) (hI : INV ad cy w) (hW : jW D A s.heap w H locs) (hl : lv_has ls 10 [(0, .ref b), (1, .ref (ad 0)), (2, .ref (ad 55)), (3, .ref (ad 74)), (4, .ref (ad 75)), (5, .int (nI i))]) (hi : i + 5 ≤ L) (hL : L ≤ 2560) (hc : cells + 10 ≤ 601024) (hs : slots + 64 ≤ 7293033) (kk : LK p l e s m args below meth c Q D cy A ad b i cells slots) : W p l e room_1 s m args below meth c H locs cells slots Q (F0 m 2069 ls []) := by
  obtain ⟨S, hK, hA, hX, hbl, hbA, hx, hnx⟩ := C
  obtain ⟨n, wf, wt, od, sd, se, nc, lv, cs, kv, kx, th, og, ogd, hPI, hCI, hRI, hOut, hOuD⟩ := hI
  have hPI0 := hPI
  obtain ⟨hn, hsdn, hse2, hnc, hlvn, hcs, hkI, hod, hodn, hinj⟩ := hPI0
  have hp2 := two_pow10 hn
  have hpt := Nat.two_pow_pos n
  have hWB := hCI.wb
  refine lv_aload_n S.1 S.2.1 dL_law_2069 rfl (lv_at hl 1 rfl) ?_
  refine lv_aload_n S.1 S.2.1 dL_law_2070 rfl (lv_at hl 0 rfl) ?_
  refine lv_iload S.1 S.2.1 dL_law_2071 (lv_at hl 5 rfl) ?_
  refine lv_iconst (v := nI 1) S.1 S.2.1 dL_law_2073 (by decide) ?_
  refine jn_add S dL_law_2074 ?_
  refine j_sld (x := xs (i + 1)) S hX hbl hbA hW (vp_in_nI (by omega) (by omega)) (nI_clamp (by omega)) (rfl) dL_law_2075 ?_
  refine lv_aload_n S.1 S.2.1 dL_law_2076 rfl (lv_at hl 3 rfl) ?_
  refine j_callH (As := [.ref (ad 0), .int (xs (i + 1)), .ref (ad 74)]) (rest := []) S hK hA hW hx hnx (h_modelsOf l htr D cy ad n wf wt od sd se nc lv cs kv kx (xs (i + 1)) og ogd hPI hCI hOut hOuD) (jgo wm_L_252) yk_L_modelsOf ⟨⟨rfl, rfl⟩, by decide, by decide⟩ rfl hl.1 rfl (Nat.le_of_ble_eq_true rfl) dL_law_2077 ⟨by show cells + 2 ≤ 601024; omega, by show slots + 12 ≤ 7293033; omega⟩ (fun v w H locs hp hW => ?_)
  rcases hp with ⟨j1, rfl, hq0, hq1, hq2, ⟨K1, hU1, hK1⟩, hCI, hOut, hOuD⟩ | ⟨rfl, hq, ⟨K1, hU1, hK1⟩, hCI, hOut, hOuD⟩ | ⟨rfl, hq, ⟨K1, hU1, hK1⟩, hCI, hOut, hOuD⟩
  · have hRI := hRI.kept hU1 (fun k hk => by have := hK1 k hk; omega)
    obtain ⟨gx, rb, tu, gO, gF, gT, gE, gD, gC0, gC1, gC2, gC3, gC4, gP, gK, gV, gR, gU, hrow, hkx⟩ := hRI
    have gXj := hrow j1 hq0
    refine W.eq (g2 := F0 m 2080 ls [.int (nI 0)]) rfl ?_
    refine lv_istore (lv' := [(6, .int (nI 0)), (0, .ref b), (1, .ref (ad 0)), (2, .ref (ad 55)), (3, .ref (ad 74)), (4, .ref (ad 75)), (5, .int (nI i))]) S.1 S.2.1 dL_law_2080 hl (by decide) rfl (fun ls hl => ?_)
    refine lv_aload_n S.1 S.2.1 dL_law_2082 rfl (lv_at hl 3 rfl) ?_
    refine lv_aload_n S.1 S.2.1 dL_law_2083 rfl (lv_at hl 1 rfl) ?_
    refine lv_iload S.1 S.2.1 dL_law_2084 (lv_at hl 6 rfl) ?_
    refine lv_iconst (v := nI 1) S.1 S.2.1 dL_law_2086 (by decide) ?_
    refine jn_add S dL_law_2087 ?_
    refine j_sld (x := nI j1) S hX hbl hbA hW (vp_in_nI (by omega) (by omega)) (nI_clamp (by omega)) (hq1) dL_law_2088 ?_
    refine j_callV (k := 55) (ci := 11) (q := (RX12, TX12, 17)) (As := [.int (nI j1)]) (rest := []) S hK hA hW (c_X12_modelsOf_ok l D cy ad th n nc kv gx j1 gO gK gV gXj   (by omega) (kv_pos hkI hq0 hq2)) (jgo wm_L_254) yk_X12_modelsOf gO rfl rfl ⟨⟨rfl, rfl⟩, by decide, by decide⟩ rfl hl.1 rfl (Nat.le_of_ble_eq_true rfl) dL_law_2089 ⟨by show (cells + 2) + 0 ≤ 601024; omega, by show (slots + 12) + 0 ≤ 7293033; omega⟩ (fun v w_ H locs hp hW => ?_)
    obtain ⟨rfl, hU1, hN1⟩ := hp
    have hU : jU w w_ [55, 56, 57, 58, 59, 60, 61, 62, 63, 64, 65, 66, 71, 72, 73, 74, 75] := jU.mono hU1 (by first | decide | (simp; done) | (simp; omega))
    have gF_ := hU1.get gF (by first | decide | (simp; done) | (simp; omega))
    have gT_ := hU1.get gT (by first | decide | (simp; done) | (simp; omega))
    have gE_ := hU1.get gE (by first | decide | (simp; done) | (simp; omega))
    have gD_ := hU1.get gD (by first | decide | (simp; done) | (simp; omega))
    have gC0_ := hU1.get gC0 (by first | decide | (simp; done) | (simp; omega))
    have gC1_ := hU1.get gC1 (by first | decide | (simp; done) | (simp; omega))
    have gC2_ := hU1.get gC2 (by first | decide | (simp; done) | (simp; omega))
    have gC3_ := hU1.get gC3 (by first | decide | (simp; done) | (simp; omega))
    have gC4_ := hU1.get gC4 (by first | decide | (simp; done) | (simp; omega))
    have gP_ := hU1.get gP (by first | decide | (simp; done) | (simp; omega))
    have gK_ := hU1.get gK (by first | decide | (simp; done) | (simp; omega))
    have gV_ := hU1.get gV (by first | decide | (simp; done) | (simp; omega))
    have gR_ := hU1.get gR (by first | decide | (simp; done) | (simp; omega))
    have gU_ := hU1.get gU (by first | decide | (simp; done) | (simp; omega))
    have hOut_ := hU1.get hOut (by first | decide | (simp; done) | (simp; omega))
    have hOuD_ := hU1.get hOuD (by first | decide | (simp; done) | (simp; omega))
    have gO_ : w_[55]? = some (ad 55, .inr (11, [.int (nI 0), .ref (ad 56), .ref (ad 57), .ref (ad 58), .ref (ad 59), .ref (ad 60), .ref (ad 61), .ref (ad 62), .ref (ad 63), .ref (ad 64), .ref (ad 65), .int (nI n), .int (nI nc), .ref (ad 66), .ref (ad 71), .ref (ad 72), .ref (ad 73)])) := hN1
    clear hU1 hN1
    refine W.eq (g2 := F0 m 2092 ls [.long (lN (cnt (gx j1) 1024))]) rfl ?_
    refine lv_topl_to (y := lN (cnt (kx j1) 1024)) (congrArg lN (cnt_congr (hkx j1 hq0 hq2))) ?_
    refine lv_lstore (lv' := [(7, .long (lN (cnt (kx j1) 1024))), (6, .int (nI 0)), (0, .ref b), (1, .ref (ad 0)), (2, .ref (ad 55)), (3, .ref (ad 74)), (4, .ref (ad 75)), (5, .int (nI i))]) S.1 S.2.1 dL_law_2092 hl (by decide) rfl (fun ls hl => ?_)
    refine lv_aload_n S.1 S.2.1 dL_law_2094 rfl (lv_at hl 4 rfl) ?_
    refine j_callV (k := 55) (ci := 11) (q := (RX12, TX12, 17)) (As := []) (rest := []) S hK hA hW (c_X12_thrown l D cy ad 0 n nc gO_   ) (jgo wm_L_136) yk_X12_thrown gO_ rfl rfl ⟨⟨rfl, rfl⟩, by decide, by decide⟩ rfl hl.1 rfl (Nat.le_of_ble_eq_true rfl) dL_law_2095 ⟨by show (cells + 2) + 0 ≤ 601024; omega, by show (slots + 12) + 0 ≤ 7293033; omega⟩ (fun v u H locs hp hW => ?_)
    obtain ⟨rfl, rfl⟩ := hp
    refine W.eq (g2 := F0 m 2098 ls [.int (nI 0)]) rfl ?_
    refine lv_iload S.1 S.2.1 dL_law_2098 (lv_at hl 1 rfl) ?_
    refine jn_cmp_eq (tgt := 2105) S (by omega) (by omega) dL_law_2100 (by decide) (fun c_2100 => ?_) (fun c_2100 => ?_)
    · refine lv_iload S.1 S.2.1 dL_law_2105 (lv_at hl 1 rfl) ?_
      refine jn_if_ne (tgt := 2121) S (by omega) dL_law_2107 (by decide) (fun c_2107 => ?_) (fun c_2107 => ?_)
      · first | exact absurd (show 0 ≠ 0 from c_2107) (by decide) | exact absurd c_2107 (by decide)
      · refine lv_aload_n S.1 S.2.1 dL_law_2110 rfl (lv_at hl 5 rfl) ?_
        refine lv_iconst (v := nI 0) S.1 S.2.1 dL_law_2111 (by decide) ?_
        refine j_lald (x := lN (cnt (kx j1) 1024)) S hK hW hOut_ (vp_in_nI (by omega) (by omega)) (nI_clamp (by omega)) (if_pos rfl) dL_law_2112 ?_
        refine lv_lload S.1 S.2.1 dL_law_2113 (lv_at hl 0 rfl) ?_
        refine jl_eq (tgt := 2121) S dL_law_2115 dL_law_2116 (by decide) (fun c_2116 => ?_) (fun c_2116 => ?_)
        · refine lv_goto (tgt := 2382) S.1 S.2.1 dL_law_2121 (by decide) ?_
          exact W.widen (by omega) (by omega) (kk _ _ _ _ ⟨_, _, _, _, _, _, _, _, _, _, _, _, _, _, hPI, (hCI.kept hU (by first | decide | (intro k hk; simp at hk; omega))), ⟨gx, _, _, gO_, gF_, gT_, gE_, gD_, gC0_, gC1_, gC2_, gC3_, gC4_, gP_, gK_, gV_, gR_, gU_, fun j hj => hU.get (hrow j hj) (by simp; omega), hkx⟩, hOut_, hOuD_⟩ hW (lv_sub hl [2, 3, 4, 5, 6, 7] rfl))
        · exact absurd rfl c_2116
    · first | exact absurd (show 0 ≠ 0 from c_2100) (by decide) | exact absurd c_2100 (by decide)
  · have hRI := hRI.kept hU1 (fun k hk => by have := hK1 k hk; omega)
    obtain ⟨gx, rb, tu, gO, gF, gT, gE, gD, gC0, gC1, gC2, gC3, gC4, gP, gK, gV, gR, gU, hrow, hkx⟩ := hRI
    refine W.eq (g2 := F0 m 2080 ls [.int (nI 1)]) rfl ?_
    refine lv_istore (lv' := [(6, .int (nI 1)), (0, .ref b), (1, .ref (ad 0)), (2, .ref (ad 55)), (3, .ref (ad 74)), (4, .ref (ad 75)), (5, .int (nI i))]) S.1 S.2.1 dL_law_2080 hl (by decide) rfl (fun ls hl => ?_)
    refine lv_aload_n S.1 S.2.1 dL_law_2082 rfl (lv_at hl 3 rfl) ?_
    refine lv_aload_n S.1 S.2.1 dL_law_2083 rfl (lv_at hl 1 rfl) ?_
    refine lv_iload S.1 S.2.1 dL_law_2084 (lv_at hl 6 rfl) ?_
    refine lv_iconst (v := nI 1) S.1 S.2.1 dL_law_2086 (by decide) ?_
    refine jn_add S dL_law_2087 ?_
    refine j_sld (x := xs (i + 1)) S hX hbl hbA hW (vp_in_nI (by omega) (by omega)) (nI_clamp (by omega)) (rfl) dL_law_2088 ?_
    refine j_callV (k := 55) (ci := 11) (q := (RX12, TX12, 17)) (As := [.int (xs (i + 1))]) (rest := []) S hK hA hW (c_X12_modelsOf_b1 l D cy ad th n nc (xs (i + 1)) gO   (hq)) (jgo wm_L_254) yk_X12_modelsOf gO rfl rfl ⟨⟨rfl, rfl⟩, by decide, by decide⟩ rfl hl.1 rfl (Nat.le_of_ble_eq_true rfl) dL_law_2089 ⟨by show (cells + 2) + 0 ≤ 601024; omega, by show (slots + 12) + 0 ≤ 7293033; omega⟩ (fun v w_ H locs hp hW => ?_)
    obtain ⟨rfl, hU1, hN1⟩ := hp
    have hU : jU w w_ [55, 56, 57, 58, 59, 60, 61, 62, 63, 64, 65, 66, 71, 72, 73, 74, 75] := jU.mono hU1 (by first | decide | (simp; done) | (simp; omega))
    have gF_ := hU1.get gF (by first | decide | (simp; done) | (simp; omega))
    have gT_ := hU1.get gT (by first | decide | (simp; done) | (simp; omega))
    have gE_ := hU1.get gE (by first | decide | (simp; done) | (simp; omega))
    have gD_ := hU1.get gD (by first | decide | (simp; done) | (simp; omega))
    have gC0_ := hU1.get gC0 (by first | decide | (simp; done) | (simp; omega))
    have gC1_ := hU1.get gC1 (by first | decide | (simp; done) | (simp; omega))
    have gC2_ := hU1.get gC2 (by first | decide | (simp; done) | (simp; omega))
    have gC3_ := hU1.get gC3 (by first | decide | (simp; done) | (simp; omega))
    have gC4_ := hU1.get gC4 (by first | decide | (simp; done) | (simp; omega))
    have gP_ := hU1.get gP (by first | decide | (simp; done) | (simp; omega))
    have gK_ := hU1.get gK (by first | decide | (simp; done) | (simp; omega))
    have gV_ := hU1.get gV (by first | decide | (simp; done) | (simp; omega))
    have gR_ := hU1.get gR (by first | decide | (simp; done) | (simp; omega))
    have gU_ := hU1.get gU (by first | decide | (simp; done) | (simp; omega))
    have hOut_ := hU1.get hOut (by first | decide | (simp; done) | (simp; omega))
    have hOuD_ := hU1.get hOuD (by first | decide | (simp; done) | (simp; omega))
    have gO_ : w_[55]? = some (ad 55, .inr (11, [.int (nI 1), .ref (ad 56), .ref (ad 57), .ref (ad 58), .ref (ad 59), .ref (ad 60), .ref (ad 61), .ref (ad 62), .ref (ad 63), .ref (ad 64), .ref (ad 65), .int (nI n), .int (nI nc), .ref (ad 66), .ref (ad 71), .ref (ad 72), .ref (ad 73)])) := hN1
    clear hU1 hN1
    refine W.eq (g2 := F0 m 2092 ls [.long (lN 0)]) rfl ?_
    refine lv_lstore (lv' := [(7, .long (lN 0)), (6, .int (nI 1)), (0, .ref b), (1, .ref (ad 0)), (2, .ref (ad 55)), (3, .ref (ad 74)), (4, .ref (ad 75)), (5, .int (nI i))]) S.1 S.2.1 dL_law_2092 hl (by decide) rfl (fun ls hl => ?_)
    refine lv_aload_n S.1 S.2.1 dL_law_2094 rfl (lv_at hl 4 rfl) ?_
    refine j_callV (k := 55) (ci := 11) (q := (RX12, TX12, 17)) (As := []) (rest := []) S hK hA hW (c_X12_thrown l D cy ad 1 n nc gO_   ) (jgo wm_L_136) yk_X12_thrown gO_ rfl rfl ⟨⟨rfl, rfl⟩, by decide, by decide⟩ rfl hl.1 rfl (Nat.le_of_ble_eq_true rfl) dL_law_2095 ⟨by show (cells + 2) + 0 ≤ 601024; omega, by show (slots + 12) + 0 ≤ 7293033; omega⟩ (fun v u H locs hp hW => ?_)
    obtain ⟨rfl, rfl⟩ := hp
    refine W.eq (g2 := F0 m 2098 ls [.int (nI 1)]) rfl ?_
    refine lv_iload S.1 S.2.1 dL_law_2098 (lv_at hl 1 rfl) ?_
    refine jn_cmp_eq (tgt := 2105) S (by omega) (by omega) dL_law_2100 (by decide) (fun c_2100 => ?_) (fun c_2100 => ?_)
    · refine lv_iload S.1 S.2.1 dL_law_2105 (lv_at hl 1 rfl) ?_
      refine jn_if_ne (tgt := 2121) S (by omega) dL_law_2107 (by decide) (fun c_2107 => ?_) (fun c_2107 => ?_)
      · refine lv_goto (tgt := 2382) S.1 S.2.1 dL_law_2121 (by decide) ?_
        exact W.widen (by omega) (by omega) (kk _ _ _ _ ⟨_, _, _, _, _, _, _, _, _, _, _, _, _, _, hPI, (hCI.kept hU (by first | decide | (intro k hk; simp at hk; omega))), ⟨gx, _, _, gO_, gF_, gT_, gE_, gD_, gC0_, gC1_, gC2_, gC3_, gC4_, gP_, gK_, gV_, gR_, gU_, fun j hj => hU.get (hrow j hj) (by simp; omega), hkx⟩, hOut_, hOuD_⟩ hW (lv_sub hl [2, 3, 4, 5, 6, 7] rfl))
      · first | exact absurd (show 1 = 0 from c_2107) (by decide) | exact absurd c_2107 (by decide)
    · first | exact absurd (show 1 ≠ 1 from c_2100) (by decide) | exact absurd c_2100 (by decide)
  · have hRI := hRI.kept hU1 (fun k hk => by have := hK1 k hk; omega)
    obtain ⟨gx, rb, tu, gO, gF, gT, gE, gD, gC0, gC1, gC2, gC3, gC4, gP, gK, gV, gR, gU, hrow, hkx⟩ := hRI
    obtain ⟨j1, h1, e1, hk⟩ := hq
    refine W.eq (g2 := F0 m 2080 ls [.int (nI 2)]) rfl ?_
    refine lv_istore (lv' := [(6, .int (nI 2)), (0, .ref b), (1, .ref (ad 0)), (2, .ref (ad 55)), (3, .ref (ad 74)), (4, .ref (ad 75)), (5, .int (nI i))]) S.1 S.2.1 dL_law_2080 hl (by decide) rfl (fun ls hl => ?_)
    refine lv_aload_n S.1 S.2.1 dL_law_2082 rfl (lv_at hl 3 rfl) ?_
    refine lv_aload_n S.1 S.2.1 dL_law_2083 rfl (lv_at hl 1 rfl) ?_
    refine lv_iload S.1 S.2.1 dL_law_2084 (lv_at hl 6 rfl) ?_
    refine lv_iconst (v := nI 1) S.1 S.2.1 dL_law_2086 (by decide) ?_
    refine jn_add S dL_law_2087 ?_
    refine j_sld (x := nI j1) S hX hbl hbA hW (vp_in_nI (by omega) (by omega)) (nI_clamp (by omega)) (e1) dL_law_2088 ?_
    refine j_callV (k := 55) (ci := 11) (q := (RX12, TX12, 17)) (As := [.int (nI j1)]) (rest := []) S hK hA hW (c_X12_modelsOf_b2 l D cy ad th n nc kv j1 gO gV   (by omega) (kv_neg hk)) (jgo wm_L_254) yk_X12_modelsOf gO rfl rfl ⟨⟨rfl, rfl⟩, by decide, by decide⟩ rfl hl.1 rfl (Nat.le_of_ble_eq_true rfl) dL_law_2089 ⟨by show (cells + 2) + 0 ≤ 601024; omega, by show (slots + 12) + 0 ≤ 7293033; omega⟩ (fun v w_ H locs hp hW => ?_)
    obtain ⟨rfl, hU1, hN1⟩ := hp
    have hU : jU w w_ [55, 56, 57, 58, 59, 60, 61, 62, 63, 64, 65, 66, 71, 72, 73, 74, 75] := jU.mono hU1 (by first | decide | (simp; done) | (simp; omega))
    have gF_ := hU1.get gF (by first | decide | (simp; done) | (simp; omega))
    have gT_ := hU1.get gT (by first | decide | (simp; done) | (simp; omega))
    have gE_ := hU1.get gE (by first | decide | (simp; done) | (simp; omega))
    have gD_ := hU1.get gD (by first | decide | (simp; done) | (simp; omega))
    have gC0_ := hU1.get gC0 (by first | decide | (simp; done) | (simp; omega))
    have gC1_ := hU1.get gC1 (by first | decide | (simp; done) | (simp; omega))
    have gC2_ := hU1.get gC2 (by first | decide | (simp; done) | (simp; omega))
    have gC3_ := hU1.get gC3 (by first | decide | (simp; done) | (simp; omega))
    have gC4_ := hU1.get gC4 (by first | decide | (simp; done) | (simp; omega))
    have gP_ := hU1.get gP (by first | decide | (simp; done) | (simp; omega))
    have gK_ := hU1.get gK (by first | decide | (simp; done) | (simp; omega))
    have gV_ := hU1.get gV (by first | decide | (simp; done) | (simp; omega))
    have gR_ := hU1.get gR (by first | decide | (simp; done) | (simp; omega))
    have gU_ := hU1.get gU (by first | decide | (simp; done) | (simp; omega))
    have hOut_ := hU1.get hOut (by first | decide | (simp; done) | (simp; omega))
    have hOuD_ := hU1.get hOuD (by first | decide | (simp; done) | (simp; omega))
    have gO_ : w_[55]? = some (ad 55, .inr (11, [.int (nI 2), .ref (ad 56), .ref (ad 57), .ref (ad 58), .ref (ad 59), .ref (ad 60), .ref (ad 61), .ref (ad 62), .ref (ad 63), .ref (ad 64), .ref (ad 65), .int (nI n), .int (nI nc), .ref (ad 66), .ref (ad 71), .ref (ad 72), .ref (ad 73)])) := hN1
    clear hU1 hN1
    refine W.eq (g2 := F0 m 2092 ls [.long (lN 0)]) rfl ?_
    refine lv_lstore (lv' := [(7, .long (lN 0)), (6, .int (nI 2)), (0, .ref b), (1, .ref (ad 0)), (2, .ref (ad 55)), (3, .ref (ad 74)), (4, .ref (ad 75)), (5, .int (nI i))]) S.1 S.2.1 dL_law_2092 hl (by decide) rfl (fun ls hl => ?_)
    refine lv_aload_n S.1 S.2.1 dL_law_2094 rfl (lv_at hl 4 rfl) ?_
    refine j_callV (k := 55) (ci := 11) (q := (RX12, TX12, 17)) (As := []) (rest := []) S hK hA hW (c_X12_thrown l D cy ad 2 n nc gO_   ) (jgo wm_L_136) yk_X12_thrown gO_ rfl rfl ⟨⟨rfl, rfl⟩, by decide, by decide⟩ rfl hl.1 rfl (Nat.le_of_ble_eq_true rfl) dL_law_2095 ⟨by show (cells + 2) + 0 ≤ 601024; omega, by show (slots + 12) + 0 ≤ 7293033; omega⟩ (fun v u H locs hp hW => ?_)
    obtain ⟨rfl, rfl⟩ := hp
    refine W.eq (g2 := F0 m 2098 ls [.int (nI 2)]) rfl ?_
    refine lv_iload S.1 S.2.1 dL_law_2098 (lv_at hl 1 rfl) ?_
    refine jn_cmp_eq (tgt := 2105) S (by omega) (by omega) dL_law_2100 (by decide) (fun c_2100 => ?_) (fun c_2100 => ?_)
    · refine lv_iload S.1 S.2.1 dL_law_2105 (lv_at hl 1 rfl) ?_
      refine jn_if_ne (tgt := 2121) S (by omega) dL_law_2107 (by decide) (fun c_2107 => ?_) (fun c_2107 => ?_)
      · refine lv_goto (tgt := 2382) S.1 S.2.1 dL_law_2121 (by decide) ?_
        exact W.widen (by omega) (by omega) (kk _ _ _ _ ⟨_, _, _, _, _, _, _, _, _, _, _, _, _, _, hPI, (hCI.kept hU (by first | decide | (intro k hk; simp at hk; omega))), ⟨gx, _, _, gO_, gF_, gT_, gE_, gD_, gC0_, gC1_, gC2_, gC3_, gC4_, gP_, gK_, gV_, gR_, gU_, fun j hj => hU.get (hrow j hj) (by simp; omega), hkx⟩, hOut_, hOuD_⟩ hW (lv_sub hl [2, 3, 4, 5, 6, 7] rfl))
      · first | exact absurd (show 2 = 0 from c_2107) (by decide) | exact absurd c_2107 (by decide)
    · first | exact absurd (show 2 ≠ 2 from c_2100) (by decide) | exact absurd c_2100 (by decide)
/-- the law's areSame -/
theorem s_areSame {p : Program} {l : Launch} {e : Env} {s : State} {m : MethodId} {args : Array Value} {below : List Frame} {meth : Method} {c : Code} {Q : State → Prop} {D : va_G} {cy : Nat → ClassId} {A : Nat → Prop} {x0 : Cond} {ad : Nat → Nat} {b L : Nat} {xs : Nat → Int32} {i : Nat} {w : va_W} {H : Heap} {locs : List Loc} {ls : Array Slot} {cells slots : Nat} (htr : l.stackTraces = false) (C : LX p s m c args D cy A b L xs x0) (hI : INV ad cy w) (hW : jW D A s.heap w H locs) (hl : lv_has ls 10 [(0, .ref b), (1, .ref (ad 0)), (2, .ref (ad 55)), (3, .ref (ad 74)), (4, .ref (ad 75)), (5, .int (nI i))]) (hi : i + 5 ≤ L) (hL : L ≤ 2560) (hc : cells + 10 ≤ 601024) (hs : slots + 64 ≤ 7293033) (kk : LK p l e s m args below meth c Q D cy A ad b i cells slots) : W p l e room_1 s m args below meth c H locs cells slots Q (F0 m 2124 ls []) := by
  obtain ⟨S, hK, hA, hX, hbl, hbA, hx, hnx⟩ := C
  obtain ⟨n, wf, wt, od, sd, se, nc, lv, cs, kv, kx, th, og, ogd, hPI, hCI, hRI, hOut, hOuD⟩ := hI
  have hPI0 := hPI
  obtain ⟨hn, hsdn, hse2, hnc, hlvn, hcs, hkI, hod, hodn, hinj⟩ := hPI0
  have hp2 := two_pow10 hn
  have hpt := Nat.two_pow_pos n
  have hWB := hCI.wb
  refine lv_aload_n S.1 S.2.1 dL_law_2124 rfl (lv_at hl 1 rfl) ?_
  refine lv_aload_n S.1 S.2.1 dL_law_2125 rfl (lv_at hl 0 rfl) ?_
  refine lv_iload S.1 S.2.1 dL_law_2126 (lv_at hl 5 rfl) ?_
  refine lv_iconst (v := nI 1) S.1 S.2.1 dL_law_2128 (by decide) ?_
  refine jn_add S dL_law_2129 ?_
  refine j_sld (x := xs (i + 1)) S hX hbl hbA hW (vp_in_nI (by omega) (by omega)) (nI_clamp (by omega)) (rfl) dL_law_2130 ?_
  refine lv_aload_n S.1 S.2.1 dL_law_2131 rfl (lv_at hl 0 rfl) ?_
  refine lv_iload S.1 S.2.1 dL_law_2132 (lv_at hl 5 rfl) ?_
  refine lv_iconst (v := nI 2) S.1 S.2.1 dL_law_2134 (by decide) ?_
  refine jn_add S dL_law_2135 ?_
  refine j_sld (x := xs (i + 2)) S hX hbl hbA hW (vp_in_nI (by omega) (by omega)) (nI_clamp (by omega)) (rfl) dL_law_2136 ?_
  refine lv_aload_n S.1 S.2.1 dL_law_2137 rfl (lv_at hl 3 rfl) ?_
  refine j_callH (As := [.ref (ad 0), .int (xs (i + 1)), .int (xs (i + 2)), .ref (ad 74)]) (rest := []) S hK hA hW hx hnx (h_areSame l htr D cy ad n wf wt od sd se nc lv cs kv kx (xs (i + 1)) (xs (i + 2)) og ogd hPI hCI hOut hOuD) (jgo wm_L_255) yk_L_areSame ⟨⟨rfl, rfl⟩, by decide, by decide⟩ rfl hl.1 rfl (Nat.le_of_ble_eq_true rfl) dL_law_2138 ⟨by show cells + 5 ≤ 601024; omega, by show slots + 30 ≤ 7293033; omega⟩ (fun v w H locs hp hW => ?_)
  rcases hp with ⟨j1, i1, rfl, hq0, hq1, hq2, hq3, hq4, hq5, hq6, ⟨K1, hU1, hK1⟩, hCI, hOut, hOuD⟩ | ⟨rfl, hq, ⟨K1, hU1, hK1⟩, hCI, hOut, hOuD⟩ | ⟨rfl, hq, ⟨K1, hU1, hK1⟩, hCI, hOut, hOuD⟩ | ⟨rfl, hq, ⟨K1, hU1, hK1⟩, hCI, hOut, hOuD⟩
  · have hRI := hRI.kept hU1 (fun k hk => by have := hK1 k hk; omega)
    obtain ⟨gx, rb, tu, gO, gF, gT, gE, gD, gC0, gC1, gC2, gC3, gC4, gP, gK, gV, gR, gU, hrow, hkx⟩ := hRI
    have gXj := hrow j1 hq0
    have gXi := hrow i1 hq2
    refine W.eq (g2 := F0 m 2141 ls [.int (nI 0)]) rfl ?_
    refine lv_istore (lv' := [(6, .int (nI 0)), (0, .ref b), (1, .ref (ad 0)), (2, .ref (ad 55)), (3, .ref (ad 74)), (4, .ref (ad 75)), (5, .int (nI i))]) S.1 S.2.1 dL_law_2141 hl (by decide) rfl (fun ls hl => ?_)
    refine lv_aload_n S.1 S.2.1 dL_law_2143 rfl (lv_at hl 3 rfl) ?_
    refine lv_aload_n S.1 S.2.1 dL_law_2144 rfl (lv_at hl 1 rfl) ?_
    refine lv_iload S.1 S.2.1 dL_law_2145 (lv_at hl 6 rfl) ?_
    refine lv_iconst (v := nI 1) S.1 S.2.1 dL_law_2147 (by decide) ?_
    refine jn_add S dL_law_2148 ?_
    refine j_sld (x := nI j1) S hX hbl hbA hW (vp_in_nI (by omega) (by omega)) (nI_clamp (by omega)) (hq1) dL_law_2149 ?_
    refine lv_aload_n S.1 S.2.1 dL_law_2150 rfl (lv_at hl 1 rfl) ?_
    refine lv_iload S.1 S.2.1 dL_law_2151 (lv_at hl 6 rfl) ?_
    refine lv_iconst (v := nI 2) S.1 S.2.1 dL_law_2153 (by decide) ?_
    refine jn_add S dL_law_2154 ?_
    refine j_sld (x := nI i1) S hX hbl hbA hW (vp_in_nI (by omega) (by omega)) (nI_clamp (by omega)) (hq3) dL_law_2155 ?_
    refine j_callV (k := 55) (ci := 11) (q := (RX12, TX12, 17)) (As := [.int (nI j1), .int (nI i1)]) (rest := []) S hK hA hW (c_X12_areSame_ok l D cy ad th n nc kv gx j1 i1 gO gK gV gXj gXi   (by omega) (by omega) (kv_pos hkI hq0 hq4) (hq6.symm)) (jgo wm_L_257) yk_X12_areSame gO rfl rfl ⟨⟨rfl, rfl⟩, by decide, by decide⟩ rfl hl.1 rfl (Nat.le_of_ble_eq_true rfl) dL_law_2156 ⟨by show (cells + 5) + 0 ≤ 601024; omega, by show (slots + 30) + 0 ≤ 7293033; omega⟩ (fun v w_ H locs hp hW => ?_)
    obtain ⟨rfl, hU1, hN1⟩ := hp
    have hU : jU w w_ [55, 56, 57, 58, 59, 60, 61, 62, 63, 64, 65, 66, 71, 72, 73, 74, 75] := jU.mono hU1 (by first | decide | (simp; done) | (simp; omega))
    have gF_ := hU1.get gF (by first | decide | (simp; done) | (simp; omega))
    have gT_ := hU1.get gT (by first | decide | (simp; done) | (simp; omega))
    have gE_ := hU1.get gE (by first | decide | (simp; done) | (simp; omega))
    have gD_ := hU1.get gD (by first | decide | (simp; done) | (simp; omega))
    have gC0_ := hU1.get gC0 (by first | decide | (simp; done) | (simp; omega))
    have gC1_ := hU1.get gC1 (by first | decide | (simp; done) | (simp; omega))
    have gC2_ := hU1.get gC2 (by first | decide | (simp; done) | (simp; omega))
    have gC3_ := hU1.get gC3 (by first | decide | (simp; done) | (simp; omega))
    have gC4_ := hU1.get gC4 (by first | decide | (simp; done) | (simp; omega))
    have gP_ := hU1.get gP (by first | decide | (simp; done) | (simp; omega))
    have gK_ := hU1.get gK (by first | decide | (simp; done) | (simp; omega))
    have gV_ := hU1.get gV (by first | decide | (simp; done) | (simp; omega))
    have gR_ := hU1.get gR (by first | decide | (simp; done) | (simp; omega))
    have gU_ := hU1.get gU (by first | decide | (simp; done) | (simp; omega))
    have hOut_ := hU1.get hOut (by first | decide | (simp; done) | (simp; omega))
    have hOuD_ := hU1.get hOuD (by first | decide | (simp; done) | (simp; omega))
    have gO_ : w_[55]? = some (ad 55, .inr (11, [.int (nI 0), .ref (ad 56), .ref (ad 57), .ref (ad 58), .ref (ad 59), .ref (ad 60), .ref (ad 61), .ref (ad 62), .ref (ad 63), .ref (ad 64), .ref (ad 65), .int (nI n), .int (nI nc), .ref (ad 66), .ref (ad 71), .ref (ad 72), .ref (ad 73)])) := hN1
    clear hU1 hN1
    refine W.eq (g2 := F0 m 2159 ls [.int (bI (allB (fun z => gx j1 z == gx i1 z) 1024))]) rfl ?_
    refine lv_topi_to (y := bI (allB (fun a => !kx j1 a || kx i1 a) 1024 && allB (fun a => !kx i1 a || kx j1 a) 1024)) (congrArg bI (same_ref (hkx j1 hq0 hq4) (hkx i1 hq2 hq5))) ?_
    refine lv_istore (lv' := [(7, .int (bI (allB (fun a => !kx j1 a || kx i1 a) 1024 && allB (fun a => !kx i1 a || kx j1 a) 1024))), (6, .int (nI 0)), (0, .ref b), (1, .ref (ad 0)), (2, .ref (ad 55)), (3, .ref (ad 74)), (4, .ref (ad 75)), (5, .int (nI i))]) S.1 S.2.1 dL_law_2159 hl (by decide) rfl (fun ls hl => ?_)
    refine lv_aload_n S.1 S.2.1 dL_law_2161 rfl (lv_at hl 4 rfl) ?_
    refine j_callV (k := 55) (ci := 11) (q := (RX12, TX12, 17)) (As := []) (rest := []) S hK hA hW (c_X12_thrown l D cy ad 0 n nc gO_   ) (jgo wm_L_136) yk_X12_thrown gO_ rfl rfl ⟨⟨rfl, rfl⟩, by decide, by decide⟩ rfl hl.1 rfl (Nat.le_of_ble_eq_true rfl) dL_law_2162 ⟨by show (cells + 5) + 0 ≤ 601024; omega, by show (slots + 30) + 0 ≤ 7293033; omega⟩ (fun v u H locs hp hW => ?_)
    obtain ⟨rfl, rfl⟩ := hp
    refine W.eq (g2 := F0 m 2165 ls [.int (nI 0)]) rfl ?_
    refine lv_iload S.1 S.2.1 dL_law_2165 (lv_at hl 1 rfl) ?_
    refine jn_cmp_eq (tgt := 2172) S (by omega) (by omega) dL_law_2167 (by decide) (fun c_2167 => ?_) (fun c_2167 => ?_)
    · refine lv_iload S.1 S.2.1 dL_law_2172 (lv_at hl 1 rfl) ?_
      refine jn_if_ne (tgt := 2196) S (by omega) dL_law_2174 (by decide) (fun c_2174 => ?_) (fun c_2174 => ?_)
      · first | exact absurd (show 0 ≠ 0 from c_2174) (by decide) | exact absurd c_2174 (by decide)
      · refine lv_aload_n S.1 S.2.1 dL_law_2177 rfl (lv_at hl 5 rfl) ?_
        refine lv_iconst (v := nI 0) S.1 S.2.1 dL_law_2178 (by decide) ?_
        refine j_lald (x := lN (b01 (allB (fun a => !kx j1 a || kx i1 a) 1024 && allB (fun a => !kx i1 a || kx j1 a) 1024))) S hK hW hOut_ (vp_in_nI (by omega) (by omega)) (nI_clamp (by omega)) (if_pos rfl) dL_law_2179 ?_
        refine lv_iload S.1 S.2.1 dL_law_2180 (lv_at hl 0 rfl) ?_
        refine jb_if_eq (tgt := 2189) S dL_law_2182 (by decide) (fun c_2182 => ?_) (fun c_2182 => ?_)
        · refine lv_lconst (v := lN 0) S.1 S.2.1 dL_law_2189 (by decide) ?_
          refine jl_eq (tgt := 2196) S dL_law_2190 dL_law_2191 (by decide) (fun c_2191 => ?_) (fun c_2191 => ?_)
          · refine lv_goto (tgt := 2382) S.1 S.2.1 dL_law_2196 (by decide) ?_
            exact W.widen (by omega) (by omega) (kk _ _ _ _ ⟨_, _, _, _, _, _, _, _, _, _, _, _, _, _, hPI, (hCI.kept hU (by first | decide | (intro k hk; simp at hk; omega))), ⟨gx, _, _, gO_, gF_, gT_, gE_, gD_, gC0_, gC1_, gC2_, gC3_, gC4_, gP_, gK_, gV_, gR_, gU_, fun j hj => hU.get (hrow j hj) (by simp; omega), hkx⟩, hOut_, hOuD_⟩ hW (lv_sub hl [2, 3, 4, 5, 6, 7] rfl))
          · exact absurd (by rw [c_2182]; rfl) c_2191
        · refine lv_lconst (v := lN 1) S.1 S.2.1 dL_law_2185 (by decide) ?_
          refine lv_goto (tgt := 2190) S.1 S.2.1 dL_law_2186 (by decide) ?_
          refine jl_eq (tgt := 2196) S dL_law_2190 dL_law_2191 (by decide) (fun c_2191 => ?_) (fun c_2191 => ?_)
          · refine lv_goto (tgt := 2382) S.1 S.2.1 dL_law_2196 (by decide) ?_
            exact W.widen (by omega) (by omega) (kk _ _ _ _ ⟨_, _, _, _, _, _, _, _, _, _, _, _, _, _, hPI, (hCI.kept hU (by first | decide | (intro k hk; simp at hk; omega))), ⟨gx, _, _, gO_, gF_, gT_, gE_, gD_, gC0_, gC1_, gC2_, gC3_, gC4_, gP_, gK_, gV_, gR_, gU_, fun j hj => hU.get (hrow j hj) (by simp; omega), hkx⟩, hOut_, hOuD_⟩ hW (lv_sub hl [2, 3, 4, 5, 6, 7] rfl))
          · exact absurd (by rw [c_2182]; rfl) c_2191
    · first | exact absurd (show 0 ≠ 0 from c_2167) (by decide) | exact absurd c_2167 (by decide)
  · have hRI := hRI.kept hU1 (fun k hk => by have := hK1 k hk; omega)
    obtain ⟨gx, rb, tu, gO, gF, gT, gE, gD, gC0, gC1, gC2, gC3, gC4, gP, gK, gV, gR, gU, hrow, hkx⟩ := hRI
    refine W.eq (g2 := F0 m 2141 ls [.int (nI 1)]) rfl ?_
    refine lv_istore (lv' := [(6, .int (nI 1)), (0, .ref b), (1, .ref (ad 0)), (2, .ref (ad 55)), (3, .ref (ad 74)), (4, .ref (ad 75)), (5, .int (nI i))]) S.1 S.2.1 dL_law_2141 hl (by decide) rfl (fun ls hl => ?_)
    refine lv_aload_n S.1 S.2.1 dL_law_2143 rfl (lv_at hl 3 rfl) ?_
    refine lv_aload_n S.1 S.2.1 dL_law_2144 rfl (lv_at hl 1 rfl) ?_
    refine lv_iload S.1 S.2.1 dL_law_2145 (lv_at hl 6 rfl) ?_
    refine lv_iconst (v := nI 1) S.1 S.2.1 dL_law_2147 (by decide) ?_
    refine jn_add S dL_law_2148 ?_
    refine j_sld (x := xs (i + 1)) S hX hbl hbA hW (vp_in_nI (by omega) (by omega)) (nI_clamp (by omega)) (rfl) dL_law_2149 ?_
    refine lv_aload_n S.1 S.2.1 dL_law_2150 rfl (lv_at hl 1 rfl) ?_
    refine lv_iload S.1 S.2.1 dL_law_2151 (lv_at hl 6 rfl) ?_
    refine lv_iconst (v := nI 2) S.1 S.2.1 dL_law_2153 (by decide) ?_
    refine jn_add S dL_law_2154 ?_
    refine j_sld (x := xs (i + 2)) S hX hbl hbA hW (vp_in_nI (by omega) (by omega)) (nI_clamp (by omega)) (rfl) dL_law_2155 ?_
    refine j_callV (k := 55) (ci := 11) (q := (RX12, TX12, 17)) (As := [.int (xs (i + 1)), .int (xs (i + 2))]) (rest := []) S hK hA hW (c_X12_areSame_b1 l D cy ad th n nc (xs (i + 1)) (xs (i + 2)) gO   (hq.imp id (fun h => h.2))) (jgo wm_L_257) yk_X12_areSame gO rfl rfl ⟨⟨rfl, rfl⟩, by decide, by decide⟩ rfl hl.1 rfl (Nat.le_of_ble_eq_true rfl) dL_law_2156 ⟨by show (cells + 5) + 0 ≤ 601024; omega, by show (slots + 30) + 0 ≤ 7293033; omega⟩ (fun v w_ H locs hp hW => ?_)
    obtain ⟨rfl, hU1, hN1⟩ := hp
    have hU : jU w w_ [55, 56, 57, 58, 59, 60, 61, 62, 63, 64, 65, 66, 71, 72, 73, 74, 75] := jU.mono hU1 (by first | decide | (simp; done) | (simp; omega))
    have gF_ := hU1.get gF (by first | decide | (simp; done) | (simp; omega))
    have gT_ := hU1.get gT (by first | decide | (simp; done) | (simp; omega))
    have gE_ := hU1.get gE (by first | decide | (simp; done) | (simp; omega))
    have gD_ := hU1.get gD (by first | decide | (simp; done) | (simp; omega))
    have gC0_ := hU1.get gC0 (by first | decide | (simp; done) | (simp; omega))
    have gC1_ := hU1.get gC1 (by first | decide | (simp; done) | (simp; omega))
    have gC2_ := hU1.get gC2 (by first | decide | (simp; done) | (simp; omega))
    have gC3_ := hU1.get gC3 (by first | decide | (simp; done) | (simp; omega))
    have gC4_ := hU1.get gC4 (by first | decide | (simp; done) | (simp; omega))
    have gP_ := hU1.get gP (by first | decide | (simp; done) | (simp; omega))
    have gK_ := hU1.get gK (by first | decide | (simp; done) | (simp; omega))
    have gV_ := hU1.get gV (by first | decide | (simp; done) | (simp; omega))
    have gR_ := hU1.get gR (by first | decide | (simp; done) | (simp; omega))
    have gU_ := hU1.get gU (by first | decide | (simp; done) | (simp; omega))
    have hOut_ := hU1.get hOut (by first | decide | (simp; done) | (simp; omega))
    have hOuD_ := hU1.get hOuD (by first | decide | (simp; done) | (simp; omega))
    have gO_ : w_[55]? = some (ad 55, .inr (11, [.int (nI 1), .ref (ad 56), .ref (ad 57), .ref (ad 58), .ref (ad 59), .ref (ad 60), .ref (ad 61), .ref (ad 62), .ref (ad 63), .ref (ad 64), .ref (ad 65), .int (nI n), .int (nI nc), .ref (ad 66), .ref (ad 71), .ref (ad 72), .ref (ad 73)])) := hN1
    clear hU1 hN1
    refine W.eq (g2 := F0 m 2159 ls [.int (bI false)]) rfl ?_
    refine lv_istore (lv' := [(7, .int (bI false)), (6, .int (nI 1)), (0, .ref b), (1, .ref (ad 0)), (2, .ref (ad 55)), (3, .ref (ad 74)), (4, .ref (ad 75)), (5, .int (nI i))]) S.1 S.2.1 dL_law_2159 hl (by decide) rfl (fun ls hl => ?_)
    refine lv_aload_n S.1 S.2.1 dL_law_2161 rfl (lv_at hl 4 rfl) ?_
    refine j_callV (k := 55) (ci := 11) (q := (RX12, TX12, 17)) (As := []) (rest := []) S hK hA hW (c_X12_thrown l D cy ad 1 n nc gO_   ) (jgo wm_L_136) yk_X12_thrown gO_ rfl rfl ⟨⟨rfl, rfl⟩, by decide, by decide⟩ rfl hl.1 rfl (Nat.le_of_ble_eq_true rfl) dL_law_2162 ⟨by show (cells + 5) + 0 ≤ 601024; omega, by show (slots + 30) + 0 ≤ 7293033; omega⟩ (fun v u H locs hp hW => ?_)
    obtain ⟨rfl, rfl⟩ := hp
    refine W.eq (g2 := F0 m 2165 ls [.int (nI 1)]) rfl ?_
    refine lv_iload S.1 S.2.1 dL_law_2165 (lv_at hl 1 rfl) ?_
    refine jn_cmp_eq (tgt := 2172) S (by omega) (by omega) dL_law_2167 (by decide) (fun c_2167 => ?_) (fun c_2167 => ?_)
    · refine lv_iload S.1 S.2.1 dL_law_2172 (lv_at hl 1 rfl) ?_
      refine jn_if_ne (tgt := 2196) S (by omega) dL_law_2174 (by decide) (fun c_2174 => ?_) (fun c_2174 => ?_)
      · refine lv_goto (tgt := 2382) S.1 S.2.1 dL_law_2196 (by decide) ?_
        exact W.widen (by omega) (by omega) (kk _ _ _ _ ⟨_, _, _, _, _, _, _, _, _, _, _, _, _, _, hPI, (hCI.kept hU (by first | decide | (intro k hk; simp at hk; omega))), ⟨gx, _, _, gO_, gF_, gT_, gE_, gD_, gC0_, gC1_, gC2_, gC3_, gC4_, gP_, gK_, gV_, gR_, gU_, fun j hj => hU.get (hrow j hj) (by simp; omega), hkx⟩, hOut_, hOuD_⟩ hW (lv_sub hl [2, 3, 4, 5, 6, 7] rfl))
      · first | exact absurd (show 1 = 0 from c_2174) (by decide) | exact absurd c_2174 (by decide)
    · first | exact absurd (show 1 ≠ 1 from c_2167) (by decide) | exact absurd c_2167 (by decide)
  · have hRI := hRI.kept hU1 (fun k hk => by have := hK1 k hk; omega)
    obtain ⟨gx, rb, tu, gO, gF, gT, gE, gD, gC0, gC1, gC2, gC3, gC4, gP, gK, gV, gR, gU, hrow, hkx⟩ := hRI
    obtain ⟨j1, i1, h1, e1, h2, e2, hk⟩ := hq
    refine W.eq (g2 := F0 m 2141 ls [.int (nI 2)]) rfl ?_
    refine lv_istore (lv' := [(6, .int (nI 2)), (0, .ref b), (1, .ref (ad 0)), (2, .ref (ad 55)), (3, .ref (ad 74)), (4, .ref (ad 75)), (5, .int (nI i))]) S.1 S.2.1 dL_law_2141 hl (by decide) rfl (fun ls hl => ?_)
    refine lv_aload_n S.1 S.2.1 dL_law_2143 rfl (lv_at hl 3 rfl) ?_
    refine lv_aload_n S.1 S.2.1 dL_law_2144 rfl (lv_at hl 1 rfl) ?_
    refine lv_iload S.1 S.2.1 dL_law_2145 (lv_at hl 6 rfl) ?_
    refine lv_iconst (v := nI 1) S.1 S.2.1 dL_law_2147 (by decide) ?_
    refine jn_add S dL_law_2148 ?_
    refine j_sld (x := nI j1) S hX hbl hbA hW (vp_in_nI (by omega) (by omega)) (nI_clamp (by omega)) (e1) dL_law_2149 ?_
    refine lv_aload_n S.1 S.2.1 dL_law_2150 rfl (lv_at hl 1 rfl) ?_
    refine lv_iload S.1 S.2.1 dL_law_2151 (lv_at hl 6 rfl) ?_
    refine lv_iconst (v := nI 2) S.1 S.2.1 dL_law_2153 (by decide) ?_
    refine jn_add S dL_law_2154 ?_
    refine j_sld (x := nI i1) S hX hbl hbA hW (vp_in_nI (by omega) (by omega)) (nI_clamp (by omega)) (e2) dL_law_2155 ?_
    refine j_callV (k := 55) (ci := 11) (q := (RX12, TX12, 17)) (As := [.int (nI j1), .int (nI i1)]) (rest := []) S hK hA hW (c_X12_areSame_b2 l D cy ad th n nc kv j1 i1 gO gV   (by omega) (by omega) (hk.imp kv_neg kv_neg)) (jgo wm_L_257) yk_X12_areSame gO rfl rfl ⟨⟨rfl, rfl⟩, by decide, by decide⟩ rfl hl.1 rfl (Nat.le_of_ble_eq_true rfl) dL_law_2156 ⟨by show (cells + 5) + 0 ≤ 601024; omega, by show (slots + 30) + 0 ≤ 7293033; omega⟩ (fun v w_ H locs hp hW => ?_)
    obtain ⟨rfl, hU1, hN1⟩ := hp
    have hU : jU w w_ [55, 56, 57, 58, 59, 60, 61, 62, 63, 64, 65, 66, 71, 72, 73, 74, 75] := jU.mono hU1 (by first | decide | (simp; done) | (simp; omega))
    have gF_ := hU1.get gF (by first | decide | (simp; done) | (simp; omega))
    have gT_ := hU1.get gT (by first | decide | (simp; done) | (simp; omega))
    have gE_ := hU1.get gE (by first | decide | (simp; done) | (simp; omega))
    have gD_ := hU1.get gD (by first | decide | (simp; done) | (simp; omega))
    have gC0_ := hU1.get gC0 (by first | decide | (simp; done) | (simp; omega))
    have gC1_ := hU1.get gC1 (by first | decide | (simp; done) | (simp; omega))
    have gC2_ := hU1.get gC2 (by first | decide | (simp; done) | (simp; omega))
    have gC3_ := hU1.get gC3 (by first | decide | (simp; done) | (simp; omega))
    have gC4_ := hU1.get gC4 (by first | decide | (simp; done) | (simp; omega))
    have gP_ := hU1.get gP (by first | decide | (simp; done) | (simp; omega))
    have gK_ := hU1.get gK (by first | decide | (simp; done) | (simp; omega))
    have gV_ := hU1.get gV (by first | decide | (simp; done) | (simp; omega))
    have gR_ := hU1.get gR (by first | decide | (simp; done) | (simp; omega))
    have gU_ := hU1.get gU (by first | decide | (simp; done) | (simp; omega))
    have hOut_ := hU1.get hOut (by first | decide | (simp; done) | (simp; omega))
    have hOuD_ := hU1.get hOuD (by first | decide | (simp; done) | (simp; omega))
    have gO_ : w_[55]? = some (ad 55, .inr (11, [.int (nI 2), .ref (ad 56), .ref (ad 57), .ref (ad 58), .ref (ad 59), .ref (ad 60), .ref (ad 61), .ref (ad 62), .ref (ad 63), .ref (ad 64), .ref (ad 65), .int (nI n), .int (nI nc), .ref (ad 66), .ref (ad 71), .ref (ad 72), .ref (ad 73)])) := hN1
    clear hU1 hN1
    refine W.eq (g2 := F0 m 2159 ls [.int (bI false)]) rfl ?_
    refine lv_istore (lv' := [(7, .int (bI false)), (6, .int (nI 2)), (0, .ref b), (1, .ref (ad 0)), (2, .ref (ad 55)), (3, .ref (ad 74)), (4, .ref (ad 75)), (5, .int (nI i))]) S.1 S.2.1 dL_law_2159 hl (by decide) rfl (fun ls hl => ?_)
    refine lv_aload_n S.1 S.2.1 dL_law_2161 rfl (lv_at hl 4 rfl) ?_
    refine j_callV (k := 55) (ci := 11) (q := (RX12, TX12, 17)) (As := []) (rest := []) S hK hA hW (c_X12_thrown l D cy ad 2 n nc gO_   ) (jgo wm_L_136) yk_X12_thrown gO_ rfl rfl ⟨⟨rfl, rfl⟩, by decide, by decide⟩ rfl hl.1 rfl (Nat.le_of_ble_eq_true rfl) dL_law_2162 ⟨by show (cells + 5) + 0 ≤ 601024; omega, by show (slots + 30) + 0 ≤ 7293033; omega⟩ (fun v u H locs hp hW => ?_)
    obtain ⟨rfl, rfl⟩ := hp
    refine W.eq (g2 := F0 m 2165 ls [.int (nI 2)]) rfl ?_
    refine lv_iload S.1 S.2.1 dL_law_2165 (lv_at hl 1 rfl) ?_
    refine jn_cmp_eq (tgt := 2172) S (by omega) (by omega) dL_law_2167 (by decide) (fun c_2167 => ?_) (fun c_2167 => ?_)
    · refine lv_iload S.1 S.2.1 dL_law_2172 (lv_at hl 1 rfl) ?_
      refine jn_if_ne (tgt := 2196) S (by omega) dL_law_2174 (by decide) (fun c_2174 => ?_) (fun c_2174 => ?_)
      · refine lv_goto (tgt := 2382) S.1 S.2.1 dL_law_2196 (by decide) ?_
        exact W.widen (by omega) (by omega) (kk _ _ _ _ ⟨_, _, _, _, _, _, _, _, _, _, _, _, _, _, hPI, (hCI.kept hU (by first | decide | (intro k hk; simp at hk; omega))), ⟨gx, _, _, gO_, gF_, gT_, gE_, gD_, gC0_, gC1_, gC2_, gC3_, gC4_, gP_, gK_, gV_, gR_, gU_, fun j hj => hU.get (hrow j hj) (by simp; omega), hkx⟩, hOut_, hOuD_⟩ hW (lv_sub hl [2, 3, 4, 5, 6, 7] rfl))
      · first | exact absurd (show 2 = 0 from c_2174) (by decide) | exact absurd c_2174 (by decide)
    · first | exact absurd (show 2 ≠ 2 from c_2167) (by decide) | exact absurd c_2167 (by decide)
  · have hRI := hRI.kept hU1 (fun k hk => by have := hK1 k hk; omega)
    obtain ⟨gx, rb, tu, gO, gF, gT, gE, gD, gC0, gC1, gC2, gC3, gC4, gP, gK, gV, gR, gU, hrow, hkx⟩ := hRI
    obtain ⟨j1, i1, h1, e1, h2, e2, hk, hk2, hk3⟩ := hq
    refine W.eq (g2 := F0 m 2141 ls [.int (nI 3)]) rfl ?_
    refine lv_istore (lv' := [(6, .int (nI 3)), (0, .ref b), (1, .ref (ad 0)), (2, .ref (ad 55)), (3, .ref (ad 74)), (4, .ref (ad 75)), (5, .int (nI i))]) S.1 S.2.1 dL_law_2141 hl (by decide) rfl (fun ls hl => ?_)
    refine lv_aload_n S.1 S.2.1 dL_law_2143 rfl (lv_at hl 3 rfl) ?_
    refine lv_aload_n S.1 S.2.1 dL_law_2144 rfl (lv_at hl 1 rfl) ?_
    refine lv_iload S.1 S.2.1 dL_law_2145 (lv_at hl 6 rfl) ?_
    refine lv_iconst (v := nI 1) S.1 S.2.1 dL_law_2147 (by decide) ?_
    refine jn_add S dL_law_2148 ?_
    refine j_sld (x := nI j1) S hX hbl hbA hW (vp_in_nI (by omega) (by omega)) (nI_clamp (by omega)) (e1) dL_law_2149 ?_
    refine lv_aload_n S.1 S.2.1 dL_law_2150 rfl (lv_at hl 1 rfl) ?_
    refine lv_iload S.1 S.2.1 dL_law_2151 (lv_at hl 6 rfl) ?_
    refine lv_iconst (v := nI 2) S.1 S.2.1 dL_law_2153 (by decide) ?_
    refine jn_add S dL_law_2154 ?_
    refine j_sld (x := nI i1) S hX hbl hbA hW (vp_in_nI (by omega) (by omega)) (nI_clamp (by omega)) (e2) dL_law_2155 ?_
    refine j_callV (k := 55) (ci := 11) (q := (RX12, TX12, 17)) (As := [.int (nI j1), .int (nI i1)]) (rest := []) S hK hA hW (c_X12_areSame_b3 l D cy ad th n nc kv j1 i1 gO gV   (by omega) (by omega) (kv_pos hkI h1 hk) (kv_pos hkI h2 hk2) (hk3)) (jgo wm_L_257) yk_X12_areSame gO rfl rfl ⟨⟨rfl, rfl⟩, by decide, by decide⟩ rfl hl.1 rfl (Nat.le_of_ble_eq_true rfl) dL_law_2156 ⟨by show (cells + 5) + 0 ≤ 601024; omega, by show (slots + 30) + 0 ≤ 7293033; omega⟩ (fun v w_ H locs hp hW => ?_)
    obtain ⟨rfl, hU1, hN1⟩ := hp
    have hU : jU w w_ [55, 56, 57, 58, 59, 60, 61, 62, 63, 64, 65, 66, 71, 72, 73, 74, 75] := jU.mono hU1 (by first | decide | (simp; done) | (simp; omega))
    have gF_ := hU1.get gF (by first | decide | (simp; done) | (simp; omega))
    have gT_ := hU1.get gT (by first | decide | (simp; done) | (simp; omega))
    have gE_ := hU1.get gE (by first | decide | (simp; done) | (simp; omega))
    have gD_ := hU1.get gD (by first | decide | (simp; done) | (simp; omega))
    have gC0_ := hU1.get gC0 (by first | decide | (simp; done) | (simp; omega))
    have gC1_ := hU1.get gC1 (by first | decide | (simp; done) | (simp; omega))
    have gC2_ := hU1.get gC2 (by first | decide | (simp; done) | (simp; omega))
    have gC3_ := hU1.get gC3 (by first | decide | (simp; done) | (simp; omega))
    have gC4_ := hU1.get gC4 (by first | decide | (simp; done) | (simp; omega))
    have gP_ := hU1.get gP (by first | decide | (simp; done) | (simp; omega))
    have gK_ := hU1.get gK (by first | decide | (simp; done) | (simp; omega))
    have gV_ := hU1.get gV (by first | decide | (simp; done) | (simp; omega))
    have gR_ := hU1.get gR (by first | decide | (simp; done) | (simp; omega))
    have gU_ := hU1.get gU (by first | decide | (simp; done) | (simp; omega))
    have hOut_ := hU1.get hOut (by first | decide | (simp; done) | (simp; omega))
    have hOuD_ := hU1.get hOuD (by first | decide | (simp; done) | (simp; omega))
    have gO_ : w_[55]? = some (ad 55, .inr (11, [.int (nI 3), .ref (ad 56), .ref (ad 57), .ref (ad 58), .ref (ad 59), .ref (ad 60), .ref (ad 61), .ref (ad 62), .ref (ad 63), .ref (ad 64), .ref (ad 65), .int (nI n), .int (nI nc), .ref (ad 66), .ref (ad 71), .ref (ad 72), .ref (ad 73)])) := hN1
    clear hU1 hN1
    refine W.eq (g2 := F0 m 2159 ls [.int (bI false)]) rfl ?_
    refine lv_istore (lv' := [(7, .int (bI false)), (6, .int (nI 3)), (0, .ref b), (1, .ref (ad 0)), (2, .ref (ad 55)), (3, .ref (ad 74)), (4, .ref (ad 75)), (5, .int (nI i))]) S.1 S.2.1 dL_law_2159 hl (by decide) rfl (fun ls hl => ?_)
    refine lv_aload_n S.1 S.2.1 dL_law_2161 rfl (lv_at hl 4 rfl) ?_
    refine j_callV (k := 55) (ci := 11) (q := (RX12, TX12, 17)) (As := []) (rest := []) S hK hA hW (c_X12_thrown l D cy ad 3 n nc gO_   ) (jgo wm_L_136) yk_X12_thrown gO_ rfl rfl ⟨⟨rfl, rfl⟩, by decide, by decide⟩ rfl hl.1 rfl (Nat.le_of_ble_eq_true rfl) dL_law_2162 ⟨by show (cells + 5) + 0 ≤ 601024; omega, by show (slots + 30) + 0 ≤ 7293033; omega⟩ (fun v u H locs hp hW => ?_)
    obtain ⟨rfl, rfl⟩ := hp
    refine W.eq (g2 := F0 m 2165 ls [.int (nI 3)]) rfl ?_
    refine lv_iload S.1 S.2.1 dL_law_2165 (lv_at hl 1 rfl) ?_
    refine jn_cmp_eq (tgt := 2172) S (by omega) (by omega) dL_law_2167 (by decide) (fun c_2167 => ?_) (fun c_2167 => ?_)
    · refine lv_iload S.1 S.2.1 dL_law_2172 (lv_at hl 1 rfl) ?_
      refine jn_if_ne (tgt := 2196) S (by omega) dL_law_2174 (by decide) (fun c_2174 => ?_) (fun c_2174 => ?_)
      · refine lv_goto (tgt := 2382) S.1 S.2.1 dL_law_2196 (by decide) ?_
        exact W.widen (by omega) (by omega) (kk _ _ _ _ ⟨_, _, _, _, _, _, _, _, _, _, _, _, _, _, hPI, (hCI.kept hU (by first | decide | (intro k hk; simp at hk; omega))), ⟨gx, _, _, gO_, gF_, gT_, gE_, gD_, gC0_, gC1_, gC2_, gC3_, gC4_, gP_, gK_, gV_, gR_, gU_, fun j hj => hU.get (hrow j hj) (by simp; omega), hkx⟩, hOut_, hOuD_⟩ hW (lv_sub hl [2, 3, 4, 5, 6, 7] rfl))
      · first | exact absurd (show 3 = 0 from c_2174) (by decide) | exact absurd c_2174 (by decide)
    · first | exact absurd (show 3 ≠ 3 from c_2167) (by decide) | exact absurd c_2167 (by decide)
/-- the law's isWithin -/
theorem s_isWithin {p : Program} {l : Launch} {e : Env} {s : State} {m : MethodId} {args : Array Value} {below : List Frame} {meth : Method} {c : Code} {Q : State → Prop} {D : va_G} {cy : Nat → ClassId} {A : Nat → Prop} {x0 : Cond} {ad : Nat → Nat} {b L : Nat} {xs : Nat → Int32} {i : Nat} {w : va_W} {H : Heap} {locs : List Loc} {ls : Array Slot} {cells slots : Nat} (htr : l.stackTraces = false) (C : LX p s m c args D cy A b L xs x0) (hI : INV ad cy w) (hW : jW D A s.heap w H locs) (hl : lv_has ls 10 [(0, .ref b), (1, .ref (ad 0)), (2, .ref (ad 55)), (3, .ref (ad 74)), (4, .ref (ad 75)), (5, .int (nI i))]) (hi : i + 5 ≤ L) (hL : L ≤ 2560) (hc : cells + 10 ≤ 601024) (hs : slots + 64 ≤ 7293033) (kk : LK p l e s m args below meth c Q D cy A ad b i cells slots) : W p l e room_1 s m args below meth c H locs cells slots Q (F0 m 2199 ls []) := by
  obtain ⟨S, hK, hA, hX, hbl, hbA, hx, hnx⟩ := C
  obtain ⟨n, wf, wt, od, sd, se, nc, lv, cs, kv, kx, th, og, ogd, hPI, hCI, hRI, hOut, hOuD⟩ := hI
  have hPI0 := hPI
  obtain ⟨hn, hsdn, hse2, hnc, hlvn, hcs, hkI, hod, hodn, hinj⟩ := hPI0
  have hp2 := two_pow10 hn
  have hpt := Nat.two_pow_pos n
  have hWB := hCI.wb
  refine lv_aload_n S.1 S.2.1 dL_law_2199 rfl (lv_at hl 1 rfl) ?_
  refine lv_aload_n S.1 S.2.1 dL_law_2200 rfl (lv_at hl 0 rfl) ?_
  refine lv_iload S.1 S.2.1 dL_law_2201 (lv_at hl 5 rfl) ?_
  refine lv_iconst (v := nI 1) S.1 S.2.1 dL_law_2203 (by decide) ?_
  refine jn_add S dL_law_2204 ?_
  refine j_sld (x := xs (i + 1)) S hX hbl hbA hW (vp_in_nI (by omega) (by omega)) (nI_clamp (by omega)) (rfl) dL_law_2205 ?_
  refine lv_aload_n S.1 S.2.1 dL_law_2206 rfl (lv_at hl 0 rfl) ?_
  refine lv_iload S.1 S.2.1 dL_law_2207 (lv_at hl 5 rfl) ?_
  refine lv_iconst (v := nI 2) S.1 S.2.1 dL_law_2209 (by decide) ?_
  refine jn_add S dL_law_2210 ?_
  refine j_sld (x := xs (i + 2)) S hX hbl hbA hW (vp_in_nI (by omega) (by omega)) (nI_clamp (by omega)) (rfl) dL_law_2211 ?_
  refine lv_aload_n S.1 S.2.1 dL_law_2212 rfl (lv_at hl 3 rfl) ?_
  refine j_callH (As := [.ref (ad 0), .int (xs (i + 1)), .int (xs (i + 2)), .ref (ad 74)]) (rest := []) S hK hA hW hx hnx (h_isWithin l htr D cy ad n wf wt od sd se nc lv cs kv kx (xs (i + 1)) (xs (i + 2)) og ogd hPI hCI hOut hOuD) (jgo wm_L_258) yk_L_isWithin ⟨⟨rfl, rfl⟩, by decide, by decide⟩ rfl hl.1 rfl (Nat.le_of_ble_eq_true rfl) dL_law_2213 ⟨by show cells + 5 ≤ 601024; omega, by show slots + 30 ≤ 7293033; omega⟩ (fun v w H locs hp hW => ?_)
  rcases hp with ⟨j1, i1, rfl, hq0, hq1, hq2, hq3, hq4, hq5, hq6, ⟨K1, hU1, hK1⟩, hCI, hOut, hOuD⟩ | ⟨rfl, hq, ⟨K1, hU1, hK1⟩, hCI, hOut, hOuD⟩ | ⟨rfl, hq, ⟨K1, hU1, hK1⟩, hCI, hOut, hOuD⟩ | ⟨rfl, hq, ⟨K1, hU1, hK1⟩, hCI, hOut, hOuD⟩
  · have hRI := hRI.kept hU1 (fun k hk => by have := hK1 k hk; omega)
    obtain ⟨gx, rb, tu, gO, gF, gT, gE, gD, gC0, gC1, gC2, gC3, gC4, gP, gK, gV, gR, gU, hrow, hkx⟩ := hRI
    have gXj := hrow j1 hq0
    have gXi := hrow i1 hq2
    refine W.eq (g2 := F0 m 2216 ls [.int (nI 0)]) rfl ?_
    refine lv_istore (lv' := [(6, .int (nI 0)), (0, .ref b), (1, .ref (ad 0)), (2, .ref (ad 55)), (3, .ref (ad 74)), (4, .ref (ad 75)), (5, .int (nI i))]) S.1 S.2.1 dL_law_2216 hl (by decide) rfl (fun ls hl => ?_)
    refine lv_aload_n S.1 S.2.1 dL_law_2218 rfl (lv_at hl 3 rfl) ?_
    refine lv_aload_n S.1 S.2.1 dL_law_2219 rfl (lv_at hl 1 rfl) ?_
    refine lv_iload S.1 S.2.1 dL_law_2220 (lv_at hl 6 rfl) ?_
    refine lv_iconst (v := nI 1) S.1 S.2.1 dL_law_2222 (by decide) ?_
    refine jn_add S dL_law_2223 ?_
    refine j_sld (x := nI j1) S hX hbl hbA hW (vp_in_nI (by omega) (by omega)) (nI_clamp (by omega)) (hq1) dL_law_2224 ?_
    refine lv_aload_n S.1 S.2.1 dL_law_2225 rfl (lv_at hl 1 rfl) ?_
    refine lv_iload S.1 S.2.1 dL_law_2226 (lv_at hl 6 rfl) ?_
    refine lv_iconst (v := nI 2) S.1 S.2.1 dL_law_2228 (by decide) ?_
    refine jn_add S dL_law_2229 ?_
    refine j_sld (x := nI i1) S hX hbl hbA hW (vp_in_nI (by omega) (by omega)) (nI_clamp (by omega)) (hq3) dL_law_2230 ?_
    refine j_callV (k := 55) (ci := 11) (q := (RX12, TX12, 17)) (As := [.int (nI j1), .int (nI i1)]) (rest := []) S hK hA hW (c_X12_isWithin_ok l D cy ad th n nc kv gx j1 i1 gO gK gV gXj gXi   (by omega) (by omega) (kv_pos hkI hq0 hq4) (hq6.symm)) (jgo wm_L_260) yk_X12_isWithin gO rfl rfl ⟨⟨rfl, rfl⟩, by decide, by decide⟩ rfl hl.1 rfl (Nat.le_of_ble_eq_true rfl) dL_law_2231 ⟨by show (cells + 5) + 0 ≤ 601024; omega, by show (slots + 30) + 0 ≤ 7293033; omega⟩ (fun v w_ H locs hp hW => ?_)
    obtain ⟨rfl, hU1, hN1⟩ := hp
    have hU : jU w w_ [55, 56, 57, 58, 59, 60, 61, 62, 63, 64, 65, 66, 71, 72, 73, 74, 75] := jU.mono hU1 (by first | decide | (simp; done) | (simp; omega))
    have gF_ := hU1.get gF (by first | decide | (simp; done) | (simp; omega))
    have gT_ := hU1.get gT (by first | decide | (simp; done) | (simp; omega))
    have gE_ := hU1.get gE (by first | decide | (simp; done) | (simp; omega))
    have gD_ := hU1.get gD (by first | decide | (simp; done) | (simp; omega))
    have gC0_ := hU1.get gC0 (by first | decide | (simp; done) | (simp; omega))
    have gC1_ := hU1.get gC1 (by first | decide | (simp; done) | (simp; omega))
    have gC2_ := hU1.get gC2 (by first | decide | (simp; done) | (simp; omega))
    have gC3_ := hU1.get gC3 (by first | decide | (simp; done) | (simp; omega))
    have gC4_ := hU1.get gC4 (by first | decide | (simp; done) | (simp; omega))
    have gP_ := hU1.get gP (by first | decide | (simp; done) | (simp; omega))
    have gK_ := hU1.get gK (by first | decide | (simp; done) | (simp; omega))
    have gV_ := hU1.get gV (by first | decide | (simp; done) | (simp; omega))
    have gR_ := hU1.get gR (by first | decide | (simp; done) | (simp; omega))
    have gU_ := hU1.get gU (by first | decide | (simp; done) | (simp; omega))
    have hOut_ := hU1.get hOut (by first | decide | (simp; done) | (simp; omega))
    have hOuD_ := hU1.get hOuD (by first | decide | (simp; done) | (simp; omega))
    have gO_ : w_[55]? = some (ad 55, .inr (11, [.int (nI 0), .ref (ad 56), .ref (ad 57), .ref (ad 58), .ref (ad 59), .ref (ad 60), .ref (ad 61), .ref (ad 62), .ref (ad 63), .ref (ad 64), .ref (ad 65), .int (nI n), .int (nI nc), .ref (ad 66), .ref (ad 71), .ref (ad 72), .ref (ad 73)])) := hN1
    clear hU1 hN1
    refine W.eq (g2 := F0 m 2234 ls [.int (bI (allB (fun z => !gx j1 z || gx i1 z) 1024))]) rfl ?_
    refine lv_topi_to (y := bI (allB (fun a => !kx j1 a || kx i1 a) 1024)) (congrArg bI (within_ref (hkx j1 hq0 hq4) (hkx i1 hq2 hq5))) ?_
    refine lv_istore (lv' := [(7, .int (bI (allB (fun a => !kx j1 a || kx i1 a) 1024))), (6, .int (nI 0)), (0, .ref b), (1, .ref (ad 0)), (2, .ref (ad 55)), (3, .ref (ad 74)), (4, .ref (ad 75)), (5, .int (nI i))]) S.1 S.2.1 dL_law_2234 hl (by decide) rfl (fun ls hl => ?_)
    refine lv_aload_n S.1 S.2.1 dL_law_2236 rfl (lv_at hl 4 rfl) ?_
    refine j_callV (k := 55) (ci := 11) (q := (RX12, TX12, 17)) (As := []) (rest := []) S hK hA hW (c_X12_thrown l D cy ad 0 n nc gO_   ) (jgo wm_L_136) yk_X12_thrown gO_ rfl rfl ⟨⟨rfl, rfl⟩, by decide, by decide⟩ rfl hl.1 rfl (Nat.le_of_ble_eq_true rfl) dL_law_2237 ⟨by show (cells + 5) + 0 ≤ 601024; omega, by show (slots + 30) + 0 ≤ 7293033; omega⟩ (fun v u H locs hp hW => ?_)
    obtain ⟨rfl, rfl⟩ := hp
    refine W.eq (g2 := F0 m 2240 ls [.int (nI 0)]) rfl ?_
    refine lv_iload S.1 S.2.1 dL_law_2240 (lv_at hl 1 rfl) ?_
    refine jn_cmp_eq (tgt := 2247) S (by omega) (by omega) dL_law_2242 (by decide) (fun c_2242 => ?_) (fun c_2242 => ?_)
    · refine lv_iload S.1 S.2.1 dL_law_2247 (lv_at hl 1 rfl) ?_
      refine jn_if_ne (tgt := 2271) S (by omega) dL_law_2249 (by decide) (fun c_2249 => ?_) (fun c_2249 => ?_)
      · first | exact absurd (show 0 ≠ 0 from c_2249) (by decide) | exact absurd c_2249 (by decide)
      · refine lv_aload_n S.1 S.2.1 dL_law_2252 rfl (lv_at hl 5 rfl) ?_
        refine lv_iconst (v := nI 0) S.1 S.2.1 dL_law_2253 (by decide) ?_
        refine j_lald (x := lN (b01 (allB (fun a => !kx j1 a || kx i1 a) 1024))) S hK hW hOut_ (vp_in_nI (by omega) (by omega)) (nI_clamp (by omega)) (if_pos rfl) dL_law_2254 ?_
        refine lv_iload S.1 S.2.1 dL_law_2255 (lv_at hl 0 rfl) ?_
        refine jb_if_eq (tgt := 2264) S dL_law_2257 (by decide) (fun c_2257 => ?_) (fun c_2257 => ?_)
        · refine lv_lconst (v := lN 0) S.1 S.2.1 dL_law_2264 (by decide) ?_
          refine jl_eq (tgt := 2271) S dL_law_2265 dL_law_2266 (by decide) (fun c_2266 => ?_) (fun c_2266 => ?_)
          · refine lv_goto (tgt := 2382) S.1 S.2.1 dL_law_2271 (by decide) ?_
            exact W.widen (by omega) (by omega) (kk _ _ _ _ ⟨_, _, _, _, _, _, _, _, _, _, _, _, _, _, hPI, (hCI.kept hU (by first | decide | (intro k hk; simp at hk; omega))), ⟨gx, _, _, gO_, gF_, gT_, gE_, gD_, gC0_, gC1_, gC2_, gC3_, gC4_, gP_, gK_, gV_, gR_, gU_, fun j hj => hU.get (hrow j hj) (by simp; omega), hkx⟩, hOut_, hOuD_⟩ hW (lv_sub hl [2, 3, 4, 5, 6, 7] rfl))
          · exact absurd (by rw [c_2257]; rfl) c_2266
        · refine lv_lconst (v := lN 1) S.1 S.2.1 dL_law_2260 (by decide) ?_
          refine lv_goto (tgt := 2265) S.1 S.2.1 dL_law_2261 (by decide) ?_
          refine jl_eq (tgt := 2271) S dL_law_2265 dL_law_2266 (by decide) (fun c_2266 => ?_) (fun c_2266 => ?_)
          · refine lv_goto (tgt := 2382) S.1 S.2.1 dL_law_2271 (by decide) ?_
            exact W.widen (by omega) (by omega) (kk _ _ _ _ ⟨_, _, _, _, _, _, _, _, _, _, _, _, _, _, hPI, (hCI.kept hU (by first | decide | (intro k hk; simp at hk; omega))), ⟨gx, _, _, gO_, gF_, gT_, gE_, gD_, gC0_, gC1_, gC2_, gC3_, gC4_, gP_, gK_, gV_, gR_, gU_, fun j hj => hU.get (hrow j hj) (by simp; omega), hkx⟩, hOut_, hOuD_⟩ hW (lv_sub hl [2, 3, 4, 5, 6, 7] rfl))
          · exact absurd (by rw [c_2257]; rfl) c_2266
    · first | exact absurd (show 0 ≠ 0 from c_2242) (by decide) | exact absurd c_2242 (by decide)
  · have hRI := hRI.kept hU1 (fun k hk => by have := hK1 k hk; omega)
    obtain ⟨gx, rb, tu, gO, gF, gT, gE, gD, gC0, gC1, gC2, gC3, gC4, gP, gK, gV, gR, gU, hrow, hkx⟩ := hRI
    refine W.eq (g2 := F0 m 2216 ls [.int (nI 1)]) rfl ?_
    refine lv_istore (lv' := [(6, .int (nI 1)), (0, .ref b), (1, .ref (ad 0)), (2, .ref (ad 55)), (3, .ref (ad 74)), (4, .ref (ad 75)), (5, .int (nI i))]) S.1 S.2.1 dL_law_2216 hl (by decide) rfl (fun ls hl => ?_)
    refine lv_aload_n S.1 S.2.1 dL_law_2218 rfl (lv_at hl 3 rfl) ?_
    refine lv_aload_n S.1 S.2.1 dL_law_2219 rfl (lv_at hl 1 rfl) ?_
    refine lv_iload S.1 S.2.1 dL_law_2220 (lv_at hl 6 rfl) ?_
    refine lv_iconst (v := nI 1) S.1 S.2.1 dL_law_2222 (by decide) ?_
    refine jn_add S dL_law_2223 ?_
    refine j_sld (x := xs (i + 1)) S hX hbl hbA hW (vp_in_nI (by omega) (by omega)) (nI_clamp (by omega)) (rfl) dL_law_2224 ?_
    refine lv_aload_n S.1 S.2.1 dL_law_2225 rfl (lv_at hl 1 rfl) ?_
    refine lv_iload S.1 S.2.1 dL_law_2226 (lv_at hl 6 rfl) ?_
    refine lv_iconst (v := nI 2) S.1 S.2.1 dL_law_2228 (by decide) ?_
    refine jn_add S dL_law_2229 ?_
    refine j_sld (x := xs (i + 2)) S hX hbl hbA hW (vp_in_nI (by omega) (by omega)) (nI_clamp (by omega)) (rfl) dL_law_2230 ?_
    refine j_callV (k := 55) (ci := 11) (q := (RX12, TX12, 17)) (As := [.int (xs (i + 1)), .int (xs (i + 2))]) (rest := []) S hK hA hW (c_X12_isWithin_b1 l D cy ad th n nc (xs (i + 1)) (xs (i + 2)) gO   (hq.imp id (fun h => h.2))) (jgo wm_L_260) yk_X12_isWithin gO rfl rfl ⟨⟨rfl, rfl⟩, by decide, by decide⟩ rfl hl.1 rfl (Nat.le_of_ble_eq_true rfl) dL_law_2231 ⟨by show (cells + 5) + 0 ≤ 601024; omega, by show (slots + 30) + 0 ≤ 7293033; omega⟩ (fun v w_ H locs hp hW => ?_)
    obtain ⟨rfl, hU1, hN1⟩ := hp
    have hU : jU w w_ [55, 56, 57, 58, 59, 60, 61, 62, 63, 64, 65, 66, 71, 72, 73, 74, 75] := jU.mono hU1 (by first | decide | (simp; done) | (simp; omega))
    have gF_ := hU1.get gF (by first | decide | (simp; done) | (simp; omega))
    have gT_ := hU1.get gT (by first | decide | (simp; done) | (simp; omega))
    have gE_ := hU1.get gE (by first | decide | (simp; done) | (simp; omega))
    have gD_ := hU1.get gD (by first | decide | (simp; done) | (simp; omega))
    have gC0_ := hU1.get gC0 (by first | decide | (simp; done) | (simp; omega))
    have gC1_ := hU1.get gC1 (by first | decide | (simp; done) | (simp; omega))
    have gC2_ := hU1.get gC2 (by first | decide | (simp; done) | (simp; omega))
    have gC3_ := hU1.get gC3 (by first | decide | (simp; done) | (simp; omega))
    have gC4_ := hU1.get gC4 (by first | decide | (simp; done) | (simp; omega))
    have gP_ := hU1.get gP (by first | decide | (simp; done) | (simp; omega))
    have gK_ := hU1.get gK (by first | decide | (simp; done) | (simp; omega))
    have gV_ := hU1.get gV (by first | decide | (simp; done) | (simp; omega))
    have gR_ := hU1.get gR (by first | decide | (simp; done) | (simp; omega))
    have gU_ := hU1.get gU (by first | decide | (simp; done) | (simp; omega))
    have hOut_ := hU1.get hOut (by first | decide | (simp; done) | (simp; omega))
    have hOuD_ := hU1.get hOuD (by first | decide | (simp; done) | (simp; omega))
    have gO_ : w_[55]? = some (ad 55, .inr (11, [.int (nI 1), .ref (ad 56), .ref (ad 57), .ref (ad 58), .ref (ad 59), .ref (ad 60), .ref (ad 61), .ref (ad 62), .ref (ad 63), .ref (ad 64), .ref (ad 65), .int (nI n), .int (nI nc), .ref (ad 66), .ref (ad 71), .ref (ad 72), .ref (ad 73)])) := hN1
    clear hU1 hN1
    refine W.eq (g2 := F0 m 2234 ls [.int (bI false)]) rfl ?_
    refine lv_istore (lv' := [(7, .int (bI false)), (6, .int (nI 1)), (0, .ref b), (1, .ref (ad 0)), (2, .ref (ad 55)), (3, .ref (ad 74)), (4, .ref (ad 75)), (5, .int (nI i))]) S.1 S.2.1 dL_law_2234 hl (by decide) rfl (fun ls hl => ?_)
    refine lv_aload_n S.1 S.2.1 dL_law_2236 rfl (lv_at hl 4 rfl) ?_
    refine j_callV (k := 55) (ci := 11) (q := (RX12, TX12, 17)) (As := []) (rest := []) S hK hA hW (c_X12_thrown l D cy ad 1 n nc gO_   ) (jgo wm_L_136) yk_X12_thrown gO_ rfl rfl ⟨⟨rfl, rfl⟩, by decide, by decide⟩ rfl hl.1 rfl (Nat.le_of_ble_eq_true rfl) dL_law_2237 ⟨by show (cells + 5) + 0 ≤ 601024; omega, by show (slots + 30) + 0 ≤ 7293033; omega⟩ (fun v u H locs hp hW => ?_)
    obtain ⟨rfl, rfl⟩ := hp
    refine W.eq (g2 := F0 m 2240 ls [.int (nI 1)]) rfl ?_
    refine lv_iload S.1 S.2.1 dL_law_2240 (lv_at hl 1 rfl) ?_
    refine jn_cmp_eq (tgt := 2247) S (by omega) (by omega) dL_law_2242 (by decide) (fun c_2242 => ?_) (fun c_2242 => ?_)
    · refine lv_iload S.1 S.2.1 dL_law_2247 (lv_at hl 1 rfl) ?_
      refine jn_if_ne (tgt := 2271) S (by omega) dL_law_2249 (by decide) (fun c_2249 => ?_) (fun c_2249 => ?_)
      · refine lv_goto (tgt := 2382) S.1 S.2.1 dL_law_2271 (by decide) ?_
        exact W.widen (by omega) (by omega) (kk _ _ _ _ ⟨_, _, _, _, _, _, _, _, _, _, _, _, _, _, hPI, (hCI.kept hU (by first | decide | (intro k hk; simp at hk; omega))), ⟨gx, _, _, gO_, gF_, gT_, gE_, gD_, gC0_, gC1_, gC2_, gC3_, gC4_, gP_, gK_, gV_, gR_, gU_, fun j hj => hU.get (hrow j hj) (by simp; omega), hkx⟩, hOut_, hOuD_⟩ hW (lv_sub hl [2, 3, 4, 5, 6, 7] rfl))
      · first | exact absurd (show 1 = 0 from c_2249) (by decide) | exact absurd c_2249 (by decide)
    · first | exact absurd (show 1 ≠ 1 from c_2242) (by decide) | exact absurd c_2242 (by decide)
  · have hRI := hRI.kept hU1 (fun k hk => by have := hK1 k hk; omega)
    obtain ⟨gx, rb, tu, gO, gF, gT, gE, gD, gC0, gC1, gC2, gC3, gC4, gP, gK, gV, gR, gU, hrow, hkx⟩ := hRI
    obtain ⟨j1, i1, h1, e1, h2, e2, hk⟩ := hq
    refine W.eq (g2 := F0 m 2216 ls [.int (nI 2)]) rfl ?_
    refine lv_istore (lv' := [(6, .int (nI 2)), (0, .ref b), (1, .ref (ad 0)), (2, .ref (ad 55)), (3, .ref (ad 74)), (4, .ref (ad 75)), (5, .int (nI i))]) S.1 S.2.1 dL_law_2216 hl (by decide) rfl (fun ls hl => ?_)
    refine lv_aload_n S.1 S.2.1 dL_law_2218 rfl (lv_at hl 3 rfl) ?_
    refine lv_aload_n S.1 S.2.1 dL_law_2219 rfl (lv_at hl 1 rfl) ?_
    refine lv_iload S.1 S.2.1 dL_law_2220 (lv_at hl 6 rfl) ?_
    refine lv_iconst (v := nI 1) S.1 S.2.1 dL_law_2222 (by decide) ?_
    refine jn_add S dL_law_2223 ?_
    refine j_sld (x := nI j1) S hX hbl hbA hW (vp_in_nI (by omega) (by omega)) (nI_clamp (by omega)) (e1) dL_law_2224 ?_
    refine lv_aload_n S.1 S.2.1 dL_law_2225 rfl (lv_at hl 1 rfl) ?_
    refine lv_iload S.1 S.2.1 dL_law_2226 (lv_at hl 6 rfl) ?_
    refine lv_iconst (v := nI 2) S.1 S.2.1 dL_law_2228 (by decide) ?_
    refine jn_add S dL_law_2229 ?_
    refine j_sld (x := nI i1) S hX hbl hbA hW (vp_in_nI (by omega) (by omega)) (nI_clamp (by omega)) (e2) dL_law_2230 ?_
    refine j_callV (k := 55) (ci := 11) (q := (RX12, TX12, 17)) (As := [.int (nI j1), .int (nI i1)]) (rest := []) S hK hA hW (c_X12_isWithin_b2 l D cy ad th n nc kv j1 i1 gO gV   (by omega) (by omega) (hk.imp kv_neg kv_neg)) (jgo wm_L_260) yk_X12_isWithin gO rfl rfl ⟨⟨rfl, rfl⟩, by decide, by decide⟩ rfl hl.1 rfl (Nat.le_of_ble_eq_true rfl) dL_law_2231 ⟨by show (cells + 5) + 0 ≤ 601024; omega, by show (slots + 30) + 0 ≤ 7293033; omega⟩ (fun v w_ H locs hp hW => ?_)
    obtain ⟨rfl, hU1, hN1⟩ := hp
    have hU : jU w w_ [55, 56, 57, 58, 59, 60, 61, 62, 63, 64, 65, 66, 71, 72, 73, 74, 75] := jU.mono hU1 (by first | decide | (simp; done) | (simp; omega))
    have gF_ := hU1.get gF (by first | decide | (simp; done) | (simp; omega))
    have gT_ := hU1.get gT (by first | decide | (simp; done) | (simp; omega))
    have gE_ := hU1.get gE (by first | decide | (simp; done) | (simp; omega))
    have gD_ := hU1.get gD (by first | decide | (simp; done) | (simp; omega))
    have gC0_ := hU1.get gC0 (by first | decide | (simp; done) | (simp; omega))
    have gC1_ := hU1.get gC1 (by first | decide | (simp; done) | (simp; omega))
    have gC2_ := hU1.get gC2 (by first | decide | (simp; done) | (simp; omega))
    have gC3_ := hU1.get gC3 (by first | decide | (simp; done) | (simp; omega))
    have gC4_ := hU1.get gC4 (by first | decide | (simp; done) | (simp; omega))
    have gP_ := hU1.get gP (by first | decide | (simp; done) | (simp; omega))
    have gK_ := hU1.get gK (by first | decide | (simp; done) | (simp; omega))
    have gV_ := hU1.get gV (by first | decide | (simp; done) | (simp; omega))
    have gR_ := hU1.get gR (by first | decide | (simp; done) | (simp; omega))
    have gU_ := hU1.get gU (by first | decide | (simp; done) | (simp; omega))
    have hOut_ := hU1.get hOut (by first | decide | (simp; done) | (simp; omega))
    have hOuD_ := hU1.get hOuD (by first | decide | (simp; done) | (simp; omega))
    have gO_ : w_[55]? = some (ad 55, .inr (11, [.int (nI 2), .ref (ad 56), .ref (ad 57), .ref (ad 58), .ref (ad 59), .ref (ad 60), .ref (ad 61), .ref (ad 62), .ref (ad 63), .ref (ad 64), .ref (ad 65), .int (nI n), .int (nI nc), .ref (ad 66), .ref (ad 71), .ref (ad 72), .ref (ad 73)])) := hN1
    clear hU1 hN1
    refine W.eq (g2 := F0 m 2234 ls [.int (bI false)]) rfl ?_
    refine lv_istore (lv' := [(7, .int (bI false)), (6, .int (nI 2)), (0, .ref b), (1, .ref (ad 0)), (2, .ref (ad 55)), (3, .ref (ad 74)), (4, .ref (ad 75)), (5, .int (nI i))]) S.1 S.2.1 dL_law_2234 hl (by decide) rfl (fun ls hl => ?_)
    refine lv_aload_n S.1 S.2.1 dL_law_2236 rfl (lv_at hl 4 rfl) ?_
    refine j_callV (k := 55) (ci := 11) (q := (RX12, TX12, 17)) (As := []) (rest := []) S hK hA hW (c_X12_thrown l D cy ad 2 n nc gO_   ) (jgo wm_L_136) yk_X12_thrown gO_ rfl rfl ⟨⟨rfl, rfl⟩, by decide, by decide⟩ rfl hl.1 rfl (Nat.le_of_ble_eq_true rfl) dL_law_2237 ⟨by show (cells + 5) + 0 ≤ 601024; omega, by show (slots + 30) + 0 ≤ 7293033; omega⟩ (fun v u H locs hp hW => ?_)
    obtain ⟨rfl, rfl⟩ := hp
    refine W.eq (g2 := F0 m 2240 ls [.int (nI 2)]) rfl ?_
    refine lv_iload S.1 S.2.1 dL_law_2240 (lv_at hl 1 rfl) ?_
    refine jn_cmp_eq (tgt := 2247) S (by omega) (by omega) dL_law_2242 (by decide) (fun c_2242 => ?_) (fun c_2242 => ?_)
    · refine lv_iload S.1 S.2.1 dL_law_2247 (lv_at hl 1 rfl) ?_
      refine jn_if_ne (tgt := 2271) S (by omega) dL_law_2249 (by decide) (fun c_2249 => ?_) (fun c_2249 => ?_)
      · refine lv_goto (tgt := 2382) S.1 S.2.1 dL_law_2271 (by decide) ?_
        exact W.widen (by omega) (by omega) (kk _ _ _ _ ⟨_, _, _, _, _, _, _, _, _, _, _, _, _, _, hPI, (hCI.kept hU (by first | decide | (intro k hk; simp at hk; omega))), ⟨gx, _, _, gO_, gF_, gT_, gE_, gD_, gC0_, gC1_, gC2_, gC3_, gC4_, gP_, gK_, gV_, gR_, gU_, fun j hj => hU.get (hrow j hj) (by simp; omega), hkx⟩, hOut_, hOuD_⟩ hW (lv_sub hl [2, 3, 4, 5, 6, 7] rfl))
      · first | exact absurd (show 2 = 0 from c_2249) (by decide) | exact absurd c_2249 (by decide)
    · first | exact absurd (show 2 ≠ 2 from c_2242) (by decide) | exact absurd c_2242 (by decide)
  · have hRI := hRI.kept hU1 (fun k hk => by have := hK1 k hk; omega)
    obtain ⟨gx, rb, tu, gO, gF, gT, gE, gD, gC0, gC1, gC2, gC3, gC4, gP, gK, gV, gR, gU, hrow, hkx⟩ := hRI
    obtain ⟨j1, i1, h1, e1, h2, e2, hk, hk2, hk3⟩ := hq
    refine W.eq (g2 := F0 m 2216 ls [.int (nI 3)]) rfl ?_
    refine lv_istore (lv' := [(6, .int (nI 3)), (0, .ref b), (1, .ref (ad 0)), (2, .ref (ad 55)), (3, .ref (ad 74)), (4, .ref (ad 75)), (5, .int (nI i))]) S.1 S.2.1 dL_law_2216 hl (by decide) rfl (fun ls hl => ?_)
    refine lv_aload_n S.1 S.2.1 dL_law_2218 rfl (lv_at hl 3 rfl) ?_
    refine lv_aload_n S.1 S.2.1 dL_law_2219 rfl (lv_at hl 1 rfl) ?_
    refine lv_iload S.1 S.2.1 dL_law_2220 (lv_at hl 6 rfl) ?_
    refine lv_iconst (v := nI 1) S.1 S.2.1 dL_law_2222 (by decide) ?_
    refine jn_add S dL_law_2223 ?_
    refine j_sld (x := nI j1) S hX hbl hbA hW (vp_in_nI (by omega) (by omega)) (nI_clamp (by omega)) (e1) dL_law_2224 ?_
    refine lv_aload_n S.1 S.2.1 dL_law_2225 rfl (lv_at hl 1 rfl) ?_
    refine lv_iload S.1 S.2.1 dL_law_2226 (lv_at hl 6 rfl) ?_
    refine lv_iconst (v := nI 2) S.1 S.2.1 dL_law_2228 (by decide) ?_
    refine jn_add S dL_law_2229 ?_
    refine j_sld (x := nI i1) S hX hbl hbA hW (vp_in_nI (by omega) (by omega)) (nI_clamp (by omega)) (e2) dL_law_2230 ?_
    refine j_callV (k := 55) (ci := 11) (q := (RX12, TX12, 17)) (As := [.int (nI j1), .int (nI i1)]) (rest := []) S hK hA hW (c_X12_isWithin_b3 l D cy ad th n nc kv j1 i1 gO gV   (by omega) (by omega) (kv_pos hkI h1 hk) (kv_pos hkI h2 hk2) (hk3)) (jgo wm_L_260) yk_X12_isWithin gO rfl rfl ⟨⟨rfl, rfl⟩, by decide, by decide⟩ rfl hl.1 rfl (Nat.le_of_ble_eq_true rfl) dL_law_2231 ⟨by show (cells + 5) + 0 ≤ 601024; omega, by show (slots + 30) + 0 ≤ 7293033; omega⟩ (fun v w_ H locs hp hW => ?_)
    obtain ⟨rfl, hU1, hN1⟩ := hp
    have hU : jU w w_ [55, 56, 57, 58, 59, 60, 61, 62, 63, 64, 65, 66, 71, 72, 73, 74, 75] := jU.mono hU1 (by first | decide | (simp; done) | (simp; omega))
    have gF_ := hU1.get gF (by first | decide | (simp; done) | (simp; omega))
    have gT_ := hU1.get gT (by first | decide | (simp; done) | (simp; omega))
    have gE_ := hU1.get gE (by first | decide | (simp; done) | (simp; omega))
    have gD_ := hU1.get gD (by first | decide | (simp; done) | (simp; omega))
    have gC0_ := hU1.get gC0 (by first | decide | (simp; done) | (simp; omega))
    have gC1_ := hU1.get gC1 (by first | decide | (simp; done) | (simp; omega))
    have gC2_ := hU1.get gC2 (by first | decide | (simp; done) | (simp; omega))
    have gC3_ := hU1.get gC3 (by first | decide | (simp; done) | (simp; omega))
    have gC4_ := hU1.get gC4 (by first | decide | (simp; done) | (simp; omega))
    have gP_ := hU1.get gP (by first | decide | (simp; done) | (simp; omega))
    have gK_ := hU1.get gK (by first | decide | (simp; done) | (simp; omega))
    have gV_ := hU1.get gV (by first | decide | (simp; done) | (simp; omega))
    have gR_ := hU1.get gR (by first | decide | (simp; done) | (simp; omega))
    have gU_ := hU1.get gU (by first | decide | (simp; done) | (simp; omega))
    have hOut_ := hU1.get hOut (by first | decide | (simp; done) | (simp; omega))
    have hOuD_ := hU1.get hOuD (by first | decide | (simp; done) | (simp; omega))
    have gO_ : w_[55]? = some (ad 55, .inr (11, [.int (nI 3), .ref (ad 56), .ref (ad 57), .ref (ad 58), .ref (ad 59), .ref (ad 60), .ref (ad 61), .ref (ad 62), .ref (ad 63), .ref (ad 64), .ref (ad 65), .int (nI n), .int (nI nc), .ref (ad 66), .ref (ad 71), .ref (ad 72), .ref (ad 73)])) := hN1
    clear hU1 hN1
    refine W.eq (g2 := F0 m 2234 ls [.int (bI false)]) rfl ?_
    refine lv_istore (lv' := [(7, .int (bI false)), (6, .int (nI 3)), (0, .ref b), (1, .ref (ad 0)), (2, .ref (ad 55)), (3, .ref (ad 74)), (4, .ref (ad 75)), (5, .int (nI i))]) S.1 S.2.1 dL_law_2234 hl (by decide) rfl (fun ls hl => ?_)
    refine lv_aload_n S.1 S.2.1 dL_law_2236 rfl (lv_at hl 4 rfl) ?_
    refine j_callV (k := 55) (ci := 11) (q := (RX12, TX12, 17)) (As := []) (rest := []) S hK hA hW (c_X12_thrown l D cy ad 3 n nc gO_   ) (jgo wm_L_136) yk_X12_thrown gO_ rfl rfl ⟨⟨rfl, rfl⟩, by decide, by decide⟩ rfl hl.1 rfl (Nat.le_of_ble_eq_true rfl) dL_law_2237 ⟨by show (cells + 5) + 0 ≤ 601024; omega, by show (slots + 30) + 0 ≤ 7293033; omega⟩ (fun v u H locs hp hW => ?_)
    obtain ⟨rfl, rfl⟩ := hp
    refine W.eq (g2 := F0 m 2240 ls [.int (nI 3)]) rfl ?_
    refine lv_iload S.1 S.2.1 dL_law_2240 (lv_at hl 1 rfl) ?_
    refine jn_cmp_eq (tgt := 2247) S (by omega) (by omega) dL_law_2242 (by decide) (fun c_2242 => ?_) (fun c_2242 => ?_)
    · refine lv_iload S.1 S.2.1 dL_law_2247 (lv_at hl 1 rfl) ?_
      refine jn_if_ne (tgt := 2271) S (by omega) dL_law_2249 (by decide) (fun c_2249 => ?_) (fun c_2249 => ?_)
      · refine lv_goto (tgt := 2382) S.1 S.2.1 dL_law_2271 (by decide) ?_
        exact W.widen (by omega) (by omega) (kk _ _ _ _ ⟨_, _, _, _, _, _, _, _, _, _, _, _, _, _, hPI, (hCI.kept hU (by first | decide | (intro k hk; simp at hk; omega))), ⟨gx, _, _, gO_, gF_, gT_, gE_, gD_, gC0_, gC1_, gC2_, gC3_, gC4_, gP_, gK_, gV_, gR_, gU_, fun j hj => hU.get (hrow j hj) (by simp; omega), hkx⟩, hOut_, hOuD_⟩ hW (lv_sub hl [2, 3, 4, 5, 6, 7] rfl))
      · first | exact absurd (show 3 = 0 from c_2249) (by decide) | exact absurd c_2249 (by decide)
    · first | exact absurd (show 3 ≠ 3 from c_2242) (by decide) | exact absurd c_2242 (by decide)
/-- the law's density -/
theorem s_density {p : Program} {l : Launch} {e : Env} {s : State} {m : MethodId} {args : Array Value} {below : List Frame} {meth : Method} {c : Code} {Q : State → Prop} {D : va_G} {cy : Nat → ClassId} {A : Nat → Prop} {x0 : Cond} {ad : Nat → Nat} {b L : Nat} {xs : Nat → Int32} {i : Nat} {w : va_W} {H : Heap} {locs : List Loc} {ls : Array Slot} {cells slots : Nat} (htr : l.stackTraces = false) (C : LX p s m c args D cy A b L xs x0) (hI : INV ad cy w) (hW : jW D A s.heap w H locs) (hl : lv_has ls 10 [(0, .ref b), (1, .ref (ad 0)), (2, .ref (ad 55)), (3, .ref (ad 74)), (4, .ref (ad 75)), (5, .int (nI i))]) (hi : i + 5 ≤ L) (hL : L ≤ 2560) (hc : cells + 10 ≤ 601024) (hs : slots + 64 ≤ 7293033) (kk : LK p l e s m args below meth c Q D cy A ad b i cells slots) : W p l e room_1 s m args below meth c H locs cells slots Q (F0 m 2274 ls []) := by
  obtain ⟨S, hK, hA, hX, hbl, hbA, hx, hnx⟩ := C
  obtain ⟨n, wf, wt, od, sd, se, nc, lv, cs, kv, kx, th, og, ogd, hPI, hCI, hRI, hOut, hOuD⟩ := hI
  have hPI0 := hPI
  obtain ⟨hn, hsdn, hse2, hnc, hlvn, hcs, hkI, hod, hodn, hinj⟩ := hPI0
  have hp2 := two_pow10 hn
  have hpt := Nat.two_pow_pos n
  have hWB := hCI.wb
  refine lv_aload_n S.1 S.2.1 dL_law_2274 rfl (lv_at hl 1 rfl) ?_
  have hsd : sd < 1024 := by omega
  have hse : se < 1024 := by rw [← hse2]; exact Nat.lt_of_le_of_lt Nat.and_le_right hsd
  have hlv : lv < 2 ^ 20 := Nat.lt_of_lt_of_le hlvn (Nat.pow_le_pow_right (by decide) hnc)
  have hCI0 := hCI
  obtain ⟨bO, bW, bD, bC, bM, bP, bR, bX, bS⟩ := hCI0
  have bO0 := bO
  obtain ⟨fr, mv, MX, hO, hMo, hMl, hMa, hfr⟩ := bO
  have bC0 := bC
  obtain ⟨tf, cp, ca, hC, hT, hcon⟩ := bC
  refine j_callV (k := 0) (ci := 10) (q := (RX11, TX11, 15)) (As := []) (rest := []) S hK hA hW (c_X11_density l D cy ad n sd se fr nc lv tf cp ca cs mv MX hO hMo hMl hMa hC hT hcon hn hsd hse hlv hfr) (jgo wm_L_261) yk_X11_density hO rfl rfl ⟨⟨rfl, rfl⟩, by decide, by decide⟩ rfl hl.1 rfl (Nat.le_of_ble_eq_true rfl) dL_law_2275 ⟨by show cells + 0 ≤ 601024; omega, by show slots + 0 ≤ 7293033; omega⟩ (fun v w H locs hp hW => ?_)
  obtain ⟨rfl, hU1, hN1, hN2, hN3⟩ := hp
  have hCI : CI ad cy w n wf wt od sd se nc lv cs kv kx := ⟨⟨_, _, _, hN1, hN2, (hU1.get hMl (by decide)), hN3, by first | exact fun _ => ⟨rfl, rfl⟩ | exact hfr⟩, bW.kept hU1 (by decide), bD.kept hU1 (by decide), bC0.kept hU1 (by decide), bM.kept hU1 (by decide), bP.kept hU1 (by decide), bR.kept hU1 (by decide), bX.kept hU1 (by decide), bS.kept hU1 (by decide)⟩
  have hOut := hU1.get hOut (by decide)
  have hOuD := hU1.get hOuD (by decide)
  have hRI := hRI.kept hU1 (by decide)
  obtain ⟨gx, rb, tu, gO, gF, gT, gE, gD, gC0, gC1, gC2, gC3, gC4, gP, gK, gV, gR, gU, hrow, hkx⟩ := hRI
  refine W.eq (g2 := F0 m 2278 ls [.float (FP.fdiv (FP.i2f (nI (cnt (mdl n sd se nc cs lv) 1024))) (FP.i2f (nI (2 ^ n))))]) rfl ?_
  refine lv_f2d S.1 S.2.1 dL_law_2278 (jf_f2d _ (nI_ne0 (by omega) (by omega))) ?_
  refine lv_dstore (lv' := [(6, .double (FP.f2d (FP.fdiv (FP.i2f (nI (cnt (mdl n sd se nc cs lv) 1024))) (FP.i2f (nI (2 ^ n)))))), (0, .ref b), (1, .ref (ad 0)), (2, .ref (ad 55)), (3, .ref (ad 74)), (4, .ref (ad 75)), (5, .int (nI i))]) S.1 S.2.1 dL_law_2279 hl (by decide) rfl (fun ls hl => ?_)
  refine lv_aload_n S.1 S.2.1 dL_law_2281 rfl (lv_at hl 3 rfl) ?_
  refine j_callV (k := 55) (ci := 11) (q := (RX12, TX12, 17)) (As := []) (rest := []) S hK hA hW (c_X12_density l D cy ad th n nc sd se lv cs gO gE gP gC0 gC1 gC2 gC3 gC4   (by omega) (by omega) (hse2) (by omega) (hcs)) (jgo wm_L_265) yk_X12_density gO rfl rfl ⟨⟨rfl, rfl⟩, by decide, by decide⟩ rfl hl.1 rfl (Nat.le_of_ble_eq_true rfl) dL_law_2282 ⟨by show cells + 0 ≤ 601024; omega, by show slots + 0 ≤ 7293033; omega⟩ (fun v w_ H locs hp hW => ?_)
  obtain ⟨rfl, hU1, hN1⟩ := hp
  have hU : jU w w_ [55, 56, 57, 58, 59, 60, 61, 62, 63, 64, 65, 66, 71, 72, 73, 74, 75] := jU.mono hU1 (by first | decide | (simp; done) | (simp; omega))
  have gF_ := hU1.get gF (by first | decide | (simp; done) | (simp; omega))
  have gT_ := hU1.get gT (by first | decide | (simp; done) | (simp; omega))
  have gE_ := hU1.get gE (by first | decide | (simp; done) | (simp; omega))
  have gD_ := hU1.get gD (by first | decide | (simp; done) | (simp; omega))
  have gC0_ := hU1.get gC0 (by first | decide | (simp; done) | (simp; omega))
  have gC1_ := hU1.get gC1 (by first | decide | (simp; done) | (simp; omega))
  have gC2_ := hU1.get gC2 (by first | decide | (simp; done) | (simp; omega))
  have gC3_ := hU1.get gC3 (by first | decide | (simp; done) | (simp; omega))
  have gC4_ := hU1.get gC4 (by first | decide | (simp; done) | (simp; omega))
  have gP_ := hU1.get gP (by first | decide | (simp; done) | (simp; omega))
  have gK_ := hU1.get gK (by first | decide | (simp; done) | (simp; omega))
  have gV_ := hU1.get gV (by first | decide | (simp; done) | (simp; omega))
  have gR_ := hU1.get gR (by first | decide | (simp; done) | (simp; omega))
  have gU_ := hU1.get gU (by first | decide | (simp; done) | (simp; omega))
  have hOut_ := hU1.get hOut (by first | decide | (simp; done) | (simp; omega))
  have hOuD_ := hU1.get hOuD (by first | decide | (simp; done) | (simp; omega))
  have gO_ : w_[55]? = some (ad 55, .inr (11, [.int (nI 0), .ref (ad 56), .ref (ad 57), .ref (ad 58), .ref (ad 59), .ref (ad 60), .ref (ad 61), .ref (ad 62), .ref (ad 63), .ref (ad 64), .ref (ad 65), .int (nI n), .int (nI nc), .ref (ad 66), .ref (ad 71), .ref (ad 72), .ref (ad 73)])) := hN1
  clear hU1 hN1
  refine W.eq (g2 := F0 m 2285 ls [.float (FP.fdiv (FP.l2f (lN (cnt (mdc sd se nc cs lv) (2 ^ n)))) (FP.i2f (nI (2 ^ n))))]) rfl ?_
  refine lv_topv_to (y := .float (FP.fdiv (FP.i2f (nI (cnt (mdl n sd se nc cs lv) 1024))) (FP.i2f (nI (2 ^ n))))) (congrArg Value.float (by rw [jf_l2f (Nat.lt_of_le_of_lt (cnt_le _ _) (by omega)), mdl_n hn])) ?_
  refine lv_f2d S.1 S.2.1 dL_law_2285 (jf_f2d _ (nI_ne0 (by omega) (by omega))) ?_
  refine lv_dstore (lv' := [(8, .double (FP.f2d (FP.fdiv (FP.i2f (nI (cnt (mdl n sd se nc cs lv) 1024))) (FP.i2f (nI (2 ^ n)))))), (6, .double (FP.f2d (FP.fdiv (FP.i2f (nI (cnt (mdl n sd se nc cs lv) 1024))) (FP.i2f (nI (2 ^ n)))))), (0, .ref b), (1, .ref (ad 0)), (2, .ref (ad 55)), (3, .ref (ad 74)), (4, .ref (ad 75)), (5, .int (nI i))]) S.1 S.2.1 dL_law_2286 hl (by decide) rfl (fun ls hl => ?_)
  refine lv_dload S.1 S.2.1 dL_law_2288 (lv_at hl 1 rfl) ?_
  refine lv_dload S.1 S.2.1 dL_law_2290 (lv_at hl 0 rfl) ?_
  refine lv_dcmp S.1 S.2.1 dL_law_2292 ?_
  refine lv_if_eq (tgt := 2314) S.1 S.2.1 dL_law_2293 (by decide) (fun c_2293 => ?_) (fun c_2293 => ?_)
  · refine lv_goto (tgt := 2382) S.1 S.2.1 dL_law_2314 (by decide) ?_
    exact W.widen (by omega) (by omega) (kk _ _ _ _ ⟨_, _, _, _, _, _, _, _, _, _, _, _, _, _, hPI, (hCI.kept hU (by first | decide | (intro k hk; simp at hk; omega))), ⟨gx, _, _, gO_, gF_, gT_, gE_, gD_, gC0_, gC1_, gC2_, gC3_, gC4_, gP_, gK_, gV_, gR_, gU_, fun j hj => hU.get (hrow j hj) (by simp; omega), hkx⟩, hOut_, hOuD_⟩ hW (lv_sub hl [2, 3, 4, 5, 6, 7] rfl))
  · refine lv_dload S.1 S.2.1 dL_law_2296 (lv_at hl 1 rfl) ?_
    refine lv_dload S.1 S.2.1 dL_law_2298 (lv_at hl 1 rfl) ?_
    refine lv_dcmp S.1 S.2.1 dL_law_2300 ?_
    refine lv_if_eq (tgt := 2312) S.1 S.2.1 dL_law_2301 (by decide) (fun c_2301 => ?_) (fun c_2301 => ?_)
    · exact absurd c_2301 c_2293
    · refine lv_dload S.1 S.2.1 dL_law_2304 (lv_at hl 0 rfl) ?_
      refine lv_dload S.1 S.2.1 dL_law_2306 (lv_at hl 0 rfl) ?_
      refine lv_dcmp S.1 S.2.1 dL_law_2308 ?_
      refine lv_if_ne (tgt := 2314) S.1 S.2.1 dL_law_2309 (by decide) (fun c_2309 => ?_) (fun c_2309 => ?_)
      · refine lv_goto (tgt := 2382) S.1 S.2.1 dL_law_2314 (by decide) ?_
        exact W.widen (by omega) (by omega) (kk _ _ _ _ ⟨_, _, _, _, _, _, _, _, _, _, _, _, _, _, hPI, (hCI.kept hU (by first | decide | (intro k hk; simp at hk; omega))), ⟨gx, _, _, gO_, gF_, gT_, gE_, gD_, gC0_, gC1_, gC2_, gC3_, gC4_, gP_, gK_, gV_, gR_, gU_, fun j hj => hU.get (hrow j hj) (by simp; omega), hkx⟩, hOut_, hOuD_⟩ hW (lv_sub hl [2, 3, 4, 5, 6, 7] rfl))
      · exact absurd c_2309 c_2293
/-- the law's meanTrue -/
theorem s_meanTrue {p : Program} {l : Launch} {e : Env} {s : State} {m : MethodId} {args : Array Value} {below : List Frame} {meth : Method} {c : Code} {Q : State → Prop} {D : va_G} {cy : Nat → ClassId} {A : Nat → Prop} {x0 : Cond} {ad : Nat → Nat} {b L : Nat} {xs : Nat → Int32} {i : Nat} {w : va_W} {H : Heap} {locs : List Loc} {ls : Array Slot} {cells slots : Nat} (htr : l.stackTraces = false) (C : LX p s m c args D cy A b L xs x0) (hI : INV ad cy w) (hW : jW D A s.heap w H locs) (hl : lv_has ls 10 [(0, .ref b), (1, .ref (ad 0)), (2, .ref (ad 55)), (3, .ref (ad 74)), (4, .ref (ad 75)), (5, .int (nI i))]) (hi : i + 5 ≤ L) (hL : L ≤ 2560) (hc : cells + 10 ≤ 601024) (hs : slots + 64 ≤ 7293033) (kk : LK p l e s m args below meth c Q D cy A ad b i cells slots) : W p l e room_1 s m args below meth c H locs cells slots Q (F0 m 2317 ls []) := by
  obtain ⟨S, hK, hA, hX, hbl, hbA, hx, hnx⟩ := C
  obtain ⟨n, wf, wt, od, sd, se, nc, lv, cs, kv, kx, th, og, ogd, hPI, hCI, hRI, hOut, hOuD⟩ := hI
  have hPI0 := hPI
  obtain ⟨hn, hsdn, hse2, hnc, hlvn, hcs, hkI, hod, hodn, hinj⟩ := hPI0
  have hp2 := two_pow10 hn
  have hpt := Nat.two_pow_pos n
  have hWB := hCI.wb
  refine lv_aload_n S.1 S.2.1 dL_law_2317 rfl (lv_at hl 1 rfl) ?_
  refine lv_aload S.1 S.2.1 dL_law_2318 (lv_at hl 4 rfl) ?_
  refine j_callH (As := [.ref (ad 0), .ref (ad 75)]) (rest := []) S hK hA hW hx hnx (h_meanTrue l htr D cy ad n wf wt od sd se nc lv cs kv kx  og ogd hPI hCI hOut hOuD) (jgo wm_L_266) yk_L_meanTrue ⟨⟨rfl, rfl⟩, by decide, by decide⟩ rfl hl.1 rfl (Nat.le_of_ble_eq_true rfl) dL_law_2320 ⟨by show cells + 1 ≤ 601024; omega, by show slots + 6 ≤ 7293033; omega⟩ (fun v w H locs hp hW => ?_)
  rcases hp with ⟨pr, rfl, hpn, hq0, ⟨K1, hU1, hK1⟩, hCI, hOut, hOuD⟩ | ⟨rfl, hq, ⟨K1, hU1, hK1⟩, hCI, hOut, hOuD⟩
  · have hRI := hRI.kept hU1 (fun k hk => by have := hK1 k hk; omega)
    obtain ⟨gx, rb, tu, gO, gF, gT, gE, gD, gC0, gC1, gC2, gC3, gC4, gP, gK, gV, gR, gU, hrow, hkx⟩ := hRI
    refine W.eq (g2 := F0 m 2323 ls [.int (nI 0)]) rfl ?_
    refine lv_istore (lv' := [(6, .int (nI 0)), (0, .ref b), (1, .ref (ad 0)), (2, .ref (ad 55)), (3, .ref (ad 74)), (4, .ref (ad 75)), (5, .int (nI i))]) S.1 S.2.1 dL_law_2323 hl (by decide) rfl (fun ls hl => ?_)
    refine lv_aload_n S.1 S.2.1 dL_law_2325 rfl (lv_at hl 3 rfl) ?_
    refine j_callV (k := 55) (ci := 11) (q := (RX12, TX12, 17)) (As := []) (rest := []) S hK hA hW (c_X12_meanTrue_ok l D cy ad th n nc sd se lv cs wf wt gO gE gP gC0 gC1 gC2 gC3 gC4 gF gT   (by omega) (by omega) (hse2) (by omega) (hcs) (hWB.1) (hWB.2) (by rw [← sum_pr hpn]; exact hq0)) (jgo wm_L_269) yk_X12_meanTrue gO rfl rfl ⟨⟨rfl, rfl⟩, by decide, by decide⟩ rfl hl.1 rfl (Nat.le_of_ble_eq_true rfl) dL_law_2326 ⟨by show (cells + 1) + 0 ≤ 601024; omega, by show (slots + 6) + 0 ≤ 7293033; omega⟩ (fun v w_ H locs hp hW => ?_)
    obtain ⟨rfl, hU1, hN1⟩ := hp
    have hU : jU w w_ [55, 56, 57, 58, 59, 60, 61, 62, 63, 64, 65, 66, 71, 72, 73, 74, 75] := jU.mono hU1 (by first | decide | (simp; done) | (simp; omega))
    have gF_ := hU1.get gF (by first | decide | (simp; done) | (simp; omega))
    have gT_ := hU1.get gT (by first | decide | (simp; done) | (simp; omega))
    have gE_ := hU1.get gE (by first | decide | (simp; done) | (simp; omega))
    have gD_ := hU1.get gD (by first | decide | (simp; done) | (simp; omega))
    have gC0_ := hU1.get gC0 (by first | decide | (simp; done) | (simp; omega))
    have gC1_ := hU1.get gC1 (by first | decide | (simp; done) | (simp; omega))
    have gC2_ := hU1.get gC2 (by first | decide | (simp; done) | (simp; omega))
    have gC3_ := hU1.get gC3 (by first | decide | (simp; done) | (simp; omega))
    have gC4_ := hU1.get gC4 (by first | decide | (simp; done) | (simp; omega))
    have gP_ := hU1.get gP (by first | decide | (simp; done) | (simp; omega))
    have gK_ := hU1.get gK (by first | decide | (simp; done) | (simp; omega))
    have gV_ := hU1.get gV (by first | decide | (simp; done) | (simp; omega))
    have gR_ := hU1.get gR (by first | decide | (simp; done) | (simp; omega))
    have gU_ := hU1.get gU (by first | decide | (simp; done) | (simp; omega))
    have hOut_ := hU1.get hOut (by first | decide | (simp; done) | (simp; omega))
    have hOuD_ := hU1.get hOuD (by first | decide | (simp; done) | (simp; omega))
    have gO_ : w_[55]? = some (ad 55, .inr (11, [.int (nI 0), .ref (ad 56), .ref (ad 57), .ref (ad 58), .ref (ad 59), .ref (ad 60), .ref (ad 61), .ref (ad 62), .ref (ad 63), .ref (ad 64), .ref (ad 65), .int (nI n), .int (nI nc), .ref (ad 66), .ref (ad 71), .ref (ad 72), .ref (ad 73)])) := hN1
    clear hU1 hN1
    refine W.eq (g2 := F0 m 2329 ls [.double (FP.ddiv (FP.l2d (lN (sumI (mdc sd se nc cs lv) (fun d => prodN wf wt d n * cnt d.testBit 10) (2 ^ n)))) (FP.l2d (lN (sumI (mdc sd se nc cs lv) (fun d => prodN wf wt d n) (2 ^ n)))))]) rfl ?_
    refine lv_topv_to (y := .double (FP.ddiv (FP.l2d (lN (sumI (mdl n sd se nc cs lv) (fun d => pr d * cnt d.testBit 32) (2 ^ n)))) (FP.l2d (lN (sumI (mdl n sd se nc cs lv) pr (2 ^ n)))))) (congrArg Value.double (by rw [sum_pr hpn, sum_mean hn hpn])) ?_
    refine lv_dstore (lv' := [(7, .double (FP.ddiv (FP.l2d (lN (sumI (mdl n sd se nc cs lv) (fun d => pr d * cnt d.testBit 32) (2 ^ n)))) (FP.l2d (lN (sumI (mdl n sd se nc cs lv) pr (2 ^ n)))))), (6, .int (nI 0)), (0, .ref b), (1, .ref (ad 0)), (2, .ref (ad 55)), (3, .ref (ad 74)), (4, .ref (ad 75)), (5, .int (nI i))]) S.1 S.2.1 dL_law_2329 hl (by decide) rfl (fun ls hl => ?_)
    refine lv_aload_n S.1 S.2.1 dL_law_2331 rfl (lv_at hl 4 rfl) ?_
    refine j_callV (k := 55) (ci := 11) (q := (RX12, TX12, 17)) (As := []) (rest := []) S hK hA hW (c_X12_thrown l D cy ad 0 n nc gO_   ) (jgo wm_L_136) yk_X12_thrown gO_ rfl rfl ⟨⟨rfl, rfl⟩, by decide, by decide⟩ rfl hl.1 rfl (Nat.le_of_ble_eq_true rfl) dL_law_2332 ⟨by show (cells + 1) + 0 ≤ 601024; omega, by show (slots + 6) + 0 ≤ 7293033; omega⟩ (fun v u H locs hp hW => ?_)
    obtain ⟨rfl, rfl⟩ := hp
    refine W.eq (g2 := F0 m 2335 ls [.int (nI 0)]) rfl ?_
    refine lv_iload S.1 S.2.1 dL_law_2335 (lv_at hl 1 rfl) ?_
    refine jn_cmp_eq (tgt := 2342) S (by omega) (by omega) dL_law_2337 (by decide) (fun c_2337 => ?_) (fun c_2337 => ?_)
    · refine lv_iload S.1 S.2.1 dL_law_2342 (lv_at hl 1 rfl) ?_
      refine jn_if_ne (tgt := 2379) S (by omega) dL_law_2344 (by decide) (fun c_2344 => ?_) (fun c_2344 => ?_)
      · first | exact absurd (show 0 ≠ 0 from c_2344) (by decide) | exact absurd c_2344 (by decide)
      · refine lv_aload S.1 S.2.1 dL_law_2347 (lv_at hl 6 rfl) ?_
        refine lv_iconst (v := nI 0) S.1 S.2.1 dL_law_2349 (by decide) ?_
        refine j_dald (x := FP.ddiv (FP.l2d (lN (sumI (mdl n sd se nc cs lv) (fun d => pr d * cnt d.testBit 32) (2 ^ n)))) (FP.l2d (lN (sumI (mdl n sd se nc cs lv) pr (2 ^ n))))) S hK hW hOuD_ (vp_in_nI (by omega) (by omega)) (nI_clamp (by omega)) (if_pos rfl) dL_law_2350 ?_
        refine lv_dload S.1 S.2.1 dL_law_2351 (lv_at hl 0 rfl) ?_
        refine lv_dcmp S.1 S.2.1 dL_law_2353 ?_
        refine lv_if_eq (tgt := 2379) S.1 S.2.1 dL_law_2354 (by decide) (fun c_2354 => ?_) (fun c_2354 => ?_)
        · refine lv_goto (tgt := 2382) S.1 S.2.1 dL_law_2379 (by decide) ?_
          exact W.widen (by omega) (by omega) (kk _ _ _ _ ⟨_, _, _, _, _, _, _, _, _, _, _, _, _, _, hPI, (hCI.kept hU (by first | decide | (intro k hk; simp at hk; omega))), ⟨gx, _, _, gO_, gF_, gT_, gE_, gD_, gC0_, gC1_, gC2_, gC3_, gC4_, gP_, gK_, gV_, gR_, gU_, fun j hj => hU.get (hrow j hj) (by simp; omega), hkx⟩, hOut_, hOuD_⟩ hW (lv_sub hl [2, 3, 4, 5, 6, 7] rfl))
        · refine lv_aload S.1 S.2.1 dL_law_2357 (lv_at hl 6 rfl) ?_
          refine lv_iconst (v := nI 0) S.1 S.2.1 dL_law_2359 (by decide) ?_
          refine j_dald (x := FP.ddiv (FP.l2d (lN (sumI (mdl n sd se nc cs lv) (fun d => pr d * cnt d.testBit 32) (2 ^ n)))) (FP.l2d (lN (sumI (mdl n sd se nc cs lv) pr (2 ^ n))))) S hK hW hOuD_ (vp_in_nI (by omega) (by omega)) (nI_clamp (by omega)) (if_pos rfl) dL_law_2360 ?_
          refine lv_aload S.1 S.2.1 dL_law_2361 (lv_at hl 6 rfl) ?_
          refine lv_iconst (v := nI 0) S.1 S.2.1 dL_law_2363 (by decide) ?_
          refine j_dald (x := FP.ddiv (FP.l2d (lN (sumI (mdl n sd se nc cs lv) (fun d => pr d * cnt d.testBit 32) (2 ^ n)))) (FP.l2d (lN (sumI (mdl n sd se nc cs lv) pr (2 ^ n))))) S hK hW hOuD_ (vp_in_nI (by omega) (by omega)) (nI_clamp (by omega)) (if_pos rfl) dL_law_2364 ?_
          refine lv_dcmp S.1 S.2.1 dL_law_2365 ?_
          refine lv_if_eq (tgt := 2377) S.1 S.2.1 dL_law_2366 (by decide) (fun c_2366 => ?_) (fun c_2366 => ?_)
          · exact absurd c_2366 c_2354
          · refine lv_dload S.1 S.2.1 dL_law_2369 (lv_at hl 0 rfl) ?_
            refine lv_dload S.1 S.2.1 dL_law_2371 (lv_at hl 0 rfl) ?_
            refine lv_dcmp S.1 S.2.1 dL_law_2373 ?_
            refine lv_if_ne (tgt := 2379) S.1 S.2.1 dL_law_2374 (by decide) (fun c_2374 => ?_) (fun c_2374 => ?_)
            · refine lv_goto (tgt := 2382) S.1 S.2.1 dL_law_2379 (by decide) ?_
              exact W.widen (by omega) (by omega) (kk _ _ _ _ ⟨_, _, _, _, _, _, _, _, _, _, _, _, _, _, hPI, (hCI.kept hU (by first | decide | (intro k hk; simp at hk; omega))), ⟨gx, _, _, gO_, gF_, gT_, gE_, gD_, gC0_, gC1_, gC2_, gC3_, gC4_, gP_, gK_, gV_, gR_, gU_, fun j hj => hU.get (hrow j hj) (by simp; omega), hkx⟩, hOut_, hOuD_⟩ hW (lv_sub hl [2, 3, 4, 5, 6, 7] rfl))
            · exact absurd c_2374 c_2354
    · first | exact absurd (show 0 ≠ 0 from c_2337) (by decide) | exact absurd c_2337 (by decide)
  · have hRI := hRI.kept hU1 (fun k hk => by have := hK1 k hk; omega)
    obtain ⟨gx, rb, tu, gO, gF, gT, gE, gD, gC0, gC1, gC2, gC3, gC4, gP, gK, gV, gR, gU, hrow, hkx⟩ := hRI
    obtain ⟨pr, hpn, h0⟩ := hq
    refine W.eq (g2 := F0 m 2323 ls [.int (nI 1)]) rfl ?_
    refine lv_istore (lv' := [(6, .int (nI 1)), (0, .ref b), (1, .ref (ad 0)), (2, .ref (ad 55)), (3, .ref (ad 74)), (4, .ref (ad 75)), (5, .int (nI i))]) S.1 S.2.1 dL_law_2323 hl (by decide) rfl (fun ls hl => ?_)
    refine lv_aload_n S.1 S.2.1 dL_law_2325 rfl (lv_at hl 3 rfl) ?_
    refine j_callV (k := 55) (ci := 11) (q := (RX12, TX12, 17)) (As := []) (rest := []) S hK hA hW (c_X12_meanTrue_b l D cy ad th n nc sd se lv cs wf wt gO gE gP gC0 gC1 gC2 gC3 gC4 gF gT   (by omega) (by omega) (hse2) (by omega) (hcs) (hWB.1) (hWB.2) (by rw [← sum_pr hpn]; exact h0)) (jgo wm_L_269) yk_X12_meanTrue gO rfl rfl ⟨⟨rfl, rfl⟩, by decide, by decide⟩ rfl hl.1 rfl (Nat.le_of_ble_eq_true rfl) dL_law_2326 ⟨by show (cells + 1) + 0 ≤ 601024; omega, by show (slots + 6) + 0 ≤ 7293033; omega⟩ (fun v w_ H locs hp hW => ?_)
    obtain ⟨rfl, hU1, hN1⟩ := hp
    have hU : jU w w_ [55, 56, 57, 58, 59, 60, 61, 62, 63, 64, 65, 66, 71, 72, 73, 74, 75] := jU.mono hU1 (by first | decide | (simp; done) | (simp; omega))
    have gF_ := hU1.get gF (by first | decide | (simp; done) | (simp; omega))
    have gT_ := hU1.get gT (by first | decide | (simp; done) | (simp; omega))
    have gE_ := hU1.get gE (by first | decide | (simp; done) | (simp; omega))
    have gD_ := hU1.get gD (by first | decide | (simp; done) | (simp; omega))
    have gC0_ := hU1.get gC0 (by first | decide | (simp; done) | (simp; omega))
    have gC1_ := hU1.get gC1 (by first | decide | (simp; done) | (simp; omega))
    have gC2_ := hU1.get gC2 (by first | decide | (simp; done) | (simp; omega))
    have gC3_ := hU1.get gC3 (by first | decide | (simp; done) | (simp; omega))
    have gC4_ := hU1.get gC4 (by first | decide | (simp; done) | (simp; omega))
    have gP_ := hU1.get gP (by first | decide | (simp; done) | (simp; omega))
    have gK_ := hU1.get gK (by first | decide | (simp; done) | (simp; omega))
    have gV_ := hU1.get gV (by first | decide | (simp; done) | (simp; omega))
    have gR_ := hU1.get gR (by first | decide | (simp; done) | (simp; omega))
    have gU_ := hU1.get gU (by first | decide | (simp; done) | (simp; omega))
    have hOut_ := hU1.get hOut (by first | decide | (simp; done) | (simp; omega))
    have hOuD_ := hU1.get hOuD (by first | decide | (simp; done) | (simp; omega))
    have gO_ : w_[55]? = some (ad 55, .inr (11, [.int (nI 1), .ref (ad 56), .ref (ad 57), .ref (ad 58), .ref (ad 59), .ref (ad 60), .ref (ad 61), .ref (ad 62), .ref (ad 63), .ref (ad 64), .ref (ad 65), .int (nI n), .int (nI nc), .ref (ad 66), .ref (ad 71), .ref (ad 72), .ref (ad 73)])) := hN1
    clear hU1 hN1
    refine W.eq (g2 := F0 m 2329 ls [.double (FP.i2d (nI 0))]) rfl ?_
    refine lv_dstore (lv' := [(7, .double (FP.i2d (nI 0))), (6, .int (nI 1)), (0, .ref b), (1, .ref (ad 0)), (2, .ref (ad 55)), (3, .ref (ad 74)), (4, .ref (ad 75)), (5, .int (nI i))]) S.1 S.2.1 dL_law_2329 hl (by decide) rfl (fun ls hl => ?_)
    refine lv_aload_n S.1 S.2.1 dL_law_2331 rfl (lv_at hl 4 rfl) ?_
    refine j_callV (k := 55) (ci := 11) (q := (RX12, TX12, 17)) (As := []) (rest := []) S hK hA hW (c_X12_thrown l D cy ad 1 n nc gO_   ) (jgo wm_L_136) yk_X12_thrown gO_ rfl rfl ⟨⟨rfl, rfl⟩, by decide, by decide⟩ rfl hl.1 rfl (Nat.le_of_ble_eq_true rfl) dL_law_2332 ⟨by show (cells + 1) + 0 ≤ 601024; omega, by show (slots + 6) + 0 ≤ 7293033; omega⟩ (fun v u H locs hp hW => ?_)
    obtain ⟨rfl, rfl⟩ := hp
    refine W.eq (g2 := F0 m 2335 ls [.int (nI 1)]) rfl ?_
    refine lv_iload S.1 S.2.1 dL_law_2335 (lv_at hl 1 rfl) ?_
    refine jn_cmp_eq (tgt := 2342) S (by omega) (by omega) dL_law_2337 (by decide) (fun c_2337 => ?_) (fun c_2337 => ?_)
    · refine lv_iload S.1 S.2.1 dL_law_2342 (lv_at hl 1 rfl) ?_
      refine jn_if_ne (tgt := 2379) S (by omega) dL_law_2344 (by decide) (fun c_2344 => ?_) (fun c_2344 => ?_)
      · refine lv_goto (tgt := 2382) S.1 S.2.1 dL_law_2379 (by decide) ?_
        exact W.widen (by omega) (by omega) (kk _ _ _ _ ⟨_, _, _, _, _, _, _, _, _, _, _, _, _, _, hPI, (hCI.kept hU (by first | decide | (intro k hk; simp at hk; omega))), ⟨gx, _, _, gO_, gF_, gT_, gE_, gD_, gC0_, gC1_, gC2_, gC3_, gC4_, gP_, gK_, gV_, gR_, gU_, fun j hj => hU.get (hrow j hj) (by simp; omega), hkx⟩, hOut_, hOuD_⟩ hW (lv_sub hl [2, 3, 4, 5, 6, 7] rfl))
      · first | exact absurd (show 1 = 0 from c_2344) (by decide) | exact absurd c_2344 (by decide)
    · first | exact absurd (show 1 ≠ 1 from c_2337) (by decide) | exact absurd c_2337 (by decide)
