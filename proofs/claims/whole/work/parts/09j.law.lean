/-! THE LAW: calls that ask, more (laid by wip/whole/tools, from the specs there) -/
/-- lucky, a luck below 0 -/
theorem c_X12_lucky_n (l : Launch) (D : va_G) (cy : Nat → ClassId) {w : va_W} (ad : Nat → Nat) (th n nc : Nat) (lk : Int64) (gO : w[55]? = some (ad 55, .inr (11, [.int (nI th), .ref (ad 56), .ref (ad 57), .ref (ad 58), .ref (ad 59), .ref (ad 60), .ref (ad 61), .ref (ad 62), .ref (ad 63), .ref (ad 64), .ref (ad 65), .int (nI n), .int (nI nc), .ref (ad 66), .ref (ad 71), .ref (ad 72), .ref (ad 73)]))) (hlk : lk < 0) : jM l yX12_lucky (jws yX12_lucky cX12_lucky 7 (some .int)) (jR 4 0 0) D cy w [.ref (ad 55), .long lk] 0 0 (fun vv uu => vv = some (.int (nI 0)) ∧ jU w uu [55] ∧ uu[55]? = some (ad 55, .inr (11, [.int (nI 1), .ref (ad 56), .ref (ad 57), .ref (ad 58), .ref (ad 59), .ref (ad 60), .ref (ad 61), .ref (ad 62), .ref (ad 63), .ref (ad 64), .ref (ad 65), .int (nI n), .int (nI nc), .ref (ad 66), .ref (ad 71), .ref (ad 72), .ref (ad 73)]))) := by
  refine j_of (by decide) rfl (Nat.le_of_ble_eq_true rfl) ?_
  intro p e s m args below meth c A ls Q hQ S hr hK hA H locs hW hl
  have hl : lv_has ls 7 [(0, .ref (ad 55)), (1, .long lk)] := hl
  refine lv_aload_n S.1 S.2.1 dX12_lucky_0 rfl (lv_at hl 0 rfl) ?_
  refine lv_iconst (v := nI 0) S.1 S.2.1 dX12_lucky_1 (by decide) ?_
  refine j_put (ci := 11) (C := RX12) (T := TX12) (N := 17) (ty := .int) S (fun w h => List.mem_cons_of_mem _ (inG12 w h)) tyX12 tyX12_ok nmX12 hK hW gO rfl 0 (by decide) (List.mem_cons_of_mem _ wfl_X12_1) (fun _ h9 => h9) rfl (by decide +kernel) (rfl) (rfl) (Nat.le_of_ble_eq_true rfl) dX12_lucky_2 (fun H locs w_ hU1 hN1 hW => ?_)
  have hU : jU w w_ [55] := jU.mono hU1 (by decide)
  have gO_ : w_[55]? = some (ad 55, .inr (11, [.int (nI 0), .ref (ad 56), .ref (ad 57), .ref (ad 58), .ref (ad 59), .ref (ad 60), .ref (ad 61), .ref (ad 62), .ref (ad 63), .ref (ad 64), .ref (ad 65), .int (nI n), .int (nI nc), .ref (ad 66), .ref (ad 71), .ref (ad 72), .ref (ad 73)])) := hN1
  clear hU1 hN1
  refine lv_lconst (v := lN 0) S.1 S.2.1 dX12_lucky_5 (by decide) ?_
  refine lv_lstore_n (lv' := [(3, .long (lN 0)), (0, .ref (ad 55)), (1, .long lk)]) S.1 S.2.1 dX12_lucky_6 rfl hl (by decide) rfl (fun ls hl => ?_)
  refine lv_iconst (v := nI 0) S.1 S.2.1 dX12_lucky_7 (by decide) ?_
  refine lv_istore (lv' := [(5, .int (nI 0)), (3, .long (lN 0)), (0, .ref (ad 55)), (1, .long lk)]) S.1 S.2.1 dX12_lucky_8 hl (by decide) rfl (fun ls hl => ?_)
  refine lv_lload_n S.1 S.2.1 dX12_lucky_10 rfl (lv_at hl 3 rfl) ?_
  refine lv_lconst (v := lN 0) S.1 S.2.1 dX12_lucky_11 (by decide) ?_
  refine jl_lt (tgt := 73) S dX12_lucky_12 dX12_lucky_13 (by decide) (fun c_13 => ?_) (fun c_13 => ?_)
  · refine lv_aload_n S.1 S.2.1 dX12_lucky_73 rfl (lv_at hl 2 rfl) ?_
    refine lv_iconst (v := nI 1) S.1 S.2.1 dX12_lucky_74 (by decide) ?_
    refine j_callV (k := 55) (ci := 11) (q := (RX12, TX12, 17)) (As := [.int (nI 1)]) (rest := []) S hK hA hW (c_X12_fails l D cy ad 0 n nc 1 gO_   ) (jgo wm_X12_71) yk_X12_fails gO_ rfl rfl ⟨⟨rfl, rfl⟩, by decide, by decide⟩ rfl hl.1 rfl (Nat.le_of_ble_eq_true rfl) dX12_lucky_75 ⟨Nat.le_of_ble_eq_true rfl, Nat.le_of_ble_eq_true rfl⟩ (fun v w_ H locs hp hW => ?_)
    obtain ⟨rfl, hU1, hN1⟩ := hp
    have hU := hU.then hU1 (by decide)
    have gO_ : w_[55]? = some (ad 55, .inr (11, [.int (nI 1), .ref (ad 56), .ref (ad 57), .ref (ad 58), .ref (ad 59), .ref (ad 60), .ref (ad 61), .ref (ad 62), .ref (ad 63), .ref (ad 64), .ref (ad 65), .int (nI n), .int (nI nc), .ref (ad 66), .ref (ad 71), .ref (ad 72), .ref (ad 73)])) := hN1
    clear hU1 hN1
    refine W.eq (g2 := F0 m 78 ls [.int (nI 0)]) rfl ?_
    subst hQ
    exact j_iret (u := w_) S hr (rfl) hK hW dX12_lucky_78 ⟨by decide, by decide⟩ (⟨rfl, hU, gO_⟩)
  · exact absurd hlk (by first | exact c_13 | exact Int64.not_lt.mpr c_13)
/-- the law's modelsOfPart -/
theorem s_modelsOfPart {p : Program} {l : Launch} {e : Env} {s : State} {m : MethodId} {args : Array Value} {below : List Frame} {meth : Method} {c : Code} {Q : State → Prop} {D : va_G} {cy : Nat → ClassId} {A : Nat → Prop} {x0 : Cond} {ad : Nat → Nat} {b L : Nat} {xs : Nat → Int32} {i : Nat} {w : va_W} {H : Heap} {locs : List Loc} {ls : Array Slot} {cells slots : Nat} (htr : l.stackTraces = false) (C : LX p s m c args D cy A b L xs x0) (hI : INV ad cy w) (hW : jW D A s.heap w H locs) (hl : lv_has ls 10 [(0, .ref b), (1, .ref (ad 0)), (2, .ref (ad 55)), (3, .ref (ad 74)), (4, .ref (ad 75)), (5, .int (nI i))]) (hi : i + 5 ≤ L) (hL : L ≤ 2560) (hc : cells + 10 ≤ 601024) (hs : slots + 64 ≤ 7293033) (kk : LK p l e s m args below meth c Q D cy A ad b i cells slots) : W p l e room_1 s m args below meth c H locs cells slots Q (F0 m 1210 ls []) := by
  obtain ⟨S, hK, hA, hX, hbl, hbA, hx, hnx⟩ := C
  obtain ⟨n, wf, wt, od, sd, se, nc, lv, cs, kv, kx, th, og, ogd, hPI, hCI, hRI, hOut, hOuD⟩ := hI
  have hPI0 := hPI
  obtain ⟨hn, hsdn, hse2, hnc, hlvn, hcs, hkI, hod, hodn, hinj⟩ := hPI0
  have hp2 := two_pow10 hn
  have hpt := Nat.two_pow_pos n
  have hWB := hCI.wb
  refine lv_aload_n S.1 S.2.1 dL_law_1210 rfl (lv_at hl 1 rfl) ?_
  refine lv_aload_n S.1 S.2.1 dL_law_1211 rfl (lv_at hl 0 rfl) ?_
  refine lv_iload S.1 S.2.1 dL_law_1212 (lv_at hl 5 rfl) ?_
  refine lv_iconst (v := nI 1) S.1 S.2.1 dL_law_1214 (by decide) ?_
  refine jn_add S dL_law_1215 ?_
  refine j_sld (x := xs (i + 1)) S hX hbl hbA hW (vp_in_nI (by omega) (by omega)) (nI_clamp (by omega)) (rfl) dL_law_1216 ?_
  refine lv_aload_n S.1 S.2.1 dL_law_1217 rfl (lv_at hl 3 rfl) ?_
  refine j_callH (As := [.ref (ad 0), .int (xs (i + 1)), .ref (ad 74)]) (rest := []) S hK hA hW hx hnx (h_modelsOfPart l htr D cy ad n wf wt od sd se nc lv cs kv kx (xs (i + 1)) og ogd hPI hCI hOut hOuD) (jgo wm_L_201) yk_L_modelsOfPart ⟨⟨rfl, rfl⟩, by decide, by decide⟩ rfl hl.1 rfl (Nat.le_of_ble_eq_true rfl) dL_law_1218 ⟨by show cells + 2 ≤ 601024; omega, by show slots + 12 ≤ 7293033; omega⟩ (fun v w H locs hp hW => ?_)
  rcases hp with ⟨x1, rfl, hq0, hq1, hq2, ⟨K1, hU1, hK1⟩, hCI, hOut, hOuD⟩ | ⟨rfl, hq, ⟨K1, hU1, hK1⟩, hCI, hOut, hOuD⟩ | ⟨rfl, hq, ⟨K1, hU1, hK1⟩, hCI, hOut, hOuD⟩
  · have hRI := hRI.kept hU1 (fun k hk => by have := hK1 k hk; omega)
    obtain ⟨gx, rb, tu, gO, gF, gT, gE, gD, gC0, gC1, gC2, gC3, gC4, gP, gK, gV, gR, gU, hrow, hkx⟩ := hRI
    refine W.eq (g2 := F0 m 1221 ls [.int (nI 0)]) rfl ?_
    refine lv_istore (lv' := [(6, .int (nI 0)), (0, .ref b), (1, .ref (ad 0)), (2, .ref (ad 55)), (3, .ref (ad 74)), (4, .ref (ad 75)), (5, .int (nI i))]) S.1 S.2.1 dL_law_1221 hl (by decide) rfl (fun ls hl => ?_)
    refine lv_aload_n S.1 S.2.1 dL_law_1223 rfl (lv_at hl 3 rfl) ?_
    refine lv_aload_n S.1 S.2.1 dL_law_1224 rfl (lv_at hl 1 rfl) ?_
    refine lv_iload S.1 S.2.1 dL_law_1225 (lv_at hl 6 rfl) ?_
    refine lv_iconst (v := nI 1) S.1 S.2.1 dL_law_1227 (by decide) ?_
    refine jn_add S dL_law_1228 ?_
    refine j_sld (x := nI x1) S hX hbl hbA hW (vp_in_nI (by omega) (by omega)) (nI_clamp (by omega)) (hq1) dL_law_1229 ?_
    refine j_callV (k := 55) (ci := 11) (q := (RX12, TX12, 17)) (As := [.int (nI x1)]) (rest := []) S hK hA hW (c_X12_modelsOfPart_ok l D cy ad th n nc sd se lv cs x1 gO gE gP gC0 gC1 gC2 gC3 gC4   (by omega) (by omega) (hse2) (by omega) (hcs) (by omega) (hq2)) (jgo wm_L_203) yk_X12_modelsOfPart gO rfl rfl ⟨⟨rfl, rfl⟩, by decide, by decide⟩ rfl hl.1 rfl (Nat.le_of_ble_eq_true rfl) dL_law_1230 ⟨by show (cells + 2) + 0 ≤ 601024; omega, by show (slots + 12) + 0 ≤ 7293033; omega⟩ (fun v w_ H locs hp hW => ?_)
    obtain ⟨rfl, hU1, hN1⟩ := hp
    have hU : jU w w_ [55, 56, 57, 58, 59, 60, 61, 62, 63, 64, 65, 66, 71, 72, 73, 74, 75] := jU.mono hU1 (by first | decide | (simp; done) | (simp; omega))
    have gF_ := hU1.get gF (by first | decide | (simp; done) | (simp; omega))
    have gT_ := hU1.get gT (by first | decide | (simp; done) | (simp; omega))
    have gE_ := hU1.get gE (by first | decide | (simp; done) | (simp; omega))
    have gD_ := hU1.get gD (by first | decide | (simp; done) | (simp; omega))
    have gC0_ := hU1.get gC0 (by first | decide | (simp; done) | (simp; omega))
    have gC1_ := hU1.get gC1 (by first | decide | (simp; done) | (simp; omega))
    have gC2_ := hU1.get gC2 (by first | decide | (simp; done) | (simp; omega))
    have gC3_ := hU1.get gC3 (by first | decide | (simp; done) | (simp; omega))
    have gC4_ := hU1.get gC4 (by first | decide | (simp; done) | (simp; omega))
    have gP_ := hU1.get gP (by first | decide | (simp; done) | (simp; omega))
    have gK_ := hU1.get gK (by first | decide | (simp; done) | (simp; omega))
    have gV_ := hU1.get gV (by first | decide | (simp; done) | (simp; omega))
    have gR_ := hU1.get gR (by first | decide | (simp; done) | (simp; omega))
    have gU_ := hU1.get gU (by first | decide | (simp; done) | (simp; omega))
    have hOut_ := hU1.get hOut (by first | decide | (simp; done) | (simp; omega))
    have hOuD_ := hU1.get hOuD (by first | decide | (simp; done) | (simp; omega))
    have gO_ : w_[55]? = some (ad 55, .inr (11, [.int (nI 0), .ref (ad 56), .ref (ad 57), .ref (ad 58), .ref (ad 59), .ref (ad 60), .ref (ad 61), .ref (ad 62), .ref (ad 63), .ref (ad 64), .ref (ad 65), .int (nI n), .int (nI nc), .ref (ad 66), .ref (ad 71), .ref (ad 72), .ref (ad 73)])) := hN1
    clear hU1 hN1
    refine W.eq (g2 := F0 m 1233 ls [.long (lN (cnt (fun d => decide (nAnd d (itP nc cs lv (nAnd (2 ^ n - 1) sd) x1 10) = 0) && allB (fun c => okP nc cs lv se (itP nc cs lv (nAnd (2 ^ n - 1) sd) x1 10) d c) nc) (2 ^ n)))]) rfl ?_
    refine lv_topl_to (y := lN (cntP nc cs lv se (itP nc cs lv (nAnd (2 ^ n - 1) sd) x1 10))) (congrArg lN (cntP_ref hn (it_ltn hq0 hq2)).symm) ?_
    refine lv_lstore (lv' := [(7, .long (lN (cntP nc cs lv se (itP nc cs lv (nAnd (2 ^ n - 1) sd) x1 10)))), (6, .int (nI 0)), (0, .ref b), (1, .ref (ad 0)), (2, .ref (ad 55)), (3, .ref (ad 74)), (4, .ref (ad 75)), (5, .int (nI i))]) S.1 S.2.1 dL_law_1233 hl (by decide) rfl (fun ls hl => ?_)
    refine lv_aload_n S.1 S.2.1 dL_law_1235 rfl (lv_at hl 4 rfl) ?_
    refine j_callV (k := 55) (ci := 11) (q := (RX12, TX12, 17)) (As := []) (rest := []) S hK hA hW (c_X12_thrown l D cy ad 0 n nc gO_   ) (jgo wm_L_136) yk_X12_thrown gO_ rfl rfl ⟨⟨rfl, rfl⟩, by decide, by decide⟩ rfl hl.1 rfl (Nat.le_of_ble_eq_true rfl) dL_law_1236 ⟨by show (cells + 2) + 0 ≤ 601024; omega, by show (slots + 12) + 0 ≤ 7293033; omega⟩ (fun v u H locs hp hW => ?_)
    obtain ⟨rfl, rfl⟩ := hp
    refine W.eq (g2 := F0 m 1239 ls [.int (nI 0)]) rfl ?_
    refine lv_iload S.1 S.2.1 dL_law_1239 (lv_at hl 1 rfl) ?_
    refine jn_cmp_eq (tgt := 1246) S (by omega) (by omega) dL_law_1241 (by decide) (fun c_1241 => ?_) (fun c_1241 => ?_)
    · refine lv_iload S.1 S.2.1 dL_law_1246 (lv_at hl 1 rfl) ?_
      refine jn_if_ne (tgt := 1262) S (by omega) dL_law_1248 (by decide) (fun c_1248 => ?_) (fun c_1248 => ?_)
      · first | exact absurd (show 0 ≠ 0 from c_1248) (by decide) | exact absurd c_1248 (by decide)
      · refine lv_aload_n S.1 S.2.1 dL_law_1251 rfl (lv_at hl 5 rfl) ?_
        refine lv_iconst (v := nI 0) S.1 S.2.1 dL_law_1252 (by decide) ?_
        refine j_lald (x := lN (cntP nc cs lv se (itP nc cs lv (nAnd (2 ^ n - 1) sd) x1 10))) S hK hW hOut_ (vp_in_nI (by omega) (by omega)) (nI_clamp (by omega)) (if_pos rfl) dL_law_1253 ?_
        refine lv_lload S.1 S.2.1 dL_law_1254 (lv_at hl 0 rfl) ?_
        refine jl_eq (tgt := 1262) S dL_law_1256 dL_law_1257 (by decide) (fun c_1257 => ?_) (fun c_1257 => ?_)
        · refine lv_goto (tgt := 2382) S.1 S.2.1 dL_law_1262 (by decide) ?_
          exact W.widen (by omega) (by omega) (kk _ _ _ _ ⟨_, _, _, _, _, _, _, _, _, _, _, _, _, _, hPI, (hCI.kept hU (by first | decide | (intro k hk; simp at hk; omega))), ⟨gx, _, _, gO_, gF_, gT_, gE_, gD_, gC0_, gC1_, gC2_, gC3_, gC4_, gP_, gK_, gV_, gR_, gU_, fun j hj => hU.get (hrow j hj) (by simp; omega), hkx⟩, hOut_, hOuD_⟩ hW (lv_sub hl [2, 3, 4, 5, 6, 7] rfl))
        · exact absurd rfl c_1257
    · first | exact absurd (show 0 ≠ 0 from c_1241) (by decide) | exact absurd c_1241 (by decide)
  · have hRI := hRI.kept hU1 (fun k hk => by have := hK1 k hk; omega)
    obtain ⟨gx, rb, tu, gO, gF, gT, gE, gD, gC0, gC1, gC2, gC3, gC4, gP, gK, gV, gR, gU, hrow, hkx⟩ := hRI
    refine W.eq (g2 := F0 m 1221 ls [.int (nI 1)]) rfl ?_
    refine lv_istore (lv' := [(6, .int (nI 1)), (0, .ref b), (1, .ref (ad 0)), (2, .ref (ad 55)), (3, .ref (ad 74)), (4, .ref (ad 75)), (5, .int (nI i))]) S.1 S.2.1 dL_law_1221 hl (by decide) rfl (fun ls hl => ?_)
    refine lv_aload_n S.1 S.2.1 dL_law_1223 rfl (lv_at hl 3 rfl) ?_
    refine lv_aload_n S.1 S.2.1 dL_law_1224 rfl (lv_at hl 1 rfl) ?_
    refine lv_iload S.1 S.2.1 dL_law_1225 (lv_at hl 6 rfl) ?_
    refine lv_iconst (v := nI 1) S.1 S.2.1 dL_law_1227 (by decide) ?_
    refine jn_add S dL_law_1228 ?_
    refine j_sld (x := xs (i + 1)) S hX hbl hbA hW (vp_in_nI (by omega) (by omega)) (nI_clamp (by omega)) (rfl) dL_law_1229 ?_
    refine j_callV (k := 55) (ci := 11) (q := (RX12, TX12, 17)) (As := [.int (xs (i + 1))]) (rest := []) S hK hA hW (c_X12_modelsOfPart_b1 l D cy ad th n nc (xs (i + 1)) gO   (by omega) (hq)) (jgo wm_L_203) yk_X12_modelsOfPart gO rfl rfl ⟨⟨rfl, rfl⟩, by decide, by decide⟩ rfl hl.1 rfl (Nat.le_of_ble_eq_true rfl) dL_law_1230 ⟨by show (cells + 2) + 0 ≤ 601024; omega, by show (slots + 12) + 0 ≤ 7293033; omega⟩ (fun v w_ H locs hp hW => ?_)
    obtain ⟨rfl, hU1, hN1⟩ := hp
    have hU : jU w w_ [55, 56, 57, 58, 59, 60, 61, 62, 63, 64, 65, 66, 71, 72, 73, 74, 75] := jU.mono hU1 (by first | decide | (simp; done) | (simp; omega))
    have gF_ := hU1.get gF (by first | decide | (simp; done) | (simp; omega))
    have gT_ := hU1.get gT (by first | decide | (simp; done) | (simp; omega))
    have gE_ := hU1.get gE (by first | decide | (simp; done) | (simp; omega))
    have gD_ := hU1.get gD (by first | decide | (simp; done) | (simp; omega))
    have gC0_ := hU1.get gC0 (by first | decide | (simp; done) | (simp; omega))
    have gC1_ := hU1.get gC1 (by first | decide | (simp; done) | (simp; omega))
    have gC2_ := hU1.get gC2 (by first | decide | (simp; done) | (simp; omega))
    have gC3_ := hU1.get gC3 (by first | decide | (simp; done) | (simp; omega))
    have gC4_ := hU1.get gC4 (by first | decide | (simp; done) | (simp; omega))
    have gP_ := hU1.get gP (by first | decide | (simp; done) | (simp; omega))
    have gK_ := hU1.get gK (by first | decide | (simp; done) | (simp; omega))
    have gV_ := hU1.get gV (by first | decide | (simp; done) | (simp; omega))
    have gR_ := hU1.get gR (by first | decide | (simp; done) | (simp; omega))
    have gU_ := hU1.get gU (by first | decide | (simp; done) | (simp; omega))
    have hOut_ := hU1.get hOut (by first | decide | (simp; done) | (simp; omega))
    have hOuD_ := hU1.get hOuD (by first | decide | (simp; done) | (simp; omega))
    have gO_ : w_[55]? = some (ad 55, .inr (11, [.int (nI 1), .ref (ad 56), .ref (ad 57), .ref (ad 58), .ref (ad 59), .ref (ad 60), .ref (ad 61), .ref (ad 62), .ref (ad 63), .ref (ad 64), .ref (ad 65), .int (nI n), .int (nI nc), .ref (ad 66), .ref (ad 71), .ref (ad 72), .ref (ad 73)])) := hN1
    clear hU1 hN1
    refine W.eq (g2 := F0 m 1233 ls [.long (lN 0)]) rfl ?_
    refine lv_lstore (lv' := [(7, .long (lN 0)), (6, .int (nI 1)), (0, .ref b), (1, .ref (ad 0)), (2, .ref (ad 55)), (3, .ref (ad 74)), (4, .ref (ad 75)), (5, .int (nI i))]) S.1 S.2.1 dL_law_1233 hl (by decide) rfl (fun ls hl => ?_)
    refine lv_aload_n S.1 S.2.1 dL_law_1235 rfl (lv_at hl 4 rfl) ?_
    refine j_callV (k := 55) (ci := 11) (q := (RX12, TX12, 17)) (As := []) (rest := []) S hK hA hW (c_X12_thrown l D cy ad 1 n nc gO_   ) (jgo wm_L_136) yk_X12_thrown gO_ rfl rfl ⟨⟨rfl, rfl⟩, by decide, by decide⟩ rfl hl.1 rfl (Nat.le_of_ble_eq_true rfl) dL_law_1236 ⟨by show (cells + 2) + 0 ≤ 601024; omega, by show (slots + 12) + 0 ≤ 7293033; omega⟩ (fun v u H locs hp hW => ?_)
    obtain ⟨rfl, rfl⟩ := hp
    refine W.eq (g2 := F0 m 1239 ls [.int (nI 1)]) rfl ?_
    refine lv_iload S.1 S.2.1 dL_law_1239 (lv_at hl 1 rfl) ?_
    refine jn_cmp_eq (tgt := 1246) S (by omega) (by omega) dL_law_1241 (by decide) (fun c_1241 => ?_) (fun c_1241 => ?_)
    · refine lv_iload S.1 S.2.1 dL_law_1246 (lv_at hl 1 rfl) ?_
      refine jn_if_ne (tgt := 1262) S (by omega) dL_law_1248 (by decide) (fun c_1248 => ?_) (fun c_1248 => ?_)
      · refine lv_goto (tgt := 2382) S.1 S.2.1 dL_law_1262 (by decide) ?_
        exact W.widen (by omega) (by omega) (kk _ _ _ _ ⟨_, _, _, _, _, _, _, _, _, _, _, _, _, _, hPI, (hCI.kept hU (by first | decide | (intro k hk; simp at hk; omega))), ⟨gx, _, _, gO_, gF_, gT_, gE_, gD_, gC0_, gC1_, gC2_, gC3_, gC4_, gP_, gK_, gV_, gR_, gU_, fun j hj => hU.get (hrow j hj) (by simp; omega), hkx⟩, hOut_, hOuD_⟩ hW (lv_sub hl [2, 3, 4, 5, 6, 7] rfl))
      · first | exact absurd (show 1 = 0 from c_1248) (by decide) | exact absurd c_1248 (by decide)
    · first | exact absurd (show 1 ≠ 1 from c_1241) (by decide) | exact absurd c_1241 (by decide)
  · have hRI := hRI.kept hU1 (fun k hk => by have := hK1 k hk; omega)
    obtain ⟨gx, rb, tu, gO, gF, gT, gE, gD, gC0, gC1, gC2, gC3, gC4, gP, gK, gV, gR, gU, hrow, hkx⟩ := hRI
    obtain ⟨x1, hx1, e1, h1⟩ := hq
    refine W.eq (g2 := F0 m 1221 ls [.int (nI 2)]) rfl ?_
    refine lv_istore (lv' := [(6, .int (nI 2)), (0, .ref b), (1, .ref (ad 0)), (2, .ref (ad 55)), (3, .ref (ad 74)), (4, .ref (ad 75)), (5, .int (nI i))]) S.1 S.2.1 dL_law_1221 hl (by decide) rfl (fun ls hl => ?_)
    refine lv_aload_n S.1 S.2.1 dL_law_1223 rfl (lv_at hl 3 rfl) ?_
    refine lv_aload_n S.1 S.2.1 dL_law_1224 rfl (lv_at hl 1 rfl) ?_
    refine lv_iload S.1 S.2.1 dL_law_1225 (lv_at hl 6 rfl) ?_
    refine lv_iconst (v := nI 1) S.1 S.2.1 dL_law_1227 (by decide) ?_
    refine jn_add S dL_law_1228 ?_
    refine j_sld (x := nI x1) S hX hbl hbA hW (vp_in_nI (by omega) (by omega)) (nI_clamp (by omega)) (e1) dL_law_1229 ?_
    refine j_callV (k := 55) (ci := 11) (q := (RX12, TX12, 17)) (As := [.int (nI x1)]) (rest := []) S hK hA hW (c_X12_modelsOfPart_b2 l D cy ad th n nc sd se x1 gO gE   (by omega) (by omega) (h1)) (jgo wm_L_203) yk_X12_modelsOfPart gO rfl rfl ⟨⟨rfl, rfl⟩, by decide, by decide⟩ rfl hl.1 rfl (Nat.le_of_ble_eq_true rfl) dL_law_1230 ⟨by show (cells + 2) + 0 ≤ 601024; omega, by show (slots + 12) + 0 ≤ 7293033; omega⟩ (fun v w_ H locs hp hW => ?_)
    obtain ⟨rfl, hU1, hN1⟩ := hp
    have hU : jU w w_ [55, 56, 57, 58, 59, 60, 61, 62, 63, 64, 65, 66, 71, 72, 73, 74, 75] := jU.mono hU1 (by first | decide | (simp; done) | (simp; omega))
    have gF_ := hU1.get gF (by first | decide | (simp; done) | (simp; omega))
    have gT_ := hU1.get gT (by first | decide | (simp; done) | (simp; omega))
    have gE_ := hU1.get gE (by first | decide | (simp; done) | (simp; omega))
    have gD_ := hU1.get gD (by first | decide | (simp; done) | (simp; omega))
    have gC0_ := hU1.get gC0 (by first | decide | (simp; done) | (simp; omega))
    have gC1_ := hU1.get gC1 (by first | decide | (simp; done) | (simp; omega))
    have gC2_ := hU1.get gC2 (by first | decide | (simp; done) | (simp; omega))
    have gC3_ := hU1.get gC3 (by first | decide | (simp; done) | (simp; omega))
    have gC4_ := hU1.get gC4 (by first | decide | (simp; done) | (simp; omega))
    have gP_ := hU1.get gP (by first | decide | (simp; done) | (simp; omega))
    have gK_ := hU1.get gK (by first | decide | (simp; done) | (simp; omega))
    have gV_ := hU1.get gV (by first | decide | (simp; done) | (simp; omega))
    have gR_ := hU1.get gR (by first | decide | (simp; done) | (simp; omega))
    have gU_ := hU1.get gU (by first | decide | (simp; done) | (simp; omega))
    have hOut_ := hU1.get hOut (by first | decide | (simp; done) | (simp; omega))
    have hOuD_ := hU1.get hOuD (by first | decide | (simp; done) | (simp; omega))
    have gO_ : w_[55]? = some (ad 55, .inr (11, [.int (nI 2), .ref (ad 56), .ref (ad 57), .ref (ad 58), .ref (ad 59), .ref (ad 60), .ref (ad 61), .ref (ad 62), .ref (ad 63), .ref (ad 64), .ref (ad 65), .int (nI n), .int (nI nc), .ref (ad 66), .ref (ad 71), .ref (ad 72), .ref (ad 73)])) := hN1
    clear hU1 hN1
    refine W.eq (g2 := F0 m 1233 ls [.long (lN 0)]) rfl ?_
    refine lv_lstore (lv' := [(7, .long (lN 0)), (6, .int (nI 2)), (0, .ref b), (1, .ref (ad 0)), (2, .ref (ad 55)), (3, .ref (ad 74)), (4, .ref (ad 75)), (5, .int (nI i))]) S.1 S.2.1 dL_law_1233 hl (by decide) rfl (fun ls hl => ?_)
    refine lv_aload_n S.1 S.2.1 dL_law_1235 rfl (lv_at hl 4 rfl) ?_
    refine j_callV (k := 55) (ci := 11) (q := (RX12, TX12, 17)) (As := []) (rest := []) S hK hA hW (c_X12_thrown l D cy ad 2 n nc gO_   ) (jgo wm_L_136) yk_X12_thrown gO_ rfl rfl ⟨⟨rfl, rfl⟩, by decide, by decide⟩ rfl hl.1 rfl (Nat.le_of_ble_eq_true rfl) dL_law_1236 ⟨by show (cells + 2) + 0 ≤ 601024; omega, by show (slots + 12) + 0 ≤ 7293033; omega⟩ (fun v u H locs hp hW => ?_)
    obtain ⟨rfl, rfl⟩ := hp
    refine W.eq (g2 := F0 m 1239 ls [.int (nI 2)]) rfl ?_
    refine lv_iload S.1 S.2.1 dL_law_1239 (lv_at hl 1 rfl) ?_
    refine jn_cmp_eq (tgt := 1246) S (by omega) (by omega) dL_law_1241 (by decide) (fun c_1241 => ?_) (fun c_1241 => ?_)
    · refine lv_iload S.1 S.2.1 dL_law_1246 (lv_at hl 1 rfl) ?_
      refine jn_if_ne (tgt := 1262) S (by omega) dL_law_1248 (by decide) (fun c_1248 => ?_) (fun c_1248 => ?_)
      · refine lv_goto (tgt := 2382) S.1 S.2.1 dL_law_1262 (by decide) ?_
        exact W.widen (by omega) (by omega) (kk _ _ _ _ ⟨_, _, _, _, _, _, _, _, _, _, _, _, _, _, hPI, (hCI.kept hU (by first | decide | (intro k hk; simp at hk; omega))), ⟨gx, _, _, gO_, gF_, gT_, gE_, gD_, gC0_, gC1_, gC2_, gC3_, gC4_, gP_, gK_, gV_, gR_, gU_, fun j hj => hU.get (hrow j hj) (by simp; omega), hkx⟩, hOut_, hOuD_⟩ hW (lv_sub hl [2, 3, 4, 5, 6, 7] rfl))
      · first | exact absurd (show 2 = 0 from c_1248) (by decide) | exact absurd c_1248 (by decide)
    · first | exact absurd (show 2 ≠ 2 from c_1241) (by decide) | exact absurd c_1241 (by decide)
/-- the law's best -/
theorem s_best {p : Program} {l : Launch} {e : Env} {s : State} {m : MethodId} {args : Array Value} {below : List Frame} {meth : Method} {c : Code} {Q : State → Prop} {D : va_G} {cy : Nat → ClassId} {A : Nat → Prop} {x0 : Cond} {ad : Nat → Nat} {b L : Nat} {xs : Nat → Int32} {i : Nat} {w : va_W} {H : Heap} {locs : List Loc} {ls : Array Slot} {cells slots : Nat} (htr : l.stackTraces = false) (C : LX p s m c args D cy A b L xs x0) (hI : INV ad cy w) (hW : jW D A s.heap w H locs) (hl : lv_has ls 10 [(0, .ref b), (1, .ref (ad 0)), (2, .ref (ad 55)), (3, .ref (ad 74)), (4, .ref (ad 75)), (5, .int (nI i))]) (hi : i + 5 ≤ L) (hL : L ≤ 2560) (hc : cells + 10 ≤ 601024) (hs : slots + 64 ≤ 7293033) (kk : LK p l e s m args below meth c Q D cy A ad b i cells slots) : W p l e room_1 s m args below meth c H locs cells slots Q (F0 m 1265 ls []) := by
  obtain ⟨S, hK, hA, hX, hbl, hbA, hx, hnx⟩ := C
  obtain ⟨n, wf, wt, od, sd, se, nc, lv, cs, kv, kx, th, og, ogd, hPI, hCI, hRI, hOut, hOuD⟩ := hI
  have hPI0 := hPI
  obtain ⟨hn, hsdn, hse2, hnc, hlvn, hcs, hkI, hod, hodn, hinj⟩ := hPI0
  have hp2 := two_pow10 hn
  have hpt := Nat.two_pow_pos n
  have hWB := hCI.wb
  refine lv_aload_n S.1 S.2.1 dL_law_1265 rfl (lv_at hl 1 rfl) ?_
  refine lv_aload_n S.1 S.2.1 dL_law_1266 rfl (lv_at hl 0 rfl) ?_
  refine lv_iload S.1 S.2.1 dL_law_1267 (lv_at hl 5 rfl) ?_
  refine lv_iconst (v := nI 1) S.1 S.2.1 dL_law_1269 (by decide) ?_
  refine jn_add S dL_law_1270 ?_
  refine j_sld (x := xs (i + 1)) S hX hbl hbA hW (vp_in_nI (by omega) (by omega)) (nI_clamp (by omega)) (rfl) dL_law_1271 ?_
  refine lv_aload_n S.1 S.2.1 dL_law_1272 rfl (lv_at hl 3 rfl) ?_
  refine j_callH (As := [.ref (ad 0), .int (xs (i + 1)), .ref (ad 74)]) (rest := []) S hK hA hW hx hnx (h_best l htr D cy ad n wf wt od sd se nc lv cs kv kx (xs (i + 1)) og ogd hPI hCI hOut hOuD) (jgo wm_L_204) yk_L_best ⟨⟨rfl, rfl⟩, by decide, by decide⟩ rfl hl.1 rfl (Nat.le_of_ble_eq_true rfl) dL_law_1273 ⟨by show cells + 2 ≤ 601024; omega, by show slots + 12 ≤ 7293033; omega⟩ (fun v w H locs hp hW => ?_)
  rcases hp with ⟨x1, len1, f1, pr, rfl, hpn, hq0, hq1, hq2, hq3, ⟨K1, hU1, hK1⟩, hCI, hOut, hOuD⟩ | ⟨rfl, hq, ⟨K1, hU1, hK1⟩, hCI, hOut, hOuD⟩ | ⟨rfl, hq, ⟨K1, hU1, hK1⟩, hCI, hOut, hOuD⟩
  · have hRI := hRI.kept hU1 (fun k hk => by have := hK1 k hk; omega)
    obtain ⟨gx, rb, tu, gO, gF, gT, gE, gD, gC0, gC1, gC2, gC3, gC4, gP, gK, gV, gR, gU, hrow, hkx⟩ := hRI
    refine W.eq (g2 := F0 m 1276 ls [.int (nI 0)]) rfl ?_
    refine lv_istore (lv' := [(6, .int (nI 0)), (0, .ref b), (1, .ref (ad 0)), (2, .ref (ad 55)), (3, .ref (ad 74)), (4, .ref (ad 75)), (5, .int (nI i))]) S.1 S.2.1 dL_law_1276 hl (by decide) rfl (fun ls hl => ?_)
    refine lv_aload_n S.1 S.2.1 dL_law_1278 rfl (lv_at hl 3 rfl) ?_
    refine lv_aload_n S.1 S.2.1 dL_law_1279 rfl (lv_at hl 1 rfl) ?_
    refine lv_iload S.1 S.2.1 dL_law_1280 (lv_at hl 6 rfl) ?_
    refine lv_iconst (v := nI 1) S.1 S.2.1 dL_law_1282 (by decide) ?_
    refine jn_add S dL_law_1283 ?_
    refine j_sld (x := nI x1) S hX hbl hbA hW (vp_in_nI (by omega) (by omega)) (nI_clamp (by omega)) (hq1) dL_law_1284 ?_
    refine j_callV (k := 55) (ci := 11) (q := (RX12, TX12, 17)) (As := [.int (nI x1)]) (rest := []) S hK hA hW (c_X12_best_ok l D cy ad th n nc sd se lv cs wf wt rb x1 len1 f1 gO gE gP gC0 gC1 gC2 gC3 gC4 gF gT gR   (by omega) (by omega) (hse2) (by omega) (hcs) (hWB.1) (hWB.2) (by omega) (by rw [← rev_M, ← rev_W hpn]; exact hq3) (by omega)) (jgo wm_L_206) yk_X12_best gO rfl rfl ⟨⟨rfl, rfl⟩, by decide, by decide⟩ rfl hl.1 rfl (Nat.le_of_ble_eq_true rfl) dL_law_1285 ⟨by show (cells + 2) + 0 ≤ 601024; omega, by show (slots + 12) + 0 ≤ 7293033; omega⟩ (fun v w_ H locs hp hW => ?_)
    obtain ⟨rb1_1285, rfl, hU1, hN1, hN2⟩ := hp
    have hU : jU w w_ [55, 56, 57, 58, 59, 60, 61, 62, 63, 64, 65, 66, 71, 72, 73, 74, 75] := jU.mono hU1 (by first | decide | (simp; done) | (simp; omega))
    have gF_ := hU1.get gF (by first | decide | (simp; done) | (simp; omega))
    have gT_ := hU1.get gT (by first | decide | (simp; done) | (simp; omega))
    have gE_ := hU1.get gE (by first | decide | (simp; done) | (simp; omega))
    have gD_ := hU1.get gD (by first | decide | (simp; done) | (simp; omega))
    have gC0_ := hU1.get gC0 (by first | decide | (simp; done) | (simp; omega))
    have gC1_ := hU1.get gC1 (by first | decide | (simp; done) | (simp; omega))
    have gC2_ := hU1.get gC2 (by first | decide | (simp; done) | (simp; omega))
    have gC3_ := hU1.get gC3 (by first | decide | (simp; done) | (simp; omega))
    have gC4_ := hU1.get gC4 (by first | decide | (simp; done) | (simp; omega))
    have gP_ := hU1.get gP (by first | decide | (simp; done) | (simp; omega))
    have gK_ := hU1.get gK (by first | decide | (simp; done) | (simp; omega))
    have gV_ := hU1.get gV (by first | decide | (simp; done) | (simp; omega))
    have gU_ := hU1.get gU (by first | decide | (simp; done) | (simp; omega))
    have hOut_ := hU1.get hOut (by first | decide | (simp; done) | (simp; omega))
    have hOuD_ := hU1.get hOuD (by first | decide | (simp; done) | (simp; omega))
    have gO_ : w_[55]? = some (ad 55, .inr (11, [.int (nI 0), .ref (ad 56), .ref (ad 57), .ref (ad 58), .ref (ad 59), .ref (ad 60), .ref (ad 61), .ref (ad 62), .ref (ad 63), .ref (ad 64), .ref (ad 65), .int (nI n), .int (nI nc), .ref (ad 66), .ref (ad 71), .ref (ad 72), .ref (ad 73)])) := hN1
    have gR_ : w_[72]? = some (ad 72, .inl (cy 3, 1024, .inl (bf rb1_1285))) := hN2
    clear hU1 hN1 hN2
    refine W.eq (g2 := F0 m 1288 ls [.int (nI (revN n (f1 x1)))]) rfl ?_
    refine lv_istore (lv' := [(7, .int (nI (revN n (f1 x1)))), (6, .int (nI 0)), (0, .ref b), (1, .ref (ad 0)), (2, .ref (ad 55)), (3, .ref (ad 74)), (4, .ref (ad 75)), (5, .int (nI i))]) S.1 S.2.1 dL_law_1288 hl (by decide) rfl (fun ls hl => ?_)
    refine lv_aload_n S.1 S.2.1 dL_law_1290 rfl (lv_at hl 4 rfl) ?_
    refine j_callV (k := 55) (ci := 11) (q := (RX12, TX12, 17)) (As := []) (rest := []) S hK hA hW (c_X12_thrown l D cy ad 0 n nc gO_   ) (jgo wm_L_136) yk_X12_thrown gO_ rfl rfl ⟨⟨rfl, rfl⟩, by decide, by decide⟩ rfl hl.1 rfl (Nat.le_of_ble_eq_true rfl) dL_law_1291 ⟨by show (cells + 2) + 0 ≤ 601024; omega, by show (slots + 12) + 0 ≤ 7293033; omega⟩ (fun v u H locs hp hW => ?_)
    obtain ⟨rfl, rfl⟩ := hp
    refine W.eq (g2 := F0 m 1294 ls [.int (nI 0)]) rfl ?_
    refine lv_iload S.1 S.2.1 dL_law_1294 (lv_at hl 1 rfl) ?_
    refine jn_cmp_eq (tgt := 1301) S (by omega) (by omega) dL_law_1296 (by decide) (fun c_1296 => ?_) (fun c_1296 => ?_)
    · refine lv_iload S.1 S.2.1 dL_law_1301 (lv_at hl 1 rfl) ?_
      refine jn_if_ne (tgt := 1318) S (by omega) dL_law_1303 (by decide) (fun c_1303 => ?_) (fun c_1303 => ?_)
      · first | exact absurd (show 0 ≠ 0 from c_1303) (by decide) | exact absurd c_1303 (by decide)
      · refine lv_aload_n S.1 S.2.1 dL_law_1306 rfl (lv_at hl 5 rfl) ?_
        refine lv_iconst (v := nI 0) S.1 S.2.1 dL_law_1307 (by decide) ?_
        refine j_lald (x := (nI (revN n (f1 x1))).toInt64) S hK hW hOut_ (vp_in_nI (by omega) (by omega)) (nI_clamp (by omega)) (if_pos rfl) dL_law_1308 ?_
        refine lv_iload S.1 S.2.1 dL_law_1309 (lv_at hl 0 rfl) ?_
        refine lv_i2l (v := (nI (revN n (f1 x1))).toInt64) S.1 S.2.1 dL_law_1311 (rfl) ?_
        refine jl_eq (tgt := 1318) S dL_law_1312 dL_law_1313 (by decide) (fun c_1313 => ?_) (fun c_1313 => ?_)
        · refine lv_goto (tgt := 2382) S.1 S.2.1 dL_law_1318 (by decide) ?_
          exact W.widen (by omega) (by omega) (kk _ _ _ _ ⟨_, _, _, _, _, _, _, _, _, _, _, _, _, _, hPI, (hCI.kept hU (by first | decide | (intro k hk; simp at hk; omega))), ⟨gx, _, _, gO_, gF_, gT_, gE_, gD_, gC0_, gC1_, gC2_, gC3_, gC4_, gP_, gK_, gV_, gR_, gU_, fun j hj => hU.get (hrow j hj) (by simp; omega), hkx⟩, hOut_, hOuD_⟩ hW (lv_sub hl [2, 3, 4, 5, 6, 7] rfl))
        · exact absurd rfl c_1313
    · first | exact absurd (show 0 ≠ 0 from c_1296) (by decide) | exact absurd c_1296 (by decide)
  · have hRI := hRI.kept hU1 (fun k hk => by have := hK1 k hk; omega)
    obtain ⟨gx, rb, tu, gO, gF, gT, gE, gD, gC0, gC1, gC2, gC3, gC4, gP, gK, gV, gR, gU, hrow, hkx⟩ := hRI
    refine W.eq (g2 := F0 m 1276 ls [.int (nI 1)]) rfl ?_
    refine lv_istore (lv' := [(6, .int (nI 1)), (0, .ref b), (1, .ref (ad 0)), (2, .ref (ad 55)), (3, .ref (ad 74)), (4, .ref (ad 75)), (5, .int (nI i))]) S.1 S.2.1 dL_law_1276 hl (by decide) rfl (fun ls hl => ?_)
    refine lv_aload_n S.1 S.2.1 dL_law_1278 rfl (lv_at hl 3 rfl) ?_
    refine lv_aload_n S.1 S.2.1 dL_law_1279 rfl (lv_at hl 1 rfl) ?_
    refine lv_iload S.1 S.2.1 dL_law_1280 (lv_at hl 6 rfl) ?_
    refine lv_iconst (v := nI 1) S.1 S.2.1 dL_law_1282 (by decide) ?_
    refine jn_add S dL_law_1283 ?_
    refine j_sld (x := xs (i + 1)) S hX hbl hbA hW (vp_in_nI (by omega) (by omega)) (nI_clamp (by omega)) (rfl) dL_law_1284 ?_
    refine j_callV (k := 55) (ci := 11) (q := (RX12, TX12, 17)) (As := [.int (xs (i + 1))]) (rest := []) S hK hA hW (c_X12_best_b1 l D cy ad th n nc (xs (i + 1)) gO   (hq)) (jgo wm_L_206) yk_X12_best gO rfl rfl ⟨⟨rfl, rfl⟩, by decide, by decide⟩ rfl hl.1 rfl (Nat.le_of_ble_eq_true rfl) dL_law_1285 ⟨by show (cells + 2) + 0 ≤ 601024; omega, by show (slots + 12) + 0 ≤ 7293033; omega⟩ (fun v w_ H locs hp hW => ?_)
    obtain ⟨rfl, hU1, hN1⟩ := hp
    have hU : jU w w_ [55, 56, 57, 58, 59, 60, 61, 62, 63, 64, 65, 66, 71, 72, 73, 74, 75] := jU.mono hU1 (by first | decide | (simp; done) | (simp; omega))
    have gF_ := hU1.get gF (by first | decide | (simp; done) | (simp; omega))
    have gT_ := hU1.get gT (by first | decide | (simp; done) | (simp; omega))
    have gE_ := hU1.get gE (by first | decide | (simp; done) | (simp; omega))
    have gD_ := hU1.get gD (by first | decide | (simp; done) | (simp; omega))
    have gC0_ := hU1.get gC0 (by first | decide | (simp; done) | (simp; omega))
    have gC1_ := hU1.get gC1 (by first | decide | (simp; done) | (simp; omega))
    have gC2_ := hU1.get gC2 (by first | decide | (simp; done) | (simp; omega))
    have gC3_ := hU1.get gC3 (by first | decide | (simp; done) | (simp; omega))
    have gC4_ := hU1.get gC4 (by first | decide | (simp; done) | (simp; omega))
    have gP_ := hU1.get gP (by first | decide | (simp; done) | (simp; omega))
    have gK_ := hU1.get gK (by first | decide | (simp; done) | (simp; omega))
    have gV_ := hU1.get gV (by first | decide | (simp; done) | (simp; omega))
    have gR_ := hU1.get gR (by first | decide | (simp; done) | (simp; omega))
    have gU_ := hU1.get gU (by first | decide | (simp; done) | (simp; omega))
    have hOut_ := hU1.get hOut (by first | decide | (simp; done) | (simp; omega))
    have hOuD_ := hU1.get hOuD (by first | decide | (simp; done) | (simp; omega))
    have gO_ : w_[55]? = some (ad 55, .inr (11, [.int (nI 1), .ref (ad 56), .ref (ad 57), .ref (ad 58), .ref (ad 59), .ref (ad 60), .ref (ad 61), .ref (ad 62), .ref (ad 63), .ref (ad 64), .ref (ad 65), .int (nI n), .int (nI nc), .ref (ad 66), .ref (ad 71), .ref (ad 72), .ref (ad 73)])) := hN1
    clear hU1 hN1
    refine W.eq (g2 := F0 m 1288 ls [.int (nI 0)]) rfl ?_
    refine lv_istore (lv' := [(7, .int (nI 0)), (6, .int (nI 1)), (0, .ref b), (1, .ref (ad 0)), (2, .ref (ad 55)), (3, .ref (ad 74)), (4, .ref (ad 75)), (5, .int (nI i))]) S.1 S.2.1 dL_law_1288 hl (by decide) rfl (fun ls hl => ?_)
    refine lv_aload_n S.1 S.2.1 dL_law_1290 rfl (lv_at hl 4 rfl) ?_
    refine j_callV (k := 55) (ci := 11) (q := (RX12, TX12, 17)) (As := []) (rest := []) S hK hA hW (c_X12_thrown l D cy ad 1 n nc gO_   ) (jgo wm_L_136) yk_X12_thrown gO_ rfl rfl ⟨⟨rfl, rfl⟩, by decide, by decide⟩ rfl hl.1 rfl (Nat.le_of_ble_eq_true rfl) dL_law_1291 ⟨by show (cells + 2) + 0 ≤ 601024; omega, by show (slots + 12) + 0 ≤ 7293033; omega⟩ (fun v u H locs hp hW => ?_)
    obtain ⟨rfl, rfl⟩ := hp
    refine W.eq (g2 := F0 m 1294 ls [.int (nI 1)]) rfl ?_
    refine lv_iload S.1 S.2.1 dL_law_1294 (lv_at hl 1 rfl) ?_
    refine jn_cmp_eq (tgt := 1301) S (by omega) (by omega) dL_law_1296 (by decide) (fun c_1296 => ?_) (fun c_1296 => ?_)
    · refine lv_iload S.1 S.2.1 dL_law_1301 (lv_at hl 1 rfl) ?_
      refine jn_if_ne (tgt := 1318) S (by omega) dL_law_1303 (by decide) (fun c_1303 => ?_) (fun c_1303 => ?_)
      · refine lv_goto (tgt := 2382) S.1 S.2.1 dL_law_1318 (by decide) ?_
        exact W.widen (by omega) (by omega) (kk _ _ _ _ ⟨_, _, _, _, _, _, _, _, _, _, _, _, _, _, hPI, (hCI.kept hU (by first | decide | (intro k hk; simp at hk; omega))), ⟨gx, _, _, gO_, gF_, gT_, gE_, gD_, gC0_, gC1_, gC2_, gC3_, gC4_, gP_, gK_, gV_, gR_, gU_, fun j hj => hU.get (hrow j hj) (by simp; omega), hkx⟩, hOut_, hOuD_⟩ hW (lv_sub hl [2, 3, 4, 5, 6, 7] rfl))
      · first | exact absurd (show 1 = 0 from c_1303) (by decide) | exact absurd c_1303 (by decide)
    · first | exact absurd (show 1 ≠ 1 from c_1296) (by decide) | exact absurd c_1296 (by decide)
  · have hRI := hRI.kept hU1 (fun k hk => by have := hK1 k hk; omega)
    obtain ⟨gx, rb, tu, gO, gF, gT, gE, gD, gC0, gC1, gC2, gC3, gC4, gP, gK, gV, gR, gU, hrow, hkx⟩ := hRI
    obtain ⟨x1, hx1, e1, h1⟩ := hq
    obtain ⟨len1, f1, hsr⟩ := srt_ex (fun d => mdc sd se nc cs lv (revN n d)) (fun d => prodN wf wt (revN n d) n) (2 ^ n)
    have hlen := hsr.1
    rw [rev_M] at h1
    refine W.eq (g2 := F0 m 1276 ls [.int (nI 2)]) rfl ?_
    refine lv_istore (lv' := [(6, .int (nI 2)), (0, .ref b), (1, .ref (ad 0)), (2, .ref (ad 55)), (3, .ref (ad 74)), (4, .ref (ad 75)), (5, .int (nI i))]) S.1 S.2.1 dL_law_1276 hl (by decide) rfl (fun ls hl => ?_)
    refine lv_aload_n S.1 S.2.1 dL_law_1278 rfl (lv_at hl 3 rfl) ?_
    refine lv_aload_n S.1 S.2.1 dL_law_1279 rfl (lv_at hl 1 rfl) ?_
    refine lv_iload S.1 S.2.1 dL_law_1280 (lv_at hl 6 rfl) ?_
    refine lv_iconst (v := nI 1) S.1 S.2.1 dL_law_1282 (by decide) ?_
    refine jn_add S dL_law_1283 ?_
    refine j_sld (x := nI x1) S hX hbl hbA hW (vp_in_nI (by omega) (by omega)) (nI_clamp (by omega)) (e1) dL_law_1284 ?_
    refine j_callV (k := 55) (ci := 11) (q := (RX12, TX12, 17)) (As := [.int (nI x1)]) (rest := []) S hK hA hW (c_X12_best_b2 l D cy ad th n nc sd se lv cs wf wt rb x1 len1 f1 gO gE gP gC0 gC1 gC2 gC3 gC4 gF gT gR   (by omega) (by omega) (hse2) (by omega) (hcs) (hWB.1) (hWB.2) (by omega) (hsr) (by omega)) (jgo wm_L_206) yk_X12_best gO rfl rfl ⟨⟨rfl, rfl⟩, by decide, by decide⟩ rfl hl.1 rfl (Nat.le_of_ble_eq_true rfl) dL_law_1285 ⟨by show (cells + 2) + 0 ≤ 601024; omega, by show (slots + 12) + 0 ≤ 7293033; omega⟩ (fun v w_ H locs hp hW => ?_)
    obtain ⟨rb1_1285, rfl, hU1, hN1, hN2⟩ := hp
    have hU : jU w w_ [55, 56, 57, 58, 59, 60, 61, 62, 63, 64, 65, 66, 71, 72, 73, 74, 75] := jU.mono hU1 (by first | decide | (simp; done) | (simp; omega))
    have gF_ := hU1.get gF (by first | decide | (simp; done) | (simp; omega))
    have gT_ := hU1.get gT (by first | decide | (simp; done) | (simp; omega))
    have gE_ := hU1.get gE (by first | decide | (simp; done) | (simp; omega))
    have gD_ := hU1.get gD (by first | decide | (simp; done) | (simp; omega))
    have gC0_ := hU1.get gC0 (by first | decide | (simp; done) | (simp; omega))
    have gC1_ := hU1.get gC1 (by first | decide | (simp; done) | (simp; omega))
    have gC2_ := hU1.get gC2 (by first | decide | (simp; done) | (simp; omega))
    have gC3_ := hU1.get gC3 (by first | decide | (simp; done) | (simp; omega))
    have gC4_ := hU1.get gC4 (by first | decide | (simp; done) | (simp; omega))
    have gP_ := hU1.get gP (by first | decide | (simp; done) | (simp; omega))
    have gK_ := hU1.get gK (by first | decide | (simp; done) | (simp; omega))
    have gV_ := hU1.get gV (by first | decide | (simp; done) | (simp; omega))
    have gU_ := hU1.get gU (by first | decide | (simp; done) | (simp; omega))
    have hOut_ := hU1.get hOut (by first | decide | (simp; done) | (simp; omega))
    have hOuD_ := hU1.get hOuD (by first | decide | (simp; done) | (simp; omega))
    have gO_ : w_[55]? = some (ad 55, .inr (11, [.int (nI 2), .ref (ad 56), .ref (ad 57), .ref (ad 58), .ref (ad 59), .ref (ad 60), .ref (ad 61), .ref (ad 62), .ref (ad 63), .ref (ad 64), .ref (ad 65), .int (nI n), .int (nI nc), .ref (ad 66), .ref (ad 71), .ref (ad 72), .ref (ad 73)])) := hN1
    have gR_ : w_[72]? = some (ad 72, .inl (cy 3, 1024, .inl (bf rb1_1285))) := hN2
    clear hU1 hN1 hN2
    refine W.eq (g2 := F0 m 1288 ls [.int (nI 0)]) rfl ?_
    refine lv_istore (lv' := [(7, .int (nI 0)), (6, .int (nI 2)), (0, .ref b), (1, .ref (ad 0)), (2, .ref (ad 55)), (3, .ref (ad 74)), (4, .ref (ad 75)), (5, .int (nI i))]) S.1 S.2.1 dL_law_1288 hl (by decide) rfl (fun ls hl => ?_)
    refine lv_aload_n S.1 S.2.1 dL_law_1290 rfl (lv_at hl 4 rfl) ?_
    refine j_callV (k := 55) (ci := 11) (q := (RX12, TX12, 17)) (As := []) (rest := []) S hK hA hW (c_X12_thrown l D cy ad 2 n nc gO_   ) (jgo wm_L_136) yk_X12_thrown gO_ rfl rfl ⟨⟨rfl, rfl⟩, by decide, by decide⟩ rfl hl.1 rfl (Nat.le_of_ble_eq_true rfl) dL_law_1291 ⟨by show (cells + 2) + 0 ≤ 601024; omega, by show (slots + 12) + 0 ≤ 7293033; omega⟩ (fun v u H locs hp hW => ?_)
    obtain ⟨rfl, rfl⟩ := hp
    refine W.eq (g2 := F0 m 1294 ls [.int (nI 2)]) rfl ?_
    refine lv_iload S.1 S.2.1 dL_law_1294 (lv_at hl 1 rfl) ?_
    refine jn_cmp_eq (tgt := 1301) S (by omega) (by omega) dL_law_1296 (by decide) (fun c_1296 => ?_) (fun c_1296 => ?_)
    · refine lv_iload S.1 S.2.1 dL_law_1301 (lv_at hl 1 rfl) ?_
      refine jn_if_ne (tgt := 1318) S (by omega) dL_law_1303 (by decide) (fun c_1303 => ?_) (fun c_1303 => ?_)
      · refine lv_goto (tgt := 2382) S.1 S.2.1 dL_law_1318 (by decide) ?_
        exact W.widen (by omega) (by omega) (kk _ _ _ _ ⟨_, _, _, _, _, _, _, _, _, _, _, _, _, _, hPI, (hCI.kept hU (by first | decide | (intro k hk; simp at hk; omega))), ⟨gx, _, _, gO_, gF_, gT_, gE_, gD_, gC0_, gC1_, gC2_, gC3_, gC4_, gP_, gK_, gV_, gR_, gU_, fun j hj => hU.get (hrow j hj) (by simp; omega), hkx⟩, hOut_, hOuD_⟩ hW (lv_sub hl [2, 3, 4, 5, 6, 7] rfl))
      · first | exact absurd (show 2 = 0 from c_1303) (by decide) | exact absurd c_1303 (by decide)
    · first | exact absurd (show 2 ≠ 2 from c_1296) (by decide) | exact absurd c_1296 (by decide)
/-- the law's weightOf -/
theorem s_weightOf {p : Program} {l : Launch} {e : Env} {s : State} {m : MethodId} {args : Array Value} {below : List Frame} {meth : Method} {c : Code} {Q : State → Prop} {D : va_G} {cy : Nat → ClassId} {A : Nat → Prop} {x0 : Cond} {ad : Nat → Nat} {b L : Nat} {xs : Nat → Int32} {i : Nat} {w : va_W} {H : Heap} {locs : List Loc} {ls : Array Slot} {cells slots : Nat} (htr : l.stackTraces = false) (C : LX p s m c args D cy A b L xs x0) (hI : INV ad cy w) (hW : jW D A s.heap w H locs) (hl : lv_has ls 10 [(0, .ref b), (1, .ref (ad 0)), (2, .ref (ad 55)), (3, .ref (ad 74)), (4, .ref (ad 75)), (5, .int (nI i))]) (hi : i + 5 ≤ L) (hL : L ≤ 2560) (hc : cells + 10 ≤ 601024) (hs : slots + 64 ≤ 7293033) (kk : LK p l e s m args below meth c Q D cy A ad b i cells slots) : W p l e room_1 s m args below meth c H locs cells slots Q (F0 m 1321 ls []) := by
  obtain ⟨S, hK, hA, hX, hbl, hbA, hx, hnx⟩ := C
  obtain ⟨n, wf, wt, od, sd, se, nc, lv, cs, kv, kx, th, og, ogd, hPI, hCI, hRI, hOut, hOuD⟩ := hI
  have hPI0 := hPI
  obtain ⟨hn, hsdn, hse2, hnc, hlvn, hcs, hkI, hod, hodn, hinj⟩ := hPI0
  have hp2 := two_pow10 hn
  have hpt := Nat.two_pow_pos n
  have hWB := hCI.wb
  refine lv_aload_n S.1 S.2.1 dL_law_1321 rfl (lv_at hl 1 rfl) ?_
  refine lv_aload_n S.1 S.2.1 dL_law_1322 rfl (lv_at hl 0 rfl) ?_
  refine lv_iload S.1 S.2.1 dL_law_1323 (lv_at hl 5 rfl) ?_
  refine lv_iconst (v := nI 1) S.1 S.2.1 dL_law_1325 (by decide) ?_
  refine jn_add S dL_law_1326 ?_
  refine j_sld (x := xs (i + 1)) S hX hbl hbA hW (vp_in_nI (by omega) (by omega)) (nI_clamp (by omega)) (rfl) dL_law_1327 ?_
  refine lv_aload_n S.1 S.2.1 dL_law_1328 rfl (lv_at hl 3 rfl) ?_
  refine j_callH (As := [.ref (ad 0), .int (xs (i + 1)), .ref (ad 74)]) (rest := []) S hK hA hW hx hnx (h_weightOf l htr D cy ad n wf wt od sd se nc lv cs kv kx (xs (i + 1)) og ogd hPI hCI hOut hOuD) (jgo wm_L_207) yk_L_weightOf ⟨⟨rfl, rfl⟩, by decide, by decide⟩ rfl hl.1 rfl (Nat.le_of_ble_eq_true rfl) dL_law_1329 ⟨by show cells + 1 ≤ 601024; omega, by show slots + 6 ≤ 7293033; omega⟩ (fun v w H locs hp hW => ?_)
  rcases hp with ⟨y1, pr, rfl, hpn, hq0, hq1, ⟨K1, hU1, hK1⟩, hCI, hOut, hOuD⟩ | ⟨rfl, hq, ⟨K1, hU1, hK1⟩, hCI, hOut, hOuD⟩
  · have hRI := hRI.kept hU1 (fun k hk => by have := hK1 k hk; omega)
    obtain ⟨gx, rb, tu, gO, gF, gT, gE, gD, gC0, gC1, gC2, gC3, gC4, gP, gK, gV, gR, gU, hrow, hkx⟩ := hRI
    refine W.eq (g2 := F0 m 1332 ls [.int (nI 0)]) rfl ?_
    refine lv_istore (lv' := [(6, .int (nI 0)), (0, .ref b), (1, .ref (ad 0)), (2, .ref (ad 55)), (3, .ref (ad 74)), (4, .ref (ad 75)), (5, .int (nI i))]) S.1 S.2.1 dL_law_1332 hl (by decide) rfl (fun ls hl => ?_)
    refine lv_aload_n S.1 S.2.1 dL_law_1334 rfl (lv_at hl 3 rfl) ?_
    refine lv_aload_n S.1 S.2.1 dL_law_1335 rfl (lv_at hl 1 rfl) ?_
    refine lv_iload S.1 S.2.1 dL_law_1336 (lv_at hl 6 rfl) ?_
    refine lv_iconst (v := nI 1) S.1 S.2.1 dL_law_1338 (by decide) ?_
    refine jn_add S dL_law_1339 ?_
    refine j_sld (x := nI y1) S hX hbl hbA hW (vp_in_nI (by omega) (by omega)) (nI_clamp (by omega)) (hq1) dL_law_1340 ?_
    refine j_callV (k := 55) (ci := 11) (q := (RX12, TX12, 17)) (As := [.int (nI y1)]) (rest := []) S hK hA hW (c_X12_weightOf__ok l D cy ad th n nc wf wt y1 gO gF gT   (by omega) (hWB.1) (hWB.2) (by omega)) (jgo wm_L_209) yk_X12_weightOf_ gO rfl rfl ⟨⟨rfl, rfl⟩, by decide, by decide⟩ rfl hl.1 rfl (Nat.le_of_ble_eq_true rfl) dL_law_1341 ⟨by show (cells + 1) + 0 ≤ 601024; omega, by show (slots + 6) + 0 ≤ 7293033; omega⟩ (fun v w_ H locs hp hW => ?_)
    obtain ⟨rfl, hU1, hN1⟩ := hp
    have hU : jU w w_ [55, 56, 57, 58, 59, 60, 61, 62, 63, 64, 65, 66, 71, 72, 73, 74, 75] := jU.mono hU1 (by first | decide | (simp; done) | (simp; omega))
    have gF_ := hU1.get gF (by first | decide | (simp; done) | (simp; omega))
    have gT_ := hU1.get gT (by first | decide | (simp; done) | (simp; omega))
    have gE_ := hU1.get gE (by first | decide | (simp; done) | (simp; omega))
    have gD_ := hU1.get gD (by first | decide | (simp; done) | (simp; omega))
    have gC0_ := hU1.get gC0 (by first | decide | (simp; done) | (simp; omega))
    have gC1_ := hU1.get gC1 (by first | decide | (simp; done) | (simp; omega))
    have gC2_ := hU1.get gC2 (by first | decide | (simp; done) | (simp; omega))
    have gC3_ := hU1.get gC3 (by first | decide | (simp; done) | (simp; omega))
    have gC4_ := hU1.get gC4 (by first | decide | (simp; done) | (simp; omega))
    have gP_ := hU1.get gP (by first | decide | (simp; done) | (simp; omega))
    have gK_ := hU1.get gK (by first | decide | (simp; done) | (simp; omega))
    have gV_ := hU1.get gV (by first | decide | (simp; done) | (simp; omega))
    have gR_ := hU1.get gR (by first | decide | (simp; done) | (simp; omega))
    have gU_ := hU1.get gU (by first | decide | (simp; done) | (simp; omega))
    have hOut_ := hU1.get hOut (by first | decide | (simp; done) | (simp; omega))
    have hOuD_ := hU1.get hOuD (by first | decide | (simp; done) | (simp; omega))
    have gO_ : w_[55]? = some (ad 55, .inr (11, [.int (nI 0), .ref (ad 56), .ref (ad 57), .ref (ad 58), .ref (ad 59), .ref (ad 60), .ref (ad 61), .ref (ad 62), .ref (ad 63), .ref (ad 64), .ref (ad 65), .int (nI n), .int (nI nc), .ref (ad 66), .ref (ad 71), .ref (ad 72), .ref (ad 73)])) := hN1
    clear hU1 hN1
    refine W.eq (g2 := F0 m 1344 ls [.long (lN (prodN wf wt y1 n))]) rfl ?_
    refine lv_topl_to (y := lN (pr y1)) (congrArg lN (hpn y1 hq0).symm) ?_
    refine lv_lstore (lv' := [(7, .long (lN (pr y1))), (6, .int (nI 0)), (0, .ref b), (1, .ref (ad 0)), (2, .ref (ad 55)), (3, .ref (ad 74)), (4, .ref (ad 75)), (5, .int (nI i))]) S.1 S.2.1 dL_law_1344 hl (by decide) rfl (fun ls hl => ?_)
    refine lv_aload_n S.1 S.2.1 dL_law_1346 rfl (lv_at hl 4 rfl) ?_
    refine j_callV (k := 55) (ci := 11) (q := (RX12, TX12, 17)) (As := []) (rest := []) S hK hA hW (c_X12_thrown l D cy ad 0 n nc gO_   ) (jgo wm_L_136) yk_X12_thrown gO_ rfl rfl ⟨⟨rfl, rfl⟩, by decide, by decide⟩ rfl hl.1 rfl (Nat.le_of_ble_eq_true rfl) dL_law_1347 ⟨by show (cells + 1) + 0 ≤ 601024; omega, by show (slots + 6) + 0 ≤ 7293033; omega⟩ (fun v u H locs hp hW => ?_)
    obtain ⟨rfl, rfl⟩ := hp
    refine W.eq (g2 := F0 m 1350 ls [.int (nI 0)]) rfl ?_
    refine lv_iload S.1 S.2.1 dL_law_1350 (lv_at hl 1 rfl) ?_
    refine jn_cmp_eq (tgt := 1357) S (by omega) (by omega) dL_law_1352 (by decide) (fun c_1352 => ?_) (fun c_1352 => ?_)
    · refine lv_iload S.1 S.2.1 dL_law_1357 (lv_at hl 1 rfl) ?_
      refine jn_if_ne (tgt := 1373) S (by omega) dL_law_1359 (by decide) (fun c_1359 => ?_) (fun c_1359 => ?_)
      · first | exact absurd (show 0 ≠ 0 from c_1359) (by decide) | exact absurd c_1359 (by decide)
      · refine lv_aload_n S.1 S.2.1 dL_law_1362 rfl (lv_at hl 5 rfl) ?_
        refine lv_iconst (v := nI 0) S.1 S.2.1 dL_law_1363 (by decide) ?_
        refine j_lald (x := lN (pr y1)) S hK hW hOut_ (vp_in_nI (by omega) (by omega)) (nI_clamp (by omega)) (if_pos rfl) dL_law_1364 ?_
        refine lv_lload S.1 S.2.1 dL_law_1365 (lv_at hl 0 rfl) ?_
        refine jl_eq (tgt := 1373) S dL_law_1367 dL_law_1368 (by decide) (fun c_1368 => ?_) (fun c_1368 => ?_)
        · refine lv_goto (tgt := 2382) S.1 S.2.1 dL_law_1373 (by decide) ?_
          exact W.widen (by omega) (by omega) (kk _ _ _ _ ⟨_, _, _, _, _, _, _, _, _, _, _, _, _, _, hPI, (hCI.kept hU (by first | decide | (intro k hk; simp at hk; omega))), ⟨gx, _, _, gO_, gF_, gT_, gE_, gD_, gC0_, gC1_, gC2_, gC3_, gC4_, gP_, gK_, gV_, gR_, gU_, fun j hj => hU.get (hrow j hj) (by simp; omega), hkx⟩, hOut_, hOuD_⟩ hW (lv_sub hl [2, 3, 4, 5, 6, 7] rfl))
        · exact absurd rfl c_1368
    · first | exact absurd (show 0 ≠ 0 from c_1352) (by decide) | exact absurd c_1352 (by decide)
  · have hRI := hRI.kept hU1 (fun k hk => by have := hK1 k hk; omega)
    obtain ⟨gx, rb, tu, gO, gF, gT, gE, gD, gC0, gC1, gC2, gC3, gC4, gP, gK, gV, gR, gU, hrow, hkx⟩ := hRI
    refine W.eq (g2 := F0 m 1332 ls [.int (nI 1)]) rfl ?_
    refine lv_istore (lv' := [(6, .int (nI 1)), (0, .ref b), (1, .ref (ad 0)), (2, .ref (ad 55)), (3, .ref (ad 74)), (4, .ref (ad 75)), (5, .int (nI i))]) S.1 S.2.1 dL_law_1332 hl (by decide) rfl (fun ls hl => ?_)
    refine lv_aload_n S.1 S.2.1 dL_law_1334 rfl (lv_at hl 3 rfl) ?_
    refine lv_aload_n S.1 S.2.1 dL_law_1335 rfl (lv_at hl 1 rfl) ?_
    refine lv_iload S.1 S.2.1 dL_law_1336 (lv_at hl 6 rfl) ?_
    refine lv_iconst (v := nI 1) S.1 S.2.1 dL_law_1338 (by decide) ?_
    refine jn_add S dL_law_1339 ?_
    refine j_sld (x := xs (i + 1)) S hX hbl hbA hW (vp_in_nI (by omega) (by omega)) (nI_clamp (by omega)) (rfl) dL_law_1340 ?_
    refine j_callV (k := 55) (ci := 11) (q := (RX12, TX12, 17)) (As := [.int (xs (i + 1))]) (rest := []) S hK hA hW (c_X12_weightOf__b l D cy ad th n nc (xs (i + 1)) gO   (by omega) (hq)) (jgo wm_L_209) yk_X12_weightOf_ gO rfl rfl ⟨⟨rfl, rfl⟩, by decide, by decide⟩ rfl hl.1 rfl (Nat.le_of_ble_eq_true rfl) dL_law_1341 ⟨by show (cells + 1) + 0 ≤ 601024; omega, by show (slots + 6) + 0 ≤ 7293033; omega⟩ (fun v w_ H locs hp hW => ?_)
    obtain ⟨rfl, hU1, hN1⟩ := hp
    have hU : jU w w_ [55, 56, 57, 58, 59, 60, 61, 62, 63, 64, 65, 66, 71, 72, 73, 74, 75] := jU.mono hU1 (by first | decide | (simp; done) | (simp; omega))
    have gF_ := hU1.get gF (by first | decide | (simp; done) | (simp; omega))
    have gT_ := hU1.get gT (by first | decide | (simp; done) | (simp; omega))
    have gE_ := hU1.get gE (by first | decide | (simp; done) | (simp; omega))
    have gD_ := hU1.get gD (by first | decide | (simp; done) | (simp; omega))
    have gC0_ := hU1.get gC0 (by first | decide | (simp; done) | (simp; omega))
    have gC1_ := hU1.get gC1 (by first | decide | (simp; done) | (simp; omega))
    have gC2_ := hU1.get gC2 (by first | decide | (simp; done) | (simp; omega))
    have gC3_ := hU1.get gC3 (by first | decide | (simp; done) | (simp; omega))
    have gC4_ := hU1.get gC4 (by first | decide | (simp; done) | (simp; omega))
    have gP_ := hU1.get gP (by first | decide | (simp; done) | (simp; omega))
    have gK_ := hU1.get gK (by first | decide | (simp; done) | (simp; omega))
    have gV_ := hU1.get gV (by first | decide | (simp; done) | (simp; omega))
    have gR_ := hU1.get gR (by first | decide | (simp; done) | (simp; omega))
    have gU_ := hU1.get gU (by first | decide | (simp; done) | (simp; omega))
    have hOut_ := hU1.get hOut (by first | decide | (simp; done) | (simp; omega))
    have hOuD_ := hU1.get hOuD (by first | decide | (simp; done) | (simp; omega))
    have gO_ : w_[55]? = some (ad 55, .inr (11, [.int (nI 1), .ref (ad 56), .ref (ad 57), .ref (ad 58), .ref (ad 59), .ref (ad 60), .ref (ad 61), .ref (ad 62), .ref (ad 63), .ref (ad 64), .ref (ad 65), .int (nI n), .int (nI nc), .ref (ad 66), .ref (ad 71), .ref (ad 72), .ref (ad 73)])) := hN1
    clear hU1 hN1
    refine W.eq (g2 := F0 m 1344 ls [.long (lN 0)]) rfl ?_
    refine lv_lstore (lv' := [(7, .long (lN 0)), (6, .int (nI 1)), (0, .ref b), (1, .ref (ad 0)), (2, .ref (ad 55)), (3, .ref (ad 74)), (4, .ref (ad 75)), (5, .int (nI i))]) S.1 S.2.1 dL_law_1344 hl (by decide) rfl (fun ls hl => ?_)
    refine lv_aload_n S.1 S.2.1 dL_law_1346 rfl (lv_at hl 4 rfl) ?_
    refine j_callV (k := 55) (ci := 11) (q := (RX12, TX12, 17)) (As := []) (rest := []) S hK hA hW (c_X12_thrown l D cy ad 1 n nc gO_   ) (jgo wm_L_136) yk_X12_thrown gO_ rfl rfl ⟨⟨rfl, rfl⟩, by decide, by decide⟩ rfl hl.1 rfl (Nat.le_of_ble_eq_true rfl) dL_law_1347 ⟨by show (cells + 1) + 0 ≤ 601024; omega, by show (slots + 6) + 0 ≤ 7293033; omega⟩ (fun v u H locs hp hW => ?_)
    obtain ⟨rfl, rfl⟩ := hp
    refine W.eq (g2 := F0 m 1350 ls [.int (nI 1)]) rfl ?_
    refine lv_iload S.1 S.2.1 dL_law_1350 (lv_at hl 1 rfl) ?_
    refine jn_cmp_eq (tgt := 1357) S (by omega) (by omega) dL_law_1352 (by decide) (fun c_1352 => ?_) (fun c_1352 => ?_)
    · refine lv_iload S.1 S.2.1 dL_law_1357 (lv_at hl 1 rfl) ?_
      refine jn_if_ne (tgt := 1373) S (by omega) dL_law_1359 (by decide) (fun c_1359 => ?_) (fun c_1359 => ?_)
      · refine lv_goto (tgt := 2382) S.1 S.2.1 dL_law_1373 (by decide) ?_
        exact W.widen (by omega) (by omega) (kk _ _ _ _ ⟨_, _, _, _, _, _, _, _, _, _, _, _, _, _, hPI, (hCI.kept hU (by first | decide | (intro k hk; simp at hk; omega))), ⟨gx, _, _, gO_, gF_, gT_, gE_, gD_, gC0_, gC1_, gC2_, gC3_, gC4_, gP_, gK_, gV_, gR_, gU_, fun j hj => hU.get (hrow j hj) (by simp; omega), hkx⟩, hOut_, hOuD_⟩ hW (lv_sub hl [2, 3, 4, 5, 6, 7] rfl))
      · first | exact absurd (show 1 = 0 from c_1359) (by decide) | exact absurd c_1359 (by decide)
    · first | exact absurd (show 1 ≠ 1 from c_1352) (by decide) | exact absurd c_1352 (by decide)
/-- the law's lucky -/
theorem s_lucky {p : Program} {l : Launch} {e : Env} {s : State} {m : MethodId} {args : Array Value} {below : List Frame} {meth : Method} {c : Code} {Q : State → Prop} {D : va_G} {cy : Nat → ClassId} {A : Nat → Prop} {x0 : Cond} {ad : Nat → Nat} {b L : Nat} {xs : Nat → Int32} {i : Nat} {w : va_W} {H : Heap} {locs : List Loc} {ls : Array Slot} {cells slots : Nat} (htr : l.stackTraces = false) (C : LX p s m c args D cy A b L xs x0) (hI : INV ad cy w) (hW : jW D A s.heap w H locs) (hl : lv_has ls 10 [(0, .ref b), (1, .ref (ad 0)), (2, .ref (ad 55)), (3, .ref (ad 74)), (4, .ref (ad 75)), (5, .int (nI i))]) (hi : i + 5 ≤ L) (hL : L ≤ 2560) (hc : cells + 10 ≤ 601024) (hs : slots + 64 ≤ 7293033) (kk : LK p l e s m args below meth c Q D cy A ad b i cells slots) : W p l e room_1 s m args below meth c H locs cells slots Q (F0 m 1376 ls []) := by
  obtain ⟨S, hK, hA, hX, hbl, hbA, hx, hnx⟩ := C
  obtain ⟨n, wf, wt, od, sd, se, nc, lv, cs, kv, kx, th, og, ogd, hPI, hCI, hRI, hOut, hOuD⟩ := hI
  have hPI0 := hPI
  obtain ⟨hn, hsdn, hse2, hnc, hlvn, hcs, hkI, hod, hodn, hinj⟩ := hPI0
  have hp2 := two_pow10 hn
  have hpt := Nat.two_pow_pos n
  have hWB := hCI.wb
  refine lv_aload_n S.1 S.2.1 dL_law_1376 rfl (lv_at hl 1 rfl) ?_
  refine lv_aload_n S.1 S.2.1 dL_law_1377 rfl (lv_at hl 0 rfl) ?_
  refine lv_iload S.1 S.2.1 dL_law_1378 (lv_at hl 5 rfl) ?_
  refine lv_iconst (v := nI 1) S.1 S.2.1 dL_law_1380 (by decide) ?_
  refine jn_add S dL_law_1381 ?_
  refine j_sld (x := xs (i + 1)) S hX hbl hbA hW (vp_in_nI (by omega) (by omega)) (nI_clamp (by omega)) (rfl) dL_law_1382 ?_
  refine lv_i2l (v := (xs (i + 1)).toInt64) S.1 S.2.1 dL_law_1383 (rfl) ?_
  refine lv_bipush (v := nI 32) S.1 S.2.1 dL_law_1384 (by decide) ?_
  refine lv_lshl (v := ((xs (i + 1)).toInt64) <<< ((nI 32).toInt64 &&& 63)) S.1 S.2.1 dL_law_1386 rfl ?_
  refine lv_aload_n S.1 S.2.1 dL_law_1387 rfl (lv_at hl 0 rfl) ?_
  refine lv_iload S.1 S.2.1 dL_law_1388 (lv_at hl 5 rfl) ?_
  refine lv_iconst (v := nI 2) S.1 S.2.1 dL_law_1390 (by decide) ?_
  refine jn_add S dL_law_1391 ?_
  refine j_sld (x := xs (i + 2)) S hX hbl hbA hW (vp_in_nI (by omega) (by omega)) (nI_clamp (by omega)) (rfl) dL_law_1392 ?_
  refine lv_i2l (v := (xs (i + 2)).toInt64) S.1 S.2.1 dL_law_1393 (rfl) ?_
  refine lv_ldc2 (v := lN 4294967295) S.1 S.2.1 S.2.2.2.1 (S.2.2.2.2 _ (List.mem_cons_of_mem _ wk_L_210)) dL_law_1394 ?_
  refine lv_land S.1 S.2.1 dL_law_1397 ?_
  refine lv_lor S.1 S.2.1 dL_law_1398 ?_
  refine lv_aload_n S.1 S.2.1 dL_law_1399 rfl (lv_at hl 3 rfl) ?_
  refine j_callH (As := [.ref (ad 0), .long ((((xs (i + 1)).toInt64) <<< ((nI 32).toInt64 &&& 63)) ||| (((xs (i + 2)).toInt64) &&& (lN 4294967295))), .ref (ad 74)]) (rest := []) S hK hA hW hx hnx (h_lucky l htr D cy ad n wf wt od sd se nc lv cs kv kx ((((xs (i + 1)).toInt64) <<< ((nI 32).toInt64 &&& 63)) ||| (((xs (i + 2)).toInt64) &&& (lN 4294967295))) og ogd hPI hCI hOut hOuD) (jgo wm_L_212) yk_L_lucky ⟨⟨rfl, rfl⟩, by decide, by decide⟩ rfl hl.1 rfl (Nat.le_of_ble_eq_true rfl) dL_law_1400 ⟨by show cells + 1 ≤ 601024; omega, by show slots + 6 ≤ 7293033; omega⟩ (fun v w H locs hp hW => ?_)
  rcases hp with ⟨t1, L1, pr, rfl, hpn, hq0, hq1, hq2, hq3, hq4, ⟨K1, hU1, hK1⟩, hCI, hOut, hOuD⟩ | ⟨rfl, hq, ⟨K1, hU1, hK1⟩, hCI, hOut, hOuD⟩ | ⟨rfl, hq, ⟨K1, hU1, hK1⟩, hCI, hOut, hOuD⟩
  · have hRI := hRI.kept hU1 (fun k hk => by have := hK1 k hk; omega)
    obtain ⟨gx, rb, tu, gO, gF, gT, gE, gD, gC0, gC1, gC2, gC3, gC4, gP, gK, gV, gR, gU, hrow, hkx⟩ := hRI
    refine W.eq (g2 := F0 m 1403 ls [.int (nI 0)]) rfl ?_
    refine lv_istore (lv' := [(6, .int (nI 0)), (0, .ref b), (1, .ref (ad 0)), (2, .ref (ad 55)), (3, .ref (ad 74)), (4, .ref (ad 75)), (5, .int (nI i))]) S.1 S.2.1 dL_law_1403 hl (by decide) rfl (fun ls hl => ?_)
    refine lv_aload_n S.1 S.2.1 dL_law_1405 rfl (lv_at hl 3 rfl) ?_
    refine lv_aload_n S.1 S.2.1 dL_law_1406 rfl (lv_at hl 1 rfl) ?_
    refine lv_iload S.1 S.2.1 dL_law_1407 (lv_at hl 6 rfl) ?_
    refine lv_iconst (v := nI 1) S.1 S.2.1 dL_law_1409 (by decide) ?_
    refine jn_add S dL_law_1410 ?_
    refine j_sld (x := xs (i + 1)) S hX hbl hbA hW (vp_in_nI (by omega) (by omega)) (nI_clamp (by omega)) (rfl) dL_law_1411 ?_
    refine lv_i2l (v := (xs (i + 1)).toInt64) S.1 S.2.1 dL_law_1412 (rfl) ?_
    refine lv_bipush (v := nI 32) S.1 S.2.1 dL_law_1413 (by decide) ?_
    refine lv_lshl (v := ((xs (i + 1)).toInt64) <<< ((nI 32).toInt64 &&& 63)) S.1 S.2.1 dL_law_1415 rfl ?_
    refine lv_aload_n S.1 S.2.1 dL_law_1416 rfl (lv_at hl 1 rfl) ?_
    refine lv_iload S.1 S.2.1 dL_law_1417 (lv_at hl 6 rfl) ?_
    refine lv_iconst (v := nI 2) S.1 S.2.1 dL_law_1419 (by decide) ?_
    refine jn_add S dL_law_1420 ?_
    refine j_sld (x := xs (i + 2)) S hX hbl hbA hW (vp_in_nI (by omega) (by omega)) (nI_clamp (by omega)) (rfl) dL_law_1421 ?_
    refine lv_i2l (v := (xs (i + 2)).toInt64) S.1 S.2.1 dL_law_1422 (rfl) ?_
    refine lv_ldc2 (v := lN 4294967295) S.1 S.2.1 S.2.2.2.1 (S.2.2.2.2 _ (List.mem_cons_of_mem _ wk_L_210)) dL_law_1423 ?_
    refine lv_land S.1 S.2.1 dL_law_1426 ?_
    refine lv_lor S.1 S.2.1 dL_law_1427 ?_
    refine lv_topl_to (y := lN L1) (hq1) ?_
    refine j_callV (k := 55) (ci := 11) (q := (RX12, TX12, 17)) (As := [.long (lN L1)]) (rest := []) S hK hA hW (c_X12_lucky_ok l D cy ad th n nc sd se lv cs wf wt t1 L1 gO gE gP gC0 gC1 gC2 gC3 gC4 gF gT   (by omega) (by omega) (hse2) (by omega) (hcs) (hWB.1) (hWB.2) (by omega) (by omega) (by rw [← rev_M, ← rev_W hpn]; exact hq3) (by rw [← rev_M, ← rev_W hpn]; exact hq4)) (jgo wm_L_215) yk_X12_lucky gO rfl rfl ⟨⟨rfl, rfl⟩, by decide, by decide⟩ rfl hl.1 rfl (Nat.le_of_ble_eq_true rfl) dL_law_1428 ⟨by show (cells + 1) + 0 ≤ 601024; omega, by show (slots + 6) + 0 ≤ 7293033; omega⟩ (fun v w_ H locs hp hW => ?_)
    obtain ⟨rfl, hU1, hN1⟩ := hp
    have hU : jU w w_ [55, 56, 57, 58, 59, 60, 61, 62, 63, 64, 65, 66, 71, 72, 73, 74, 75] := jU.mono hU1 (by first | decide | (simp; done) | (simp; omega))
    have gF_ := hU1.get gF (by first | decide | (simp; done) | (simp; omega))
    have gT_ := hU1.get gT (by first | decide | (simp; done) | (simp; omega))
    have gE_ := hU1.get gE (by first | decide | (simp; done) | (simp; omega))
    have gD_ := hU1.get gD (by first | decide | (simp; done) | (simp; omega))
    have gC0_ := hU1.get gC0 (by first | decide | (simp; done) | (simp; omega))
    have gC1_ := hU1.get gC1 (by first | decide | (simp; done) | (simp; omega))
    have gC2_ := hU1.get gC2 (by first | decide | (simp; done) | (simp; omega))
    have gC3_ := hU1.get gC3 (by first | decide | (simp; done) | (simp; omega))
    have gC4_ := hU1.get gC4 (by first | decide | (simp; done) | (simp; omega))
    have gP_ := hU1.get gP (by first | decide | (simp; done) | (simp; omega))
    have gK_ := hU1.get gK (by first | decide | (simp; done) | (simp; omega))
    have gV_ := hU1.get gV (by first | decide | (simp; done) | (simp; omega))
    have gR_ := hU1.get gR (by first | decide | (simp; done) | (simp; omega))
    have gU_ := hU1.get gU (by first | decide | (simp; done) | (simp; omega))
    have hOut_ := hU1.get hOut (by first | decide | (simp; done) | (simp; omega))
    have hOuD_ := hU1.get hOuD (by first | decide | (simp; done) | (simp; omega))
    have gO_ : w_[55]? = some (ad 55, .inr (11, [.int (nI 0), .ref (ad 56), .ref (ad 57), .ref (ad 58), .ref (ad 59), .ref (ad 60), .ref (ad 61), .ref (ad 62), .ref (ad 63), .ref (ad 64), .ref (ad 65), .int (nI n), .int (nI nc), .ref (ad 66), .ref (ad 71), .ref (ad 72), .ref (ad 73)])) := hN1
    clear hU1 hN1
    refine W.eq (g2 := F0 m 1431 ls [.int (nI (revN n t1))]) rfl ?_
    refine lv_istore (lv' := [(7, .int (nI (revN n t1))), (6, .int (nI 0)), (0, .ref b), (1, .ref (ad 0)), (2, .ref (ad 55)), (3, .ref (ad 74)), (4, .ref (ad 75)), (5, .int (nI i))]) S.1 S.2.1 dL_law_1431 hl (by decide) rfl (fun ls hl => ?_)
    refine lv_aload_n S.1 S.2.1 dL_law_1433 rfl (lv_at hl 4 rfl) ?_
    refine j_callV (k := 55) (ci := 11) (q := (RX12, TX12, 17)) (As := []) (rest := []) S hK hA hW (c_X12_thrown l D cy ad 0 n nc gO_   ) (jgo wm_L_136) yk_X12_thrown gO_ rfl rfl ⟨⟨rfl, rfl⟩, by decide, by decide⟩ rfl hl.1 rfl (Nat.le_of_ble_eq_true rfl) dL_law_1434 ⟨by show (cells + 1) + 0 ≤ 601024; omega, by show (slots + 6) + 0 ≤ 7293033; omega⟩ (fun v u H locs hp hW => ?_)
    obtain ⟨rfl, rfl⟩ := hp
    refine W.eq (g2 := F0 m 1437 ls [.int (nI 0)]) rfl ?_
    refine lv_iload S.1 S.2.1 dL_law_1437 (lv_at hl 1 rfl) ?_
    refine jn_cmp_eq (tgt := 1444) S (by omega) (by omega) dL_law_1439 (by decide) (fun c_1439 => ?_) (fun c_1439 => ?_)
    · refine lv_iload S.1 S.2.1 dL_law_1444 (lv_at hl 1 rfl) ?_
      refine jn_if_ne (tgt := 1461) S (by omega) dL_law_1446 (by decide) (fun c_1446 => ?_) (fun c_1446 => ?_)
      · first | exact absurd (show 0 ≠ 0 from c_1446) (by decide) | exact absurd c_1446 (by decide)
      · refine lv_aload_n S.1 S.2.1 dL_law_1449 rfl (lv_at hl 5 rfl) ?_
        refine lv_iconst (v := nI 0) S.1 S.2.1 dL_law_1450 (by decide) ?_
        refine j_lald (x := (nI (revN n t1)).toInt64) S hK hW hOut_ (vp_in_nI (by omega) (by omega)) (nI_clamp (by omega)) (if_pos rfl) dL_law_1451 ?_
        refine lv_iload S.1 S.2.1 dL_law_1452 (lv_at hl 0 rfl) ?_
        refine lv_i2l (v := (nI (revN n t1)).toInt64) S.1 S.2.1 dL_law_1454 (rfl) ?_
        refine jl_eq (tgt := 1461) S dL_law_1455 dL_law_1456 (by decide) (fun c_1456 => ?_) (fun c_1456 => ?_)
        · refine lv_goto (tgt := 2382) S.1 S.2.1 dL_law_1461 (by decide) ?_
          exact W.widen (by omega) (by omega) (kk _ _ _ _ ⟨_, _, _, _, _, _, _, _, _, _, _, _, _, _, hPI, (hCI.kept hU (by first | decide | (intro k hk; simp at hk; omega))), ⟨gx, _, _, gO_, gF_, gT_, gE_, gD_, gC0_, gC1_, gC2_, gC3_, gC4_, gP_, gK_, gV_, gR_, gU_, fun j hj => hU.get (hrow j hj) (by simp; omega), hkx⟩, hOut_, hOuD_⟩ hW (lv_sub hl [2, 3, 4, 5, 6, 7] rfl))
        · exact absurd rfl c_1456
    · first | exact absurd (show 0 ≠ 0 from c_1439) (by decide) | exact absurd c_1439 (by decide)
  · have hRI := hRI.kept hU1 (fun k hk => by have := hK1 k hk; omega)
    obtain ⟨gx, rb, tu, gO, gF, gT, gE, gD, gC0, gC1, gC2, gC3, gC4, gP, gK, gV, gR, gU, hrow, hkx⟩ := hRI
    refine W.eq (g2 := F0 m 1403 ls [.int (nI 1)]) rfl ?_
    refine lv_istore (lv' := [(6, .int (nI 1)), (0, .ref b), (1, .ref (ad 0)), (2, .ref (ad 55)), (3, .ref (ad 74)), (4, .ref (ad 75)), (5, .int (nI i))]) S.1 S.2.1 dL_law_1403 hl (by decide) rfl (fun ls hl => ?_)
    refine lv_aload_n S.1 S.2.1 dL_law_1405 rfl (lv_at hl 3 rfl) ?_
    refine lv_aload_n S.1 S.2.1 dL_law_1406 rfl (lv_at hl 1 rfl) ?_
    refine lv_iload S.1 S.2.1 dL_law_1407 (lv_at hl 6 rfl) ?_
    refine lv_iconst (v := nI 1) S.1 S.2.1 dL_law_1409 (by decide) ?_
    refine jn_add S dL_law_1410 ?_
    refine j_sld (x := xs (i + 1)) S hX hbl hbA hW (vp_in_nI (by omega) (by omega)) (nI_clamp (by omega)) (rfl) dL_law_1411 ?_
    refine lv_i2l (v := (xs (i + 1)).toInt64) S.1 S.2.1 dL_law_1412 (rfl) ?_
    refine lv_bipush (v := nI 32) S.1 S.2.1 dL_law_1413 (by decide) ?_
    refine lv_lshl (v := ((xs (i + 1)).toInt64) <<< ((nI 32).toInt64 &&& 63)) S.1 S.2.1 dL_law_1415 rfl ?_
    refine lv_aload_n S.1 S.2.1 dL_law_1416 rfl (lv_at hl 1 rfl) ?_
    refine lv_iload S.1 S.2.1 dL_law_1417 (lv_at hl 6 rfl) ?_
    refine lv_iconst (v := nI 2) S.1 S.2.1 dL_law_1419 (by decide) ?_
    refine jn_add S dL_law_1420 ?_
    refine j_sld (x := xs (i + 2)) S hX hbl hbA hW (vp_in_nI (by omega) (by omega)) (nI_clamp (by omega)) (rfl) dL_law_1421 ?_
    refine lv_i2l (v := (xs (i + 2)).toInt64) S.1 S.2.1 dL_law_1422 (rfl) ?_
    refine lv_ldc2 (v := lN 4294967295) S.1 S.2.1 S.2.2.2.1 (S.2.2.2.2 _ (List.mem_cons_of_mem _ wk_L_210)) dL_law_1423 ?_
    refine lv_land S.1 S.2.1 dL_law_1426 ?_
    refine lv_lor S.1 S.2.1 dL_law_1427 ?_
    refine j_callV (k := 55) (ci := 11) (q := (RX12, TX12, 17)) (As := [.long ((((xs (i + 1)).toInt64) <<< ((nI 32).toInt64 &&& 63)) ||| (((xs (i + 2)).toInt64) &&& (lN 4294967295)))]) (rest := []) S hK hA hW (c_X12_lucky_n l D cy ad th n nc ((((xs (i + 1)).toInt64) <<< ((nI 32).toInt64 &&& 63)) ||| (((xs (i + 2)).toInt64) &&& (lN 4294967295))) gO   (hq)) (jgo wm_L_215) yk_X12_lucky gO rfl rfl ⟨⟨rfl, rfl⟩, by decide, by decide⟩ rfl hl.1 rfl (Nat.le_of_ble_eq_true rfl) dL_law_1428 ⟨by show (cells + 1) + 0 ≤ 601024; omega, by show (slots + 6) + 0 ≤ 7293033; omega⟩ (fun v w_ H locs hp hW => ?_)
    obtain ⟨rfl, hU1, hN1⟩ := hp
    have hU : jU w w_ [55, 56, 57, 58, 59, 60, 61, 62, 63, 64, 65, 66, 71, 72, 73, 74, 75] := jU.mono hU1 (by first | decide | (simp; done) | (simp; omega))
    have gF_ := hU1.get gF (by first | decide | (simp; done) | (simp; omega))
    have gT_ := hU1.get gT (by first | decide | (simp; done) | (simp; omega))
    have gE_ := hU1.get gE (by first | decide | (simp; done) | (simp; omega))
    have gD_ := hU1.get gD (by first | decide | (simp; done) | (simp; omega))
    have gC0_ := hU1.get gC0 (by first | decide | (simp; done) | (simp; omega))
    have gC1_ := hU1.get gC1 (by first | decide | (simp; done) | (simp; omega))
    have gC2_ := hU1.get gC2 (by first | decide | (simp; done) | (simp; omega))
    have gC3_ := hU1.get gC3 (by first | decide | (simp; done) | (simp; omega))
    have gC4_ := hU1.get gC4 (by first | decide | (simp; done) | (simp; omega))
    have gP_ := hU1.get gP (by first | decide | (simp; done) | (simp; omega))
    have gK_ := hU1.get gK (by first | decide | (simp; done) | (simp; omega))
    have gV_ := hU1.get gV (by first | decide | (simp; done) | (simp; omega))
    have gR_ := hU1.get gR (by first | decide | (simp; done) | (simp; omega))
    have gU_ := hU1.get gU (by first | decide | (simp; done) | (simp; omega))
    have hOut_ := hU1.get hOut (by first | decide | (simp; done) | (simp; omega))
    have hOuD_ := hU1.get hOuD (by first | decide | (simp; done) | (simp; omega))
    have gO_ : w_[55]? = some (ad 55, .inr (11, [.int (nI 1), .ref (ad 56), .ref (ad 57), .ref (ad 58), .ref (ad 59), .ref (ad 60), .ref (ad 61), .ref (ad 62), .ref (ad 63), .ref (ad 64), .ref (ad 65), .int (nI n), .int (nI nc), .ref (ad 66), .ref (ad 71), .ref (ad 72), .ref (ad 73)])) := hN1
    clear hU1 hN1
    refine W.eq (g2 := F0 m 1431 ls [.int (nI 0)]) rfl ?_
    refine lv_istore (lv' := [(7, .int (nI 0)), (6, .int (nI 1)), (0, .ref b), (1, .ref (ad 0)), (2, .ref (ad 55)), (3, .ref (ad 74)), (4, .ref (ad 75)), (5, .int (nI i))]) S.1 S.2.1 dL_law_1431 hl (by decide) rfl (fun ls hl => ?_)
    refine lv_aload_n S.1 S.2.1 dL_law_1433 rfl (lv_at hl 4 rfl) ?_
    refine j_callV (k := 55) (ci := 11) (q := (RX12, TX12, 17)) (As := []) (rest := []) S hK hA hW (c_X12_thrown l D cy ad 1 n nc gO_   ) (jgo wm_L_136) yk_X12_thrown gO_ rfl rfl ⟨⟨rfl, rfl⟩, by decide, by decide⟩ rfl hl.1 rfl (Nat.le_of_ble_eq_true rfl) dL_law_1434 ⟨by show (cells + 1) + 0 ≤ 601024; omega, by show (slots + 6) + 0 ≤ 7293033; omega⟩ (fun v u H locs hp hW => ?_)
    obtain ⟨rfl, rfl⟩ := hp
    refine W.eq (g2 := F0 m 1437 ls [.int (nI 1)]) rfl ?_
    refine lv_iload S.1 S.2.1 dL_law_1437 (lv_at hl 1 rfl) ?_
    refine jn_cmp_eq (tgt := 1444) S (by omega) (by omega) dL_law_1439 (by decide) (fun c_1439 => ?_) (fun c_1439 => ?_)
    · refine lv_iload S.1 S.2.1 dL_law_1444 (lv_at hl 1 rfl) ?_
      refine jn_if_ne (tgt := 1461) S (by omega) dL_law_1446 (by decide) (fun c_1446 => ?_) (fun c_1446 => ?_)
      · refine lv_goto (tgt := 2382) S.1 S.2.1 dL_law_1461 (by decide) ?_
        exact W.widen (by omega) (by omega) (kk _ _ _ _ ⟨_, _, _, _, _, _, _, _, _, _, _, _, _, _, hPI, (hCI.kept hU (by first | decide | (intro k hk; simp at hk; omega))), ⟨gx, _, _, gO_, gF_, gT_, gE_, gD_, gC0_, gC1_, gC2_, gC3_, gC4_, gP_, gK_, gV_, gR_, gU_, fun j hj => hU.get (hrow j hj) (by simp; omega), hkx⟩, hOut_, hOuD_⟩ hW (lv_sub hl [2, 3, 4, 5, 6, 7] rfl))
      · first | exact absurd (show 1 = 0 from c_1446) (by decide) | exact absurd c_1446 (by decide)
    · first | exact absurd (show 1 ≠ 1 from c_1439) (by decide) | exact absurd c_1439 (by decide)
  · have hRI := hRI.kept hU1 (fun k hk => by have := hK1 k hk; omega)
    obtain ⟨gx, rb, tu, gO, gF, gT, gE, gD, gC0, gC1, gC2, gC3, gC4, gP, gK, gV, gR, gU, hrow, hkx⟩ := hRI
    obtain ⟨pr, hpn, L1, hL1, e1, h1⟩ := hq
    refine W.eq (g2 := F0 m 1403 ls [.int (nI 1)]) rfl ?_
    refine lv_istore (lv' := [(6, .int (nI 1)), (0, .ref b), (1, .ref (ad 0)), (2, .ref (ad 55)), (3, .ref (ad 74)), (4, .ref (ad 75)), (5, .int (nI i))]) S.1 S.2.1 dL_law_1403 hl (by decide) rfl (fun ls hl => ?_)
    refine lv_aload_n S.1 S.2.1 dL_law_1405 rfl (lv_at hl 3 rfl) ?_
    refine lv_aload_n S.1 S.2.1 dL_law_1406 rfl (lv_at hl 1 rfl) ?_
    refine lv_iload S.1 S.2.1 dL_law_1407 (lv_at hl 6 rfl) ?_
    refine lv_iconst (v := nI 1) S.1 S.2.1 dL_law_1409 (by decide) ?_
    refine jn_add S dL_law_1410 ?_
    refine j_sld (x := xs (i + 1)) S hX hbl hbA hW (vp_in_nI (by omega) (by omega)) (nI_clamp (by omega)) (rfl) dL_law_1411 ?_
    refine lv_i2l (v := (xs (i + 1)).toInt64) S.1 S.2.1 dL_law_1412 (rfl) ?_
    refine lv_bipush (v := nI 32) S.1 S.2.1 dL_law_1413 (by decide) ?_
    refine lv_lshl (v := ((xs (i + 1)).toInt64) <<< ((nI 32).toInt64 &&& 63)) S.1 S.2.1 dL_law_1415 rfl ?_
    refine lv_aload_n S.1 S.2.1 dL_law_1416 rfl (lv_at hl 1 rfl) ?_
    refine lv_iload S.1 S.2.1 dL_law_1417 (lv_at hl 6 rfl) ?_
    refine lv_iconst (v := nI 2) S.1 S.2.1 dL_law_1419 (by decide) ?_
    refine jn_add S dL_law_1420 ?_
    refine j_sld (x := xs (i + 2)) S hX hbl hbA hW (vp_in_nI (by omega) (by omega)) (nI_clamp (by omega)) (rfl) dL_law_1421 ?_
    refine lv_i2l (v := (xs (i + 2)).toInt64) S.1 S.2.1 dL_law_1422 (rfl) ?_
    refine lv_ldc2 (v := lN 4294967295) S.1 S.2.1 S.2.2.2.1 (S.2.2.2.2 _ (List.mem_cons_of_mem _ wk_L_210)) dL_law_1423 ?_
    refine lv_land S.1 S.2.1 dL_law_1426 ?_
    refine lv_lor S.1 S.2.1 dL_law_1427 ?_
    refine lv_topl_to (y := lN L1) (e1) ?_
    refine j_callV (k := 55) (ci := 11) (q := (RX12, TX12, 17)) (As := [.long (lN L1)]) (rest := []) S hK hA hW (c_X12_lucky_b l D cy ad th n nc sd se lv cs wf wt L1 gO gE gP gC0 gC1 gC2 gC3 gC4 gF gT   (by omega) (by omega) (hse2) (by omega) (hcs) (hWB.1) (hWB.2) (by omega) (by rw [← rev_M, ← rev_W hpn]; exact h1)) (jgo wm_L_215) yk_X12_lucky gO rfl rfl ⟨⟨rfl, rfl⟩, by decide, by decide⟩ rfl hl.1 rfl (Nat.le_of_ble_eq_true rfl) dL_law_1428 ⟨by show (cells + 1) + 0 ≤ 601024; omega, by show (slots + 6) + 0 ≤ 7293033; omega⟩ (fun v w_ H locs hp hW => ?_)
    obtain ⟨rfl, hU1, hN1⟩ := hp
    have hU : jU w w_ [55, 56, 57, 58, 59, 60, 61, 62, 63, 64, 65, 66, 71, 72, 73, 74, 75] := jU.mono hU1 (by first | decide | (simp; done) | (simp; omega))
    have gF_ := hU1.get gF (by first | decide | (simp; done) | (simp; omega))
    have gT_ := hU1.get gT (by first | decide | (simp; done) | (simp; omega))
    have gE_ := hU1.get gE (by first | decide | (simp; done) | (simp; omega))
    have gD_ := hU1.get gD (by first | decide | (simp; done) | (simp; omega))
    have gC0_ := hU1.get gC0 (by first | decide | (simp; done) | (simp; omega))
    have gC1_ := hU1.get gC1 (by first | decide | (simp; done) | (simp; omega))
    have gC2_ := hU1.get gC2 (by first | decide | (simp; done) | (simp; omega))
    have gC3_ := hU1.get gC3 (by first | decide | (simp; done) | (simp; omega))
    have gC4_ := hU1.get gC4 (by first | decide | (simp; done) | (simp; omega))
    have gP_ := hU1.get gP (by first | decide | (simp; done) | (simp; omega))
    have gK_ := hU1.get gK (by first | decide | (simp; done) | (simp; omega))
    have gV_ := hU1.get gV (by first | decide | (simp; done) | (simp; omega))
    have gR_ := hU1.get gR (by first | decide | (simp; done) | (simp; omega))
    have gU_ := hU1.get gU (by first | decide | (simp; done) | (simp; omega))
    have hOut_ := hU1.get hOut (by first | decide | (simp; done) | (simp; omega))
    have hOuD_ := hU1.get hOuD (by first | decide | (simp; done) | (simp; omega))
    have gO_ : w_[55]? = some (ad 55, .inr (11, [.int (nI 1), .ref (ad 56), .ref (ad 57), .ref (ad 58), .ref (ad 59), .ref (ad 60), .ref (ad 61), .ref (ad 62), .ref (ad 63), .ref (ad 64), .ref (ad 65), .int (nI n), .int (nI nc), .ref (ad 66), .ref (ad 71), .ref (ad 72), .ref (ad 73)])) := hN1
    clear hU1 hN1
    refine W.eq (g2 := F0 m 1431 ls [.int (nI 0)]) rfl ?_
    refine lv_istore (lv' := [(7, .int (nI 0)), (6, .int (nI 1)), (0, .ref b), (1, .ref (ad 0)), (2, .ref (ad 55)), (3, .ref (ad 74)), (4, .ref (ad 75)), (5, .int (nI i))]) S.1 S.2.1 dL_law_1431 hl (by decide) rfl (fun ls hl => ?_)
    refine lv_aload_n S.1 S.2.1 dL_law_1433 rfl (lv_at hl 4 rfl) ?_
    refine j_callV (k := 55) (ci := 11) (q := (RX12, TX12, 17)) (As := []) (rest := []) S hK hA hW (c_X12_thrown l D cy ad 1 n nc gO_   ) (jgo wm_L_136) yk_X12_thrown gO_ rfl rfl ⟨⟨rfl, rfl⟩, by decide, by decide⟩ rfl hl.1 rfl (Nat.le_of_ble_eq_true rfl) dL_law_1434 ⟨by show (cells + 1) + 0 ≤ 601024; omega, by show (slots + 6) + 0 ≤ 7293033; omega⟩ (fun v u H locs hp hW => ?_)
    obtain ⟨rfl, rfl⟩ := hp
    refine W.eq (g2 := F0 m 1437 ls [.int (nI 1)]) rfl ?_
    refine lv_iload S.1 S.2.1 dL_law_1437 (lv_at hl 1 rfl) ?_
    refine jn_cmp_eq (tgt := 1444) S (by omega) (by omega) dL_law_1439 (by decide) (fun c_1439 => ?_) (fun c_1439 => ?_)
    · refine lv_iload S.1 S.2.1 dL_law_1444 (lv_at hl 1 rfl) ?_
      refine jn_if_ne (tgt := 1461) S (by omega) dL_law_1446 (by decide) (fun c_1446 => ?_) (fun c_1446 => ?_)
      · refine lv_goto (tgt := 2382) S.1 S.2.1 dL_law_1461 (by decide) ?_
        exact W.widen (by omega) (by omega) (kk _ _ _ _ ⟨_, _, _, _, _, _, _, _, _, _, _, _, _, _, hPI, (hCI.kept hU (by first | decide | (intro k hk; simp at hk; omega))), ⟨gx, _, _, gO_, gF_, gT_, gE_, gD_, gC0_, gC1_, gC2_, gC3_, gC4_, gP_, gK_, gV_, gR_, gU_, fun j hj => hU.get (hrow j hj) (by simp; omega), hkx⟩, hOut_, hOuD_⟩ hW (lv_sub hl [2, 3, 4, 5, 6, 7] rfl))
      · first | exact absurd (show 1 = 0 from c_1446) (by decide) | exact absurd c_1446 (by decide)
    · first | exact absurd (show 1 ≠ 1 from c_1439) (by decide) | exact absurd c_1439 (by decide)
/-- the law's first -/
theorem s_first {p : Program} {l : Launch} {e : Env} {s : State} {m : MethodId} {args : Array Value} {below : List Frame} {meth : Method} {c : Code} {Q : State → Prop} {D : va_G} {cy : Nat → ClassId} {A : Nat → Prop} {x0 : Cond} {ad : Nat → Nat} {b L : Nat} {xs : Nat → Int32} {i : Nat} {w : va_W} {H : Heap} {locs : List Loc} {ls : Array Slot} {cells slots : Nat} (htr : l.stackTraces = false) (C : LX p s m c args D cy A b L xs x0) (hI : INV ad cy w) (hW : jW D A s.heap w H locs) (hl : lv_has ls 10 [(0, .ref b), (1, .ref (ad 0)), (2, .ref (ad 55)), (3, .ref (ad 74)), (4, .ref (ad 75)), (5, .int (nI i))]) (hi : i + 5 ≤ L) (hL : L ≤ 2560) (hc : cells + 10 ≤ 601024) (hs : slots + 64 ≤ 7293033) (kk : LK p l e s m args below meth c Q D cy A ad b i cells slots) : W p l e room_1 s m args below meth c H locs cells slots Q (F0 m 1464 ls []) := by
  obtain ⟨S, hK, hA, hX, hbl, hbA, hx, hnx⟩ := C
  obtain ⟨n, wf, wt, od, sd, se, nc, lv, cs, kv, kx, th, og, ogd, hPI, hCI, hRI, hOut, hOuD⟩ := hI
  have hPI0 := hPI
  obtain ⟨hn, hsdn, hse2, hnc, hlvn, hcs, hkI, hod, hodn, hinj⟩ := hPI0
  have hp2 := two_pow10 hn
  have hpt := Nat.two_pow_pos n
  have hWB := hCI.wb
  refine lv_aload_n S.1 S.2.1 dL_law_1464 rfl (lv_at hl 1 rfl) ?_
  refine lv_aload_n S.1 S.2.1 dL_law_1465 rfl (lv_at hl 3 rfl) ?_
  refine j_callH (As := [.ref (ad 0), .ref (ad 74)]) (rest := []) S hK hA hW hx hnx (h_first l htr D cy ad n wf wt od sd se nc lv cs kv kx  og ogd hPI hCI hOut hOuD) (jgo wm_L_216) yk_L_first ⟨⟨rfl, rfl⟩, by decide, by decide⟩ rfl hl.1 rfl (Nat.le_of_ble_eq_true rfl) dL_law_1466 ⟨by show cells + 1 ≤ 601024; omega, by show slots + 6 ≤ 7293033; omega⟩ (fun v w H locs hp hW => ?_)
  rcases hp with ⟨t1, rfl, hq0, hq1, hq2, ⟨K1, hU1, hK1⟩, hCI, hOut, hOuD⟩ | ⟨rfl, hq, ⟨K1, hU1, hK1⟩, hCI, hOut, hOuD⟩
  · have hRI := hRI.kept hU1 (fun k hk => by have := hK1 k hk; omega)
    obtain ⟨gx, rb, tu, gO, gF, gT, gE, gD, gC0, gC1, gC2, gC3, gC4, gP, gK, gV, gR, gU, hrow, hkx⟩ := hRI
    refine W.eq (g2 := F0 m 1469 ls [.int (nI 0)]) rfl ?_
    refine lv_istore (lv' := [(6, .int (nI 0)), (0, .ref b), (1, .ref (ad 0)), (2, .ref (ad 55)), (3, .ref (ad 74)), (4, .ref (ad 75)), (5, .int (nI i))]) S.1 S.2.1 dL_law_1469 hl (by decide) rfl (fun ls hl => ?_)
    refine lv_aload_n S.1 S.2.1 dL_law_1471 rfl (lv_at hl 3 rfl) ?_
    refine j_callV (k := 55) (ci := 11) (q := (RX12, TX12, 17)) (As := []) (rest := []) S hK hA hW (c_X12_first_ok l D cy ad th n nc sd se lv cs t1 gO gE gP gC0 gC1 gC2 gC3 gC4   (by omega) (by omega) (hse2) (by omega) (hcs) (by omega) (by rw [← mdl_lo (revN_lt n t1)]; exact hq1) (fun j hj => by rw [← mdl_lo (revN_lt n j)]; exact hq2 j hj)) (jgo wm_L_218) yk_X12_first gO rfl rfl ⟨⟨rfl, rfl⟩, by decide, by decide⟩ rfl hl.1 rfl (Nat.le_of_ble_eq_true rfl) dL_law_1472 ⟨by show (cells + 1) + 0 ≤ 601024; omega, by show (slots + 6) + 0 ≤ 7293033; omega⟩ (fun v w_ H locs hp hW => ?_)
    obtain ⟨rfl, hU1, hN1⟩ := hp
    have hU : jU w w_ [55, 56, 57, 58, 59, 60, 61, 62, 63, 64, 65, 66, 71, 72, 73, 74, 75] := jU.mono hU1 (by first | decide | (simp; done) | (simp; omega))
    have gF_ := hU1.get gF (by first | decide | (simp; done) | (simp; omega))
    have gT_ := hU1.get gT (by first | decide | (simp; done) | (simp; omega))
    have gE_ := hU1.get gE (by first | decide | (simp; done) | (simp; omega))
    have gD_ := hU1.get gD (by first | decide | (simp; done) | (simp; omega))
    have gC0_ := hU1.get gC0 (by first | decide | (simp; done) | (simp; omega))
    have gC1_ := hU1.get gC1 (by first | decide | (simp; done) | (simp; omega))
    have gC2_ := hU1.get gC2 (by first | decide | (simp; done) | (simp; omega))
    have gC3_ := hU1.get gC3 (by first | decide | (simp; done) | (simp; omega))
    have gC4_ := hU1.get gC4 (by first | decide | (simp; done) | (simp; omega))
    have gP_ := hU1.get gP (by first | decide | (simp; done) | (simp; omega))
    have gK_ := hU1.get gK (by first | decide | (simp; done) | (simp; omega))
    have gV_ := hU1.get gV (by first | decide | (simp; done) | (simp; omega))
    have gR_ := hU1.get gR (by first | decide | (simp; done) | (simp; omega))
    have gU_ := hU1.get gU (by first | decide | (simp; done) | (simp; omega))
    have hOut_ := hU1.get hOut (by first | decide | (simp; done) | (simp; omega))
    have hOuD_ := hU1.get hOuD (by first | decide | (simp; done) | (simp; omega))
    have gO_ : w_[55]? = some (ad 55, .inr (11, [.int (nI 0), .ref (ad 56), .ref (ad 57), .ref (ad 58), .ref (ad 59), .ref (ad 60), .ref (ad 61), .ref (ad 62), .ref (ad 63), .ref (ad 64), .ref (ad 65), .int (nI n), .int (nI nc), .ref (ad 66), .ref (ad 71), .ref (ad 72), .ref (ad 73)])) := hN1
    clear hU1 hN1
    refine W.eq (g2 := F0 m 1475 ls [.int (nI (revN n t1))]) rfl ?_
    refine lv_istore (lv' := [(7, .int (nI (revN n t1))), (6, .int (nI 0)), (0, .ref b), (1, .ref (ad 0)), (2, .ref (ad 55)), (3, .ref (ad 74)), (4, .ref (ad 75)), (5, .int (nI i))]) S.1 S.2.1 dL_law_1475 hl (by decide) rfl (fun ls hl => ?_)
    refine lv_aload_n S.1 S.2.1 dL_law_1477 rfl (lv_at hl 4 rfl) ?_
    refine j_callV (k := 55) (ci := 11) (q := (RX12, TX12, 17)) (As := []) (rest := []) S hK hA hW (c_X12_thrown l D cy ad 0 n nc gO_   ) (jgo wm_L_136) yk_X12_thrown gO_ rfl rfl ⟨⟨rfl, rfl⟩, by decide, by decide⟩ rfl hl.1 rfl (Nat.le_of_ble_eq_true rfl) dL_law_1478 ⟨by show (cells + 1) + 0 ≤ 601024; omega, by show (slots + 6) + 0 ≤ 7293033; omega⟩ (fun v u H locs hp hW => ?_)
    obtain ⟨rfl, rfl⟩ := hp
    refine W.eq (g2 := F0 m 1481 ls [.int (nI 0)]) rfl ?_
    refine lv_iload S.1 S.2.1 dL_law_1481 (lv_at hl 1 rfl) ?_
    refine jn_cmp_eq (tgt := 1488) S (by omega) (by omega) dL_law_1483 (by decide) (fun c_1483 => ?_) (fun c_1483 => ?_)
    · refine lv_iload S.1 S.2.1 dL_law_1488 (lv_at hl 1 rfl) ?_
      refine jn_if_ne (tgt := 1505) S (by omega) dL_law_1490 (by decide) (fun c_1490 => ?_) (fun c_1490 => ?_)
      · first | exact absurd (show 0 ≠ 0 from c_1490) (by decide) | exact absurd c_1490 (by decide)
      · refine lv_aload_n S.1 S.2.1 dL_law_1493 rfl (lv_at hl 5 rfl) ?_
        refine lv_iconst (v := nI 0) S.1 S.2.1 dL_law_1494 (by decide) ?_
        refine j_lald (x := (nI (revN n t1)).toInt64) S hK hW hOut_ (vp_in_nI (by omega) (by omega)) (nI_clamp (by omega)) (if_pos rfl) dL_law_1495 ?_
        refine lv_iload S.1 S.2.1 dL_law_1496 (lv_at hl 0 rfl) ?_
        refine lv_i2l (v := (nI (revN n t1)).toInt64) S.1 S.2.1 dL_law_1498 (rfl) ?_
        refine jl_eq (tgt := 1505) S dL_law_1499 dL_law_1500 (by decide) (fun c_1500 => ?_) (fun c_1500 => ?_)
        · refine lv_goto (tgt := 2382) S.1 S.2.1 dL_law_1505 (by decide) ?_
          exact W.widen (by omega) (by omega) (kk _ _ _ _ ⟨_, _, _, _, _, _, _, _, _, _, _, _, _, _, hPI, (hCI.kept hU (by first | decide | (intro k hk; simp at hk; omega))), ⟨gx, _, _, gO_, gF_, gT_, gE_, gD_, gC0_, gC1_, gC2_, gC3_, gC4_, gP_, gK_, gV_, gR_, gU_, fun j hj => hU.get (hrow j hj) (by simp; omega), hkx⟩, hOut_, hOuD_⟩ hW (lv_sub hl [2, 3, 4, 5, 6, 7] rfl))
        · exact absurd rfl c_1500
    · first | exact absurd (show 0 ≠ 0 from c_1483) (by decide) | exact absurd c_1483 (by decide)
  · have hRI := hRI.kept hU1 (fun k hk => by have := hK1 k hk; omega)
    obtain ⟨gx, rb, tu, gO, gF, gT, gE, gD, gC0, gC1, gC2, gC3, gC4, gP, gK, gV, gR, gU, hrow, hkx⟩ := hRI
    refine W.eq (g2 := F0 m 1469 ls [.int (nI 1)]) rfl ?_
    refine lv_istore (lv' := [(6, .int (nI 1)), (0, .ref b), (1, .ref (ad 0)), (2, .ref (ad 55)), (3, .ref (ad 74)), (4, .ref (ad 75)), (5, .int (nI i))]) S.1 S.2.1 dL_law_1469 hl (by decide) rfl (fun ls hl => ?_)
    refine lv_aload_n S.1 S.2.1 dL_law_1471 rfl (lv_at hl 3 rfl) ?_
    refine j_callV (k := 55) (ci := 11) (q := (RX12, TX12, 17)) (As := []) (rest := []) S hK hA hW (c_X12_first_b l D cy ad th n nc sd se lv cs gO gE gP gC0 gC1 gC2 gC3 gC4   (by omega) (by omega) (hse2) (by omega) (hcs) (fun j hj => by rw [← mdl_lo (revN_lt n j)]; exact cnt_zero.mp hq j hj)) (jgo wm_L_218) yk_X12_first gO rfl rfl ⟨⟨rfl, rfl⟩, by decide, by decide⟩ rfl hl.1 rfl (Nat.le_of_ble_eq_true rfl) dL_law_1472 ⟨by show (cells + 1) + 0 ≤ 601024; omega, by show (slots + 6) + 0 ≤ 7293033; omega⟩ (fun v w_ H locs hp hW => ?_)
    obtain ⟨rfl, hU1, hN1⟩ := hp
    have hU : jU w w_ [55, 56, 57, 58, 59, 60, 61, 62, 63, 64, 65, 66, 71, 72, 73, 74, 75] := jU.mono hU1 (by first | decide | (simp; done) | (simp; omega))
    have gF_ := hU1.get gF (by first | decide | (simp; done) | (simp; omega))
    have gT_ := hU1.get gT (by first | decide | (simp; done) | (simp; omega))
    have gE_ := hU1.get gE (by first | decide | (simp; done) | (simp; omega))
    have gD_ := hU1.get gD (by first | decide | (simp; done) | (simp; omega))
    have gC0_ := hU1.get gC0 (by first | decide | (simp; done) | (simp; omega))
    have gC1_ := hU1.get gC1 (by first | decide | (simp; done) | (simp; omega))
    have gC2_ := hU1.get gC2 (by first | decide | (simp; done) | (simp; omega))
    have gC3_ := hU1.get gC3 (by first | decide | (simp; done) | (simp; omega))
    have gC4_ := hU1.get gC4 (by first | decide | (simp; done) | (simp; omega))
    have gP_ := hU1.get gP (by first | decide | (simp; done) | (simp; omega))
    have gK_ := hU1.get gK (by first | decide | (simp; done) | (simp; omega))
    have gV_ := hU1.get gV (by first | decide | (simp; done) | (simp; omega))
    have gR_ := hU1.get gR (by first | decide | (simp; done) | (simp; omega))
    have gU_ := hU1.get gU (by first | decide | (simp; done) | (simp; omega))
    have hOut_ := hU1.get hOut (by first | decide | (simp; done) | (simp; omega))
    have hOuD_ := hU1.get hOuD (by first | decide | (simp; done) | (simp; omega))
    have gO_ : w_[55]? = some (ad 55, .inr (11, [.int (nI 1), .ref (ad 56), .ref (ad 57), .ref (ad 58), .ref (ad 59), .ref (ad 60), .ref (ad 61), .ref (ad 62), .ref (ad 63), .ref (ad 64), .ref (ad 65), .int (nI n), .int (nI nc), .ref (ad 66), .ref (ad 71), .ref (ad 72), .ref (ad 73)])) := hN1
    clear hU1 hN1
    refine W.eq (g2 := F0 m 1475 ls [.int (nI 0)]) rfl ?_
    refine lv_istore (lv' := [(7, .int (nI 0)), (6, .int (nI 1)), (0, .ref b), (1, .ref (ad 0)), (2, .ref (ad 55)), (3, .ref (ad 74)), (4, .ref (ad 75)), (5, .int (nI i))]) S.1 S.2.1 dL_law_1475 hl (by decide) rfl (fun ls hl => ?_)
    refine lv_aload_n S.1 S.2.1 dL_law_1477 rfl (lv_at hl 4 rfl) ?_
    refine j_callV (k := 55) (ci := 11) (q := (RX12, TX12, 17)) (As := []) (rest := []) S hK hA hW (c_X12_thrown l D cy ad 1 n nc gO_   ) (jgo wm_L_136) yk_X12_thrown gO_ rfl rfl ⟨⟨rfl, rfl⟩, by decide, by decide⟩ rfl hl.1 rfl (Nat.le_of_ble_eq_true rfl) dL_law_1478 ⟨by show (cells + 1) + 0 ≤ 601024; omega, by show (slots + 6) + 0 ≤ 7293033; omega⟩ (fun v u H locs hp hW => ?_)
    obtain ⟨rfl, rfl⟩ := hp
    refine W.eq (g2 := F0 m 1481 ls [.int (nI 1)]) rfl ?_
    refine lv_iload S.1 S.2.1 dL_law_1481 (lv_at hl 1 rfl) ?_
    refine jn_cmp_eq (tgt := 1488) S (by omega) (by omega) dL_law_1483 (by decide) (fun c_1483 => ?_) (fun c_1483 => ?_)
    · refine lv_iload S.1 S.2.1 dL_law_1488 (lv_at hl 1 rfl) ?_
      refine jn_if_ne (tgt := 1505) S (by omega) dL_law_1490 (by decide) (fun c_1490 => ?_) (fun c_1490 => ?_)
      · refine lv_goto (tgt := 2382) S.1 S.2.1 dL_law_1505 (by decide) ?_
        exact W.widen (by omega) (by omega) (kk _ _ _ _ ⟨_, _, _, _, _, _, _, _, _, _, _, _, _, _, hPI, (hCI.kept hU (by first | decide | (intro k hk; simp at hk; omega))), ⟨gx, _, _, gO_, gF_, gT_, gE_, gD_, gC0_, gC1_, gC2_, gC3_, gC4_, gP_, gK_, gV_, gR_, gU_, fun j hj => hU.get (hrow j hj) (by simp; omega), hkx⟩, hOut_, hOuD_⟩ hW (lv_sub hl [2, 3, 4, 5, 6, 7] rfl))
      · first | exact absurd (show 1 = 0 from c_1490) (by decide) | exact absurd c_1490 (by decide)
    · first | exact absurd (show 1 ≠ 1 from c_1483) (by decide) | exact absurd c_1483 (by decide)
/-- the law's nodes -/
theorem s_nodes {p : Program} {l : Launch} {e : Env} {s : State} {m : MethodId} {args : Array Value} {below : List Frame} {meth : Method} {c : Code} {Q : State → Prop} {D : va_G} {cy : Nat → ClassId} {A : Nat → Prop} {x0 : Cond} {ad : Nat → Nat} {b L : Nat} {xs : Nat → Int32} {i : Nat} {w : va_W} {H : Heap} {locs : List Loc} {ls : Array Slot} {cells slots : Nat} (htr : l.stackTraces = false) (C : LX p s m c args D cy A b L xs x0) (hI : INV ad cy w) (hW : jW D A s.heap w H locs) (hl : lv_has ls 10 [(0, .ref b), (1, .ref (ad 0)), (2, .ref (ad 55)), (3, .ref (ad 74)), (4, .ref (ad 75)), (5, .int (nI i))]) (hi : i + 5 ≤ L) (hL : L ≤ 2560) (hc : cells + 10 ≤ 601024) (hs : slots + 64 ≤ 7293033) (kk : LK p l e s m args below meth c Q D cy A ad b i cells slots) : W p l e room_1 s m args below meth c H locs cells slots Q (F0 m 1508 ls []) := by
  obtain ⟨S, hK, hA, hX, hbl, hbA, hx, hnx⟩ := C
  obtain ⟨n, wf, wt, od, sd, se, nc, lv, cs, kv, kx, th, og, ogd, hPI, hCI, hRI, hOut, hOuD⟩ := hI
  have hPI0 := hPI
  obtain ⟨hn, hsdn, hse2, hnc, hlvn, hcs, hkI, hod, hodn, hinj⟩ := hPI0
  have hp2 := two_pow10 hn
  have hpt := Nat.two_pow_pos n
  have hWB := hCI.wb
  refine lv_aload_n S.1 S.2.1 dL_law_1508 rfl (lv_at hl 1 rfl) ?_
  have hsd : sd < 1024 := by omega
  have hse : se < 1024 := by rw [← hse2]; exact Nat.lt_of_le_of_lt Nat.and_le_right hsd
  have hlv : lv < 2 ^ 20 := Nat.lt_of_lt_of_le hlvn (Nat.pow_le_pow_right (by decide) hnc)
  have hCI0 := hCI
  obtain ⟨bO, bW, bD, bC, bM, bP, bR, bX, bS⟩ := hCI0
  have bO0 := bO
  obtain ⟨fr, mv, MX, hO, hMo, hMl, hMa, hfr⟩ := bO
  have bD0 := bD
  obtain ⟨hOo, hOa⟩ := bD
  have bC0 := bC
  obtain ⟨tf, cp, ca, hC, hT, hcon⟩ := bC
  have bX0 := bX
  obtain ⟨sz, tp, fw, tw, yw, pcn, hX, hXto, hXta, hXfo, hXfa, hXwo, hXwa, hXyo, hXya, hXpo, hXpa, hf, ht⟩ := bX
  refine j_callV (k := 0) (ci := 10) (q := (RX11, TX11, 15)) (As := []) (rest := []) S hK hA hW (c_X11_nodes l D cy ad n sd se fr nc lv tf cp ca cs mv MX sz tp fw tw yw pcn od hO hMo hMl hMa hC hT hX hXto hXta hXfo hXfa hXwo hXwa hXyo hXya hXpo hXpa hOo hOa hcon hn hsd hse hlv hfr hod hf ht) (jgo wm_L_219) yk_X11_nodes hO rfl rfl ⟨⟨rfl, rfl⟩, by decide, by decide⟩ rfl hl.1 rfl (Nat.le_of_ble_eq_true rfl) dL_law_1509 ⟨by show cells + 0 ≤ 601024; omega, by show slots + 0 ≤ 7293033; omega⟩ (fun v w H locs hp hW => ?_)
  obtain ⟨sz1, tp1, fw1, tw1, yw1, pcn1, rfl, hp0, hU1, hN1, hN2, hN3, hN4, hN5, hN6, hN7, hN8, hN9⟩ := hp
  have hCI : CI ad cy w n wf wt od sd se nc lv cs kv kx := ⟨⟨_, _, _, hN1, hN2, (hU1.get hMl (by decide)), hN3, by first | exact fun _ => ⟨rfl, rfl⟩ | exact hfr⟩, bW.kept hU1 (by decide), bD0.kept hU1 (by decide), bC0.kept hU1 (by decide), bM.kept hU1 (by decide), bP.kept hU1 (by decide), bR.kept hU1 (by decide), ⟨_, _, _, _, _, _, hN4, (hU1.get hXto (by decide)), hN5, (hU1.get hXfo (by decide)), hN6, (hU1.get hXwo (by decide)), hN7, (hU1.get hXyo (by decide)), hN8, (hU1.get hXpo (by decide)), hN9, hp0.1, hp0.2⟩, bS.kept hU1 (by decide)⟩
  have hOut := hU1.get hOut (by decide)
  have hOuD := hU1.get hOuD (by decide)
  have hRI := hRI.kept hU1 (by decide)
  obtain ⟨gx, rb, tu, gO, gF, gT, gE, gD, gC0, gC1, gC2, gC3, gC4, gP, gK, gV, gR, gU, hrow, hkx⟩ := hRI
  refine W.eq (g2 := F0 m 1512 ls [.int (nI (sumN (nodesB (fun d => (mdl n sd se nc cs lv) (layP n od d n)) n) n))]) rfl ?_
  refine lv_aload_n S.1 S.2.1 dL_law_1512 rfl (lv_at hl 2 rfl) ?_
  refine j_callV (k := 55) (ci := 11) (q := (RX12, TX12, 17)) (As := []) (rest := [.int (nI (sumN (nodesB (fun d => (mdl n sd se nc cs lv) (layP n od d n)) n) n))]) S hK hA hW (c_X12_nodes l D cy ad th n nc sd se lv cs od rb tu gO gE gP gC0 gC1 gC2 gC3 gC4 gD gR gU   (by omega) (by omega) (hse2) (by omega) (hcs) (hod)) (jgo wm_L_222) yk_X12_nodes gO rfl rfl ⟨⟨rfl, rfl⟩, by decide, by decide⟩ rfl hl.1 rfl (Nat.le_of_ble_eq_true rfl) dL_law_1513 ⟨by show cells + 0 ≤ 601024; omega, by show slots + 0 ≤ 7293033; omega⟩ (fun v w_ H locs hp hW => ?_)
  obtain ⟨rb1_1513, tu1_1513, rfl, hU1, hN1, hN2, hN3⟩ := hp
  have hU : jU w w_ [55, 56, 57, 58, 59, 60, 61, 62, 63, 64, 65, 66, 71, 72, 73, 74, 75] := jU.mono hU1 (by first | decide | (simp; done) | (simp; omega))
  have gF_ := hU1.get gF (by first | decide | (simp; done) | (simp; omega))
  have gT_ := hU1.get gT (by first | decide | (simp; done) | (simp; omega))
  have gE_ := hU1.get gE (by first | decide | (simp; done) | (simp; omega))
  have gD_ := hU1.get gD (by first | decide | (simp; done) | (simp; omega))
  have gC0_ := hU1.get gC0 (by first | decide | (simp; done) | (simp; omega))
  have gC1_ := hU1.get gC1 (by first | decide | (simp; done) | (simp; omega))
  have gC2_ := hU1.get gC2 (by first | decide | (simp; done) | (simp; omega))
  have gC3_ := hU1.get gC3 (by first | decide | (simp; done) | (simp; omega))
  have gC4_ := hU1.get gC4 (by first | decide | (simp; done) | (simp; omega))
  have gP_ := hU1.get gP (by first | decide | (simp; done) | (simp; omega))
  have gK_ := hU1.get gK (by first | decide | (simp; done) | (simp; omega))
  have gV_ := hU1.get gV (by first | decide | (simp; done) | (simp; omega))
  have hOut_ := hU1.get hOut (by first | decide | (simp; done) | (simp; omega))
  have hOuD_ := hU1.get hOuD (by first | decide | (simp; done) | (simp; omega))
  have gO_ : w_[55]? = some (ad 55, .inr (11, [.int (nI 0), .ref (ad 56), .ref (ad 57), .ref (ad 58), .ref (ad 59), .ref (ad 60), .ref (ad 61), .ref (ad 62), .ref (ad 63), .ref (ad 64), .ref (ad 65), .int (nI n), .int (nI nc), .ref (ad 66), .ref (ad 71), .ref (ad 72), .ref (ad 73)])) := hN1
  have gR_ : w_[72]? = some (ad 72, .inl (cy 3, 1024, .inl (bf rb1_1513))) := hN2
  have gU_ : w_[73]? = some (ad 73, .inl (cy 3, 1024, .inl (bf tu1_1513))) := hN3
  clear hU1 hN1 hN2 hN3
  refine W.eq (g2 := F0 m 1516 ls [.int (nI (sumN (nodesB (fun d => (mdl n sd se nc cs lv) (layP n od d n)) n) n)), .int (nI (sumN (nodesB (fun d => (mdl n sd se nc cs lv) (layP n od d n)) n) n))]) rfl ?_
  refine lv_topi_to (y := nI (sumN (nodesB (fun d => (mdl n sd se nc cs lv) (layP n od d n)) n) n)) (rfl) ?_
  refine lv_icmp_eq (tgt := 2382) S.1 S.2.1 dL_law_1516 (by decide) (fun c_1516 => ?_) (fun c_1516 => ?_)
  · exact W.widen (by omega) (by omega) (kk _ _ _ _ ⟨_, _, _, _, _, _, _, _, _, _, _, _, _, _, hPI, (hCI.kept hU (by first | decide | (intro k hk; simp at hk; omega))), ⟨gx, _, _, gO_, gF_, gT_, gE_, gD_, gC0_, gC1_, gC2_, gC3_, gC4_, gP_, gK_, gV_, gR_, gU_, fun j hj => hU.get (hrow j hj) (by simp; omega), hkx⟩, hOut_, hOuD_⟩ hW (lv_sub hl [0, 1, 2, 3, 4, 5] rfl))
  · exact absurd rfl c_1516
/-- the law's nodesFor -/
theorem s_nodesFor {p : Program} {l : Launch} {e : Env} {s : State} {m : MethodId} {args : Array Value} {below : List Frame} {meth : Method} {c : Code} {Q : State → Prop} {D : va_G} {cy : Nat → ClassId} {A : Nat → Prop} {x0 : Cond} {ad : Nat → Nat} {b L : Nat} {xs : Nat → Int32} {i : Nat} {w : va_W} {H : Heap} {locs : List Loc} {ls : Array Slot} {cells slots : Nat} (htr : l.stackTraces = false) (C : LX p s m c args D cy A b L xs x0) (hI : INV ad cy w) (hW : jW D A s.heap w H locs) (hl : lv_has ls 10 [(0, .ref b), (1, .ref (ad 0)), (2, .ref (ad 55)), (3, .ref (ad 74)), (4, .ref (ad 75)), (5, .int (nI i))]) (hi : i + 5 ≤ L) (hL : L ≤ 2560) (hc : cells + 10 ≤ 601024) (hs : slots + 64 ≤ 7293033) (kk : LK p l e s m args below meth c Q D cy A ad b i cells slots) : W p l e room_1 s m args below meth c H locs cells slots Q (F0 m 1521 ls []) := by
  obtain ⟨S, hK, hA, hX, hbl, hbA, hx, hnx⟩ := C
  obtain ⟨n, wf, wt, od, sd, se, nc, lv, cs, kv, kx, th, og, ogd, hPI, hCI, hRI, hOut, hOuD⟩ := hI
  have hPI0 := hPI
  obtain ⟨hn, hsdn, hse2, hnc, hlvn, hcs, hkI, hod, hodn, hinj⟩ := hPI0
  have hp2 := two_pow10 hn
  have hpt := Nat.two_pow_pos n
  have hWB := hCI.wb
  refine lv_aload_n S.1 S.2.1 dL_law_1521 rfl (lv_at hl 1 rfl) ?_
  refine lv_aload_n S.1 S.2.1 dL_law_1522 rfl (lv_at hl 0 rfl) ?_
  refine lv_iload S.1 S.2.1 dL_law_1523 (lv_at hl 5 rfl) ?_
  refine lv_iconst (v := nI 1) S.1 S.2.1 dL_law_1525 (by decide) ?_
  refine jn_add S dL_law_1526 ?_
  refine j_sld (x := xs (i + 1)) S hX hbl hbA hW (vp_in_nI (by omega) (by omega)) (nI_clamp (by omega)) (rfl) dL_law_1527 ?_
  refine lv_aload_n S.1 S.2.1 dL_law_1528 rfl (lv_at hl 3 rfl) ?_
  refine j_callH (As := [.ref (ad 0), .int (xs (i + 1)), .ref (ad 74)]) (rest := []) S hK hA hW hx hnx (h_nodesFor l htr D cy ad n wf wt od sd se nc lv cs kv kx (xs (i + 1)) og ogd hPI hCI hOut hOuD) (jgo wm_L_223) yk_L_nodesFor ⟨⟨rfl, rfl⟩, by decide, by decide⟩ rfl hl.1 rfl (Nat.le_of_ble_eq_true rfl) dL_law_1529 ⟨by show cells + 1 ≤ 601024; omega, by show slots + 6 ≤ 7293033; omega⟩ (fun v w H locs hp hW => ?_)
  rcases hp with ⟨x1, rfl, hq0, hq1, ⟨K1, hU1, hK1⟩, hCI, hOut, hOuD⟩ | ⟨rfl, hq, ⟨K1, hU1, hK1⟩, hCI, hOut, hOuD⟩
  · have hRI := hRI.kept hU1 (fun k hk => by have := hK1 k hk; omega)
    obtain ⟨gx, rb, tu, gO, gF, gT, gE, gD, gC0, gC1, gC2, gC3, gC4, gP, gK, gV, gR, gU, hrow, hkx⟩ := hRI
    refine W.eq (g2 := F0 m 1532 ls [.int (nI 0)]) rfl ?_
    refine lv_istore (lv' := [(6, .int (nI 0)), (0, .ref b), (1, .ref (ad 0)), (2, .ref (ad 55)), (3, .ref (ad 74)), (4, .ref (ad 75)), (5, .int (nI i))]) S.1 S.2.1 dL_law_1532 hl (by decide) rfl (fun ls hl => ?_)
    refine lv_aload_n S.1 S.2.1 dL_law_1534 rfl (lv_at hl 3 rfl) ?_
    refine lv_aload_n S.1 S.2.1 dL_law_1535 rfl (lv_at hl 1 rfl) ?_
    refine lv_iload S.1 S.2.1 dL_law_1536 (lv_at hl 6 rfl) ?_
    refine lv_iconst (v := nI 1) S.1 S.2.1 dL_law_1538 (by decide) ?_
    refine jn_add S dL_law_1539 ?_
    refine j_sld (x := nI x1) S hX hbl hbA hW (vp_in_nI (by omega) (by omega)) (nI_clamp (by omega)) (hq1) dL_law_1540 ?_
    refine j_callV (k := 55) (ci := 11) (q := (RX12, TX12, 17)) (As := [.int (nI x1)]) (rest := []) S hK hA hW (c_X12_nodesFor_ok l D cy ad th n nc sd se lv cs od rb tu x1 gO gE gP gC0 gC1 gC2 gC3 gC4 gD gR gU   (by omega) (by omega) (hse2) (by omega) (hcs) (hod) (by omega) (hinj)) (jgo wm_L_225) yk_X12_nodesFor gO rfl rfl ⟨⟨rfl, rfl⟩, by decide, by decide⟩ rfl hl.1 rfl (Nat.le_of_ble_eq_true rfl) dL_law_1541 ⟨by show (cells + 1) + 0 ≤ 601024; omega, by show (slots + 6) + 0 ≤ 7293033; omega⟩ (fun v w_ H locs hp hW => ?_)
    obtain ⟨rb1_1541, tu1_1541, rfl, hU1, hN1, hN2, hN3⟩ := hp
    have hU : jU w w_ [55, 56, 57, 58, 59, 60, 61, 62, 63, 64, 65, 66, 71, 72, 73, 74, 75] := jU.mono hU1 (by first | decide | (simp; done) | (simp; omega))
    have gF_ := hU1.get gF (by first | decide | (simp; done) | (simp; omega))
    have gT_ := hU1.get gT (by first | decide | (simp; done) | (simp; omega))
    have gE_ := hU1.get gE (by first | decide | (simp; done) | (simp; omega))
    have gD_ := hU1.get gD (by first | decide | (simp; done) | (simp; omega))
    have gC0_ := hU1.get gC0 (by first | decide | (simp; done) | (simp; omega))
    have gC1_ := hU1.get gC1 (by first | decide | (simp; done) | (simp; omega))
    have gC2_ := hU1.get gC2 (by first | decide | (simp; done) | (simp; omega))
    have gC3_ := hU1.get gC3 (by first | decide | (simp; done) | (simp; omega))
    have gC4_ := hU1.get gC4 (by first | decide | (simp; done) | (simp; omega))
    have gP_ := hU1.get gP (by first | decide | (simp; done) | (simp; omega))
    have gK_ := hU1.get gK (by first | decide | (simp; done) | (simp; omega))
    have gV_ := hU1.get gV (by first | decide | (simp; done) | (simp; omega))
    have hOut_ := hU1.get hOut (by first | decide | (simp; done) | (simp; omega))
    have hOuD_ := hU1.get hOuD (by first | decide | (simp; done) | (simp; omega))
    have gO_ : w_[55]? = some (ad 55, .inr (11, [.int (nI 0), .ref (ad 56), .ref (ad 57), .ref (ad 58), .ref (ad 59), .ref (ad 60), .ref (ad 61), .ref (ad 62), .ref (ad 63), .ref (ad 64), .ref (ad 65), .int (nI n), .int (nI nc), .ref (ad 66), .ref (ad 71), .ref (ad 72), .ref (ad 73)])) := hN1
    have gR_ : w_[72]? = some (ad 72, .inl (cy 3, 1024, .inl (bf rb1_1541))) := hN2
    have gU_ : w_[73]? = some (ad 73, .inl (cy 3, 1024, .inl (bf tu1_1541))) := hN3
    clear hU1 hN1 hN2 hN3
    refine W.eq (g2 := F0 m 1544 ls [.int (nI (lstN (fun i => decide (od i = x1)) (nodesB (fun d => (mdl n sd se nc cs lv) (layP n od d n)) n) n))]) rfl ?_
    refine lv_topi_to (y := nI (lstN (fun q => decide (od q = x1)) (nodesB (fun d => (mdl n sd se nc cs lv) (layP n od d n)) n) n)) (rfl) ?_
    refine lv_istore (lv' := [(7, .int (nI (lstN (fun q => decide (od q = x1)) (nodesB (fun d => (mdl n sd se nc cs lv) (layP n od d n)) n) n))), (6, .int (nI 0)), (0, .ref b), (1, .ref (ad 0)), (2, .ref (ad 55)), (3, .ref (ad 74)), (4, .ref (ad 75)), (5, .int (nI i))]) S.1 S.2.1 dL_law_1544 hl (by decide) rfl (fun ls hl => ?_)
    refine lv_aload_n S.1 S.2.1 dL_law_1546 rfl (lv_at hl 4 rfl) ?_
    refine j_callV (k := 55) (ci := 11) (q := (RX12, TX12, 17)) (As := []) (rest := []) S hK hA hW (c_X12_thrown l D cy ad 0 n nc gO_   ) (jgo wm_L_136) yk_X12_thrown gO_ rfl rfl ⟨⟨rfl, rfl⟩, by decide, by decide⟩ rfl hl.1 rfl (Nat.le_of_ble_eq_true rfl) dL_law_1547 ⟨by show (cells + 1) + 0 ≤ 601024; omega, by show (slots + 6) + 0 ≤ 7293033; omega⟩ (fun v u H locs hp hW => ?_)
    obtain ⟨rfl, rfl⟩ := hp
    refine W.eq (g2 := F0 m 1550 ls [.int (nI 0)]) rfl ?_
    refine lv_iload S.1 S.2.1 dL_law_1550 (lv_at hl 1 rfl) ?_
    refine jn_cmp_eq (tgt := 1557) S (by omega) (by omega) dL_law_1552 (by decide) (fun c_1552 => ?_) (fun c_1552 => ?_)
    · refine lv_iload S.1 S.2.1 dL_law_1557 (lv_at hl 1 rfl) ?_
      refine jn_if_ne (tgt := 1574) S (by omega) dL_law_1559 (by decide) (fun c_1559 => ?_) (fun c_1559 => ?_)
      · first | exact absurd (show 0 ≠ 0 from c_1559) (by decide) | exact absurd c_1559 (by decide)
      · refine lv_aload_n S.1 S.2.1 dL_law_1562 rfl (lv_at hl 5 rfl) ?_
        refine lv_iconst (v := nI 0) S.1 S.2.1 dL_law_1563 (by decide) ?_
        refine j_lald (x := (nI (lstN (fun q => decide (od q = x1)) (nodesB (fun d => (mdl n sd se nc cs lv) (layP n od d n)) n) n)).toInt64) S hK hW hOut_ (vp_in_nI (by omega) (by omega)) (nI_clamp (by omega)) (if_pos rfl) dL_law_1564 ?_
        refine lv_iload S.1 S.2.1 dL_law_1565 (lv_at hl 0 rfl) ?_
        refine lv_i2l (v := (nI (lstN (fun q => decide (od q = x1)) (nodesB (fun d => (mdl n sd se nc cs lv) (layP n od d n)) n) n)).toInt64) S.1 S.2.1 dL_law_1567 (rfl) ?_
        refine jl_eq (tgt := 1574) S dL_law_1568 dL_law_1569 (by decide) (fun c_1569 => ?_) (fun c_1569 => ?_)
        · refine lv_goto (tgt := 2382) S.1 S.2.1 dL_law_1574 (by decide) ?_
          exact W.widen (by omega) (by omega) (kk _ _ _ _ ⟨_, _, _, _, _, _, _, _, _, _, _, _, _, _, hPI, (hCI.kept hU (by first | decide | (intro k hk; simp at hk; omega))), ⟨gx, _, _, gO_, gF_, gT_, gE_, gD_, gC0_, gC1_, gC2_, gC3_, gC4_, gP_, gK_, gV_, gR_, gU_, fun j hj => hU.get (hrow j hj) (by simp; omega), hkx⟩, hOut_, hOuD_⟩ hW (lv_sub hl [2, 3, 4, 5, 6, 7] rfl))
        · exact absurd rfl c_1569
    · first | exact absurd (show 0 ≠ 0 from c_1552) (by decide) | exact absurd c_1552 (by decide)
  · have hRI := hRI.kept hU1 (fun k hk => by have := hK1 k hk; omega)
    obtain ⟨gx, rb, tu, gO, gF, gT, gE, gD, gC0, gC1, gC2, gC3, gC4, gP, gK, gV, gR, gU, hrow, hkx⟩ := hRI
    refine W.eq (g2 := F0 m 1532 ls [.int (nI 1)]) rfl ?_
    refine lv_istore (lv' := [(6, .int (nI 1)), (0, .ref b), (1, .ref (ad 0)), (2, .ref (ad 55)), (3, .ref (ad 74)), (4, .ref (ad 75)), (5, .int (nI i))]) S.1 S.2.1 dL_law_1532 hl (by decide) rfl (fun ls hl => ?_)
    refine lv_aload_n S.1 S.2.1 dL_law_1534 rfl (lv_at hl 3 rfl) ?_
    refine lv_aload_n S.1 S.2.1 dL_law_1535 rfl (lv_at hl 1 rfl) ?_
    refine lv_iload S.1 S.2.1 dL_law_1536 (lv_at hl 6 rfl) ?_
    refine lv_iconst (v := nI 1) S.1 S.2.1 dL_law_1538 (by decide) ?_
    refine jn_add S dL_law_1539 ?_
    refine j_sld (x := xs (i + 1)) S hX hbl hbA hW (vp_in_nI (by omega) (by omega)) (nI_clamp (by omega)) (rfl) dL_law_1540 ?_
    refine j_callV (k := 55) (ci := 11) (q := (RX12, TX12, 17)) (As := [.int (xs (i + 1))]) (rest := []) S hK hA hW (c_X12_nodesFor_b l D cy ad th n nc (xs (i + 1)) gO   (by omega) (hq)) (jgo wm_L_225) yk_X12_nodesFor gO rfl rfl ⟨⟨rfl, rfl⟩, by decide, by decide⟩ rfl hl.1 rfl (Nat.le_of_ble_eq_true rfl) dL_law_1541 ⟨by show (cells + 1) + 0 ≤ 601024; omega, by show (slots + 6) + 0 ≤ 7293033; omega⟩ (fun v w_ H locs hp hW => ?_)
    obtain ⟨rfl, hU1, hN1⟩ := hp
    have hU : jU w w_ [55, 56, 57, 58, 59, 60, 61, 62, 63, 64, 65, 66, 71, 72, 73, 74, 75] := jU.mono hU1 (by first | decide | (simp; done) | (simp; omega))
    have gF_ := hU1.get gF (by first | decide | (simp; done) | (simp; omega))
    have gT_ := hU1.get gT (by first | decide | (simp; done) | (simp; omega))
    have gE_ := hU1.get gE (by first | decide | (simp; done) | (simp; omega))
    have gD_ := hU1.get gD (by first | decide | (simp; done) | (simp; omega))
    have gC0_ := hU1.get gC0 (by first | decide | (simp; done) | (simp; omega))
    have gC1_ := hU1.get gC1 (by first | decide | (simp; done) | (simp; omega))
    have gC2_ := hU1.get gC2 (by first | decide | (simp; done) | (simp; omega))
    have gC3_ := hU1.get gC3 (by first | decide | (simp; done) | (simp; omega))
    have gC4_ := hU1.get gC4 (by first | decide | (simp; done) | (simp; omega))
    have gP_ := hU1.get gP (by first | decide | (simp; done) | (simp; omega))
    have gK_ := hU1.get gK (by first | decide | (simp; done) | (simp; omega))
    have gV_ := hU1.get gV (by first | decide | (simp; done) | (simp; omega))
    have gR_ := hU1.get gR (by first | decide | (simp; done) | (simp; omega))
    have gU_ := hU1.get gU (by first | decide | (simp; done) | (simp; omega))
    have hOut_ := hU1.get hOut (by first | decide | (simp; done) | (simp; omega))
    have hOuD_ := hU1.get hOuD (by first | decide | (simp; done) | (simp; omega))
    have gO_ : w_[55]? = some (ad 55, .inr (11, [.int (nI 1), .ref (ad 56), .ref (ad 57), .ref (ad 58), .ref (ad 59), .ref (ad 60), .ref (ad 61), .ref (ad 62), .ref (ad 63), .ref (ad 64), .ref (ad 65), .int (nI n), .int (nI nc), .ref (ad 66), .ref (ad 71), .ref (ad 72), .ref (ad 73)])) := hN1
    clear hU1 hN1
    refine W.eq (g2 := F0 m 1544 ls [.int (nI 0)]) rfl ?_
    refine lv_istore (lv' := [(7, .int (nI 0)), (6, .int (nI 1)), (0, .ref b), (1, .ref (ad 0)), (2, .ref (ad 55)), (3, .ref (ad 74)), (4, .ref (ad 75)), (5, .int (nI i))]) S.1 S.2.1 dL_law_1544 hl (by decide) rfl (fun ls hl => ?_)
    refine lv_aload_n S.1 S.2.1 dL_law_1546 rfl (lv_at hl 4 rfl) ?_
    refine j_callV (k := 55) (ci := 11) (q := (RX12, TX12, 17)) (As := []) (rest := []) S hK hA hW (c_X12_thrown l D cy ad 1 n nc gO_   ) (jgo wm_L_136) yk_X12_thrown gO_ rfl rfl ⟨⟨rfl, rfl⟩, by decide, by decide⟩ rfl hl.1 rfl (Nat.le_of_ble_eq_true rfl) dL_law_1547 ⟨by show (cells + 1) + 0 ≤ 601024; omega, by show (slots + 6) + 0 ≤ 7293033; omega⟩ (fun v u H locs hp hW => ?_)
    obtain ⟨rfl, rfl⟩ := hp
    refine W.eq (g2 := F0 m 1550 ls [.int (nI 1)]) rfl ?_
    refine lv_iload S.1 S.2.1 dL_law_1550 (lv_at hl 1 rfl) ?_
    refine jn_cmp_eq (tgt := 1557) S (by omega) (by omega) dL_law_1552 (by decide) (fun c_1552 => ?_) (fun c_1552 => ?_)
    · refine lv_iload S.1 S.2.1 dL_law_1557 (lv_at hl 1 rfl) ?_
      refine jn_if_ne (tgt := 1574) S (by omega) dL_law_1559 (by decide) (fun c_1559 => ?_) (fun c_1559 => ?_)
      · refine lv_goto (tgt := 2382) S.1 S.2.1 dL_law_1574 (by decide) ?_
        exact W.widen (by omega) (by omega) (kk _ _ _ _ ⟨_, _, _, _, _, _, _, _, _, _, _, _, _, _, hPI, (hCI.kept hU (by first | decide | (intro k hk; simp at hk; omega))), ⟨gx, _, _, gO_, gF_, gT_, gE_, gD_, gC0_, gC1_, gC2_, gC3_, gC4_, gP_, gK_, gV_, gR_, gU_, fun j hj => hU.get (hrow j hj) (by simp; omega), hkx⟩, hOut_, hOuD_⟩ hW (lv_sub hl [2, 3, 4, 5, 6, 7] rfl))
      · first | exact absurd (show 1 = 0 from c_1559) (by decide) | exact absurd c_1559 (by decide)
    · first | exact absurd (show 1 ≠ 1 from c_1552) (by decide) | exact absurd c_1552 (by decide)
/-- the law's ways -/
theorem s_ways {p : Program} {l : Launch} {e : Env} {s : State} {m : MethodId} {args : Array Value} {below : List Frame} {meth : Method} {c : Code} {Q : State → Prop} {D : va_G} {cy : Nat → ClassId} {A : Nat → Prop} {x0 : Cond} {ad : Nat → Nat} {b L : Nat} {xs : Nat → Int32} {i : Nat} {w : va_W} {H : Heap} {locs : List Loc} {ls : Array Slot} {cells slots : Nat} (htr : l.stackTraces = false) (C : LX p s m c args D cy A b L xs x0) (hI : INV ad cy w) (hW : jW D A s.heap w H locs) (hl : lv_has ls 10 [(0, .ref b), (1, .ref (ad 0)), (2, .ref (ad 55)), (3, .ref (ad 74)), (4, .ref (ad 75)), (5, .int (nI i))]) (hi : i + 5 ≤ L) (hL : L ≤ 2560) (hc : cells + 10 ≤ 601024) (hs : slots + 64 ≤ 7293033) (kk : LK p l e s m args below meth c Q D cy A ad b i cells slots) : W p l e room_1 s m args below meth c H locs cells slots Q (F0 m 1577 ls []) := by
  obtain ⟨S, hK, hA, hX, hbl, hbA, hx, hnx⟩ := C
  obtain ⟨n, wf, wt, od, sd, se, nc, lv, cs, kv, kx, th, og, ogd, hPI, hCI, hRI, hOut, hOuD⟩ := hI
  have hPI0 := hPI
  obtain ⟨hn, hsdn, hse2, hnc, hlvn, hcs, hkI, hod, hodn, hinj⟩ := hPI0
  have hp2 := two_pow10 hn
  have hpt := Nat.two_pow_pos n
  have hWB := hCI.wb
  refine lv_aload_n S.1 S.2.1 dL_law_1577 rfl (lv_at hl 1 rfl) ?_
  have hsd : sd < 1024 := by omega
  have hse : se < 1024 := by rw [← hse2]; exact Nat.lt_of_le_of_lt Nat.and_le_right hsd
  have hlv : lv < 2 ^ 20 := Nat.lt_of_lt_of_le hlvn (Nat.pow_le_pow_right (by decide) hnc)
  have hCI0 := hCI
  obtain ⟨bO, bW, bD, bC, bM, bP, bR, bX, bS⟩ := hCI0
  have bO0 := bO
  obtain ⟨fr, mv, MX, hO, hMo, hMl, hMa, hfr⟩ := bO
  have bD0 := bD
  obtain ⟨hOo, hOa⟩ := bD
  have bC0 := bC
  obtain ⟨tf, cp, ca, hC, hT, hcon⟩ := bC
  have bX0 := bX
  obtain ⟨sz, tp, fw, tw, yw, pcn, hX, hXto, hXta, hXfo, hXfa, hXwo, hXwa, hXyo, hXya, hXpo, hXpa, hf, ht⟩ := bX
  refine j_callV (k := 0) (ci := 10) (q := (RX11, TX11, 15)) (As := []) (rest := []) S hK hA hW (c_X11_ways l D cy ad n sd se fr nc lv tf cp ca cs mv MX sz tp fw tw yw pcn od hO hMo hMl hMa hC hT hX hXto hXta hXfo hXfa hXwo hXwa hXyo hXya hXpo hXpa hOo hOa hcon hn hsd hse hlv hfr hod hf ht) (jgo wm_L_226) yk_X11_ways hO rfl rfl ⟨⟨rfl, rfl⟩, by decide, by decide⟩ rfl hl.1 rfl (Nat.le_of_ble_eq_true rfl) dL_law_1578 ⟨by show cells + 0 ≤ 601024; omega, by show slots + 0 ≤ 7293033; omega⟩ (fun v w H locs hp hW => ?_)
  obtain ⟨sz1, tp1, fw1, tw1, yw1, pcn1, rfl, hp0, hU1, hN1, hN2, hN3, hN4, hN5, hN6, hN7, hN8, hN9⟩ := hp
  have hCI : CI ad cy w n wf wt od sd se nc lv cs kv kx := ⟨⟨_, _, _, hN1, hN2, (hU1.get hMl (by decide)), hN3, by first | exact fun _ => ⟨rfl, rfl⟩ | exact hfr⟩, bW.kept hU1 (by decide), bD0.kept hU1 (by decide), bC0.kept hU1 (by decide), bM.kept hU1 (by decide), bP.kept hU1 (by decide), bR.kept hU1 (by decide), ⟨_, _, _, _, _, _, hN4, (hU1.get hXto (by decide)), hN5, (hU1.get hXfo (by decide)), hN6, (hU1.get hXwo (by decide)), hN7, (hU1.get hXyo (by decide)), hN8, (hU1.get hXpo (by decide)), hN9, hp0.1, hp0.2⟩, bS.kept hU1 (by decide)⟩
  have hOut := hU1.get hOut (by decide)
  have hOuD := hU1.get hOuD (by decide)
  have hRI := hRI.kept hU1 (by decide)
  obtain ⟨gx, rb, tu, gO, gF, gT, gE, gD, gC0, gC1, gC2, gC3, gC4, gP, gK, gV, gR, gU, hrow, hkx⟩ := hRI
  refine W.eq (g2 := F0 m 1581 ls [.long (lN (waysH (fun d => (mdl n sd se nc cs lv) (layP n od d n)) n 0))]) rfl ?_
  refine lv_aload_n S.1 S.2.1 dL_law_1581 rfl (lv_at hl 2 rfl) ?_
  refine j_callV (k := 55) (ci := 11) (q := (RX12, TX12, 17)) (As := []) (rest := [.long (lN (waysH (fun d => (mdl n sd se nc cs lv) (layP n od d n)) n 0))]) S hK hA hW (c_X12_ways l D cy ad th n nc sd se lv cs od rb tu gO gE gP gC0 gC1 gC2 gC3 gC4 gD gR gU   (by omega) (by omega) (hse2) (by omega) (hcs) (hod)) (jgo wm_L_229) yk_X12_ways gO rfl rfl ⟨⟨rfl, rfl⟩, by decide, by decide⟩ rfl hl.1 rfl (Nat.le_of_ble_eq_true rfl) dL_law_1582 ⟨by show cells + 0 ≤ 601024; omega, by show slots + 0 ≤ 7293033; omega⟩ (fun v w_ H locs hp hW => ?_)
  obtain ⟨rb1_1582, tu1_1582, rfl, hU1, hN1, hN2, hN3⟩ := hp
  have hU : jU w w_ [55, 56, 57, 58, 59, 60, 61, 62, 63, 64, 65, 66, 71, 72, 73, 74, 75] := jU.mono hU1 (by first | decide | (simp; done) | (simp; omega))
  have gF_ := hU1.get gF (by first | decide | (simp; done) | (simp; omega))
  have gT_ := hU1.get gT (by first | decide | (simp; done) | (simp; omega))
  have gE_ := hU1.get gE (by first | decide | (simp; done) | (simp; omega))
  have gD_ := hU1.get gD (by first | decide | (simp; done) | (simp; omega))
  have gC0_ := hU1.get gC0 (by first | decide | (simp; done) | (simp; omega))
  have gC1_ := hU1.get gC1 (by first | decide | (simp; done) | (simp; omega))
  have gC2_ := hU1.get gC2 (by first | decide | (simp; done) | (simp; omega))
  have gC3_ := hU1.get gC3 (by first | decide | (simp; done) | (simp; omega))
  have gC4_ := hU1.get gC4 (by first | decide | (simp; done) | (simp; omega))
  have gP_ := hU1.get gP (by first | decide | (simp; done) | (simp; omega))
  have gK_ := hU1.get gK (by first | decide | (simp; done) | (simp; omega))
  have gV_ := hU1.get gV (by first | decide | (simp; done) | (simp; omega))
  have hOut_ := hU1.get hOut (by first | decide | (simp; done) | (simp; omega))
  have hOuD_ := hU1.get hOuD (by first | decide | (simp; done) | (simp; omega))
  have gO_ : w_[55]? = some (ad 55, .inr (11, [.int (nI 0), .ref (ad 56), .ref (ad 57), .ref (ad 58), .ref (ad 59), .ref (ad 60), .ref (ad 61), .ref (ad 62), .ref (ad 63), .ref (ad 64), .ref (ad 65), .int (nI n), .int (nI nc), .ref (ad 66), .ref (ad 71), .ref (ad 72), .ref (ad 73)])) := hN1
  have gR_ : w_[72]? = some (ad 72, .inl (cy 3, 1024, .inl (bf rb1_1582))) := hN2
  have gU_ : w_[73]? = some (ad 73, .inl (cy 3, 1024, .inl (bf tu1_1582))) := hN3
  clear hU1 hN1 hN2 hN3
  refine W.eq (g2 := F0 m 1585 ls [.long (lN (waysH (fun d => (mdl n sd se nc cs lv) (layP n od d n)) n 0)), .long (lN (waysH (fun d => (mdl n sd se nc cs lv) (layP n od d n)) n 0))]) rfl ?_
  refine lv_topl_to (y := lN (waysH (fun d => (mdl n sd se nc cs lv) (layP n od d n)) n 0)) (rfl) ?_
  refine jl_eq (tgt := 2382) S dL_law_1585 dL_law_1586 (by decide) (fun c_1586 => ?_) (fun c_1586 => ?_)
  · exact W.widen (by omega) (by omega) (kk _ _ _ _ ⟨_, _, _, _, _, _, _, _, _, _, _, _, _, _, hPI, (hCI.kept hU (by first | decide | (intro k hk; simp at hk; omega))), ⟨gx, _, _, gO_, gF_, gT_, gE_, gD_, gC0_, gC1_, gC2_, gC3_, gC4_, gP_, gK_, gV_, gR_, gU_, fun j hj => hU.get (hrow j hj) (by simp; omega), hkx⟩, hOut_, hOuD_⟩ hW (lv_sub hl [0, 1, 2, 3, 4, 5] rfl))
  · exact absurd rfl c_1586
/-- the law's exchange -/
theorem s_exchange {p : Program} {l : Launch} {e : Env} {s : State} {m : MethodId} {args : Array Value} {below : List Frame} {meth : Method} {c : Code} {Q : State → Prop} {D : va_G} {cy : Nat → ClassId} {A : Nat → Prop} {x0 : Cond} {ad : Nat → Nat} {b L : Nat} {xs : Nat → Int32} {i : Nat} {w : va_W} {H : Heap} {locs : List Loc} {ls : Array Slot} {cells slots : Nat} (htr : l.stackTraces = false) (C : LX p s m c args D cy A b L xs x0) (hI : INV ad cy w) (hW : jW D A s.heap w H locs) (hl : lv_has ls 10 [(0, .ref b), (1, .ref (ad 0)), (2, .ref (ad 55)), (3, .ref (ad 74)), (4, .ref (ad 75)), (5, .int (nI i))]) (hi : i + 5 ≤ L) (hL : L ≤ 2560) (hc : cells + 10 ≤ 601024) (hs : slots + 64 ≤ 7293033) (kk : LK p l e s m args below meth c Q D cy A ad b i cells slots) : W p l e room_1 s m args below meth c H locs cells slots Q (F0 m 1591 ls []) := by
  obtain ⟨S, hK, hA, hX, hbl, hbA, hx, hnx⟩ := C
  obtain ⟨n, wf, wt, od, sd, se, nc, lv, cs, kv, kx, th, og, ogd, hPI, hCI, hRI, hOut, hOuD⟩ := hI
  have hPI0 := hPI
  obtain ⟨hn, hsdn, hse2, hnc, hlvn, hcs, hkI, hod, hodn, hinj⟩ := hPI0
  have hp2 := two_pow10 hn
  have hpt := Nat.two_pow_pos n
  have hWB := hCI.wb
  refine lv_aload_n S.1 S.2.1 dL_law_1591 rfl (lv_at hl 1 rfl) ?_
  refine lv_aload_n S.1 S.2.1 dL_law_1592 rfl (lv_at hl 0 rfl) ?_
  refine lv_iload S.1 S.2.1 dL_law_1593 (lv_at hl 5 rfl) ?_
  refine lv_iconst (v := nI 1) S.1 S.2.1 dL_law_1595 (by decide) ?_
  refine jn_add S dL_law_1596 ?_
  refine j_sld (x := xs (i + 1)) S hX hbl hbA hW (vp_in_nI (by omega) (by omega)) (nI_clamp (by omega)) (rfl) dL_law_1597 ?_
  refine lv_aload_n S.1 S.2.1 dL_law_1598 rfl (lv_at hl 0 rfl) ?_
  refine lv_iload S.1 S.2.1 dL_law_1599 (lv_at hl 5 rfl) ?_
  refine lv_iconst (v := nI 2) S.1 S.2.1 dL_law_1601 (by decide) ?_
  refine jn_add S dL_law_1602 ?_
  refine j_sld (x := xs (i + 2)) S hX hbl hbA hW (vp_in_nI (by omega) (by omega)) (nI_clamp (by omega)) (rfl) dL_law_1603 ?_
  refine lv_aload_n S.1 S.2.1 dL_law_1604 rfl (lv_at hl 3 rfl) ?_
  refine j_callH (As := [.ref (ad 0), .int (xs (i + 1)), .int (xs (i + 2)), .ref (ad 74)]) (rest := []) S hK hA hW hx hnx (h_exchange l htr D cy ad n wf wt od sd se nc lv cs kv kx (xs (i + 1)) (xs (i + 2)) og ogd hPI hCI hOut hOuD) (jgo wm_L_230) yk_L_exchange ⟨⟨rfl, rfl⟩, by decide, by decide⟩ rfl hl.1 rfl (Nat.le_of_ble_eq_true rfl) dL_law_1605 ⟨by show cells + 2 ≤ 601024; omega, by show slots + 12 ≤ 7293033; omega⟩ (fun v w H locs hp hW => ?_)
  rcases hp with ⟨x1, y1, rfl, hq0, hq1, hq2, hq3, ⟨K1, hU1, hK1⟩, hCI, hOut, hOuD⟩ | ⟨rfl, hq, ⟨K1, hU1, hK1⟩, hCI, hOut, hOuD⟩
  · have hRI := hRI.kept hU1 (fun k hk => by have := hK1 k hk; omega)
    obtain ⟨gx, rb, tu, gO, gF, gT, gE, gD, gC0, gC1, gC2, gC3, gC4, gP, gK, gV, gR, gU, hrow, hkx⟩ := hRI
    have hPI1 : PI n wf wt (upB (upB od x1 (od y1)) y1 (od x1)) sd se nc lv cs kv kx := hPI.exchange hq0 hq2
    refine W.eq (g2 := F0 m 1608 ls [.int (nI 0)]) rfl ?_
    refine lv_istore (lv' := [(6, .int (nI 0)), (0, .ref b), (1, .ref (ad 0)), (2, .ref (ad 55)), (3, .ref (ad 74)), (4, .ref (ad 75)), (5, .int (nI i))]) S.1 S.2.1 dL_law_1608 hl (by decide) rfl (fun ls hl => ?_)
    refine lv_aload_n S.1 S.2.1 dL_law_1610 rfl (lv_at hl 3 rfl) ?_
    refine lv_aload_n S.1 S.2.1 dL_law_1611 rfl (lv_at hl 1 rfl) ?_
    refine lv_iload S.1 S.2.1 dL_law_1612 (lv_at hl 6 rfl) ?_
    refine lv_iconst (v := nI 1) S.1 S.2.1 dL_law_1614 (by decide) ?_
    refine jn_add S dL_law_1615 ?_
    refine j_sld (x := nI x1) S hX hbl hbA hW (vp_in_nI (by omega) (by omega)) (nI_clamp (by omega)) (hq1) dL_law_1616 ?_
    refine lv_aload_n S.1 S.2.1 dL_law_1617 rfl (lv_at hl 1 rfl) ?_
    refine lv_iload S.1 S.2.1 dL_law_1618 (lv_at hl 6 rfl) ?_
    refine lv_iconst (v := nI 2) S.1 S.2.1 dL_law_1620 (by decide) ?_
    refine jn_add S dL_law_1621 ?_
    refine j_sld (x := nI y1) S hX hbl hbA hW (vp_in_nI (by omega) (by omega)) (nI_clamp (by omega)) (hq3) dL_law_1622 ?_
    refine j_callV (k := 55) (ci := 11) (q := (RX12, TX12, 17)) (As := [.int (nI x1), .int (nI y1)]) (rest := []) S hK hA hW (c_X12_exchange_ok l D cy ad th n nc sd se lv cs od rb tu x1 y1 gO gE gP gC0 gC1 gC2 gC3 gC4 gD gR gU   (by omega) (by omega) (hse2) (by omega) (hcs) (hod) (by omega) (by omega)) (jgo wm_L_232) yk_X12_exchange gO rfl rfl ⟨⟨rfl, rfl⟩, by decide, by decide⟩ rfl hl.1 rfl (Nat.le_of_ble_eq_true rfl) dL_law_1623 ⟨by show (cells + 2) + 0 ≤ 601024; omega, by show (slots + 12) + 0 ≤ 7293033; omega⟩ (fun v w_ H locs hp hW => ?_)
    obtain ⟨rb1_1623, tu1_1623, rfl, hU1, hN1, hN2, hN3, hN4⟩ := hp
    have hU : jU w w_ [55, 56, 57, 58, 59, 60, 61, 62, 63, 64, 65, 66, 71, 72, 73, 74, 75] := jU.mono hU1 (by first | decide | (simp; done) | (simp; omega))
    have gF_ := hU1.get gF (by first | decide | (simp; done) | (simp; omega))
    have gT_ := hU1.get gT (by first | decide | (simp; done) | (simp; omega))
    have gE_ := hU1.get gE (by first | decide | (simp; done) | (simp; omega))
    have gC0_ := hU1.get gC0 (by first | decide | (simp; done) | (simp; omega))
    have gC1_ := hU1.get gC1 (by first | decide | (simp; done) | (simp; omega))
    have gC2_ := hU1.get gC2 (by first | decide | (simp; done) | (simp; omega))
    have gC3_ := hU1.get gC3 (by first | decide | (simp; done) | (simp; omega))
    have gC4_ := hU1.get gC4 (by first | decide | (simp; done) | (simp; omega))
    have gP_ := hU1.get gP (by first | decide | (simp; done) | (simp; omega))
    have gK_ := hU1.get gK (by first | decide | (simp; done) | (simp; omega))
    have gV_ := hU1.get gV (by first | decide | (simp; done) | (simp; omega))
    have hOut_ := hU1.get hOut (by first | decide | (simp; done) | (simp; omega))
    have hOuD_ := hU1.get hOuD (by first | decide | (simp; done) | (simp; omega))
    have gO_ : w_[55]? = some (ad 55, .inr (11, [.int (nI 0), .ref (ad 56), .ref (ad 57), .ref (ad 58), .ref (ad 59), .ref (ad 60), .ref (ad 61), .ref (ad 62), .ref (ad 63), .ref (ad 64), .ref (ad 65), .int (nI n), .int (nI nc), .ref (ad 66), .ref (ad 71), .ref (ad 72), .ref (ad 73)])) := hN1
    have gD_ : w_[59]? = some (ad 59, .inl (cy 0, 10, .inl (nf (upB (upB od x1 (od y1)) y1 (od x1))))) := hN2
    have gR_ : w_[72]? = some (ad 72, .inl (cy 3, 1024, .inl (bf rb1_1623))) := hN3
    have gU_ : w_[73]? = some (ad 73, .inl (cy 3, 1024, .inl (bf tu1_1623))) := hN4
    clear hU1 hN1 hN2 hN3 hN4
    refine W.eq (g2 := F0 m 1626 ls [.int (nI (sumN (nodesB (fun d => (mdl n sd se nc cs lv) (layP n (upB (upB od x1 (od y1)) y1 (od x1)) d n)) n) n))]) rfl ?_
    refine lv_istore (lv' := [(7, .int (nI (sumN (nodesB (fun d => (mdl n sd se nc cs lv) (layP n (upB (upB od x1 (od y1)) y1 (od x1)) d n)) n) n))), (6, .int (nI 0)), (0, .ref b), (1, .ref (ad 0)), (2, .ref (ad 55)), (3, .ref (ad 74)), (4, .ref (ad 75)), (5, .int (nI i))]) S.1 S.2.1 dL_law_1626 hl (by decide) rfl (fun ls hl => ?_)
    refine lv_aload_n S.1 S.2.1 dL_law_1628 rfl (lv_at hl 4 rfl) ?_
    refine j_callV (k := 55) (ci := 11) (q := (RX12, TX12, 17)) (As := []) (rest := []) S hK hA hW (c_X12_thrown l D cy ad 0 n nc gO_   ) (jgo wm_L_136) yk_X12_thrown gO_ rfl rfl ⟨⟨rfl, rfl⟩, by decide, by decide⟩ rfl hl.1 rfl (Nat.le_of_ble_eq_true rfl) dL_law_1629 ⟨by show (cells + 2) + 0 ≤ 601024; omega, by show (slots + 12) + 0 ≤ 7293033; omega⟩ (fun v u H locs hp hW => ?_)
    obtain ⟨rfl, rfl⟩ := hp
    refine W.eq (g2 := F0 m 1632 ls [.int (nI 0)]) rfl ?_
    refine lv_iload S.1 S.2.1 dL_law_1632 (lv_at hl 1 rfl) ?_
    refine jn_cmp_eq (tgt := 1639) S (by omega) (by omega) dL_law_1634 (by decide) (fun c_1634 => ?_) (fun c_1634 => ?_)
    · refine lv_iload S.1 S.2.1 dL_law_1639 (lv_at hl 1 rfl) ?_
      refine jn_if_ne (tgt := 1656) S (by omega) dL_law_1641 (by decide) (fun c_1641 => ?_) (fun c_1641 => ?_)
      · first | exact absurd (show 0 ≠ 0 from c_1641) (by decide) | exact absurd c_1641 (by decide)
      · refine lv_aload_n S.1 S.2.1 dL_law_1644 rfl (lv_at hl 5 rfl) ?_
        refine lv_iconst (v := nI 0) S.1 S.2.1 dL_law_1645 (by decide) ?_
        refine j_lald (x := (nI (sumN (nodesB (fun d => (mdl n sd se nc cs lv) (layP n (upB (upB od x1 (od y1)) y1 (od x1)) d n)) n) n)).toInt64) S hK hW hOut_ (vp_in_nI (by omega) (by omega)) (nI_clamp (by omega)) (if_pos rfl) dL_law_1646 ?_
        refine lv_iload S.1 S.2.1 dL_law_1647 (lv_at hl 0 rfl) ?_
        refine lv_i2l (v := (nI (sumN (nodesB (fun d => (mdl n sd se nc cs lv) (layP n (upB (upB od x1 (od y1)) y1 (od x1)) d n)) n) n)).toInt64) S.1 S.2.1 dL_law_1649 (rfl) ?_
        refine jl_eq (tgt := 1656) S dL_law_1650 dL_law_1651 (by decide) (fun c_1651 => ?_) (fun c_1651 => ?_)
        · refine lv_goto (tgt := 2382) S.1 S.2.1 dL_law_1656 (by decide) ?_
          exact W.widen (by omega) (by omega) (kk _ _ _ _ ⟨_, _, _, _, _, _, _, _, _, _, _, _, _, _, hPI1, (hCI.kept hU (by first | decide | (intro k hk; simp at hk; omega))), ⟨gx, _, _, gO_, gF_, gT_, gE_, gD_, gC0_, gC1_, gC2_, gC3_, gC4_, gP_, gK_, gV_, gR_, gU_, fun j hj => hU.get (hrow j hj) (by simp; omega), hkx⟩, hOut_, hOuD_⟩ hW (lv_sub hl [2, 3, 4, 5, 6, 7] rfl))
        · exact absurd rfl c_1651
    · first | exact absurd (show 0 ≠ 0 from c_1634) (by decide) | exact absurd c_1634 (by decide)
  · have hRI := hRI.kept hU1 (fun k hk => by have := hK1 k hk; omega)
    obtain ⟨gx, rb, tu, gO, gF, gT, gE, gD, gC0, gC1, gC2, gC3, gC4, gP, gK, gV, gR, gU, hrow, hkx⟩ := hRI
    refine W.eq (g2 := F0 m 1608 ls [.int (nI 1)]) rfl ?_
    refine lv_istore (lv' := [(6, .int (nI 1)), (0, .ref b), (1, .ref (ad 0)), (2, .ref (ad 55)), (3, .ref (ad 74)), (4, .ref (ad 75)), (5, .int (nI i))]) S.1 S.2.1 dL_law_1608 hl (by decide) rfl (fun ls hl => ?_)
    refine lv_aload_n S.1 S.2.1 dL_law_1610 rfl (lv_at hl 3 rfl) ?_
    refine lv_aload_n S.1 S.2.1 dL_law_1611 rfl (lv_at hl 1 rfl) ?_
    refine lv_iload S.1 S.2.1 dL_law_1612 (lv_at hl 6 rfl) ?_
    refine lv_iconst (v := nI 1) S.1 S.2.1 dL_law_1614 (by decide) ?_
    refine jn_add S dL_law_1615 ?_
    refine j_sld (x := xs (i + 1)) S hX hbl hbA hW (vp_in_nI (by omega) (by omega)) (nI_clamp (by omega)) (rfl) dL_law_1616 ?_
    refine lv_aload_n S.1 S.2.1 dL_law_1617 rfl (lv_at hl 1 rfl) ?_
    refine lv_iload S.1 S.2.1 dL_law_1618 (lv_at hl 6 rfl) ?_
    refine lv_iconst (v := nI 2) S.1 S.2.1 dL_law_1620 (by decide) ?_
    refine jn_add S dL_law_1621 ?_
    refine j_sld (x := xs (i + 2)) S hX hbl hbA hW (vp_in_nI (by omega) (by omega)) (nI_clamp (by omega)) (rfl) dL_law_1622 ?_
    refine j_callV (k := 55) (ci := 11) (q := (RX12, TX12, 17)) (As := [.int (xs (i + 1)), .int (xs (i + 2))]) (rest := []) S hK hA hW (c_X12_exchange_b l D cy ad th n nc (xs (i + 1)) (xs (i + 2)) gO   (by omega) (hq)) (jgo wm_L_232) yk_X12_exchange gO rfl rfl ⟨⟨rfl, rfl⟩, by decide, by decide⟩ rfl hl.1 rfl (Nat.le_of_ble_eq_true rfl) dL_law_1623 ⟨by show (cells + 2) + 0 ≤ 601024; omega, by show (slots + 12) + 0 ≤ 7293033; omega⟩ (fun v w_ H locs hp hW => ?_)
    obtain ⟨rfl, hU1, hN1⟩ := hp
    have hU : jU w w_ [55, 56, 57, 58, 59, 60, 61, 62, 63, 64, 65, 66, 71, 72, 73, 74, 75] := jU.mono hU1 (by first | decide | (simp; done) | (simp; omega))
    have gF_ := hU1.get gF (by first | decide | (simp; done) | (simp; omega))
    have gT_ := hU1.get gT (by first | decide | (simp; done) | (simp; omega))
    have gE_ := hU1.get gE (by first | decide | (simp; done) | (simp; omega))
    have gD_ := hU1.get gD (by first | decide | (simp; done) | (simp; omega))
    have gC0_ := hU1.get gC0 (by first | decide | (simp; done) | (simp; omega))
    have gC1_ := hU1.get gC1 (by first | decide | (simp; done) | (simp; omega))
    have gC2_ := hU1.get gC2 (by first | decide | (simp; done) | (simp; omega))
    have gC3_ := hU1.get gC3 (by first | decide | (simp; done) | (simp; omega))
    have gC4_ := hU1.get gC4 (by first | decide | (simp; done) | (simp; omega))
    have gP_ := hU1.get gP (by first | decide | (simp; done) | (simp; omega))
    have gK_ := hU1.get gK (by first | decide | (simp; done) | (simp; omega))
    have gV_ := hU1.get gV (by first | decide | (simp; done) | (simp; omega))
    have gR_ := hU1.get gR (by first | decide | (simp; done) | (simp; omega))
    have gU_ := hU1.get gU (by first | decide | (simp; done) | (simp; omega))
    have hOut_ := hU1.get hOut (by first | decide | (simp; done) | (simp; omega))
    have hOuD_ := hU1.get hOuD (by first | decide | (simp; done) | (simp; omega))
    have gO_ : w_[55]? = some (ad 55, .inr (11, [.int (nI 1), .ref (ad 56), .ref (ad 57), .ref (ad 58), .ref (ad 59), .ref (ad 60), .ref (ad 61), .ref (ad 62), .ref (ad 63), .ref (ad 64), .ref (ad 65), .int (nI n), .int (nI nc), .ref (ad 66), .ref (ad 71), .ref (ad 72), .ref (ad 73)])) := hN1
    clear hU1 hN1
    refine W.eq (g2 := F0 m 1626 ls [.int (nI 0)]) rfl ?_
    refine lv_istore (lv' := [(7, .int (nI 0)), (6, .int (nI 1)), (0, .ref b), (1, .ref (ad 0)), (2, .ref (ad 55)), (3, .ref (ad 74)), (4, .ref (ad 75)), (5, .int (nI i))]) S.1 S.2.1 dL_law_1626 hl (by decide) rfl (fun ls hl => ?_)
    refine lv_aload_n S.1 S.2.1 dL_law_1628 rfl (lv_at hl 4 rfl) ?_
    refine j_callV (k := 55) (ci := 11) (q := (RX12, TX12, 17)) (As := []) (rest := []) S hK hA hW (c_X12_thrown l D cy ad 1 n nc gO_   ) (jgo wm_L_136) yk_X12_thrown gO_ rfl rfl ⟨⟨rfl, rfl⟩, by decide, by decide⟩ rfl hl.1 rfl (Nat.le_of_ble_eq_true rfl) dL_law_1629 ⟨by show (cells + 2) + 0 ≤ 601024; omega, by show (slots + 12) + 0 ≤ 7293033; omega⟩ (fun v u H locs hp hW => ?_)
    obtain ⟨rfl, rfl⟩ := hp
    refine W.eq (g2 := F0 m 1632 ls [.int (nI 1)]) rfl ?_
    refine lv_iload S.1 S.2.1 dL_law_1632 (lv_at hl 1 rfl) ?_
    refine jn_cmp_eq (tgt := 1639) S (by omega) (by omega) dL_law_1634 (by decide) (fun c_1634 => ?_) (fun c_1634 => ?_)
    · refine lv_iload S.1 S.2.1 dL_law_1639 (lv_at hl 1 rfl) ?_
      refine jn_if_ne (tgt := 1656) S (by omega) dL_law_1641 (by decide) (fun c_1641 => ?_) (fun c_1641 => ?_)
      · refine lv_goto (tgt := 2382) S.1 S.2.1 dL_law_1656 (by decide) ?_
        exact W.widen (by omega) (by omega) (kk _ _ _ _ ⟨_, _, _, _, _, _, _, _, _, _, _, _, _, _, hPI, (hCI.kept hU (by first | decide | (intro k hk; simp at hk; omega))), ⟨gx, _, _, gO_, gF_, gT_, gE_, gD_, gC0_, gC1_, gC2_, gC3_, gC4_, gP_, gK_, gV_, gR_, gU_, fun j hj => hU.get (hrow j hj) (by simp; omega), hkx⟩, hOut_, hOuD_⟩ hW (lv_sub hl [2, 3, 4, 5, 6, 7] rfl))
      · first | exact absurd (show 1 = 0 from c_1641) (by decide) | exact absurd c_1641 (by decide)
    · first | exact absurd (show 1 ≠ 1 from c_1634) (by decide) | exact absurd c_1634 (by decide)
/-- the law's orderAt -/
theorem s_orderAt {p : Program} {l : Launch} {e : Env} {s : State} {m : MethodId} {args : Array Value} {below : List Frame} {meth : Method} {c : Code} {Q : State → Prop} {D : va_G} {cy : Nat → ClassId} {A : Nat → Prop} {x0 : Cond} {ad : Nat → Nat} {b L : Nat} {xs : Nat → Int32} {i : Nat} {w : va_W} {H : Heap} {locs : List Loc} {ls : Array Slot} {cells slots : Nat} (htr : l.stackTraces = false) (C : LX p s m c args D cy A b L xs x0) (hI : INV ad cy w) (hW : jW D A s.heap w H locs) (hl : lv_has ls 10 [(0, .ref b), (1, .ref (ad 0)), (2, .ref (ad 55)), (3, .ref (ad 74)), (4, .ref (ad 75)), (5, .int (nI i))]) (hi : i + 5 ≤ L) (hL : L ≤ 2560) (hc : cells + 10 ≤ 601024) (hs : slots + 64 ≤ 7293033) (kk : LK p l e s m args below meth c Q D cy A ad b i cells slots) : W p l e room_1 s m args below meth c H locs cells slots Q (F0 m 1659 ls []) := by
  obtain ⟨S, hK, hA, hX, hbl, hbA, hx, hnx⟩ := C
  obtain ⟨n, wf, wt, od, sd, se, nc, lv, cs, kv, kx, th, og, ogd, hPI, hCI, hRI, hOut, hOuD⟩ := hI
  have hPI0 := hPI
  obtain ⟨hn, hsdn, hse2, hnc, hlvn, hcs, hkI, hod, hodn, hinj⟩ := hPI0
  have hp2 := two_pow10 hn
  have hpt := Nat.two_pow_pos n
  have hWB := hCI.wb
  refine lv_aload_n S.1 S.2.1 dL_law_1659 rfl (lv_at hl 1 rfl) ?_
  refine lv_aload_n S.1 S.2.1 dL_law_1660 rfl (lv_at hl 0 rfl) ?_
  refine lv_iload S.1 S.2.1 dL_law_1661 (lv_at hl 5 rfl) ?_
  refine lv_iconst (v := nI 1) S.1 S.2.1 dL_law_1663 (by decide) ?_
  refine jn_add S dL_law_1664 ?_
  refine j_sld (x := xs (i + 1)) S hX hbl hbA hW (vp_in_nI (by omega) (by omega)) (nI_clamp (by omega)) (rfl) dL_law_1665 ?_
  refine lv_aload_n S.1 S.2.1 dL_law_1666 rfl (lv_at hl 3 rfl) ?_
  refine j_callH (As := [.ref (ad 0), .int (xs (i + 1)), .ref (ad 74)]) (rest := []) S hK hA hW hx hnx (h_orderAt l htr D cy ad n wf wt od sd se nc lv cs kv kx (xs (i + 1)) og ogd hPI hCI hOut hOuD) (jgo wm_L_233) yk_L_orderAt ⟨⟨rfl, rfl⟩, by decide, by decide⟩ rfl hl.1 rfl (Nat.le_of_ble_eq_true rfl) dL_law_1667 ⟨by show cells + 1 ≤ 601024; omega, by show slots + 6 ≤ 7293033; omega⟩ (fun v w H locs hp hW => ?_)
  rcases hp with ⟨x1, rfl, hq0, hq1, ⟨K1, hU1, hK1⟩, hCI, hOut, hOuD⟩ | ⟨rfl, hq, ⟨K1, hU1, hK1⟩, hCI, hOut, hOuD⟩
  · have hRI := hRI.kept hU1 (fun k hk => by have := hK1 k hk; omega)
    obtain ⟨gx, rb, tu, gO, gF, gT, gE, gD, gC0, gC1, gC2, gC3, gC4, gP, gK, gV, gR, gU, hrow, hkx⟩ := hRI
    refine W.eq (g2 := F0 m 1670 ls [.int (nI 0)]) rfl ?_
    refine lv_istore (lv' := [(6, .int (nI 0)), (0, .ref b), (1, .ref (ad 0)), (2, .ref (ad 55)), (3, .ref (ad 74)), (4, .ref (ad 75)), (5, .int (nI i))]) S.1 S.2.1 dL_law_1670 hl (by decide) rfl (fun ls hl => ?_)
    refine lv_aload_n S.1 S.2.1 dL_law_1672 rfl (lv_at hl 3 rfl) ?_
    refine lv_aload_n S.1 S.2.1 dL_law_1673 rfl (lv_at hl 1 rfl) ?_
    refine lv_iload S.1 S.2.1 dL_law_1674 (lv_at hl 6 rfl) ?_
    refine lv_iconst (v := nI 1) S.1 S.2.1 dL_law_1676 (by decide) ?_
    refine jn_add S dL_law_1677 ?_
    refine j_sld (x := nI x1) S hX hbl hbA hW (vp_in_nI (by omega) (by omega)) (nI_clamp (by omega)) (hq1) dL_law_1678 ?_
    refine j_callV (k := 55) (ci := 11) (q := (RX12, TX12, 17)) (As := [.int (nI x1)]) (rest := []) S hK hA hW (c_X12_orderAt_ok l D cy ad th n nc od x1 gO gD   (by omega) (by omega)) (jgo wm_L_235) yk_X12_orderAt gO rfl rfl ⟨⟨rfl, rfl⟩, by decide, by decide⟩ rfl hl.1 rfl (Nat.le_of_ble_eq_true rfl) dL_law_1679 ⟨by show (cells + 1) + 0 ≤ 601024; omega, by show (slots + 6) + 0 ≤ 7293033; omega⟩ (fun v w_ H locs hp hW => ?_)
    obtain ⟨rfl, hU1, hN1⟩ := hp
    have hU : jU w w_ [55, 56, 57, 58, 59, 60, 61, 62, 63, 64, 65, 66, 71, 72, 73, 74, 75] := jU.mono hU1 (by first | decide | (simp; done) | (simp; omega))
    have gF_ := hU1.get gF (by first | decide | (simp; done) | (simp; omega))
    have gT_ := hU1.get gT (by first | decide | (simp; done) | (simp; omega))
    have gE_ := hU1.get gE (by first | decide | (simp; done) | (simp; omega))
    have gD_ := hU1.get gD (by first | decide | (simp; done) | (simp; omega))
    have gC0_ := hU1.get gC0 (by first | decide | (simp; done) | (simp; omega))
    have gC1_ := hU1.get gC1 (by first | decide | (simp; done) | (simp; omega))
    have gC2_ := hU1.get gC2 (by first | decide | (simp; done) | (simp; omega))
    have gC3_ := hU1.get gC3 (by first | decide | (simp; done) | (simp; omega))
    have gC4_ := hU1.get gC4 (by first | decide | (simp; done) | (simp; omega))
    have gP_ := hU1.get gP (by first | decide | (simp; done) | (simp; omega))
    have gK_ := hU1.get gK (by first | decide | (simp; done) | (simp; omega))
    have gV_ := hU1.get gV (by first | decide | (simp; done) | (simp; omega))
    have gR_ := hU1.get gR (by first | decide | (simp; done) | (simp; omega))
    have gU_ := hU1.get gU (by first | decide | (simp; done) | (simp; omega))
    have hOut_ := hU1.get hOut (by first | decide | (simp; done) | (simp; omega))
    have hOuD_ := hU1.get hOuD (by first | decide | (simp; done) | (simp; omega))
    have gO_ : w_[55]? = some (ad 55, .inr (11, [.int (nI 0), .ref (ad 56), .ref (ad 57), .ref (ad 58), .ref (ad 59), .ref (ad 60), .ref (ad 61), .ref (ad 62), .ref (ad 63), .ref (ad 64), .ref (ad 65), .int (nI n), .int (nI nc), .ref (ad 66), .ref (ad 71), .ref (ad 72), .ref (ad 73)])) := hN1
    clear hU1 hN1
    refine W.eq (g2 := F0 m 1682 ls [.int (nI (od x1))]) rfl ?_
    refine lv_istore (lv' := [(7, .int (nI (od x1))), (6, .int (nI 0)), (0, .ref b), (1, .ref (ad 0)), (2, .ref (ad 55)), (3, .ref (ad 74)), (4, .ref (ad 75)), (5, .int (nI i))]) S.1 S.2.1 dL_law_1682 hl (by decide) rfl (fun ls hl => ?_)
    refine lv_aload_n S.1 S.2.1 dL_law_1684 rfl (lv_at hl 4 rfl) ?_
    refine j_callV (k := 55) (ci := 11) (q := (RX12, TX12, 17)) (As := []) (rest := []) S hK hA hW (c_X12_thrown l D cy ad 0 n nc gO_   ) (jgo wm_L_136) yk_X12_thrown gO_ rfl rfl ⟨⟨rfl, rfl⟩, by decide, by decide⟩ rfl hl.1 rfl (Nat.le_of_ble_eq_true rfl) dL_law_1685 ⟨by show (cells + 1) + 0 ≤ 601024; omega, by show (slots + 6) + 0 ≤ 7293033; omega⟩ (fun v u H locs hp hW => ?_)
    obtain ⟨rfl, rfl⟩ := hp
    refine W.eq (g2 := F0 m 1688 ls [.int (nI 0)]) rfl ?_
    refine lv_iload S.1 S.2.1 dL_law_1688 (lv_at hl 1 rfl) ?_
    refine jn_cmp_eq (tgt := 1695) S (by omega) (by omega) dL_law_1690 (by decide) (fun c_1690 => ?_) (fun c_1690 => ?_)
    · refine lv_iload S.1 S.2.1 dL_law_1695 (lv_at hl 1 rfl) ?_
      refine jn_if_ne (tgt := 1712) S (by omega) dL_law_1697 (by decide) (fun c_1697 => ?_) (fun c_1697 => ?_)
      · first | exact absurd (show 0 ≠ 0 from c_1697) (by decide) | exact absurd c_1697 (by decide)
      · refine lv_aload_n S.1 S.2.1 dL_law_1700 rfl (lv_at hl 5 rfl) ?_
        refine lv_iconst (v := nI 0) S.1 S.2.1 dL_law_1701 (by decide) ?_
        refine j_lald (x := (nI (od x1)).toInt64) S hK hW hOut_ (vp_in_nI (by omega) (by omega)) (nI_clamp (by omega)) (if_pos rfl) dL_law_1702 ?_
        refine lv_iload S.1 S.2.1 dL_law_1703 (lv_at hl 0 rfl) ?_
        refine lv_i2l (v := (nI (od x1)).toInt64) S.1 S.2.1 dL_law_1705 (rfl) ?_
        refine jl_eq (tgt := 1712) S dL_law_1706 dL_law_1707 (by decide) (fun c_1707 => ?_) (fun c_1707 => ?_)
        · refine lv_goto (tgt := 2382) S.1 S.2.1 dL_law_1712 (by decide) ?_
          exact W.widen (by omega) (by omega) (kk _ _ _ _ ⟨_, _, _, _, _, _, _, _, _, _, _, _, _, _, hPI, (hCI.kept hU (by first | decide | (intro k hk; simp at hk; omega))), ⟨gx, _, _, gO_, gF_, gT_, gE_, gD_, gC0_, gC1_, gC2_, gC3_, gC4_, gP_, gK_, gV_, gR_, gU_, fun j hj => hU.get (hrow j hj) (by simp; omega), hkx⟩, hOut_, hOuD_⟩ hW (lv_sub hl [2, 3, 4, 5, 6, 7] rfl))
        · exact absurd rfl c_1707
    · first | exact absurd (show 0 ≠ 0 from c_1690) (by decide) | exact absurd c_1690 (by decide)
  · have hRI := hRI.kept hU1 (fun k hk => by have := hK1 k hk; omega)
    obtain ⟨gx, rb, tu, gO, gF, gT, gE, gD, gC0, gC1, gC2, gC3, gC4, gP, gK, gV, gR, gU, hrow, hkx⟩ := hRI
    refine W.eq (g2 := F0 m 1670 ls [.int (nI 1)]) rfl ?_
    refine lv_istore (lv' := [(6, .int (nI 1)), (0, .ref b), (1, .ref (ad 0)), (2, .ref (ad 55)), (3, .ref (ad 74)), (4, .ref (ad 75)), (5, .int (nI i))]) S.1 S.2.1 dL_law_1670 hl (by decide) rfl (fun ls hl => ?_)
    refine lv_aload_n S.1 S.2.1 dL_law_1672 rfl (lv_at hl 3 rfl) ?_
    refine lv_aload_n S.1 S.2.1 dL_law_1673 rfl (lv_at hl 1 rfl) ?_
    refine lv_iload S.1 S.2.1 dL_law_1674 (lv_at hl 6 rfl) ?_
    refine lv_iconst (v := nI 1) S.1 S.2.1 dL_law_1676 (by decide) ?_
    refine jn_add S dL_law_1677 ?_
    refine j_sld (x := xs (i + 1)) S hX hbl hbA hW (vp_in_nI (by omega) (by omega)) (nI_clamp (by omega)) (rfl) dL_law_1678 ?_
    refine j_callV (k := 55) (ci := 11) (q := (RX12, TX12, 17)) (As := [.int (xs (i + 1))]) (rest := []) S hK hA hW (c_X12_orderAt_b l D cy ad th n nc (xs (i + 1)) gO   (by omega) (hq)) (jgo wm_L_235) yk_X12_orderAt gO rfl rfl ⟨⟨rfl, rfl⟩, by decide, by decide⟩ rfl hl.1 rfl (Nat.le_of_ble_eq_true rfl) dL_law_1679 ⟨by show (cells + 1) + 0 ≤ 601024; omega, by show (slots + 6) + 0 ≤ 7293033; omega⟩ (fun v w_ H locs hp hW => ?_)
    obtain ⟨rfl, hU1, hN1⟩ := hp
    have hU : jU w w_ [55, 56, 57, 58, 59, 60, 61, 62, 63, 64, 65, 66, 71, 72, 73, 74, 75] := jU.mono hU1 (by first | decide | (simp; done) | (simp; omega))
    have gF_ := hU1.get gF (by first | decide | (simp; done) | (simp; omega))
    have gT_ := hU1.get gT (by first | decide | (simp; done) | (simp; omega))
    have gE_ := hU1.get gE (by first | decide | (simp; done) | (simp; omega))
    have gD_ := hU1.get gD (by first | decide | (simp; done) | (simp; omega))
    have gC0_ := hU1.get gC0 (by first | decide | (simp; done) | (simp; omega))
    have gC1_ := hU1.get gC1 (by first | decide | (simp; done) | (simp; omega))
    have gC2_ := hU1.get gC2 (by first | decide | (simp; done) | (simp; omega))
    have gC3_ := hU1.get gC3 (by first | decide | (simp; done) | (simp; omega))
    have gC4_ := hU1.get gC4 (by first | decide | (simp; done) | (simp; omega))
    have gP_ := hU1.get gP (by first | decide | (simp; done) | (simp; omega))
    have gK_ := hU1.get gK (by first | decide | (simp; done) | (simp; omega))
    have gV_ := hU1.get gV (by first | decide | (simp; done) | (simp; omega))
    have gR_ := hU1.get gR (by first | decide | (simp; done) | (simp; omega))
    have gU_ := hU1.get gU (by first | decide | (simp; done) | (simp; omega))
    have hOut_ := hU1.get hOut (by first | decide | (simp; done) | (simp; omega))
    have hOuD_ := hU1.get hOuD (by first | decide | (simp; done) | (simp; omega))
    have gO_ : w_[55]? = some (ad 55, .inr (11, [.int (nI 1), .ref (ad 56), .ref (ad 57), .ref (ad 58), .ref (ad 59), .ref (ad 60), .ref (ad 61), .ref (ad 62), .ref (ad 63), .ref (ad 64), .ref (ad 65), .int (nI n), .int (nI nc), .ref (ad 66), .ref (ad 71), .ref (ad 72), .ref (ad 73)])) := hN1
    clear hU1 hN1
    refine W.eq (g2 := F0 m 1682 ls [.int (nI 0)]) rfl ?_
    refine lv_istore (lv' := [(7, .int (nI 0)), (6, .int (nI 1)), (0, .ref b), (1, .ref (ad 0)), (2, .ref (ad 55)), (3, .ref (ad 74)), (4, .ref (ad 75)), (5, .int (nI i))]) S.1 S.2.1 dL_law_1682 hl (by decide) rfl (fun ls hl => ?_)
    refine lv_aload_n S.1 S.2.1 dL_law_1684 rfl (lv_at hl 4 rfl) ?_
    refine j_callV (k := 55) (ci := 11) (q := (RX12, TX12, 17)) (As := []) (rest := []) S hK hA hW (c_X12_thrown l D cy ad 1 n nc gO_   ) (jgo wm_L_136) yk_X12_thrown gO_ rfl rfl ⟨⟨rfl, rfl⟩, by decide, by decide⟩ rfl hl.1 rfl (Nat.le_of_ble_eq_true rfl) dL_law_1685 ⟨by show (cells + 1) + 0 ≤ 601024; omega, by show (slots + 6) + 0 ≤ 7293033; omega⟩ (fun v u H locs hp hW => ?_)
    obtain ⟨rfl, rfl⟩ := hp
    refine W.eq (g2 := F0 m 1688 ls [.int (nI 1)]) rfl ?_
    refine lv_iload S.1 S.2.1 dL_law_1688 (lv_at hl 1 rfl) ?_
    refine jn_cmp_eq (tgt := 1695) S (by omega) (by omega) dL_law_1690 (by decide) (fun c_1690 => ?_) (fun c_1690 => ?_)
    · refine lv_iload S.1 S.2.1 dL_law_1695 (lv_at hl 1 rfl) ?_
      refine jn_if_ne (tgt := 1712) S (by omega) dL_law_1697 (by decide) (fun c_1697 => ?_) (fun c_1697 => ?_)
      · refine lv_goto (tgt := 2382) S.1 S.2.1 dL_law_1712 (by decide) ?_
        exact W.widen (by omega) (by omega) (kk _ _ _ _ ⟨_, _, _, _, _, _, _, _, _, _, _, _, _, _, hPI, (hCI.kept hU (by first | decide | (intro k hk; simp at hk; omega))), ⟨gx, _, _, gO_, gF_, gT_, gE_, gD_, gC0_, gC1_, gC2_, gC3_, gC4_, gP_, gK_, gV_, gR_, gU_, fun j hj => hU.get (hrow j hj) (by simp; omega), hkx⟩, hOut_, hOuD_⟩ hW (lv_sub hl [2, 3, 4, 5, 6, 7] rfl))
      · first | exact absurd (show 1 = 0 from c_1697) (by decide) | exact absurd c_1697 (by decide)
    · first | exact absurd (show 1 ≠ 1 from c_1690) (by decide) | exact absurd c_1690 (by decide)
