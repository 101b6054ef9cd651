/-! THE LAW: calls that tell (laid by wip/whole/tools, from the specs there) -/
/-- what stands about the law while it runs -/
def LX (p : Program) (s : State) (m : MethodId) (c : Code) (args : Array Value) (D : va_G) (cy : Nat → ClassId) (A : Nat → Prop) (b L : Nat) (xs : Nat → Int32) (x0 : Cond) : Prop :=
  CallFix p m c cL_law 10 s args (x0 :: lw_good) RL ∧ jK D cy s ∧ (∀ q, s.heap.size ≤ q → A q) ∧ va_X b L xs s s.heap ∧ b < s.heap.size ∧ ¬ A b ∧ (jX A s s.heap ∧ jXS jTexts s) ∧ jNC s
/-- behind a call: all is well, the loop goes on -/
def LK (p : Program) (l : Launch) (e : Env) (s : State) (m : MethodId) (args : Array Value) (below : List Frame) (meth : Method) (c : Code) (Q : State → Prop) (D : va_G) (cy : Nat → ClassId) (A : Nat → Prop) (ad : Nat → Nat) (b i cells slots : Nat) : Prop :=
  ∀ (w1 : va_W) (H1 : Heap) (locs1 : List Loc) (ls1 : Array Slot), INV ad cy w1 → jW D A s.heap w1 H1 locs1 → lv_has ls1 10 [(0, .ref b), (1, .ref (ad 0)), (2, .ref (ad 55)), (3, .ref (ad 74)), (4, .ref (ad 75)), (5, .int (nI i))] → W p l e room_1 s m args below meth c H1 locs1 (cells + 10) (slots + 64) Q (F0 m 2382 ls1 [])
theorem rowK {w u : va_W} {ad : Nat → Nat} {cy : Nat → ClassId} {gx : Nat → Nat → Bool} {G : Nat → Bool} {j : Nat} {K : List Nat} (hrow : ∀ i, i < 4 → w[67 + i]? = some (ad (67 + i), .inl (cy 3, 1024, .inl (bf (gx i))))) (hU : jU w u K) (hK : ∀ k ∈ K, ¬ (67 ≤ k ∧ k ≤ 70) ∨ k = 67 + j) (h : u[67 + j]? = some (ad (67 + j), .inl (cy 3, 1024, .inl (bf G)))) : ∀ i, i < 4 → u[67 + i]? = some (ad (67 + i), .inl (cy 3, 1024, .inl (bf (upB gx j G i)))) := fun i hi => by
  unfold upB
  by_cases e : i = j
  · subst e; rw [if_pos rfl]; exact h
  · rw [if_neg e]; exact hU.get (hrow i hi) (fun q => by rcases hK _ q with z | z <;> omega)
theorem kxK {kv kv1 : Nat → Int32} {kx gx : Nat → Nat → Bool} {j : Nat} {G X : Nat → Bool} (hkx : ∀ i, i < 4 → kv i ≠ -1 → ∀ a, a < 1024 → gx i a = kx i a) (hG : ∀ a, a < 1024 → G a = X a) (hkv : ∀ i, i ≠ j → kv1 i = kv i) : ∀ i, i < 4 → kv1 i ≠ -1 → ∀ a, a < 1024 → upB gx j G i a = upB kx j X i a := fun i hi hk a ha => by
  unfold upB
  by_cases e : i = j
  · rw [if_pos e, if_pos e]; exact hG a ha
  · rw [if_neg e, if_neg e]; exact hkx i hi (by rw [← hkv i e]; exact hk) a ha
theorem it_ltn {n nc lv sd x : Nat} {cs : Nat → CN} (hx : x < n) (hs : sd.testBit x = false) : itP nc cs lv (nAnd (2 ^ n - 1) sd) x 10 < 2 ^ n := by
  have hop : nAnd (2 ^ n - 1) sd < 2 ^ n := nAnd_lt (by have := Nat.two_pow_pos n; omega)
  have ho : (nAnd (2 ^ n - 1) sd).testBit x = true := by rw [op_bit, hs, decide_eq_true hx]; rfl
  have hsub := it_op (nc := nc) (cs := cs) (lv := lv) ho 10
  have : itP nc cs lv (nAnd (2 ^ n - 1) sd) x 10 &&& nAnd (2 ^ n - 1) sd = itP nc cs lv (nAnd (2 ^ n - 1) sd) x 10 := Nat.eq_of_testBit_eq (fun j => by
    rw [Nat.testBit_and]
    cases z : (itP nc cs lv (nAnd (2 ^ n - 1) sd) x 10).testBit j
    · rfl
    · rw [hsub j z]; rfl)
  exact Nat.lt_of_le_of_lt (by rw [← this]; exact Nat.and_le_right) hop
theorem upd_ne {kv : Nat → Int32} {j : Nat} {x : Int32} : ∀ i, i ≠ j → upd kv j x i = kv i := fun i h => if_neg h
/-- the law's addVariable -/
theorem s_addVariable {p : Program} {l : Launch} {e : Env} {s : State} {m : MethodId} {args : Array Value} {below : List Frame} {meth : Method} {c : Code} {Q : State → Prop} {D : va_G} {cy : Nat → ClassId} {A : Nat → Prop} {x0 : Cond} {ad : Nat → Nat} {b L : Nat} {xs : Nat → Int32} {i : Nat} {w : va_W} {H : Heap} {locs : List Loc} {ls : Array Slot} {cells slots : Nat} (htr : l.stackTraces = false) (C : LX p s m c args D cy A b L xs x0) (hI : INV ad cy w) (hW : jW D A s.heap w H locs) (hl : lv_has ls 10 [(0, .ref b), (1, .ref (ad 0)), (2, .ref (ad 55)), (3, .ref (ad 74)), (4, .ref (ad 75)), (5, .int (nI i))]) (hi : i + 5 ≤ L) (hL : L ≤ 2560) (hc : cells + 10 ≤ 601024) (hs : slots + 64 ≤ 7293033) (kk : LK p l e s m args below meth c Q D cy A ad b i cells slots) : W p l e room_1 s m args below meth c H locs cells slots Q (F0 m 216 ls []) := by
  obtain ⟨S, hK, hA, hX, hbl, hbA, hx, hnx⟩ := C
  obtain ⟨n, wf, wt, od, sd, se, nc, lv, cs, kv, kx, th, og, ogd, hPI, hCI, hRI, hOut, hOuD⟩ := hI
  have hPI0 := hPI
  obtain ⟨hn, hsdn, hse2, hnc, hlvn, hcs, hkI, hod, hodn, hinj⟩ := hPI0
  have hp2 := two_pow10 hn
  have hpt := Nat.two_pow_pos n
  have hWB := hCI.wb
  refine lv_aload_n S.1 S.2.1 dL_law_216 rfl (lv_at hl 1 rfl) ?_
  refine lv_aload_n S.1 S.2.1 dL_law_217 rfl (lv_at hl 3 rfl) ?_
  refine j_callH (As := [.ref (ad 0), .ref (ad 74)]) (rest := []) S hK hA hW hx hnx (h_addVariable l htr D cy ad n wf wt od sd se nc lv cs kv kx  og ogd hPI hCI hOut hOuD) (jgo wm_L_130) yk_L_addVariable ⟨⟨rfl, rfl⟩, by decide, by decide⟩ rfl hl.1 rfl (Nat.le_of_ble_eq_true rfl) dL_law_218 ⟨by show cells + 1 ≤ 601024; omega, by show slots + 6 ≤ 7293033; omega⟩ (fun v w H locs hp hW => ?_)
  rcases hp with ⟨rfl, hq0, ⟨K1, hU1, hK1⟩, hCI, hOut, hOuD⟩ | ⟨rfl, hq, ⟨K1, hU1, hK1⟩, hCI, hOut, hOuD⟩
  · have hRI := hRI.kept hU1 (fun k hk => by have := hK1 k hk; omega)
    obtain ⟨gx, rb, tu, gO, gF, gT, gE, gD, gC0, gC1, gC2, gC3, gC4, gP, gK, gV, gR, gU, hrow, hkx⟩ := hRI
    have hPI1 : PI (n + 1) (upB wf n 1) (upB wt n 1) (upB od n n) sd se nc lv cs kv kx := hPI.addVariable hq0
    refine W.eq (g2 := F0 m 221 ls [.int (nI 0)]) rfl ?_
    refine lv_istore (lv' := [(6, .int (nI 0)), (0, .ref b), (1, .ref (ad 0)), (2, .ref (ad 55)), (3, .ref (ad 74)), (4, .ref (ad 75)), (5, .int (nI i))]) S.1 S.2.1 dL_law_221 hl (by decide) rfl (fun ls hl => ?_)
    refine lv_aload_n S.1 S.2.1 dL_law_223 rfl (lv_at hl 3 rfl) ?_
    refine j_callV (k := 55) (ci := 11) (q := (RX12, TX12, 17)) (As := []) (rest := []) S hK hA hW (c_X12_addVariable_ok l D cy ad th n nc sd se wf wt od gO gF gT gE gD   (by omega) (by omega)) (jgo wm_L_135) yk_X12_addVariable gO rfl rfl ⟨⟨rfl, rfl⟩, by decide, by decide⟩ rfl hl.1 rfl (Nat.le_of_ble_eq_true rfl) dL_law_224 ⟨by show (cells + 1) + 0 ≤ 601024; omega, by show (slots + 6) + 0 ≤ 7293033; omega⟩ (fun v w_ H locs hp hW => ?_)
    obtain ⟨rfl, hU1, hN1, hN2, hN3, hN4, hN5⟩ := hp
    have hU : jU w w_ [55, 56, 57, 58, 59, 60, 61, 62, 63, 64, 65, 66, 71, 72, 73, 74, 75] := jU.mono hU1 (by first | decide | (simp; done) | (simp; omega))
    have gC0_ := hU1.get gC0 (by first | decide | (simp; done) | (simp; omega))
    have gC1_ := hU1.get gC1 (by first | decide | (simp; done) | (simp; omega))
    have gC2_ := hU1.get gC2 (by first | decide | (simp; done) | (simp; omega))
    have gC3_ := hU1.get gC3 (by first | decide | (simp; done) | (simp; omega))
    have gC4_ := hU1.get gC4 (by first | decide | (simp; done) | (simp; omega))
    have gP_ := hU1.get gP (by first | decide | (simp; done) | (simp; omega))
    have gK_ := hU1.get gK (by first | decide | (simp; done) | (simp; omega))
    have gV_ := hU1.get gV (by first | decide | (simp; done) | (simp; omega))
    have gR_ := hU1.get gR (by first | decide | (simp; done) | (simp; omega))
    have gU_ := hU1.get gU (by first | decide | (simp; done) | (simp; omega))
    have hOut_ := hU1.get hOut (by first | decide | (simp; done) | (simp; omega))
    have hOuD_ := hU1.get hOuD (by first | decide | (simp; done) | (simp; omega))
    have gO_ : w_[55]? = some (ad 55, .inr (11, [.int (nI 0), .ref (ad 56), .ref (ad 57), .ref (ad 58), .ref (ad 59), .ref (ad 60), .ref (ad 61), .ref (ad 62), .ref (ad 63), .ref (ad 64), .ref (ad 65), .int (nI (n + 1)), .int (nI nc), .ref (ad 66), .ref (ad 71), .ref (ad 72), .ref (ad 73)])) := hN1
    have gF_ : w_[56]? = some (ad 56, .inl (cy 0, 10, .inl (nf (upB wf n 1)))) := hN2
    have gT_ : w_[57]? = some (ad 57, .inl (cy 0, 10, .inl (nf (upB wt n 1)))) := hN3
    have gE_ : w_[58]? = some (ad 58, .inl (cy 0, 10, .inl (evA (n + 1) sd se))) := hN4
    have gD_ : w_[59]? = some (ad 59, .inl (cy 0, 10, .inl (nf (upB od n n)))) := hN5
    clear hU1 hN1 hN2 hN3 hN4 hN5
    refine W.eq (g2 := F0 m 227 ls [.int (nI n)]) rfl ?_
    refine lv_istore (lv' := [(7, .int (nI n)), (6, .int (nI 0)), (0, .ref b), (1, .ref (ad 0)), (2, .ref (ad 55)), (3, .ref (ad 74)), (4, .ref (ad 75)), (5, .int (nI i))]) S.1 S.2.1 dL_law_227 hl (by decide) rfl (fun ls hl => ?_)
    refine lv_aload_n S.1 S.2.1 dL_law_229 rfl (lv_at hl 4 rfl) ?_
    refine j_callV (k := 55) (ci := 11) (q := (RX12, TX12, 17)) (As := []) (rest := []) S hK hA hW (c_X12_thrown l D cy ad 0 (n + 1) nc gO_   ) (jgo wm_L_136) yk_X12_thrown gO_ rfl rfl ⟨⟨rfl, rfl⟩, by decide, by decide⟩ rfl hl.1 rfl (Nat.le_of_ble_eq_true rfl) dL_law_230 ⟨by show (cells + 1) + 0 ≤ 601024; omega, by show (slots + 6) + 0 ≤ 7293033; omega⟩ (fun v u H locs hp hW => ?_)
    obtain ⟨rfl, rfl⟩ := hp
    refine W.eq (g2 := F0 m 233 ls [.int (nI 0)]) rfl ?_
    refine lv_iload S.1 S.2.1 dL_law_233 (lv_at hl 1 rfl) ?_
    refine jn_cmp_eq (tgt := 240) S (by omega) (by omega) dL_law_235 (by decide) (fun c_235 => ?_) (fun c_235 => ?_)
    · refine lv_iload S.1 S.2.1 dL_law_240 (lv_at hl 1 rfl) ?_
      refine jn_if_ne (tgt := 257) S (by omega) dL_law_242 (by decide) (fun c_242 => ?_) (fun c_242 => ?_)
      · first | exact absurd (show 0 ≠ 0 from c_242) (by decide) | exact absurd c_242 (by decide)
      · refine lv_aload_n S.1 S.2.1 dL_law_245 rfl (lv_at hl 5 rfl) ?_
        refine lv_iconst (v := nI 0) S.1 S.2.1 dL_law_246 (by decide) ?_
        refine j_lald (x := (nI n).toInt64) S hK hW hOut_ (vp_in_nI (by omega) (by omega)) (nI_clamp (by omega)) (if_pos rfl) dL_law_247 ?_
        refine lv_iload S.1 S.2.1 dL_law_248 (lv_at hl 0 rfl) ?_
        refine lv_i2l (v := (nI n).toInt64) S.1 S.2.1 dL_law_250 (rfl) ?_
        refine jl_eq (tgt := 257) S dL_law_251 dL_law_252 (by decide) (fun c_252 => ?_) (fun c_252 => ?_)
        · refine lv_goto (tgt := 2382) S.1 S.2.1 dL_law_257 (by decide) ?_
          exact W.widen (by omega) (by omega) (kk _ _ _ _ ⟨_, _, _, _, _, _, _, _, _, _, _, _, _, _, hPI1, (hCI.kept hU (by first | decide | (intro k hk; simp at hk; omega))), ⟨gx, _, _, gO_, gF_, gT_, gE_, gD_, gC0_, gC1_, gC2_, gC3_, gC4_, gP_, gK_, gV_, gR_, gU_, fun j hj => hU.get (hrow j hj) (by simp; omega), hkx⟩, hOut_, hOuD_⟩ hW (lv_sub hl [2, 3, 4, 5, 6, 7] rfl))
        · exact absurd rfl c_252
    · first | exact absurd (show 0 ≠ 0 from c_235) (by decide) | exact absurd c_235 (by decide)
  · have hRI := hRI.kept hU1 (fun k hk => by have := hK1 k hk; omega)
    obtain ⟨gx, rb, tu, gO, gF, gT, gE, gD, gC0, gC1, gC2, gC3, gC4, gP, gK, gV, gR, gU, hrow, hkx⟩ := hRI
    refine W.eq (g2 := F0 m 221 ls [.int (nI 1)]) rfl ?_
    refine lv_istore (lv' := [(6, .int (nI 1)), (0, .ref b), (1, .ref (ad 0)), (2, .ref (ad 55)), (3, .ref (ad 74)), (4, .ref (ad 75)), (5, .int (nI i))]) S.1 S.2.1 dL_law_221 hl (by decide) rfl (fun ls hl => ?_)
    refine lv_aload_n S.1 S.2.1 dL_law_223 rfl (lv_at hl 3 rfl) ?_
    refine j_callV (k := 55) (ci := 11) (q := (RX12, TX12, 17)) (As := []) (rest := []) S hK hA hW (c_X12_addVariable_b l D cy ad th n nc gO   (by omega)) (jgo wm_L_135) yk_X12_addVariable gO rfl rfl ⟨⟨rfl, rfl⟩, by decide, by decide⟩ rfl hl.1 rfl (Nat.le_of_ble_eq_true rfl) dL_law_224 ⟨by show (cells + 1) + 0 ≤ 601024; omega, by show (slots + 6) + 0 ≤ 7293033; omega⟩ (fun v w_ H locs hp hW => ?_)
    obtain ⟨rfl, hU1, hN1⟩ := hp
    have hU : jU w w_ [55, 56, 57, 58, 59, 60, 61, 62, 63, 64, 65, 66, 71, 72, 73, 74, 75] := jU.mono hU1 (by first | decide | (simp; done) | (simp; omega))
    have gF_ := hU1.get gF (by first | decide | (simp; done) | (simp; omega))
    have gT_ := hU1.get gT (by first | decide | (simp; done) | (simp; omega))
    have gE_ := hU1.get gE (by first | decide | (simp; done) | (simp; omega))
    have gD_ := hU1.get gD (by first | decide | (simp; done) | (simp; omega))
    have gC0_ := hU1.get gC0 (by first | decide | (simp; done) | (simp; omega))
    have gC1_ := hU1.get gC1 (by first | decide | (simp; done) | (simp; omega))
    have gC2_ := hU1.get gC2 (by first | decide | (simp; done) | (simp; omega))
    have gC3_ := hU1.get gC3 (by first | decide | (simp; done) | (simp; omega))
    have gC4_ := hU1.get gC4 (by first | decide | (simp; done) | (simp; omega))
    have gP_ := hU1.get gP (by first | decide | (simp; done) | (simp; omega))
    have gK_ := hU1.get gK (by first | decide | (simp; done) | (simp; omega))
    have gV_ := hU1.get gV (by first | decide | (simp; done) | (simp; omega))
    have gR_ := hU1.get gR (by first | decide | (simp; done) | (simp; omega))
    have gU_ := hU1.get gU (by first | decide | (simp; done) | (simp; omega))
    have hOut_ := hU1.get hOut (by first | decide | (simp; done) | (simp; omega))
    have hOuD_ := hU1.get hOuD (by first | decide | (simp; done) | (simp; omega))
    have gO_ : w_[55]? = some (ad 55, .inr (11, [.int (nI 1), .ref (ad 56), .ref (ad 57), .ref (ad 58), .ref (ad 59), .ref (ad 60), .ref (ad 61), .ref (ad 62), .ref (ad 63), .ref (ad 64), .ref (ad 65), .int (nI n), .int (nI nc), .ref (ad 66), .ref (ad 71), .ref (ad 72), .ref (ad 73)])) := hN1
    clear hU1 hN1
    refine W.eq (g2 := F0 m 227 ls [.int (nI 0)]) rfl ?_
    refine lv_istore (lv' := [(7, .int (nI 0)), (6, .int (nI 1)), (0, .ref b), (1, .ref (ad 0)), (2, .ref (ad 55)), (3, .ref (ad 74)), (4, .ref (ad 75)), (5, .int (nI i))]) S.1 S.2.1 dL_law_227 hl (by decide) rfl (fun ls hl => ?_)
    refine lv_aload_n S.1 S.2.1 dL_law_229 rfl (lv_at hl 4 rfl) ?_
    refine j_callV (k := 55) (ci := 11) (q := (RX12, TX12, 17)) (As := []) (rest := []) S hK hA hW (c_X12_thrown l D cy ad 1 n nc gO_   ) (jgo wm_L_136) yk_X12_thrown gO_ rfl rfl ⟨⟨rfl, rfl⟩, by decide, by decide⟩ rfl hl.1 rfl (Nat.le_of_ble_eq_true rfl) dL_law_230 ⟨by show (cells + 1) + 0 ≤ 601024; omega, by show (slots + 6) + 0 ≤ 7293033; omega⟩ (fun v u H locs hp hW => ?_)
    obtain ⟨rfl, rfl⟩ := hp
    refine W.eq (g2 := F0 m 233 ls [.int (nI 1)]) rfl ?_
    refine lv_iload S.1 S.2.1 dL_law_233 (lv_at hl 1 rfl) ?_
    refine jn_cmp_eq (tgt := 240) S (by omega) (by omega) dL_law_235 (by decide) (fun c_235 => ?_) (fun c_235 => ?_)
    · refine lv_iload S.1 S.2.1 dL_law_240 (lv_at hl 1 rfl) ?_
      refine jn_if_ne (tgt := 257) S (by omega) dL_law_242 (by decide) (fun c_242 => ?_) (fun c_242 => ?_)
      · refine lv_goto (tgt := 2382) S.1 S.2.1 dL_law_257 (by decide) ?_
        exact W.widen (by omega) (by omega) (kk _ _ _ _ ⟨_, _, _, _, _, _, _, _, _, _, _, _, _, _, hPI, (hCI.kept hU (by first | decide | (intro k hk; simp at hk; omega))), ⟨gx, _, _, gO_, gF_, gT_, gE_, gD_, gC0_, gC1_, gC2_, gC3_, gC4_, gP_, gK_, gV_, gR_, gU_, fun j hj => hU.get (hrow j hj) (by simp; omega), hkx⟩, hOut_, hOuD_⟩ hW (lv_sub hl [2, 3, 4, 5, 6, 7] rfl))
      · first | exact absurd (show 1 = 0 from c_242) (by decide) | exact absurd c_242 (by decide)
    · first | exact absurd (show 1 ≠ 1 from c_235) (by decide) | exact absurd c_235 (by decide)
/-- the law's setWeights -/
theorem s_setWeights {p : Program} {l : Launch} {e : Env} {s : State} {m : MethodId} {args : Array Value} {below : List Frame} {meth : Method} {c : Code} {Q : State → Prop} {D : va_G} {cy : Nat → ClassId} {A : Nat → Prop} {x0 : Cond} {ad : Nat → Nat} {b L : Nat} {xs : Nat → Int32} {i : Nat} {w : va_W} {H : Heap} {locs : List Loc} {ls : Array Slot} {cells slots : Nat} (htr : l.stackTraces = false) (C : LX p s m c args D cy A b L xs x0) (hI : INV ad cy w) (hW : jW D A s.heap w H locs) (hl : lv_has ls 10 [(0, .ref b), (1, .ref (ad 0)), (2, .ref (ad 55)), (3, .ref (ad 74)), (4, .ref (ad 75)), (5, .int (nI i))]) (hi : i + 5 ≤ L) (hL : L ≤ 2560) (hc : cells + 10 ≤ 601024) (hs : slots + 64 ≤ 7293033) (kk : LK p l e s m args below meth c Q D cy A ad b i cells slots) : W p l e room_1 s m args below meth c H locs cells slots Q (F0 m 260 ls []) := by
  obtain ⟨S, hK, hA, hX, hbl, hbA, hx, hnx⟩ := C
  obtain ⟨n, wf, wt, od, sd, se, nc, lv, cs, kv, kx, th, og, ogd, hPI, hCI, hRI, hOut, hOuD⟩ := hI
  have hPI0 := hPI
  obtain ⟨hn, hsdn, hse2, hnc, hlvn, hcs, hkI, hod, hodn, hinj⟩ := hPI0
  have hp2 := two_pow10 hn
  have hpt := Nat.two_pow_pos n
  have hWB := hCI.wb
  refine lv_aload_n S.1 S.2.1 dL_law_260 rfl (lv_at hl 1 rfl) ?_
  refine lv_aload_n S.1 S.2.1 dL_law_261 rfl (lv_at hl 0 rfl) ?_
  refine lv_iload S.1 S.2.1 dL_law_262 (lv_at hl 5 rfl) ?_
  refine lv_iconst (v := nI 1) S.1 S.2.1 dL_law_264 (by decide) ?_
  refine jn_add S dL_law_265 ?_
  refine j_sld (x := xs (i + 1)) S hX hbl hbA hW (vp_in_nI (by omega) (by omega)) (nI_clamp (by omega)) (rfl) dL_law_266 ?_
  refine lv_aload_n S.1 S.2.1 dL_law_267 rfl (lv_at hl 0 rfl) ?_
  refine lv_iload S.1 S.2.1 dL_law_268 (lv_at hl 5 rfl) ?_
  refine lv_iconst (v := nI 2) S.1 S.2.1 dL_law_270 (by decide) ?_
  refine jn_add S dL_law_271 ?_
  refine j_sld (x := xs (i + 2)) S hX hbl hbA hW (vp_in_nI (by omega) (by omega)) (nI_clamp (by omega)) (rfl) dL_law_272 ?_
  refine lv_aload_n S.1 S.2.1 dL_law_273 rfl (lv_at hl 0 rfl) ?_
  refine lv_iload S.1 S.2.1 dL_law_274 (lv_at hl 5 rfl) ?_
  refine lv_iconst (v := nI 3) S.1 S.2.1 dL_law_276 (by decide) ?_
  refine jn_add S dL_law_277 ?_
  refine j_sld (x := xs (i + 3)) S hX hbl hbA hW (vp_in_nI (by omega) (by omega)) (nI_clamp (by omega)) (rfl) dL_law_278 ?_
  refine lv_aload_n S.1 S.2.1 dL_law_279 rfl (lv_at hl 3 rfl) ?_
  refine j_callH (As := [.ref (ad 0), .int (xs (i + 1)), .int (xs (i + 2)), .int (xs (i + 3)), .ref (ad 74)]) (rest := []) S hK hA hW hx hnx (h_setWeights l htr D cy ad n wf wt od sd se nc lv cs kv kx (xs (i + 1)) (xs (i + 2)) (xs (i + 3)) og ogd hPI hCI hOut hOuD) (jgo wm_L_139) yk_L_setWeights ⟨⟨rfl, rfl⟩, by decide, by decide⟩ rfl hl.1 rfl (Nat.le_of_ble_eq_true rfl) dL_law_280 ⟨by show cells + 2 ≤ 601024; omega, by show slots + 12 ≤ 7293033; omega⟩ (fun v w H locs hp hW => ?_)
  rcases hp with ⟨x1, a1, b1, rfl, hq0, hq1, hq2, hq3, hq4, hq5, ⟨K1, hU1, hK1⟩, hCI, hOut, hOuD⟩ | ⟨rfl, hq, ⟨K1, hU1, hK1⟩, hCI, hOut, hOuD⟩ | ⟨rfl, hq, ⟨K1, hU1, hK1⟩, hCI, hOut, hOuD⟩
  · have hRI := hRI.kept hU1 (fun k hk => by have := hK1 k hk; omega)
    obtain ⟨gx, rb, tu, gO, gF, gT, gE, gD, gC0, gC1, gC2, gC3, gC4, gP, gK, gV, gR, gU, hrow, hkx⟩ := hRI
    have hPI1 : PI n (upB wf x1 a1) (upB wt x1 b1) od sd se nc lv cs kv kx := hPI
    refine W.eq (g2 := F0 m 283 ls [.int (nI 0)]) rfl ?_
    refine lv_istore (lv' := [(6, .int (nI 0)), (0, .ref b), (1, .ref (ad 0)), (2, .ref (ad 55)), (3, .ref (ad 74)), (4, .ref (ad 75)), (5, .int (nI i))]) S.1 S.2.1 dL_law_283 hl (by decide) rfl (fun ls hl => ?_)
    refine lv_aload_n S.1 S.2.1 dL_law_285 rfl (lv_at hl 3 rfl) ?_
    refine lv_aload_n S.1 S.2.1 dL_law_286 rfl (lv_at hl 1 rfl) ?_
    refine lv_iload S.1 S.2.1 dL_law_287 (lv_at hl 6 rfl) ?_
    refine lv_iconst (v := nI 1) S.1 S.2.1 dL_law_289 (by decide) ?_
    refine jn_add S dL_law_290 ?_
    refine j_sld (x := nI x1) S hX hbl hbA hW (vp_in_nI (by omega) (by omega)) (nI_clamp (by omega)) (hq1) dL_law_291 ?_
    refine lv_aload_n S.1 S.2.1 dL_law_292 rfl (lv_at hl 1 rfl) ?_
    refine lv_iload S.1 S.2.1 dL_law_293 (lv_at hl 6 rfl) ?_
    refine lv_iconst (v := nI 2) S.1 S.2.1 dL_law_295 (by decide) ?_
    refine jn_add S dL_law_296 ?_
    refine j_sld (x := nI a1) S hX hbl hbA hW (vp_in_nI (by omega) (by omega)) (nI_clamp (by omega)) (hq3) dL_law_297 ?_
    refine lv_aload_n S.1 S.2.1 dL_law_298 rfl (lv_at hl 1 rfl) ?_
    refine lv_iload S.1 S.2.1 dL_law_299 (lv_at hl 6 rfl) ?_
    refine lv_iconst (v := nI 3) S.1 S.2.1 dL_law_301 (by decide) ?_
    refine jn_add S dL_law_302 ?_
    refine j_sld (x := nI b1) S hX hbl hbA hW (vp_in_nI (by omega) (by omega)) (nI_clamp (by omega)) (hq5) dL_law_303 ?_
    refine j_callV (k := 55) (ci := 11) (q := (RX12, TX12, 17)) (As := [.int (nI x1), .int (nI a1), .int (nI b1)]) (rest := []) S hK hA hW (c_X12_setWeights_ok l D cy ad th n nc wf wt x1 a1 b1 gO gF gT   (by omega) (by omega) (by omega) (by omega)) (jgo wm_L_142) yk_X12_setWeights gO rfl rfl ⟨⟨rfl, rfl⟩, by decide, by decide⟩ rfl hl.1 rfl (Nat.le_of_ble_eq_true rfl) dL_law_304 ⟨by show (cells + 2) + 0 ≤ 601024; omega, by show (slots + 12) + 0 ≤ 7293033; omega⟩ (fun v w_ H locs hp hW => ?_)
    obtain ⟨rfl, hU1, hN1, hN2, hN3⟩ := hp
    have hU : jU w w_ [55, 56, 57, 58, 59, 60, 61, 62, 63, 64, 65, 66, 71, 72, 73, 74, 75] := jU.mono hU1 (by first | decide | (simp; done) | (simp; omega))
    have gE_ := hU1.get gE (by first | decide | (simp; done) | (simp; omega))
    have gD_ := hU1.get gD (by first | decide | (simp; done) | (simp; omega))
    have gC0_ := hU1.get gC0 (by first | decide | (simp; done) | (simp; omega))
    have gC1_ := hU1.get gC1 (by first | decide | (simp; done) | (simp; omega))
    have gC2_ := hU1.get gC2 (by first | decide | (simp; done) | (simp; omega))
    have gC3_ := hU1.get gC3 (by first | decide | (simp; done) | (simp; omega))
    have gC4_ := hU1.get gC4 (by first | decide | (simp; done) | (simp; omega))
    have gP_ := hU1.get gP (by first | decide | (simp; done) | (simp; omega))
    have gK_ := hU1.get gK (by first | decide | (simp; done) | (simp; omega))
    have gV_ := hU1.get gV (by first | decide | (simp; done) | (simp; omega))
    have gR_ := hU1.get gR (by first | decide | (simp; done) | (simp; omega))
    have gU_ := hU1.get gU (by first | decide | (simp; done) | (simp; omega))
    have hOut_ := hU1.get hOut (by first | decide | (simp; done) | (simp; omega))
    have hOuD_ := hU1.get hOuD (by first | decide | (simp; done) | (simp; omega))
    have gO_ : w_[55]? = some (ad 55, .inr (11, [.int (nI 0), .ref (ad 56), .ref (ad 57), .ref (ad 58), .ref (ad 59), .ref (ad 60), .ref (ad 61), .ref (ad 62), .ref (ad 63), .ref (ad 64), .ref (ad 65), .int (nI n), .int (nI nc), .ref (ad 66), .ref (ad 71), .ref (ad 72), .ref (ad 73)])) := hN1
    have gF_ : w_[56]? = some (ad 56, .inl (cy 0, 10, .inl (nf (upB wf x1 a1)))) := hN2
    have gT_ : w_[57]? = some (ad 57, .inl (cy 0, 10, .inl (nf (upB wt x1 b1)))) := hN3
    clear hU1 hN1 hN2 hN3
    refine W.eq (g2 := F0 m 307 ls [.int (nI (10 * wf x1 + wt x1))]) rfl ?_
    refine lv_istore (lv' := [(7, .int (nI (10 * wf x1 + wt x1))), (6, .int (nI 0)), (0, .ref b), (1, .ref (ad 0)), (2, .ref (ad 55)), (3, .ref (ad 74)), (4, .ref (ad 75)), (5, .int (nI i))]) S.1 S.2.1 dL_law_307 hl (by decide) rfl (fun ls hl => ?_)
    refine lv_aload_n S.1 S.2.1 dL_law_309 rfl (lv_at hl 4 rfl) ?_
    refine j_callV (k := 55) (ci := 11) (q := (RX12, TX12, 17)) (As := []) (rest := []) S hK hA hW (c_X12_thrown l D cy ad 0 n nc gO_   ) (jgo wm_L_136) yk_X12_thrown gO_ rfl rfl ⟨⟨rfl, rfl⟩, by decide, by decide⟩ rfl hl.1 rfl (Nat.le_of_ble_eq_true rfl) dL_law_310 ⟨by show (cells + 2) + 0 ≤ 601024; omega, by show (slots + 12) + 0 ≤ 7293033; omega⟩ (fun v u H locs hp hW => ?_)
    obtain ⟨rfl, rfl⟩ := hp
    refine W.eq (g2 := F0 m 313 ls [.int (nI 0)]) rfl ?_
    refine lv_iload S.1 S.2.1 dL_law_313 (lv_at hl 1 rfl) ?_
    refine jn_cmp_eq (tgt := 320) S (by omega) (by omega) dL_law_315 (by decide) (fun c_315 => ?_) (fun c_315 => ?_)
    · refine lv_iload S.1 S.2.1 dL_law_320 (lv_at hl 1 rfl) ?_
      refine jn_if_ne (tgt := 337) S (by omega) dL_law_322 (by decide) (fun c_322 => ?_) (fun c_322 => ?_)
      · first | exact absurd (show 0 ≠ 0 from c_322) (by decide) | exact absurd c_322 (by decide)
      · refine lv_aload_n S.1 S.2.1 dL_law_325 rfl (lv_at hl 5 rfl) ?_
        refine lv_iconst (v := nI 0) S.1 S.2.1 dL_law_326 (by decide) ?_
        refine j_lald (x := (nI (10 * wf x1 + wt x1)).toInt64) S hK hW hOut_ (vp_in_nI (by omega) (by omega)) (nI_clamp (by omega)) (if_pos rfl) dL_law_327 ?_
        refine lv_iload S.1 S.2.1 dL_law_328 (lv_at hl 0 rfl) ?_
        refine lv_i2l (v := (nI (10 * wf x1 + wt x1)).toInt64) S.1 S.2.1 dL_law_330 (rfl) ?_
        refine jl_eq (tgt := 337) S dL_law_331 dL_law_332 (by decide) (fun c_332 => ?_) (fun c_332 => ?_)
        · refine lv_goto (tgt := 2382) S.1 S.2.1 dL_law_337 (by decide) ?_
          exact W.widen (by omega) (by omega) (kk _ _ _ _ ⟨_, _, _, _, _, _, _, _, _, _, _, _, _, _, hPI1, (hCI.kept hU (by first | decide | (intro k hk; simp at hk; omega))), ⟨gx, _, _, gO_, gF_, gT_, gE_, gD_, gC0_, gC1_, gC2_, gC3_, gC4_, gP_, gK_, gV_, gR_, gU_, fun j hj => hU.get (hrow j hj) (by simp; omega), hkx⟩, hOut_, hOuD_⟩ hW (lv_sub hl [2, 3, 4, 5, 6, 7] rfl))
        · exact absurd rfl c_332
    · first | exact absurd (show 0 ≠ 0 from c_315) (by decide) | exact absurd c_315 (by decide)
  · have hRI := hRI.kept hU1 (fun k hk => by have := hK1 k hk; omega)
    obtain ⟨gx, rb, tu, gO, gF, gT, gE, gD, gC0, gC1, gC2, gC3, gC4, gP, gK, gV, gR, gU, hrow, hkx⟩ := hRI
    refine W.eq (g2 := F0 m 283 ls [.int (nI 1)]) rfl ?_
    refine lv_istore (lv' := [(6, .int (nI 1)), (0, .ref b), (1, .ref (ad 0)), (2, .ref (ad 55)), (3, .ref (ad 74)), (4, .ref (ad 75)), (5, .int (nI i))]) S.1 S.2.1 dL_law_283 hl (by decide) rfl (fun ls hl => ?_)
    refine lv_aload_n S.1 S.2.1 dL_law_285 rfl (lv_at hl 3 rfl) ?_
    refine lv_aload_n S.1 S.2.1 dL_law_286 rfl (lv_at hl 1 rfl) ?_
    refine lv_iload S.1 S.2.1 dL_law_287 (lv_at hl 6 rfl) ?_
    refine lv_iconst (v := nI 1) S.1 S.2.1 dL_law_289 (by decide) ?_
    refine jn_add S dL_law_290 ?_
    refine j_sld (x := xs (i + 1)) S hX hbl hbA hW (vp_in_nI (by omega) (by omega)) (nI_clamp (by omega)) (rfl) dL_law_291 ?_
    refine lv_aload_n S.1 S.2.1 dL_law_292 rfl (lv_at hl 1 rfl) ?_
    refine lv_iload S.1 S.2.1 dL_law_293 (lv_at hl 6 rfl) ?_
    refine lv_iconst (v := nI 2) S.1 S.2.1 dL_law_295 (by decide) ?_
    refine jn_add S dL_law_296 ?_
    refine j_sld (x := xs (i + 2)) S hX hbl hbA hW (vp_in_nI (by omega) (by omega)) (nI_clamp (by omega)) (rfl) dL_law_297 ?_
    refine lv_aload_n S.1 S.2.1 dL_law_298 rfl (lv_at hl 1 rfl) ?_
    refine lv_iload S.1 S.2.1 dL_law_299 (lv_at hl 6 rfl) ?_
    refine lv_iconst (v := nI 3) S.1 S.2.1 dL_law_301 (by decide) ?_
    refine jn_add S dL_law_302 ?_
    refine j_sld (x := xs (i + 3)) S hX hbl hbA hW (vp_in_nI (by omega) (by omega)) (nI_clamp (by omega)) (rfl) dL_law_303 ?_
    refine j_callV (k := 55) (ci := 11) (q := (RX12, TX12, 17)) (As := [.int (xs (i + 1)), .int (xs (i + 2)), .int (xs (i + 3))]) (rest := []) S hK hA hW (c_X12_setWeights_b1 l D cy ad th n nc (xs (i + 1)) (xs (i + 2)) (xs (i + 3)) gO   (by omega) (hq)) (jgo wm_L_142) yk_X12_setWeights gO rfl rfl ⟨⟨rfl, rfl⟩, by decide, by decide⟩ rfl hl.1 rfl (Nat.le_of_ble_eq_true rfl) dL_law_304 ⟨by show (cells + 2) + 0 ≤ 601024; omega, by show (slots + 12) + 0 ≤ 7293033; omega⟩ (fun v w_ H locs hp hW => ?_)
    obtain ⟨rfl, hU1, hN1⟩ := hp
    have hU : jU w w_ [55, 56, 57, 58, 59, 60, 61, 62, 63, 64, 65, 66, 71, 72, 73, 74, 75] := jU.mono hU1 (by first | decide | (simp; done) | (simp; omega))
    have gF_ := hU1.get gF (by first | decide | (simp; done) | (simp; omega))
    have gT_ := hU1.get gT (by first | decide | (simp; done) | (simp; omega))
    have gE_ := hU1.get gE (by first | decide | (simp; done) | (simp; omega))
    have gD_ := hU1.get gD (by first | decide | (simp; done) | (simp; omega))
    have gC0_ := hU1.get gC0 (by first | decide | (simp; done) | (simp; omega))
    have gC1_ := hU1.get gC1 (by first | decide | (simp; done) | (simp; omega))
    have gC2_ := hU1.get gC2 (by first | decide | (simp; done) | (simp; omega))
    have gC3_ := hU1.get gC3 (by first | decide | (simp; done) | (simp; omega))
    have gC4_ := hU1.get gC4 (by first | decide | (simp; done) | (simp; omega))
    have gP_ := hU1.get gP (by first | decide | (simp; done) | (simp; omega))
    have gK_ := hU1.get gK (by first | decide | (simp; done) | (simp; omega))
    have gV_ := hU1.get gV (by first | decide | (simp; done) | (simp; omega))
    have gR_ := hU1.get gR (by first | decide | (simp; done) | (simp; omega))
    have gU_ := hU1.get gU (by first | decide | (simp; done) | (simp; omega))
    have hOut_ := hU1.get hOut (by first | decide | (simp; done) | (simp; omega))
    have hOuD_ := hU1.get hOuD (by first | decide | (simp; done) | (simp; omega))
    have gO_ : w_[55]? = some (ad 55, .inr (11, [.int (nI 1), .ref (ad 56), .ref (ad 57), .ref (ad 58), .ref (ad 59), .ref (ad 60), .ref (ad 61), .ref (ad 62), .ref (ad 63), .ref (ad 64), .ref (ad 65), .int (nI n), .int (nI nc), .ref (ad 66), .ref (ad 71), .ref (ad 72), .ref (ad 73)])) := hN1
    clear hU1 hN1
    refine W.eq (g2 := F0 m 307 ls [.int (nI 0)]) rfl ?_
    refine lv_istore (lv' := [(7, .int (nI 0)), (6, .int (nI 1)), (0, .ref b), (1, .ref (ad 0)), (2, .ref (ad 55)), (3, .ref (ad 74)), (4, .ref (ad 75)), (5, .int (nI i))]) S.1 S.2.1 dL_law_307 hl (by decide) rfl (fun ls hl => ?_)
    refine lv_aload_n S.1 S.2.1 dL_law_309 rfl (lv_at hl 4 rfl) ?_
    refine j_callV (k := 55) (ci := 11) (q := (RX12, TX12, 17)) (As := []) (rest := []) S hK hA hW (c_X12_thrown l D cy ad 1 n nc gO_   ) (jgo wm_L_136) yk_X12_thrown gO_ rfl rfl ⟨⟨rfl, rfl⟩, by decide, by decide⟩ rfl hl.1 rfl (Nat.le_of_ble_eq_true rfl) dL_law_310 ⟨by show (cells + 2) + 0 ≤ 601024; omega, by show (slots + 12) + 0 ≤ 7293033; omega⟩ (fun v u H locs hp hW => ?_)
    obtain ⟨rfl, rfl⟩ := hp
    refine W.eq (g2 := F0 m 313 ls [.int (nI 1)]) rfl ?_
    refine lv_iload S.1 S.2.1 dL_law_313 (lv_at hl 1 rfl) ?_
    refine jn_cmp_eq (tgt := 320) S (by omega) (by omega) dL_law_315 (by decide) (fun c_315 => ?_) (fun c_315 => ?_)
    · refine lv_iload S.1 S.2.1 dL_law_320 (lv_at hl 1 rfl) ?_
      refine jn_if_ne (tgt := 337) S (by omega) dL_law_322 (by decide) (fun c_322 => ?_) (fun c_322 => ?_)
      · refine lv_goto (tgt := 2382) S.1 S.2.1 dL_law_337 (by decide) ?_
        exact W.widen (by omega) (by omega) (kk _ _ _ _ ⟨_, _, _, _, _, _, _, _, _, _, _, _, _, _, hPI, (hCI.kept hU (by first | decide | (intro k hk; simp at hk; omega))), ⟨gx, _, _, gO_, gF_, gT_, gE_, gD_, gC0_, gC1_, gC2_, gC3_, gC4_, gP_, gK_, gV_, gR_, gU_, fun j hj => hU.get (hrow j hj) (by simp; omega), hkx⟩, hOut_, hOuD_⟩ hW (lv_sub hl [2, 3, 4, 5, 6, 7] rfl))
      · first | exact absurd (show 1 = 0 from c_322) (by decide) | exact absurd c_322 (by decide)
    · first | exact absurd (show 1 ≠ 1 from c_315) (by decide) | exact absurd c_315 (by decide)
  · have hRI := hRI.kept hU1 (fun k hk => by have := hK1 k hk; omega)
    obtain ⟨gx, rb, tu, gO, gF, gT, gE, gD, gC0, gC1, gC2, gC3, gC4, gP, gK, gV, gR, gU, hrow, hkx⟩ := hRI
    obtain ⟨⟨x1, hx1, e1⟩, hq⟩ := hq
    refine W.eq (g2 := F0 m 283 ls [.int (nI 2)]) rfl ?_
    refine lv_istore (lv' := [(6, .int (nI 2)), (0, .ref b), (1, .ref (ad 0)), (2, .ref (ad 55)), (3, .ref (ad 74)), (4, .ref (ad 75)), (5, .int (nI i))]) S.1 S.2.1 dL_law_283 hl (by decide) rfl (fun ls hl => ?_)
    refine lv_aload_n S.1 S.2.1 dL_law_285 rfl (lv_at hl 3 rfl) ?_
    refine lv_aload_n S.1 S.2.1 dL_law_286 rfl (lv_at hl 1 rfl) ?_
    refine lv_iload S.1 S.2.1 dL_law_287 (lv_at hl 6 rfl) ?_
    refine lv_iconst (v := nI 1) S.1 S.2.1 dL_law_289 (by decide) ?_
    refine jn_add S dL_law_290 ?_
    refine j_sld (x := nI x1) S hX hbl hbA hW (vp_in_nI (by omega) (by omega)) (nI_clamp (by omega)) (e1) dL_law_291 ?_
    refine lv_aload_n S.1 S.2.1 dL_law_292 rfl (lv_at hl 1 rfl) ?_
    refine lv_iload S.1 S.2.1 dL_law_293 (lv_at hl 6 rfl) ?_
    refine lv_iconst (v := nI 2) S.1 S.2.1 dL_law_295 (by decide) ?_
    refine jn_add S dL_law_296 ?_
    refine j_sld (x := xs (i + 2)) S hX hbl hbA hW (vp_in_nI (by omega) (by omega)) (nI_clamp (by omega)) (rfl) dL_law_297 ?_
    refine lv_aload_n S.1 S.2.1 dL_law_298 rfl (lv_at hl 1 rfl) ?_
    refine lv_iload S.1 S.2.1 dL_law_299 (lv_at hl 6 rfl) ?_
    refine lv_iconst (v := nI 3) S.1 S.2.1 dL_law_301 (by decide) ?_
    refine jn_add S dL_law_302 ?_
    refine j_sld (x := xs (i + 3)) S hX hbl hbA hW (vp_in_nI (by omega) (by omega)) (nI_clamp (by omega)) (rfl) dL_law_303 ?_
    refine j_callV (k := 55) (ci := 11) (q := (RX12, TX12, 17)) (As := [.int (nI x1), .int (xs (i + 2)), .int (xs (i + 3))]) (rest := []) S hK hA hW (c_X12_setWeights_b2 l D cy ad th n nc x1 (xs (i + 2)) (xs (i + 3)) gO   (by omega) (by omega) (hq)) (jgo wm_L_142) yk_X12_setWeights gO rfl rfl ⟨⟨rfl, rfl⟩, by decide, by decide⟩ rfl hl.1 rfl (Nat.le_of_ble_eq_true rfl) dL_law_304 ⟨by show (cells + 2) + 0 ≤ 601024; omega, by show (slots + 12) + 0 ≤ 7293033; omega⟩ (fun v w_ H locs hp hW => ?_)
    obtain ⟨rfl, hU1, hN1⟩ := hp
    have hU : jU w w_ [55, 56, 57, 58, 59, 60, 61, 62, 63, 64, 65, 66, 71, 72, 73, 74, 75] := jU.mono hU1 (by first | decide | (simp; done) | (simp; omega))
    have gF_ := hU1.get gF (by first | decide | (simp; done) | (simp; omega))
    have gT_ := hU1.get gT (by first | decide | (simp; done) | (simp; omega))
    have gE_ := hU1.get gE (by first | decide | (simp; done) | (simp; omega))
    have gD_ := hU1.get gD (by first | decide | (simp; done) | (simp; omega))
    have gC0_ := hU1.get gC0 (by first | decide | (simp; done) | (simp; omega))
    have gC1_ := hU1.get gC1 (by first | decide | (simp; done) | (simp; omega))
    have gC2_ := hU1.get gC2 (by first | decide | (simp; done) | (simp; omega))
    have gC3_ := hU1.get gC3 (by first | decide | (simp; done) | (simp; omega))
    have gC4_ := hU1.get gC4 (by first | decide | (simp; done) | (simp; omega))
    have gP_ := hU1.get gP (by first | decide | (simp; done) | (simp; omega))
    have gK_ := hU1.get gK (by first | decide | (simp; done) | (simp; omega))
    have gV_ := hU1.get gV (by first | decide | (simp; done) | (simp; omega))
    have gR_ := hU1.get gR (by first | decide | (simp; done) | (simp; omega))
    have gU_ := hU1.get gU (by first | decide | (simp; done) | (simp; omega))
    have hOut_ := hU1.get hOut (by first | decide | (simp; done) | (simp; omega))
    have hOuD_ := hU1.get hOuD (by first | decide | (simp; done) | (simp; omega))
    have gO_ : w_[55]? = some (ad 55, .inr (11, [.int (nI 2), .ref (ad 56), .ref (ad 57), .ref (ad 58), .ref (ad 59), .ref (ad 60), .ref (ad 61), .ref (ad 62), .ref (ad 63), .ref (ad 64), .ref (ad 65), .int (nI n), .int (nI nc), .ref (ad 66), .ref (ad 71), .ref (ad 72), .ref (ad 73)])) := hN1
    clear hU1 hN1
    refine W.eq (g2 := F0 m 307 ls [.int (nI 0)]) rfl ?_
    refine lv_istore (lv' := [(7, .int (nI 0)), (6, .int (nI 2)), (0, .ref b), (1, .ref (ad 0)), (2, .ref (ad 55)), (3, .ref (ad 74)), (4, .ref (ad 75)), (5, .int (nI i))]) S.1 S.2.1 dL_law_307 hl (by decide) rfl (fun ls hl => ?_)
    refine lv_aload_n S.1 S.2.1 dL_law_309 rfl (lv_at hl 4 rfl) ?_
    refine j_callV (k := 55) (ci := 11) (q := (RX12, TX12, 17)) (As := []) (rest := []) S hK hA hW (c_X12_thrown l D cy ad 2 n nc gO_   ) (jgo wm_L_136) yk_X12_thrown gO_ rfl rfl ⟨⟨rfl, rfl⟩, by decide, by decide⟩ rfl hl.1 rfl (Nat.le_of_ble_eq_true rfl) dL_law_310 ⟨by show (cells + 2) + 0 ≤ 601024; omega, by show (slots + 12) + 0 ≤ 7293033; omega⟩ (fun v u H locs hp hW => ?_)
    obtain ⟨rfl, rfl⟩ := hp
    refine W.eq (g2 := F0 m 313 ls [.int (nI 2)]) rfl ?_
    refine lv_iload S.1 S.2.1 dL_law_313 (lv_at hl 1 rfl) ?_
    refine jn_cmp_eq (tgt := 320) S (by omega) (by omega) dL_law_315 (by decide) (fun c_315 => ?_) (fun c_315 => ?_)
    · refine lv_iload S.1 S.2.1 dL_law_320 (lv_at hl 1 rfl) ?_
      refine jn_if_ne (tgt := 337) S (by omega) dL_law_322 (by decide) (fun c_322 => ?_) (fun c_322 => ?_)
      · refine lv_goto (tgt := 2382) S.1 S.2.1 dL_law_337 (by decide) ?_
        exact W.widen (by omega) (by omega) (kk _ _ _ _ ⟨_, _, _, _, _, _, _, _, _, _, _, _, _, _, hPI, (hCI.kept hU (by first | decide | (intro k hk; simp at hk; omega))), ⟨gx, _, _, gO_, gF_, gT_, gE_, gD_, gC0_, gC1_, gC2_, gC3_, gC4_, gP_, gK_, gV_, gR_, gU_, fun j hj => hU.get (hrow j hj) (by simp; omega), hkx⟩, hOut_, hOuD_⟩ hW (lv_sub hl [2, 3, 4, 5, 6, 7] rfl))
      · first | exact absurd (show 2 = 0 from c_322) (by decide) | exact absurd c_322 (by decide)
    · first | exact absurd (show 2 ≠ 2 from c_315) (by decide) | exact absurd c_315 (by decide)
/-- the law's addClause -/
theorem s_addClause {p : Program} {l : Launch} {e : Env} {s : State} {m : MethodId} {args : Array Value} {below : List Frame} {meth : Method} {c : Code} {Q : State → Prop} {D : va_G} {cy : Nat → ClassId} {A : Nat → Prop} {x0 : Cond} {ad : Nat → Nat} {b L : Nat} {xs : Nat → Int32} {i : Nat} {w : va_W} {H : Heap} {locs : List Loc} {ls : Array Slot} {cells slots : Nat} (htr : l.stackTraces = false) (C : LX p s m c args D cy A b L xs x0) (hI : INV ad cy w) (hW : jW D A s.heap w H locs) (hl : lv_has ls 10 [(0, .ref b), (1, .ref (ad 0)), (2, .ref (ad 55)), (3, .ref (ad 74)), (4, .ref (ad 75)), (5, .int (nI i))]) (hi : i + 5 ≤ L) (hL : L ≤ 2560) (hc : cells + 10 ≤ 601024) (hs : slots + 64 ≤ 7293033) (kk : LK p l e s m args below meth c Q D cy A ad b i cells slots) : W p l e room_1 s m args below meth c H locs cells slots Q (F0 m 340 ls []) := by
  obtain ⟨S, hK, hA, hX, hbl, hbA, hx, hnx⟩ := C
  obtain ⟨n, wf, wt, od, sd, se, nc, lv, cs, kv, kx, th, og, ogd, hPI, hCI, hRI, hOut, hOuD⟩ := hI
  have hPI0 := hPI
  obtain ⟨hn, hsdn, hse2, hnc, hlvn, hcs, hkI, hod, hodn, hinj⟩ := hPI0
  have hp2 := two_pow10 hn
  have hpt := Nat.two_pow_pos n
  have hWB := hCI.wb
  refine lv_aload_n S.1 S.2.1 dL_law_340 rfl (lv_at hl 1 rfl) ?_
  refine lv_aload_n S.1 S.2.1 dL_law_341 rfl (lv_at hl 0 rfl) ?_
  refine lv_iload S.1 S.2.1 dL_law_342 (lv_at hl 5 rfl) ?_
  refine lv_iconst (v := nI 1) S.1 S.2.1 dL_law_344 (by decide) ?_
  refine jn_add S dL_law_345 ?_
  refine j_sld (x := xs (i + 1)) S hX hbl hbA hW (vp_in_nI (by omega) (by omega)) (nI_clamp (by omega)) (rfl) dL_law_346 ?_
  refine lv_aload_n S.1 S.2.1 dL_law_347 rfl (lv_at hl 0 rfl) ?_
  refine lv_iload S.1 S.2.1 dL_law_348 (lv_at hl 5 rfl) ?_
  refine lv_iconst (v := nI 2) S.1 S.2.1 dL_law_350 (by decide) ?_
  refine jn_add S dL_law_351 ?_
  refine j_sld (x := xs (i + 2)) S hX hbl hbA hW (vp_in_nI (by omega) (by omega)) (nI_clamp (by omega)) (rfl) dL_law_352 ?_
  refine lv_aload_n S.1 S.2.1 dL_law_353 rfl (lv_at hl 3 rfl) ?_
  refine j_callH (As := [.ref (ad 0), .int (xs (i + 1)), .int (xs (i + 2)), .ref (ad 74)]) (rest := []) S hK hA hW hx hnx (h_addClause l htr D cy ad n wf wt od sd se nc lv cs kv kx (xs (i + 1)) (xs (i + 2)) _ og ogd hPI hCI hOut hOuD rfl (List.getElem?_eq_some_iff.mp hOuD).1) (jgo wm_L_143) yk_L_addClause ⟨⟨rfl, rfl⟩, by decide, by decide⟩ rfl hl.1 rfl (Nat.le_of_ble_eq_true rfl) dL_law_354 ⟨by show cells + 5 ≤ 601024; omega, by show slots + 28 ≤ 7293033; omega⟩ (fun v w H locs hp hW => ?_)
  rcases hp with ⟨a1, b1, rfl, hq0, hq1, hq2, hq3, hq4, hq5, ⟨K1, hU1, hK1⟩, hCI, hOut, hOuD⟩ | ⟨rfl, hq, ⟨K1, hU1, hK1⟩, hCI, hOut, hOuD⟩ | ⟨rfl, hq, ⟨K1, hU1, hK1⟩, hCI, hOut, hOuD⟩
  · have hRI := hRI.kept hU1 (fun k hk => by have := hK1 k hk; omega)
    obtain ⟨gx, rb, tu, gO, gF, gT, gE, gD, gC0, gC1, gC2, gC3, gC4, gP, gK, gV, gR, gU, hrow, hkx⟩ := hRI
    have hPI1 : PI n wf wt od sd se (nc + 1) (lv ||| 2 ^ nc) (upB cs nc (111, a1, b1, 0, 0)) kv kx := hPI.more hq0 ⟨Or.inl rfl, by show a1 < 1024; omega, by show b1 < 1024; omega, by show 0 < 1024; decide, by show 0 < 1024; decide⟩ (fun h => absurd rfl h)
    refine W.eq (g2 := F0 m 357 ls [.int (nI 0)]) rfl ?_
    refine lv_istore (lv' := [(6, .int (nI 0)), (0, .ref b), (1, .ref (ad 0)), (2, .ref (ad 55)), (3, .ref (ad 74)), (4, .ref (ad 75)), (5, .int (nI i))]) S.1 S.2.1 dL_law_357 hl (by decide) rfl (fun ls hl => ?_)
    refine lv_aload_n S.1 S.2.1 dL_law_359 rfl (lv_at hl 3 rfl) ?_
    refine lv_aload_n S.1 S.2.1 dL_law_360 rfl (lv_at hl 1 rfl) ?_
    refine lv_iload S.1 S.2.1 dL_law_361 (lv_at hl 6 rfl) ?_
    refine lv_iconst (v := nI 1) S.1 S.2.1 dL_law_363 (by decide) ?_
    refine jn_add S dL_law_364 ?_
    refine j_sld (x := nI a1) S hX hbl hbA hW (vp_in_nI (by omega) (by omega)) (nI_clamp (by omega)) (hq2) dL_law_365 ?_
    refine lv_aload_n S.1 S.2.1 dL_law_366 rfl (lv_at hl 1 rfl) ?_
    refine lv_iload S.1 S.2.1 dL_law_367 (lv_at hl 6 rfl) ?_
    refine lv_iconst (v := nI 2) S.1 S.2.1 dL_law_369 (by decide) ?_
    refine jn_add S dL_law_370 ?_
    refine j_sld (x := nI b1) S hX hbl hbA hW (vp_in_nI (by omega) (by omega)) (nI_clamp (by omega)) (hq4) dL_law_371 ?_
    refine j_callV (k := 55) (ci := 11) (q := (RX12, TX12, 17)) (As := [.int (nI a1), .int (nI b1)]) (rest := []) S hK hA hW (c_X12_addClause_ok l D cy ad th n nc cs a1 b1 gO gC0 gC1 gC2 gC3 gC4   (by omega) (by omega) (by omega) (by omega) (hq5)) (jgo wm_L_146) yk_X12_addClause gO rfl rfl ⟨⟨rfl, rfl⟩, by decide, by decide⟩ rfl hl.1 rfl (Nat.le_of_ble_eq_true rfl) dL_law_372 ⟨by show (cells + 5) + 0 ≤ 601024; omega, by show (slots + 28) + 0 ≤ 7293033; omega⟩ (fun v w_ H locs hp hW => ?_)
    obtain ⟨rfl, hU1, hN1, hN2, hN3, hN4, hN5, hN6⟩ := hp
    have hU : jU w w_ [55, 56, 57, 58, 59, 60, 61, 62, 63, 64, 65, 66, 71, 72, 73, 74, 75] := jU.mono hU1 (by first | decide | (simp; done) | (simp; omega))
    have gF_ := hU1.get gF (by first | decide | (simp; done) | (simp; omega))
    have gT_ := hU1.get gT (by first | decide | (simp; done) | (simp; omega))
    have gE_ := hU1.get gE (by first | decide | (simp; done) | (simp; omega))
    have gD_ := hU1.get gD (by first | decide | (simp; done) | (simp; omega))
    have gP_ := hU1.get gP (by first | decide | (simp; done) | (simp; omega))
    have gK_ := hU1.get gK (by first | decide | (simp; done) | (simp; omega))
    have gV_ := hU1.get gV (by first | decide | (simp; done) | (simp; omega))
    have gR_ := hU1.get gR (by first | decide | (simp; done) | (simp; omega))
    have gU_ := hU1.get gU (by first | decide | (simp; done) | (simp; omega))
    have hOut_ := hU1.get hOut (by first | decide | (simp; done) | (simp; omega))
    have hOuD_ := hU1.get hOuD (by first | decide | (simp; done) | (simp; omega))
    have gO_ : w_[55]? = some (ad 55, .inr (11, [.int (nI 0), .ref (ad 56), .ref (ad 57), .ref (ad 58), .ref (ad 59), .ref (ad 60), .ref (ad 61), .ref (ad 62), .ref (ad 63), .ref (ad 64), .ref (ad 65), .int (nI n), .int (nI (nc + 1)), .ref (ad 66), .ref (ad 71), .ref (ad 72), .ref (ad 73)])) := hN1
    have gC0_ : w_[60]? = some (ad 60, .inl (cy 2, 20, .inl (nf (ckd (upB cs nc (111, a1, b1, 0, 0)))))) := hN2
    have gC1_ : w_[61]? = some (ad 61, .inl (cy 0, 20, .inl (nf (cst (upB cs nc (111, a1, b1, 0, 0)))))) := hN3
    have gC2_ : w_[62]? = some (ad 62, .inl (cy 0, 20, .inl (nf (cot (upB cs nc (111, a1, b1, 0, 0)))))) := hN4
    have gC3_ : w_[63]? = some (ad 63, .inl (cy 0, 20, .inl (nf (cle (upB cs nc (111, a1, b1, 0, 0)))))) := hN5
    have gC4_ : w_[64]? = some (ad 64, .inl (cy 0, 20, .inl (nf (cgr (upB cs nc (111, a1, b1, 0, 0)))))) := hN6
    clear hU1 hN1 hN2 hN3 hN4 hN5 hN6
    refine W.eq (g2 := F0 m 375 ls [.int (nI nc)]) rfl ?_
    refine lv_istore (lv' := [(7, .int (nI nc)), (6, .int (nI 0)), (0, .ref b), (1, .ref (ad 0)), (2, .ref (ad 55)), (3, .ref (ad 74)), (4, .ref (ad 75)), (5, .int (nI i))]) S.1 S.2.1 dL_law_375 hl (by decide) rfl (fun ls hl => ?_)
    refine lv_aload_n S.1 S.2.1 dL_law_377 rfl (lv_at hl 4 rfl) ?_
    refine j_callV (k := 55) (ci := 11) (q := (RX12, TX12, 17)) (As := []) (rest := []) S hK hA hW (c_X12_thrown l D cy ad 0 n (nc + 1) gO_   ) (jgo wm_L_136) yk_X12_thrown gO_ rfl rfl ⟨⟨rfl, rfl⟩, by decide, by decide⟩ rfl hl.1 rfl (Nat.le_of_ble_eq_true rfl) dL_law_378 ⟨by show (cells + 5) + 0 ≤ 601024; omega, by show (slots + 28) + 0 ≤ 7293033; omega⟩ (fun v u H locs hp hW => ?_)
    obtain ⟨rfl, rfl⟩ := hp
    refine W.eq (g2 := F0 m 381 ls [.int (nI 0)]) rfl ?_
    refine lv_iload S.1 S.2.1 dL_law_381 (lv_at hl 1 rfl) ?_
    refine jn_cmp_eq (tgt := 388) S (by omega) (by omega) dL_law_383 (by decide) (fun c_383 => ?_) (fun c_383 => ?_)
    · refine lv_iload S.1 S.2.1 dL_law_388 (lv_at hl 1 rfl) ?_
      refine jn_if_ne (tgt := 405) S (by omega) dL_law_390 (by decide) (fun c_390 => ?_) (fun c_390 => ?_)
      · first | exact absurd (show 0 ≠ 0 from c_390) (by decide) | exact absurd c_390 (by decide)
      · refine lv_aload_n S.1 S.2.1 dL_law_393 rfl (lv_at hl 5 rfl) ?_
        refine lv_iconst (v := nI 0) S.1 S.2.1 dL_law_394 (by decide) ?_
        refine j_lald (x := (nI nc).toInt64) S hK hW hOut_ (vp_in_nI (by omega) (by omega)) (nI_clamp (by omega)) (if_pos rfl) dL_law_395 ?_
        refine lv_iload S.1 S.2.1 dL_law_396 (lv_at hl 0 rfl) ?_
        refine lv_i2l (v := (nI nc).toInt64) S.1 S.2.1 dL_law_398 (rfl) ?_
        refine jl_eq (tgt := 405) S dL_law_399 dL_law_400 (by decide) (fun c_400 => ?_) (fun c_400 => ?_)
        · refine lv_goto (tgt := 2382) S.1 S.2.1 dL_law_405 (by decide) ?_
          exact W.widen (by omega) (by omega) (kk _ _ _ _ ⟨_, _, _, _, _, _, _, _, _, _, _, _, _, _, hPI1, (hCI.kept hU (by first | decide | (intro k hk; simp at hk; omega))), ⟨gx, _, _, gO_, gF_, gT_, gE_, gD_, gC0_, gC1_, gC2_, gC3_, gC4_, (by rw [dpB_add]; exact gP_), gK_, gV_, gR_, gU_, fun j hj => hU.get (hrow j hj) (by simp; omega), hkx⟩, hOut_, hOuD_⟩ hW (lv_sub hl [2, 3, 4, 5, 6, 7] rfl))
        · exact absurd rfl c_400
    · first | exact absurd (show 0 ≠ 0 from c_383) (by decide) | exact absurd c_383 (by decide)
  · have hRI := hRI.kept hU1 (fun k hk => by have := hK1 k hk; omega)
    obtain ⟨gx, rb, tu, gO, gF, gT, gE, gD, gC0, gC1, gC2, gC3, gC4, gP, gK, gV, gR, gU, hrow, hkx⟩ := hRI
    refine W.eq (g2 := F0 m 357 ls [.int (nI 1)]) rfl ?_
    refine lv_istore (lv' := [(6, .int (nI 1)), (0, .ref b), (1, .ref (ad 0)), (2, .ref (ad 55)), (3, .ref (ad 74)), (4, .ref (ad 75)), (5, .int (nI i))]) S.1 S.2.1 dL_law_357 hl (by decide) rfl (fun ls hl => ?_)
    refine lv_aload_n S.1 S.2.1 dL_law_359 rfl (lv_at hl 3 rfl) ?_
    refine lv_aload_n S.1 S.2.1 dL_law_360 rfl (lv_at hl 1 rfl) ?_
    refine lv_iload S.1 S.2.1 dL_law_361 (lv_at hl 6 rfl) ?_
    refine lv_iconst (v := nI 1) S.1 S.2.1 dL_law_363 (by decide) ?_
    refine jn_add S dL_law_364 ?_
    refine j_sld (x := xs (i + 1)) S hX hbl hbA hW (vp_in_nI (by omega) (by omega)) (nI_clamp (by omega)) (rfl) dL_law_365 ?_
    refine lv_aload_n S.1 S.2.1 dL_law_366 rfl (lv_at hl 1 rfl) ?_
    refine lv_iload S.1 S.2.1 dL_law_367 (lv_at hl 6 rfl) ?_
    refine lv_iconst (v := nI 2) S.1 S.2.1 dL_law_369 (by decide) ?_
    refine jn_add S dL_law_370 ?_
    refine j_sld (x := xs (i + 2)) S hX hbl hbA hW (vp_in_nI (by omega) (by omega)) (nI_clamp (by omega)) (rfl) dL_law_371 ?_
    refine j_callV (k := 55) (ci := 11) (q := (RX12, TX12, 17)) (As := [.int (xs (i + 1)), .int (xs (i + 2))]) (rest := []) S hK hA hW (c_X12_addClause_b1 l D cy ad th n nc (xs (i + 1)) (xs (i + 2)) gO   (by omega) (hq.imp id (Or.imp id (fun ⟨_, _, _, _, h1, h2, h3⟩ => or_z h1 h2 h3)))) (jgo wm_L_146) yk_X12_addClause gO rfl rfl ⟨⟨rfl, rfl⟩, by decide, by decide⟩ rfl hl.1 rfl (Nat.le_of_ble_eq_true rfl) dL_law_372 ⟨by show (cells + 5) + 0 ≤ 601024; omega, by show (slots + 28) + 0 ≤ 7293033; omega⟩ (fun v w_ H locs hp hW => ?_)
    obtain ⟨rfl, hU1, hN1⟩ := hp
    have hU : jU w w_ [55, 56, 57, 58, 59, 60, 61, 62, 63, 64, 65, 66, 71, 72, 73, 74, 75] := jU.mono hU1 (by first | decide | (simp; done) | (simp; omega))
    have gF_ := hU1.get gF (by first | decide | (simp; done) | (simp; omega))
    have gT_ := hU1.get gT (by first | decide | (simp; done) | (simp; omega))
    have gE_ := hU1.get gE (by first | decide | (simp; done) | (simp; omega))
    have gD_ := hU1.get gD (by first | decide | (simp; done) | (simp; omega))
    have gC0_ := hU1.get gC0 (by first | decide | (simp; done) | (simp; omega))
    have gC1_ := hU1.get gC1 (by first | decide | (simp; done) | (simp; omega))
    have gC2_ := hU1.get gC2 (by first | decide | (simp; done) | (simp; omega))
    have gC3_ := hU1.get gC3 (by first | decide | (simp; done) | (simp; omega))
    have gC4_ := hU1.get gC4 (by first | decide | (simp; done) | (simp; omega))
    have gP_ := hU1.get gP (by first | decide | (simp; done) | (simp; omega))
    have gK_ := hU1.get gK (by first | decide | (simp; done) | (simp; omega))
    have gV_ := hU1.get gV (by first | decide | (simp; done) | (simp; omega))
    have gR_ := hU1.get gR (by first | decide | (simp; done) | (simp; omega))
    have gU_ := hU1.get gU (by first | decide | (simp; done) | (simp; omega))
    have hOut_ := hU1.get hOut (by first | decide | (simp; done) | (simp; omega))
    have hOuD_ := hU1.get hOuD (by first | decide | (simp; done) | (simp; omega))
    have gO_ : w_[55]? = some (ad 55, .inr (11, [.int (nI 1), .ref (ad 56), .ref (ad 57), .ref (ad 58), .ref (ad 59), .ref (ad 60), .ref (ad 61), .ref (ad 62), .ref (ad 63), .ref (ad 64), .ref (ad 65), .int (nI n), .int (nI nc), .ref (ad 66), .ref (ad 71), .ref (ad 72), .ref (ad 73)])) := hN1
    clear hU1 hN1
    refine W.eq (g2 := F0 m 375 ls [.int (nI 0)]) rfl ?_
    refine lv_istore (lv' := [(7, .int (nI 0)), (6, .int (nI 1)), (0, .ref b), (1, .ref (ad 0)), (2, .ref (ad 55)), (3, .ref (ad 74)), (4, .ref (ad 75)), (5, .int (nI i))]) S.1 S.2.1 dL_law_375 hl (by decide) rfl (fun ls hl => ?_)
    refine lv_aload_n S.1 S.2.1 dL_law_377 rfl (lv_at hl 4 rfl) ?_
    refine j_callV (k := 55) (ci := 11) (q := (RX12, TX12, 17)) (As := []) (rest := []) S hK hA hW (c_X12_thrown l D cy ad 1 n nc gO_   ) (jgo wm_L_136) yk_X12_thrown gO_ rfl rfl ⟨⟨rfl, rfl⟩, by decide, by decide⟩ rfl hl.1 rfl (Nat.le_of_ble_eq_true rfl) dL_law_378 ⟨by show (cells + 5) + 0 ≤ 601024; omega, by show (slots + 28) + 0 ≤ 7293033; omega⟩ (fun v u H locs hp hW => ?_)
    obtain ⟨rfl, rfl⟩ := hp
    refine W.eq (g2 := F0 m 381 ls [.int (nI 1)]) rfl ?_
    refine lv_iload S.1 S.2.1 dL_law_381 (lv_at hl 1 rfl) ?_
    refine jn_cmp_eq (tgt := 388) S (by omega) (by omega) dL_law_383 (by decide) (fun c_383 => ?_) (fun c_383 => ?_)
    · refine lv_iload S.1 S.2.1 dL_law_388 (lv_at hl 1 rfl) ?_
      refine jn_if_ne (tgt := 405) S (by omega) dL_law_390 (by decide) (fun c_390 => ?_) (fun c_390 => ?_)
      · refine lv_goto (tgt := 2382) S.1 S.2.1 dL_law_405 (by decide) ?_
        exact W.widen (by omega) (by omega) (kk _ _ _ _ ⟨_, _, _, _, _, _, _, _, _, _, _, _, _, _, hPI, (hCI.kept hU (by first | decide | (intro k hk; simp at hk; omega))), ⟨gx, _, _, gO_, gF_, gT_, gE_, gD_, gC0_, gC1_, gC2_, gC3_, gC4_, gP_, gK_, gV_, gR_, gU_, fun j hj => hU.get (hrow j hj) (by simp; omega), hkx⟩, hOut_, hOuD_⟩ hW (lv_sub hl [2, 3, 4, 5, 6, 7] rfl))
      · first | exact absurd (show 1 = 0 from c_390) (by decide) | exact absurd c_390 (by decide)
    · first | exact absurd (show 1 ≠ 1 from c_383) (by decide) | exact absurd c_383 (by decide)
  · have hRI := hRI.kept hU1 (fun k hk => by have := hK1 k hk; omega)
    obtain ⟨gx, rb, tu, gO, gF, gT, gE, gD, gC0, gC1, gC2, gC3, gC4, gP, gK, gV, gR, gU, hrow, hkx⟩ := hRI
    obtain ⟨hq20, a1, b1, ha1, hb1, e1, e2, hab⟩ := hq
    refine W.eq (g2 := F0 m 357 ls [.int (nI 2)]) rfl ?_
    refine lv_istore (lv' := [(6, .int (nI 2)), (0, .ref b), (1, .ref (ad 0)), (2, .ref (ad 55)), (3, .ref (ad 74)), (4, .ref (ad 75)), (5, .int (nI i))]) S.1 S.2.1 dL_law_357 hl (by decide) rfl (fun ls hl => ?_)
    refine lv_aload_n S.1 S.2.1 dL_law_359 rfl (lv_at hl 3 rfl) ?_
    refine lv_aload_n S.1 S.2.1 dL_law_360 rfl (lv_at hl 1 rfl) ?_
    refine lv_iload S.1 S.2.1 dL_law_361 (lv_at hl 6 rfl) ?_
    refine lv_iconst (v := nI 1) S.1 S.2.1 dL_law_363 (by decide) ?_
    refine jn_add S dL_law_364 ?_
    refine j_sld (x := nI a1) S hX hbl hbA hW (vp_in_nI (by omega) (by omega)) (nI_clamp (by omega)) (e1) dL_law_365 ?_
    refine lv_aload_n S.1 S.2.1 dL_law_366 rfl (lv_at hl 1 rfl) ?_
    refine lv_iload S.1 S.2.1 dL_law_367 (lv_at hl 6 rfl) ?_
    refine lv_iconst (v := nI 2) S.1 S.2.1 dL_law_369 (by decide) ?_
    refine jn_add S dL_law_370 ?_
    refine j_sld (x := nI b1) S hX hbl hbA hW (vp_in_nI (by omega) (by omega)) (nI_clamp (by omega)) (e2) dL_law_371 ?_
    refine j_callV (k := 55) (ci := 11) (q := (RX12, TX12, 17)) (As := [.int (nI a1), .int (nI b1)]) (rest := []) S hK hA hW (c_X12_addClause_b2 l D cy ad th n nc a1 b1 gO   (by omega) (by omega) (by omega) (by omega) (hab)) (jgo wm_L_146) yk_X12_addClause gO rfl rfl ⟨⟨rfl, rfl⟩, by decide, by decide⟩ rfl hl.1 rfl (Nat.le_of_ble_eq_true rfl) dL_law_372 ⟨by show (cells + 5) + 0 ≤ 601024; omega, by show (slots + 28) + 0 ≤ 7293033; omega⟩ (fun v w_ H locs hp hW => ?_)
    obtain ⟨rfl, hU1, hN1⟩ := hp
    have hU : jU w w_ [55, 56, 57, 58, 59, 60, 61, 62, 63, 64, 65, 66, 71, 72, 73, 74, 75] := jU.mono hU1 (by first | decide | (simp; done) | (simp; omega))
    have gF_ := hU1.get gF (by first | decide | (simp; done) | (simp; omega))
    have gT_ := hU1.get gT (by first | decide | (simp; done) | (simp; omega))
    have gE_ := hU1.get gE (by first | decide | (simp; done) | (simp; omega))
    have gD_ := hU1.get gD (by first | decide | (simp; done) | (simp; omega))
    have gC0_ := hU1.get gC0 (by first | decide | (simp; done) | (simp; omega))
    have gC1_ := hU1.get gC1 (by first | decide | (simp; done) | (simp; omega))
    have gC2_ := hU1.get gC2 (by first | decide | (simp; done) | (simp; omega))
    have gC3_ := hU1.get gC3 (by first | decide | (simp; done) | (simp; omega))
    have gC4_ := hU1.get gC4 (by first | decide | (simp; done) | (simp; omega))
    have gP_ := hU1.get gP (by first | decide | (simp; done) | (simp; omega))
    have gK_ := hU1.get gK (by first | decide | (simp; done) | (simp; omega))
    have gV_ := hU1.get gV (by first | decide | (simp; done) | (simp; omega))
    have gR_ := hU1.get gR (by first | decide | (simp; done) | (simp; omega))
    have gU_ := hU1.get gU (by first | decide | (simp; done) | (simp; omega))
    have hOut_ := hU1.get hOut (by first | decide | (simp; done) | (simp; omega))
    have hOuD_ := hU1.get hOuD (by first | decide | (simp; done) | (simp; omega))
    have gO_ : w_[55]? = some (ad 55, .inr (11, [.int (nI 2), .ref (ad 56), .ref (ad 57), .ref (ad 58), .ref (ad 59), .ref (ad 60), .ref (ad 61), .ref (ad 62), .ref (ad 63), .ref (ad 64), .ref (ad 65), .int (nI n), .int (nI nc), .ref (ad 66), .ref (ad 71), .ref (ad 72), .ref (ad 73)])) := hN1
    clear hU1 hN1
    refine W.eq (g2 := F0 m 375 ls [.int (nI 0)]) rfl ?_
    refine lv_istore (lv' := [(7, .int (nI 0)), (6, .int (nI 2)), (0, .ref b), (1, .ref (ad 0)), (2, .ref (ad 55)), (3, .ref (ad 74)), (4, .ref (ad 75)), (5, .int (nI i))]) S.1 S.2.1 dL_law_375 hl (by decide) rfl (fun ls hl => ?_)
    refine lv_aload_n S.1 S.2.1 dL_law_377 rfl (lv_at hl 4 rfl) ?_
    refine j_callV (k := 55) (ci := 11) (q := (RX12, TX12, 17)) (As := []) (rest := []) S hK hA hW (c_X12_thrown l D cy ad 2 n nc gO_   ) (jgo wm_L_136) yk_X12_thrown gO_ rfl rfl ⟨⟨rfl, rfl⟩, by decide, by decide⟩ rfl hl.1 rfl (Nat.le_of_ble_eq_true rfl) dL_law_378 ⟨by show (cells + 5) + 0 ≤ 601024; omega, by show (slots + 28) + 0 ≤ 7293033; omega⟩ (fun v u H locs hp hW => ?_)
    obtain ⟨rfl, rfl⟩ := hp
    refine W.eq (g2 := F0 m 381 ls [.int (nI 2)]) rfl ?_
    refine lv_iload S.1 S.2.1 dL_law_381 (lv_at hl 1 rfl) ?_
    refine jn_cmp_eq (tgt := 388) S (by omega) (by omega) dL_law_383 (by decide) (fun c_383 => ?_) (fun c_383 => ?_)
    · refine lv_iload S.1 S.2.1 dL_law_388 (lv_at hl 1 rfl) ?_
      refine jn_if_ne (tgt := 405) S (by omega) dL_law_390 (by decide) (fun c_390 => ?_) (fun c_390 => ?_)
      · refine lv_goto (tgt := 2382) S.1 S.2.1 dL_law_405 (by decide) ?_
        exact W.widen (by omega) (by omega) (kk _ _ _ _ ⟨_, _, _, _, _, _, _, _, _, _, _, _, _, _, hPI, (hCI.kept hU (by first | decide | (intro k hk; simp at hk; omega))), ⟨gx, _, _, gO_, gF_, gT_, gE_, gD_, gC0_, gC1_, gC2_, gC3_, gC4_, gP_, gK_, gV_, gR_, gU_, fun j hj => hU.get (hrow j hj) (by simp; omega), hkx⟩, hOut_, hOuD_⟩ hW (lv_sub hl [2, 3, 4, 5, 6, 7] rfl))
      · first | exact absurd (show 2 = 0 from c_390) (by decide) | exact absurd c_390 (by decide)
    · first | exact absurd (show 2 ≠ 2 from c_383) (by decide) | exact absurd c_383 (by decide)
/-- the law's addParity -/
theorem s_addParity {p : Program} {l : Launch} {e : Env} {s : State} {m : MethodId} {args : Array Value} {below : List Frame} {meth : Method} {c : Code} {Q : State → Prop} {D : va_G} {cy : Nat → ClassId} {A : Nat → Prop} {x0 : Cond} {ad : Nat → Nat} {b L : Nat} {xs : Nat → Int32} {i : Nat} {w : va_W} {H : Heap} {locs : List Loc} {ls : Array Slot} {cells slots : Nat} (htr : l.stackTraces = false) (C : LX p s m c args D cy A b L xs x0) (hI : INV ad cy w) (hW : jW D A s.heap w H locs) (hl : lv_has ls 10 [(0, .ref b), (1, .ref (ad 0)), (2, .ref (ad 55)), (3, .ref (ad 74)), (4, .ref (ad 75)), (5, .int (nI i))]) (hi : i + 5 ≤ L) (hL : L ≤ 2560) (hc : cells + 10 ≤ 601024) (hs : slots + 64 ≤ 7293033) (kk : LK p l e s m args below meth c Q D cy A ad b i cells slots) : W p l e room_1 s m args below meth c H locs cells slots Q (F0 m 408 ls []) := by
  obtain ⟨S, hK, hA, hX, hbl, hbA, hx, hnx⟩ := C
  obtain ⟨n, wf, wt, od, sd, se, nc, lv, cs, kv, kx, th, og, ogd, hPI, hCI, hRI, hOut, hOuD⟩ := hI
  have hPI0 := hPI
  obtain ⟨hn, hsdn, hse2, hnc, hlvn, hcs, hkI, hod, hodn, hinj⟩ := hPI0
  have hp2 := two_pow10 hn
  have hpt := Nat.two_pow_pos n
  have hWB := hCI.wb
  refine lv_aload_n S.1 S.2.1 dL_law_408 rfl (lv_at hl 1 rfl) ?_
  refine lv_aload_n S.1 S.2.1 dL_law_409 rfl (lv_at hl 0 rfl) ?_
  refine lv_iload S.1 S.2.1 dL_law_410 (lv_at hl 5 rfl) ?_
  refine lv_iconst (v := nI 1) S.1 S.2.1 dL_law_412 (by decide) ?_
  refine jn_add S dL_law_413 ?_
  refine j_sld (x := xs (i + 1)) S hX hbl hbA hW (vp_in_nI (by omega) (by omega)) (nI_clamp (by omega)) (rfl) dL_law_414 ?_
  refine lv_aload_n S.1 S.2.1 dL_law_415 rfl (lv_at hl 0 rfl) ?_
  refine lv_iload S.1 S.2.1 dL_law_416 (lv_at hl 5 rfl) ?_
  refine lv_iconst (v := nI 2) S.1 S.2.1 dL_law_418 (by decide) ?_
  refine jn_add S dL_law_419 ?_
  refine j_sld (x := xs (i + 2)) S hX hbl hbA hW (vp_in_nI (by omega) (by omega)) (nI_clamp (by omega)) (rfl) dL_law_420 ?_
  refine lv_aload_n S.1 S.2.1 dL_law_421 rfl (lv_at hl 3 rfl) ?_
  refine j_callH (As := [.ref (ad 0), .int (xs (i + 1)), .int (xs (i + 2)), .ref (ad 74)]) (rest := []) S hK hA hW hx hnx (h_addParity l htr D cy ad n wf wt od sd se nc lv cs kv kx (xs (i + 1)) (xs (i + 2)) _ og ogd hPI hCI hOut hOuD rfl (List.getElem?_eq_some_iff.mp hOuD).1) (jgo wm_L_147) yk_L_addParity ⟨⟨rfl, rfl⟩, by decide, by decide⟩ rfl hl.1 rfl (Nat.le_of_ble_eq_true rfl) dL_law_422 ⟨by show cells + 5 ≤ 601024; omega, by show slots + 27 ≤ 7293033; omega⟩ (fun v w H locs hp hW => ?_)
  rcases hp with ⟨a1, b1, rfl, hq0, hq1, hq2, hq3, hq4, hq5, ⟨K1, hU1, hK1⟩, hCI, hOut, hOuD⟩ | ⟨rfl, hq, ⟨K1, hU1, hK1⟩, hCI, hOut, hOuD⟩ | ⟨rfl, hq, ⟨K1, hU1, hK1⟩, hCI, hOut, hOuD⟩
  · have hRI := hRI.kept hU1 (fun k hk => by have := hK1 k hk; omega)
    obtain ⟨gx, rb, tu, gO, gF, gT, gE, gD, gC0, gC1, gC2, gC3, gC4, gP, gK, gV, gR, gU, hrow, hkx⟩ := hRI
    have hPI1 : PI n wf wt od sd se (nc + 1) (lv ||| 2 ^ nc) (upB cs nc (120, a1, 0, b1, b1)) kv kx := hPI.more hq0 ⟨Or.inr (Or.inl rfl), by show a1 < 1024; omega, by show 0 < 1024; decide, by show b1 < 1024; omega, by show b1 < 1024; omega⟩ (fun _ => rfl)
    refine W.eq (g2 := F0 m 425 ls [.int (nI 0)]) rfl ?_
    refine lv_istore (lv' := [(6, .int (nI 0)), (0, .ref b), (1, .ref (ad 0)), (2, .ref (ad 55)), (3, .ref (ad 74)), (4, .ref (ad 75)), (5, .int (nI i))]) S.1 S.2.1 dL_law_425 hl (by decide) rfl (fun ls hl => ?_)
    refine lv_aload_n S.1 S.2.1 dL_law_427 rfl (lv_at hl 3 rfl) ?_
    refine lv_aload_n S.1 S.2.1 dL_law_428 rfl (lv_at hl 1 rfl) ?_
    refine lv_iload S.1 S.2.1 dL_law_429 (lv_at hl 6 rfl) ?_
    refine lv_iconst (v := nI 1) S.1 S.2.1 dL_law_431 (by decide) ?_
    refine jn_add S dL_law_432 ?_
    refine j_sld (x := nI a1) S hX hbl hbA hW (vp_in_nI (by omega) (by omega)) (nI_clamp (by omega)) (hq2) dL_law_433 ?_
    refine lv_aload_n S.1 S.2.1 dL_law_434 rfl (lv_at hl 1 rfl) ?_
    refine lv_iload S.1 S.2.1 dL_law_435 (lv_at hl 6 rfl) ?_
    refine lv_iconst (v := nI 2) S.1 S.2.1 dL_law_437 (by decide) ?_
    refine jn_add S dL_law_438 ?_
    refine j_sld (x := nI b1) S hX hbl hbA hW (vp_in_nI (by omega) (by omega)) (nI_clamp (by omega)) (hq4) dL_law_439 ?_
    refine j_callV (k := 55) (ci := 11) (q := (RX12, TX12, 17)) (As := [.int (nI a1), .int (nI b1)]) (rest := []) S hK hA hW (c_X12_addParity_ok l D cy ad th n nc cs a1 b1 gO gC0 gC1 gC2 gC3 gC4   (by omega) (by omega) (by omega) (by omega) (by omega)) (jgo wm_L_149) yk_X12_addParity gO rfl rfl ⟨⟨rfl, rfl⟩, by decide, by decide⟩ rfl hl.1 rfl (Nat.le_of_ble_eq_true rfl) dL_law_440 ⟨by show (cells + 5) + 0 ≤ 601024; omega, by show (slots + 27) + 0 ≤ 7293033; omega⟩ (fun v w_ H locs hp hW => ?_)
    obtain ⟨rfl, hU1, hN1, hN2, hN3, hN4, hN5, hN6⟩ := hp
    have hU : jU w w_ [55, 56, 57, 58, 59, 60, 61, 62, 63, 64, 65, 66, 71, 72, 73, 74, 75] := jU.mono hU1 (by first | decide | (simp; done) | (simp; omega))
    have gF_ := hU1.get gF (by first | decide | (simp; done) | (simp; omega))
    have gT_ := hU1.get gT (by first | decide | (simp; done) | (simp; omega))
    have gE_ := hU1.get gE (by first | decide | (simp; done) | (simp; omega))
    have gD_ := hU1.get gD (by first | decide | (simp; done) | (simp; omega))
    have gP_ := hU1.get gP (by first | decide | (simp; done) | (simp; omega))
    have gK_ := hU1.get gK (by first | decide | (simp; done) | (simp; omega))
    have gV_ := hU1.get gV (by first | decide | (simp; done) | (simp; omega))
    have gR_ := hU1.get gR (by first | decide | (simp; done) | (simp; omega))
    have gU_ := hU1.get gU (by first | decide | (simp; done) | (simp; omega))
    have hOut_ := hU1.get hOut (by first | decide | (simp; done) | (simp; omega))
    have hOuD_ := hU1.get hOuD (by first | decide | (simp; done) | (simp; omega))
    have gO_ : w_[55]? = some (ad 55, .inr (11, [.int (nI 0), .ref (ad 56), .ref (ad 57), .ref (ad 58), .ref (ad 59), .ref (ad 60), .ref (ad 61), .ref (ad 62), .ref (ad 63), .ref (ad 64), .ref (ad 65), .int (nI n), .int (nI (nc + 1)), .ref (ad 66), .ref (ad 71), .ref (ad 72), .ref (ad 73)])) := hN1
    have gC0_ : w_[60]? = some (ad 60, .inl (cy 2, 20, .inl (nf (ckd (upB cs nc (120, a1, 0, b1, b1)))))) := hN2
    have gC1_ : w_[61]? = some (ad 61, .inl (cy 0, 20, .inl (nf (cst (upB cs nc (120, a1, 0, b1, b1)))))) := hN3
    have gC2_ : w_[62]? = some (ad 62, .inl (cy 0, 20, .inl (nf (cot (upB cs nc (120, a1, 0, b1, b1)))))) := hN4
    have gC3_ : w_[63]? = some (ad 63, .inl (cy 0, 20, .inl (nf (cle (upB cs nc (120, a1, 0, b1, b1)))))) := hN5
    have gC4_ : w_[64]? = some (ad 64, .inl (cy 0, 20, .inl (nf (cgr (upB cs nc (120, a1, 0, b1, b1)))))) := hN6
    clear hU1 hN1 hN2 hN3 hN4 hN5 hN6
    refine W.eq (g2 := F0 m 443 ls [.int (nI nc)]) rfl ?_
    refine lv_istore (lv' := [(7, .int (nI nc)), (6, .int (nI 0)), (0, .ref b), (1, .ref (ad 0)), (2, .ref (ad 55)), (3, .ref (ad 74)), (4, .ref (ad 75)), (5, .int (nI i))]) S.1 S.2.1 dL_law_443 hl (by decide) rfl (fun ls hl => ?_)
    refine lv_aload_n S.1 S.2.1 dL_law_445 rfl (lv_at hl 4 rfl) ?_
    refine j_callV (k := 55) (ci := 11) (q := (RX12, TX12, 17)) (As := []) (rest := []) S hK hA hW (c_X12_thrown l D cy ad 0 n (nc + 1) gO_   ) (jgo wm_L_136) yk_X12_thrown gO_ rfl rfl ⟨⟨rfl, rfl⟩, by decide, by decide⟩ rfl hl.1 rfl (Nat.le_of_ble_eq_true rfl) dL_law_446 ⟨by show (cells + 5) + 0 ≤ 601024; omega, by show (slots + 27) + 0 ≤ 7293033; omega⟩ (fun v u H locs hp hW => ?_)
    obtain ⟨rfl, rfl⟩ := hp
    refine W.eq (g2 := F0 m 449 ls [.int (nI 0)]) rfl ?_
    refine lv_iload S.1 S.2.1 dL_law_449 (lv_at hl 1 rfl) ?_
    refine jn_cmp_eq (tgt := 456) S (by omega) (by omega) dL_law_451 (by decide) (fun c_451 => ?_) (fun c_451 => ?_)
    · refine lv_iload S.1 S.2.1 dL_law_456 (lv_at hl 1 rfl) ?_
      refine jn_if_ne (tgt := 473) S (by omega) dL_law_458 (by decide) (fun c_458 => ?_) (fun c_458 => ?_)
      · first | exact absurd (show 0 ≠ 0 from c_458) (by decide) | exact absurd c_458 (by decide)
      · refine lv_aload_n S.1 S.2.1 dL_law_461 rfl (lv_at hl 5 rfl) ?_
        refine lv_iconst (v := nI 0) S.1 S.2.1 dL_law_462 (by decide) ?_
        refine j_lald (x := (nI nc).toInt64) S hK hW hOut_ (vp_in_nI (by omega) (by omega)) (nI_clamp (by omega)) (if_pos rfl) dL_law_463 ?_
        refine lv_iload S.1 S.2.1 dL_law_464 (lv_at hl 0 rfl) ?_
        refine lv_i2l (v := (nI nc).toInt64) S.1 S.2.1 dL_law_466 (rfl) ?_
        refine jl_eq (tgt := 473) S dL_law_467 dL_law_468 (by decide) (fun c_468 => ?_) (fun c_468 => ?_)
        · refine lv_goto (tgt := 2382) S.1 S.2.1 dL_law_473 (by decide) ?_
          exact W.widen (by omega) (by omega) (kk _ _ _ _ ⟨_, _, _, _, _, _, _, _, _, _, _, _, _, _, hPI1, (hCI.kept hU (by first | decide | (intro k hk; simp at hk; omega))), ⟨gx, _, _, gO_, gF_, gT_, gE_, gD_, gC0_, gC1_, gC2_, gC3_, gC4_, (by rw [dpB_add]; exact gP_), gK_, gV_, gR_, gU_, fun j hj => hU.get (hrow j hj) (by simp; omega), hkx⟩, hOut_, hOuD_⟩ hW (lv_sub hl [2, 3, 4, 5, 6, 7] rfl))
        · exact absurd rfl c_468
    · first | exact absurd (show 0 ≠ 0 from c_451) (by decide) | exact absurd c_451 (by decide)
  · have hRI := hRI.kept hU1 (fun k hk => by have := hK1 k hk; omega)
    obtain ⟨gx, rb, tu, gO, gF, gT, gE, gD, gC0, gC1, gC2, gC3, gC4, gP, gK, gV, gR, gU, hrow, hkx⟩ := hRI
    refine W.eq (g2 := F0 m 425 ls [.int (nI 1)]) rfl ?_
    refine lv_istore (lv' := [(6, .int (nI 1)), (0, .ref b), (1, .ref (ad 0)), (2, .ref (ad 55)), (3, .ref (ad 74)), (4, .ref (ad 75)), (5, .int (nI i))]) S.1 S.2.1 dL_law_425 hl (by decide) rfl (fun ls hl => ?_)
    refine lv_aload_n S.1 S.2.1 dL_law_427 rfl (lv_at hl 3 rfl) ?_
    refine lv_aload_n S.1 S.2.1 dL_law_428 rfl (lv_at hl 1 rfl) ?_
    refine lv_iload S.1 S.2.1 dL_law_429 (lv_at hl 6 rfl) ?_
    refine lv_iconst (v := nI 1) S.1 S.2.1 dL_law_431 (by decide) ?_
    refine jn_add S dL_law_432 ?_
    refine j_sld (x := xs (i + 1)) S hX hbl hbA hW (vp_in_nI (by omega) (by omega)) (nI_clamp (by omega)) (rfl) dL_law_433 ?_
    refine lv_aload_n S.1 S.2.1 dL_law_434 rfl (lv_at hl 1 rfl) ?_
    refine lv_iload S.1 S.2.1 dL_law_435 (lv_at hl 6 rfl) ?_
    refine lv_iconst (v := nI 2) S.1 S.2.1 dL_law_437 (by decide) ?_
    refine jn_add S dL_law_438 ?_
    refine j_sld (x := xs (i + 2)) S hX hbl hbA hW (vp_in_nI (by omega) (by omega)) (nI_clamp (by omega)) (rfl) dL_law_439 ?_
    refine j_callV (k := 55) (ci := 11) (q := (RX12, TX12, 17)) (As := [.int (xs (i + 1)), .int (xs (i + 2))]) (rest := []) S hK hA hW (c_X12_addParity_b1 l D cy ad th n nc (xs (i + 1)) (xs (i + 2)) gO   (by omega) (hq)) (jgo wm_L_149) yk_X12_addParity gO rfl rfl ⟨⟨rfl, rfl⟩, by decide, by decide⟩ rfl hl.1 rfl (Nat.le_of_ble_eq_true rfl) dL_law_440 ⟨by show (cells + 5) + 0 ≤ 601024; omega, by show (slots + 27) + 0 ≤ 7293033; omega⟩ (fun v w_ H locs hp hW => ?_)
    obtain ⟨rfl, hU1, hN1⟩ := hp
    have hU : jU w w_ [55, 56, 57, 58, 59, 60, 61, 62, 63, 64, 65, 66, 71, 72, 73, 74, 75] := jU.mono hU1 (by first | decide | (simp; done) | (simp; omega))
    have gF_ := hU1.get gF (by first | decide | (simp; done) | (simp; omega))
    have gT_ := hU1.get gT (by first | decide | (simp; done) | (simp; omega))
    have gE_ := hU1.get gE (by first | decide | (simp; done) | (simp; omega))
    have gD_ := hU1.get gD (by first | decide | (simp; done) | (simp; omega))
    have gC0_ := hU1.get gC0 (by first | decide | (simp; done) | (simp; omega))
    have gC1_ := hU1.get gC1 (by first | decide | (simp; done) | (simp; omega))
    have gC2_ := hU1.get gC2 (by first | decide | (simp; done) | (simp; omega))
    have gC3_ := hU1.get gC3 (by first | decide | (simp; done) | (simp; omega))
    have gC4_ := hU1.get gC4 (by first | decide | (simp; done) | (simp; omega))
    have gP_ := hU1.get gP (by first | decide | (simp; done) | (simp; omega))
    have gK_ := hU1.get gK (by first | decide | (simp; done) | (simp; omega))
    have gV_ := hU1.get gV (by first | decide | (simp; done) | (simp; omega))
    have gR_ := hU1.get gR (by first | decide | (simp; done) | (simp; omega))
    have gU_ := hU1.get gU (by first | decide | (simp; done) | (simp; omega))
    have hOut_ := hU1.get hOut (by first | decide | (simp; done) | (simp; omega))
    have hOuD_ := hU1.get hOuD (by first | decide | (simp; done) | (simp; omega))
    have gO_ : w_[55]? = some (ad 55, .inr (11, [.int (nI 1), .ref (ad 56), .ref (ad 57), .ref (ad 58), .ref (ad 59), .ref (ad 60), .ref (ad 61), .ref (ad 62), .ref (ad 63), .ref (ad 64), .ref (ad 65), .int (nI n), .int (nI nc), .ref (ad 66), .ref (ad 71), .ref (ad 72), .ref (ad 73)])) := hN1
    clear hU1 hN1
    refine W.eq (g2 := F0 m 443 ls [.int (nI 0)]) rfl ?_
    refine lv_istore (lv' := [(7, .int (nI 0)), (6, .int (nI 1)), (0, .ref b), (1, .ref (ad 0)), (2, .ref (ad 55)), (3, .ref (ad 74)), (4, .ref (ad 75)), (5, .int (nI i))]) S.1 S.2.1 dL_law_443 hl (by decide) rfl (fun ls hl => ?_)
    refine lv_aload_n S.1 S.2.1 dL_law_445 rfl (lv_at hl 4 rfl) ?_
    refine j_callV (k := 55) (ci := 11) (q := (RX12, TX12, 17)) (As := []) (rest := []) S hK hA hW (c_X12_thrown l D cy ad 1 n nc gO_   ) (jgo wm_L_136) yk_X12_thrown gO_ rfl rfl ⟨⟨rfl, rfl⟩, by decide, by decide⟩ rfl hl.1 rfl (Nat.le_of_ble_eq_true rfl) dL_law_446 ⟨by show (cells + 5) + 0 ≤ 601024; omega, by show (slots + 27) + 0 ≤ 7293033; omega⟩ (fun v u H locs hp hW => ?_)
    obtain ⟨rfl, rfl⟩ := hp
    refine W.eq (g2 := F0 m 449 ls [.int (nI 1)]) rfl ?_
    refine lv_iload S.1 S.2.1 dL_law_449 (lv_at hl 1 rfl) ?_
    refine jn_cmp_eq (tgt := 456) S (by omega) (by omega) dL_law_451 (by decide) (fun c_451 => ?_) (fun c_451 => ?_)
    · refine lv_iload S.1 S.2.1 dL_law_456 (lv_at hl 1 rfl) ?_
      refine jn_if_ne (tgt := 473) S (by omega) dL_law_458 (by decide) (fun c_458 => ?_) (fun c_458 => ?_)
      · refine lv_goto (tgt := 2382) S.1 S.2.1 dL_law_473 (by decide) ?_
        exact W.widen (by omega) (by omega) (kk _ _ _ _ ⟨_, _, _, _, _, _, _, _, _, _, _, _, _, _, hPI, (hCI.kept hU (by first | decide | (intro k hk; simp at hk; omega))), ⟨gx, _, _, gO_, gF_, gT_, gE_, gD_, gC0_, gC1_, gC2_, gC3_, gC4_, gP_, gK_, gV_, gR_, gU_, fun j hj => hU.get (hrow j hj) (by simp; omega), hkx⟩, hOut_, hOuD_⟩ hW (lv_sub hl [2, 3, 4, 5, 6, 7] rfl))
      · first | exact absurd (show 1 = 0 from c_458) (by decide) | exact absurd c_458 (by decide)
    · first | exact absurd (show 1 ≠ 1 from c_451) (by decide) | exact absurd c_451 (by decide)
  · have hRI := hRI.kept hU1 (fun k hk => by have := hK1 k hk; omega)
    obtain ⟨gx, rb, tu, gO, gF, gT, gE, gD, gC0, gC1, gC2, gC3, gC4, gP, gK, gV, gR, gU, hrow, hkx⟩ := hRI
    obtain ⟨hq20, a1, b1, ha1, hb1, e1, e2, hab⟩ := hq
    refine W.eq (g2 := F0 m 425 ls [.int (nI 2)]) rfl ?_
    refine lv_istore (lv' := [(6, .int (nI 2)), (0, .ref b), (1, .ref (ad 0)), (2, .ref (ad 55)), (3, .ref (ad 74)), (4, .ref (ad 75)), (5, .int (nI i))]) S.1 S.2.1 dL_law_425 hl (by decide) rfl (fun ls hl => ?_)
    refine lv_aload_n S.1 S.2.1 dL_law_427 rfl (lv_at hl 3 rfl) ?_
    refine lv_aload_n S.1 S.2.1 dL_law_428 rfl (lv_at hl 1 rfl) ?_
    refine lv_iload S.1 S.2.1 dL_law_429 (lv_at hl 6 rfl) ?_
    refine lv_iconst (v := nI 1) S.1 S.2.1 dL_law_431 (by decide) ?_
    refine jn_add S dL_law_432 ?_
    refine j_sld (x := nI a1) S hX hbl hbA hW (vp_in_nI (by omega) (by omega)) (nI_clamp (by omega)) (e1) dL_law_433 ?_
    refine lv_aload_n S.1 S.2.1 dL_law_434 rfl (lv_at hl 1 rfl) ?_
    refine lv_iload S.1 S.2.1 dL_law_435 (lv_at hl 6 rfl) ?_
    refine lv_iconst (v := nI 2) S.1 S.2.1 dL_law_437 (by decide) ?_
    refine jn_add S dL_law_438 ?_
    refine j_sld (x := nI b1) S hX hbl hbA hW (vp_in_nI (by omega) (by omega)) (nI_clamp (by omega)) (e2) dL_law_439 ?_
    refine j_callV (k := 55) (ci := 11) (q := (RX12, TX12, 17)) (As := [.int (nI a1), .int (nI b1)]) (rest := []) S hK hA hW (c_X12_addParity_b2 l D cy ad th n nc a1 b1 gO   (by omega) (by omega) (by omega) (by omega) (by omega)) (jgo wm_L_149) yk_X12_addParity gO rfl rfl ⟨⟨rfl, rfl⟩, by decide, by decide⟩ rfl hl.1 rfl (Nat.le_of_ble_eq_true rfl) dL_law_440 ⟨by show (cells + 5) + 0 ≤ 601024; omega, by show (slots + 27) + 0 ≤ 7293033; omega⟩ (fun v w_ H locs hp hW => ?_)
    obtain ⟨rfl, hU1, hN1⟩ := hp
    have hU : jU w w_ [55, 56, 57, 58, 59, 60, 61, 62, 63, 64, 65, 66, 71, 72, 73, 74, 75] := jU.mono hU1 (by first | decide | (simp; done) | (simp; omega))
    have gF_ := hU1.get gF (by first | decide | (simp; done) | (simp; omega))
    have gT_ := hU1.get gT (by first | decide | (simp; done) | (simp; omega))
    have gE_ := hU1.get gE (by first | decide | (simp; done) | (simp; omega))
    have gD_ := hU1.get gD (by first | decide | (simp; done) | (simp; omega))
    have gC0_ := hU1.get gC0 (by first | decide | (simp; done) | (simp; omega))
    have gC1_ := hU1.get gC1 (by first | decide | (simp; done) | (simp; omega))
    have gC2_ := hU1.get gC2 (by first | decide | (simp; done) | (simp; omega))
    have gC3_ := hU1.get gC3 (by first | decide | (simp; done) | (simp; omega))
    have gC4_ := hU1.get gC4 (by first | decide | (simp; done) | (simp; omega))
    have gP_ := hU1.get gP (by first | decide | (simp; done) | (simp; omega))
    have gK_ := hU1.get gK (by first | decide | (simp; done) | (simp; omega))
    have gV_ := hU1.get gV (by first | decide | (simp; done) | (simp; omega))
    have gR_ := hU1.get gR (by first | decide | (simp; done) | (simp; omega))
    have gU_ := hU1.get gU (by first | decide | (simp; done) | (simp; omega))
    have hOut_ := hU1.get hOut (by first | decide | (simp; done) | (simp; omega))
    have hOuD_ := hU1.get hOuD (by first | decide | (simp; done) | (simp; omega))
    have gO_ : w_[55]? = some (ad 55, .inr (11, [.int (nI 2), .ref (ad 56), .ref (ad 57), .ref (ad 58), .ref (ad 59), .ref (ad 60), .ref (ad 61), .ref (ad 62), .ref (ad 63), .ref (ad 64), .ref (ad 65), .int (nI n), .int (nI nc), .ref (ad 66), .ref (ad 71), .ref (ad 72), .ref (ad 73)])) := hN1
    clear hU1 hN1
    refine W.eq (g2 := F0 m 443 ls [.int (nI 0)]) rfl ?_
    refine lv_istore (lv' := [(7, .int (nI 0)), (6, .int (nI 2)), (0, .ref b), (1, .ref (ad 0)), (2, .ref (ad 55)), (3, .ref (ad 74)), (4, .ref (ad 75)), (5, .int (nI i))]) S.1 S.2.1 dL_law_443 hl (by decide) rfl (fun ls hl => ?_)
    refine lv_aload_n S.1 S.2.1 dL_law_445 rfl (lv_at hl 4 rfl) ?_
    refine j_callV (k := 55) (ci := 11) (q := (RX12, TX12, 17)) (As := []) (rest := []) S hK hA hW (c_X12_thrown l D cy ad 2 n nc gO_   ) (jgo wm_L_136) yk_X12_thrown gO_ rfl rfl ⟨⟨rfl, rfl⟩, by decide, by decide⟩ rfl hl.1 rfl (Nat.le_of_ble_eq_true rfl) dL_law_446 ⟨by show (cells + 5) + 0 ≤ 601024; omega, by show (slots + 27) + 0 ≤ 7293033; omega⟩ (fun v u H locs hp hW => ?_)
    obtain ⟨rfl, rfl⟩ := hp
    refine W.eq (g2 := F0 m 449 ls [.int (nI 2)]) rfl ?_
    refine lv_iload S.1 S.2.1 dL_law_449 (lv_at hl 1 rfl) ?_
    refine jn_cmp_eq (tgt := 456) S (by omega) (by omega) dL_law_451 (by decide) (fun c_451 => ?_) (fun c_451 => ?_)
    · refine lv_iload S.1 S.2.1 dL_law_456 (lv_at hl 1 rfl) ?_
      refine jn_if_ne (tgt := 473) S (by omega) dL_law_458 (by decide) (fun c_458 => ?_) (fun c_458 => ?_)
      · refine lv_goto (tgt := 2382) S.1 S.2.1 dL_law_473 (by decide) ?_
        exact W.widen (by omega) (by omega) (kk _ _ _ _ ⟨_, _, _, _, _, _, _, _, _, _, _, _, _, _, hPI, (hCI.kept hU (by first | decide | (intro k hk; simp at hk; omega))), ⟨gx, _, _, gO_, gF_, gT_, gE_, gD_, gC0_, gC1_, gC2_, gC3_, gC4_, gP_, gK_, gV_, gR_, gU_, fun j hj => hU.get (hrow j hj) (by simp; omega), hkx⟩, hOut_, hOuD_⟩ hW (lv_sub hl [2, 3, 4, 5, 6, 7] rfl))
      · first | exact absurd (show 2 = 0 from c_458) (by decide) | exact absurd c_458 (by decide)
    · first | exact absurd (show 2 ≠ 2 from c_451) (by decide) | exact absurd c_451 (by decide)
/-- the law's addBound -/
theorem s_addBound {p : Program} {l : Launch} {e : Env} {s : State} {m : MethodId} {args : Array Value} {below : List Frame} {meth : Method} {c : Code} {Q : State → Prop} {D : va_G} {cy : Nat → ClassId} {A : Nat → Prop} {x0 : Cond} {ad : Nat → Nat} {b L : Nat} {xs : Nat → Int32} {i : Nat} {w : va_W} {H : Heap} {locs : List Loc} {ls : Array Slot} {cells slots : Nat} (htr : l.stackTraces = false) (C : LX p s m c args D cy A b L xs x0) (hI : INV ad cy w) (hW : jW D A s.heap w H locs) (hl : lv_has ls 10 [(0, .ref b), (1, .ref (ad 0)), (2, .ref (ad 55)), (3, .ref (ad 74)), (4, .ref (ad 75)), (5, .int (nI i))]) (hi : i + 5 ≤ L) (hL : L ≤ 2560) (hc : cells + 10 ≤ 601024) (hs : slots + 64 ≤ 7293033) (kk : LK p l e s m args below meth c Q D cy A ad b i cells slots) : W p l e room_1 s m args below meth c H locs cells slots Q (F0 m 476 ls []) := by
  obtain ⟨S, hK, hA, hX, hbl, hbA, hx, hnx⟩ := C
  obtain ⟨n, wf, wt, od, sd, se, nc, lv, cs, kv, kx, th, og, ogd, hPI, hCI, hRI, hOut, hOuD⟩ := hI
  have hPI0 := hPI
  obtain ⟨hn, hsdn, hse2, hnc, hlvn, hcs, hkI, hod, hodn, hinj⟩ := hPI0
  have hp2 := two_pow10 hn
  have hpt := Nat.two_pow_pos n
  have hWB := hCI.wb
  refine lv_aload_n S.1 S.2.1 dL_law_476 rfl (lv_at hl 1 rfl) ?_
  refine lv_aload_n S.1 S.2.1 dL_law_477 rfl (lv_at hl 0 rfl) ?_
  refine lv_iload S.1 S.2.1 dL_law_478 (lv_at hl 5 rfl) ?_
  refine lv_iconst (v := nI 1) S.1 S.2.1 dL_law_480 (by decide) ?_
  refine jn_add S dL_law_481 ?_
  refine j_sld (x := xs (i + 1)) S hX hbl hbA hW (vp_in_nI (by omega) (by omega)) (nI_clamp (by omega)) (rfl) dL_law_482 ?_
  refine lv_aload_n S.1 S.2.1 dL_law_483 rfl (lv_at hl 0 rfl) ?_
  refine lv_iload S.1 S.2.1 dL_law_484 (lv_at hl 5 rfl) ?_
  refine lv_iconst (v := nI 2) S.1 S.2.1 dL_law_486 (by decide) ?_
  refine jn_add S dL_law_487 ?_
  refine j_sld (x := xs (i + 2)) S hX hbl hbA hW (vp_in_nI (by omega) (by omega)) (nI_clamp (by omega)) (rfl) dL_law_488 ?_
  refine lv_aload_n S.1 S.2.1 dL_law_489 rfl (lv_at hl 0 rfl) ?_
  refine lv_iload S.1 S.2.1 dL_law_490 (lv_at hl 5 rfl) ?_
  refine lv_iconst (v := nI 3) S.1 S.2.1 dL_law_492 (by decide) ?_
  refine jn_add S dL_law_493 ?_
  refine j_sld (x := xs (i + 3)) S hX hbl hbA hW (vp_in_nI (by omega) (by omega)) (nI_clamp (by omega)) (rfl) dL_law_494 ?_
  refine lv_aload_n S.1 S.2.1 dL_law_495 rfl (lv_at hl 3 rfl) ?_
  refine j_callH (As := [.ref (ad 0), .int (xs (i + 1)), .int (xs (i + 2)), .int (xs (i + 3)), .ref (ad 74)]) (rest := []) S hK hA hW hx hnx (h_addBound l htr D cy ad n wf wt od sd se nc lv cs kv kx (xs (i + 1)) (xs (i + 2)) (xs (i + 3)) _ og ogd hPI hCI hOut hOuD rfl (List.getElem?_eq_some_iff.mp hOuD).1) (jgo wm_L_150) yk_L_addBound ⟨⟨rfl, rfl⟩, by decide, by decide⟩ rfl hl.1 rfl (Nat.le_of_ble_eq_true rfl) dL_law_496 ⟨by show cells + 5 ≤ 601024; omega, by show slots + 28 ≤ 7293033; omega⟩ (fun v w H locs hp hW => ?_)
  rcases hp with ⟨a1, b1, d1, rfl, hq0, hq1, hq2, hq3, hq4, hq5, hq6, hq7, ⟨K1, hU1, hK1⟩, hCI, hOut, hOuD⟩ | ⟨rfl, hq, ⟨K1, hU1, hK1⟩, hCI, hOut, hOuD⟩ | ⟨rfl, hq, ⟨K1, hU1, hK1⟩, hCI, hOut, hOuD⟩
  · have hRI := hRI.kept hU1 (fun k hk => by have := hK1 k hk; omega)
    obtain ⟨gx, rb, tu, gO, gF, gT, gE, gD, gC0, gC1, gC2, gC3, gC4, gP, gK, gV, gR, gU, hrow, hkx⟩ := hRI
    have hPI1 : PI n wf wt od sd se (nc + 1) (lv ||| 2 ^ nc) (upB cs nc (107, a1, 0, b1, d1)) kv kx := hPI.more hq0 ⟨Or.inr (Or.inr rfl), by show a1 < 1024; omega, by show 0 < 1024; decide, by show b1 < 1024; omega, by show d1 < 1024; omega⟩ (fun _ => rfl)
    refine W.eq (g2 := F0 m 499 ls [.int (nI 0)]) rfl ?_
    refine lv_istore (lv' := [(6, .int (nI 0)), (0, .ref b), (1, .ref (ad 0)), (2, .ref (ad 55)), (3, .ref (ad 74)), (4, .ref (ad 75)), (5, .int (nI i))]) S.1 S.2.1 dL_law_499 hl (by decide) rfl (fun ls hl => ?_)
    refine lv_aload_n S.1 S.2.1 dL_law_501 rfl (lv_at hl 3 rfl) ?_
    refine lv_aload_n S.1 S.2.1 dL_law_502 rfl (lv_at hl 1 rfl) ?_
    refine lv_iload S.1 S.2.1 dL_law_503 (lv_at hl 6 rfl) ?_
    refine lv_iconst (v := nI 1) S.1 S.2.1 dL_law_505 (by decide) ?_
    refine jn_add S dL_law_506 ?_
    refine j_sld (x := nI a1) S hX hbl hbA hW (vp_in_nI (by omega) (by omega)) (nI_clamp (by omega)) (hq2) dL_law_507 ?_
    refine lv_aload_n S.1 S.2.1 dL_law_508 rfl (lv_at hl 1 rfl) ?_
    refine lv_iload S.1 S.2.1 dL_law_509 (lv_at hl 6 rfl) ?_
    refine lv_iconst (v := nI 2) S.1 S.2.1 dL_law_511 (by decide) ?_
    refine jn_add S dL_law_512 ?_
    refine j_sld (x := nI b1) S hX hbl hbA hW (vp_in_nI (by omega) (by omega)) (nI_clamp (by omega)) (hq5) dL_law_513 ?_
    refine lv_aload_n S.1 S.2.1 dL_law_514 rfl (lv_at hl 1 rfl) ?_
    refine lv_iload S.1 S.2.1 dL_law_515 (lv_at hl 6 rfl) ?_
    refine lv_iconst (v := nI 3) S.1 S.2.1 dL_law_517 (by decide) ?_
    refine jn_add S dL_law_518 ?_
    refine j_sld (x := nI d1) S hX hbl hbA hW (vp_in_nI (by omega) (by omega)) (nI_clamp (by omega)) (hq6) dL_law_519 ?_
    refine j_callV (k := 55) (ci := 11) (q := (RX12, TX12, 17)) (As := [.int (nI a1), .int (nI b1), .int (nI d1)]) (rest := []) S hK hA hW (c_X12_addBound_ok l D cy ad th n nc cs a1 b1 d1 gO gC0 gC1 gC2 gC3 gC4   (by omega) (by omega) (by omega) (⟨hq3, hq4⟩) (by omega)) (jgo wm_L_152) yk_X12_addBound gO rfl rfl ⟨⟨rfl, rfl⟩, by decide, by decide⟩ rfl hl.1 rfl (Nat.le_of_ble_eq_true rfl) dL_law_520 ⟨by show (cells + 5) + 0 ≤ 601024; omega, by show (slots + 28) + 0 ≤ 7293033; omega⟩ (fun v w_ H locs hp hW => ?_)
    obtain ⟨rfl, hU1, hN1, hN2, hN3, hN4, hN5, hN6⟩ := hp
    have hU : jU w w_ [55, 56, 57, 58, 59, 60, 61, 62, 63, 64, 65, 66, 71, 72, 73, 74, 75] := jU.mono hU1 (by first | decide | (simp; done) | (simp; omega))
    have gF_ := hU1.get gF (by first | decide | (simp; done) | (simp; omega))
    have gT_ := hU1.get gT (by first | decide | (simp; done) | (simp; omega))
    have gE_ := hU1.get gE (by first | decide | (simp; done) | (simp; omega))
    have gD_ := hU1.get gD (by first | decide | (simp; done) | (simp; omega))
    have gP_ := hU1.get gP (by first | decide | (simp; done) | (simp; omega))
    have gK_ := hU1.get gK (by first | decide | (simp; done) | (simp; omega))
    have gV_ := hU1.get gV (by first | decide | (simp; done) | (simp; omega))
    have gR_ := hU1.get gR (by first | decide | (simp; done) | (simp; omega))
    have gU_ := hU1.get gU (by first | decide | (simp; done) | (simp; omega))
    have hOut_ := hU1.get hOut (by first | decide | (simp; done) | (simp; omega))
    have hOuD_ := hU1.get hOuD (by first | decide | (simp; done) | (simp; omega))
    have gO_ : w_[55]? = some (ad 55, .inr (11, [.int (nI 0), .ref (ad 56), .ref (ad 57), .ref (ad 58), .ref (ad 59), .ref (ad 60), .ref (ad 61), .ref (ad 62), .ref (ad 63), .ref (ad 64), .ref (ad 65), .int (nI n), .int (nI (nc + 1)), .ref (ad 66), .ref (ad 71), .ref (ad 72), .ref (ad 73)])) := hN1
    have gC0_ : w_[60]? = some (ad 60, .inl (cy 2, 20, .inl (nf (ckd (upB cs nc (107, a1, 0, b1, d1)))))) := hN2
    have gC1_ : w_[61]? = some (ad 61, .inl (cy 0, 20, .inl (nf (cst (upB cs nc (107, a1, 0, b1, d1)))))) := hN3
    have gC2_ : w_[62]? = some (ad 62, .inl (cy 0, 20, .inl (nf (cot (upB cs nc (107, a1, 0, b1, d1)))))) := hN4
    have gC3_ : w_[63]? = some (ad 63, .inl (cy 0, 20, .inl (nf (cle (upB cs nc (107, a1, 0, b1, d1)))))) := hN5
    have gC4_ : w_[64]? = some (ad 64, .inl (cy 0, 20, .inl (nf (cgr (upB cs nc (107, a1, 0, b1, d1)))))) := hN6
    clear hU1 hN1 hN2 hN3 hN4 hN5 hN6
    refine W.eq (g2 := F0 m 523 ls [.int (nI nc)]) rfl ?_
    refine lv_istore (lv' := [(7, .int (nI nc)), (6, .int (nI 0)), (0, .ref b), (1, .ref (ad 0)), (2, .ref (ad 55)), (3, .ref (ad 74)), (4, .ref (ad 75)), (5, .int (nI i))]) S.1 S.2.1 dL_law_523 hl (by decide) rfl (fun ls hl => ?_)
    refine lv_aload_n S.1 S.2.1 dL_law_525 rfl (lv_at hl 4 rfl) ?_
    refine j_callV (k := 55) (ci := 11) (q := (RX12, TX12, 17)) (As := []) (rest := []) S hK hA hW (c_X12_thrown l D cy ad 0 n (nc + 1) gO_   ) (jgo wm_L_136) yk_X12_thrown gO_ rfl rfl ⟨⟨rfl, rfl⟩, by decide, by decide⟩ rfl hl.1 rfl (Nat.le_of_ble_eq_true rfl) dL_law_526 ⟨by show (cells + 5) + 0 ≤ 601024; omega, by show (slots + 28) + 0 ≤ 7293033; omega⟩ (fun v u H locs hp hW => ?_)
    obtain ⟨rfl, rfl⟩ := hp
    refine W.eq (g2 := F0 m 529 ls [.int (nI 0)]) rfl ?_
    refine lv_iload S.1 S.2.1 dL_law_529 (lv_at hl 1 rfl) ?_
    refine jn_cmp_eq (tgt := 536) S (by omega) (by omega) dL_law_531 (by decide) (fun c_531 => ?_) (fun c_531 => ?_)
    · refine lv_iload S.1 S.2.1 dL_law_536 (lv_at hl 1 rfl) ?_
      refine jn_if_ne (tgt := 553) S (by omega) dL_law_538 (by decide) (fun c_538 => ?_) (fun c_538 => ?_)
      · first | exact absurd (show 0 ≠ 0 from c_538) (by decide) | exact absurd c_538 (by decide)
      · refine lv_aload_n S.1 S.2.1 dL_law_541 rfl (lv_at hl 5 rfl) ?_
        refine lv_iconst (v := nI 0) S.1 S.2.1 dL_law_542 (by decide) ?_
        refine j_lald (x := (nI nc).toInt64) S hK hW hOut_ (vp_in_nI (by omega) (by omega)) (nI_clamp (by omega)) (if_pos rfl) dL_law_543 ?_
        refine lv_iload S.1 S.2.1 dL_law_544 (lv_at hl 0 rfl) ?_
        refine lv_i2l (v := (nI nc).toInt64) S.1 S.2.1 dL_law_546 (rfl) ?_
        refine jl_eq (tgt := 553) S dL_law_547 dL_law_548 (by decide) (fun c_548 => ?_) (fun c_548 => ?_)
        · refine lv_goto (tgt := 2382) S.1 S.2.1 dL_law_553 (by decide) ?_
          exact W.widen (by omega) (by omega) (kk _ _ _ _ ⟨_, _, _, _, _, _, _, _, _, _, _, _, _, _, hPI1, (hCI.kept hU (by first | decide | (intro k hk; simp at hk; omega))), ⟨gx, _, _, gO_, gF_, gT_, gE_, gD_, gC0_, gC1_, gC2_, gC3_, gC4_, (by rw [dpB_add]; exact gP_), gK_, gV_, gR_, gU_, fun j hj => hU.get (hrow j hj) (by simp; omega), hkx⟩, hOut_, hOuD_⟩ hW (lv_sub hl [2, 3, 4, 5, 6, 7] rfl))
        · exact absurd rfl c_548
    · first | exact absurd (show 0 ≠ 0 from c_531) (by decide) | exact absurd c_531 (by decide)
  · have hRI := hRI.kept hU1 (fun k hk => by have := hK1 k hk; omega)
    obtain ⟨gx, rb, tu, gO, gF, gT, gE, gD, gC0, gC1, gC2, gC3, gC4, gP, gK, gV, gR, gU, hrow, hkx⟩ := hRI
    refine W.eq (g2 := F0 m 499 ls [.int (nI 1)]) rfl ?_
    refine lv_istore (lv' := [(6, .int (nI 1)), (0, .ref b), (1, .ref (ad 0)), (2, .ref (ad 55)), (3, .ref (ad 74)), (4, .ref (ad 75)), (5, .int (nI i))]) S.1 S.2.1 dL_law_499 hl (by decide) rfl (fun ls hl => ?_)
    refine lv_aload_n S.1 S.2.1 dL_law_501 rfl (lv_at hl 3 rfl) ?_
    refine lv_aload_n S.1 S.2.1 dL_law_502 rfl (lv_at hl 1 rfl) ?_
    refine lv_iload S.1 S.2.1 dL_law_503 (lv_at hl 6 rfl) ?_
    refine lv_iconst (v := nI 1) S.1 S.2.1 dL_law_505 (by decide) ?_
    refine jn_add S dL_law_506 ?_
    refine j_sld (x := xs (i + 1)) S hX hbl hbA hW (vp_in_nI (by omega) (by omega)) (nI_clamp (by omega)) (rfl) dL_law_507 ?_
    refine lv_aload_n S.1 S.2.1 dL_law_508 rfl (lv_at hl 1 rfl) ?_
    refine lv_iload S.1 S.2.1 dL_law_509 (lv_at hl 6 rfl) ?_
    refine lv_iconst (v := nI 2) S.1 S.2.1 dL_law_511 (by decide) ?_
    refine jn_add S dL_law_512 ?_
    refine j_sld (x := xs (i + 2)) S hX hbl hbA hW (vp_in_nI (by omega) (by omega)) (nI_clamp (by omega)) (rfl) dL_law_513 ?_
    refine lv_aload_n S.1 S.2.1 dL_law_514 rfl (lv_at hl 1 rfl) ?_
    refine lv_iload S.1 S.2.1 dL_law_515 (lv_at hl 6 rfl) ?_
    refine lv_iconst (v := nI 3) S.1 S.2.1 dL_law_517 (by decide) ?_
    refine jn_add S dL_law_518 ?_
    refine j_sld (x := xs (i + 3)) S hX hbl hbA hW (vp_in_nI (by omega) (by omega)) (nI_clamp (by omega)) (rfl) dL_law_519 ?_
    refine j_callV (k := 55) (ci := 11) (q := (RX12, TX12, 17)) (As := [.int (xs (i + 1)), .int (xs (i + 2)), .int (xs (i + 3))]) (rest := []) S hK hA hW (c_X12_addBound_b1 l D cy ad th n nc (xs (i + 1)) (xs (i + 2)) (xs (i + 3)) gO   (by omega) (hq)) (jgo wm_L_152) yk_X12_addBound gO rfl rfl ⟨⟨rfl, rfl⟩, by decide, by decide⟩ rfl hl.1 rfl (Nat.le_of_ble_eq_true rfl) dL_law_520 ⟨by show (cells + 5) + 0 ≤ 601024; omega, by show (slots + 28) + 0 ≤ 7293033; omega⟩ (fun v w_ H locs hp hW => ?_)
    obtain ⟨rfl, hU1, hN1⟩ := hp
    have hU : jU w w_ [55, 56, 57, 58, 59, 60, 61, 62, 63, 64, 65, 66, 71, 72, 73, 74, 75] := jU.mono hU1 (by first | decide | (simp; done) | (simp; omega))
    have gF_ := hU1.get gF (by first | decide | (simp; done) | (simp; omega))
    have gT_ := hU1.get gT (by first | decide | (simp; done) | (simp; omega))
    have gE_ := hU1.get gE (by first | decide | (simp; done) | (simp; omega))
    have gD_ := hU1.get gD (by first | decide | (simp; done) | (simp; omega))
    have gC0_ := hU1.get gC0 (by first | decide | (simp; done) | (simp; omega))
    have gC1_ := hU1.get gC1 (by first | decide | (simp; done) | (simp; omega))
    have gC2_ := hU1.get gC2 (by first | decide | (simp; done) | (simp; omega))
    have gC3_ := hU1.get gC3 (by first | decide | (simp; done) | (simp; omega))
    have gC4_ := hU1.get gC4 (by first | decide | (simp; done) | (simp; omega))
    have gP_ := hU1.get gP (by first | decide | (simp; done) | (simp; omega))
    have gK_ := hU1.get gK (by first | decide | (simp; done) | (simp; omega))
    have gV_ := hU1.get gV (by first | decide | (simp; done) | (simp; omega))
    have gR_ := hU1.get gR (by first | decide | (simp; done) | (simp; omega))
    have gU_ := hU1.get gU (by first | decide | (simp; done) | (simp; omega))
    have hOut_ := hU1.get hOut (by first | decide | (simp; done) | (simp; omega))
    have hOuD_ := hU1.get hOuD (by first | decide | (simp; done) | (simp; omega))
    have gO_ : w_[55]? = some (ad 55, .inr (11, [.int (nI 1), .ref (ad 56), .ref (ad 57), .ref (ad 58), .ref (ad 59), .ref (ad 60), .ref (ad 61), .ref (ad 62), .ref (ad 63), .ref (ad 64), .ref (ad 65), .int (nI n), .int (nI nc), .ref (ad 66), .ref (ad 71), .ref (ad 72), .ref (ad 73)])) := hN1
    clear hU1 hN1
    refine W.eq (g2 := F0 m 523 ls [.int (nI 0)]) rfl ?_
    refine lv_istore (lv' := [(7, .int (nI 0)), (6, .int (nI 1)), (0, .ref b), (1, .ref (ad 0)), (2, .ref (ad 55)), (3, .ref (ad 74)), (4, .ref (ad 75)), (5, .int (nI i))]) S.1 S.2.1 dL_law_523 hl (by decide) rfl (fun ls hl => ?_)
    refine lv_aload_n S.1 S.2.1 dL_law_525 rfl (lv_at hl 4 rfl) ?_
    refine j_callV (k := 55) (ci := 11) (q := (RX12, TX12, 17)) (As := []) (rest := []) S hK hA hW (c_X12_thrown l D cy ad 1 n nc gO_   ) (jgo wm_L_136) yk_X12_thrown gO_ rfl rfl ⟨⟨rfl, rfl⟩, by decide, by decide⟩ rfl hl.1 rfl (Nat.le_of_ble_eq_true rfl) dL_law_526 ⟨by show (cells + 5) + 0 ≤ 601024; omega, by show (slots + 28) + 0 ≤ 7293033; omega⟩ (fun v u H locs hp hW => ?_)
    obtain ⟨rfl, rfl⟩ := hp
    refine W.eq (g2 := F0 m 529 ls [.int (nI 1)]) rfl ?_
    refine lv_iload S.1 S.2.1 dL_law_529 (lv_at hl 1 rfl) ?_
    refine jn_cmp_eq (tgt := 536) S (by omega) (by omega) dL_law_531 (by decide) (fun c_531 => ?_) (fun c_531 => ?_)
    · refine lv_iload S.1 S.2.1 dL_law_536 (lv_at hl 1 rfl) ?_
      refine jn_if_ne (tgt := 553) S (by omega) dL_law_538 (by decide) (fun c_538 => ?_) (fun c_538 => ?_)
      · refine lv_goto (tgt := 2382) S.1 S.2.1 dL_law_553 (by decide) ?_
        exact W.widen (by omega) (by omega) (kk _ _ _ _ ⟨_, _, _, _, _, _, _, _, _, _, _, _, _, _, hPI, (hCI.kept hU (by first | decide | (intro k hk; simp at hk; omega))), ⟨gx, _, _, gO_, gF_, gT_, gE_, gD_, gC0_, gC1_, gC2_, gC3_, gC4_, gP_, gK_, gV_, gR_, gU_, fun j hj => hU.get (hrow j hj) (by simp; omega), hkx⟩, hOut_, hOuD_⟩ hW (lv_sub hl [2, 3, 4, 5, 6, 7] rfl))
      · first | exact absurd (show 1 = 0 from c_538) (by decide) | exact absurd c_538 (by decide)
    · first | exact absurd (show 1 ≠ 1 from c_531) (by decide) | exact absurd c_531 (by decide)
  · have hRI := hRI.kept hU1 (fun k hk => by have := hK1 k hk; omega)
    obtain ⟨gx, rb, tu, gO, gF, gT, gE, gD, gC0, gC1, gC2, gC3, gC4, gP, gK, gV, gR, gU, hrow, hkx⟩ := hRI
    obtain ⟨hq20, a1, b1, d1, ha1, hb1, hd1, e1, e2, e3, hab⟩ := hq
    refine W.eq (g2 := F0 m 499 ls [.int (nI 2)]) rfl ?_
    refine lv_istore (lv' := [(6, .int (nI 2)), (0, .ref b), (1, .ref (ad 0)), (2, .ref (ad 55)), (3, .ref (ad 74)), (4, .ref (ad 75)), (5, .int (nI i))]) S.1 S.2.1 dL_law_499 hl (by decide) rfl (fun ls hl => ?_)
    refine lv_aload_n S.1 S.2.1 dL_law_501 rfl (lv_at hl 3 rfl) ?_
    refine lv_aload_n S.1 S.2.1 dL_law_502 rfl (lv_at hl 1 rfl) ?_
    refine lv_iload S.1 S.2.1 dL_law_503 (lv_at hl 6 rfl) ?_
    refine lv_iconst (v := nI 1) S.1 S.2.1 dL_law_505 (by decide) ?_
    refine jn_add S dL_law_506 ?_
    refine j_sld (x := nI a1) S hX hbl hbA hW (vp_in_nI (by omega) (by omega)) (nI_clamp (by omega)) (e1) dL_law_507 ?_
    refine lv_aload_n S.1 S.2.1 dL_law_508 rfl (lv_at hl 1 rfl) ?_
    refine lv_iload S.1 S.2.1 dL_law_509 (lv_at hl 6 rfl) ?_
    refine lv_iconst (v := nI 2) S.1 S.2.1 dL_law_511 (by decide) ?_
    refine jn_add S dL_law_512 ?_
    refine j_sld (x := nI b1) S hX hbl hbA hW (vp_in_nI (by omega) (by omega)) (nI_clamp (by omega)) (e2) dL_law_513 ?_
    refine lv_aload_n S.1 S.2.1 dL_law_514 rfl (lv_at hl 1 rfl) ?_
    refine lv_iload S.1 S.2.1 dL_law_515 (lv_at hl 6 rfl) ?_
    refine lv_iconst (v := nI 3) S.1 S.2.1 dL_law_517 (by decide) ?_
    refine jn_add S dL_law_518 ?_
    refine j_sld (x := nI d1) S hX hbl hbA hW (vp_in_nI (by omega) (by omega)) (nI_clamp (by omega)) (e3) dL_law_519 ?_
    refine j_callV (k := 55) (ci := 11) (q := (RX12, TX12, 17)) (As := [.int (nI a1), .int (nI b1), .int (nI d1)]) (rest := []) S hK hA hW (c_X12_addBound_b2 l D cy ad th n nc a1 b1 d1 gO   (by omega) (by omega) (by omega) (⟨hb1, hd1⟩) (by omega)) (jgo wm_L_152) yk_X12_addBound gO rfl rfl ⟨⟨rfl, rfl⟩, by decide, by decide⟩ rfl hl.1 rfl (Nat.le_of_ble_eq_true rfl) dL_law_520 ⟨by show (cells + 5) + 0 ≤ 601024; omega, by show (slots + 28) + 0 ≤ 7293033; omega⟩ (fun v w_ H locs hp hW => ?_)
    obtain ⟨rfl, hU1, hN1⟩ := hp
    have hU : jU w w_ [55, 56, 57, 58, 59, 60, 61, 62, 63, 64, 65, 66, 71, 72, 73, 74, 75] := jU.mono hU1 (by first | decide | (simp; done) | (simp; omega))
    have gF_ := hU1.get gF (by first | decide | (simp; done) | (simp; omega))
    have gT_ := hU1.get gT (by first | decide | (simp; done) | (simp; omega))
    have gE_ := hU1.get gE (by first | decide | (simp; done) | (simp; omega))
    have gD_ := hU1.get gD (by first | decide | (simp; done) | (simp; omega))
    have gC0_ := hU1.get gC0 (by first | decide | (simp; done) | (simp; omega))
    have gC1_ := hU1.get gC1 (by first | decide | (simp; done) | (simp; omega))
    have gC2_ := hU1.get gC2 (by first | decide | (simp; done) | (simp; omega))
    have gC3_ := hU1.get gC3 (by first | decide | (simp; done) | (simp; omega))
    have gC4_ := hU1.get gC4 (by first | decide | (simp; done) | (simp; omega))
    have gP_ := hU1.get gP (by first | decide | (simp; done) | (simp; omega))
    have gK_ := hU1.get gK (by first | decide | (simp; done) | (simp; omega))
    have gV_ := hU1.get gV (by first | decide | (simp; done) | (simp; omega))
    have gR_ := hU1.get gR (by first | decide | (simp; done) | (simp; omega))
    have gU_ := hU1.get gU (by first | decide | (simp; done) | (simp; omega))
    have hOut_ := hU1.get hOut (by first | decide | (simp; done) | (simp; omega))
    have hOuD_ := hU1.get hOuD (by first | decide | (simp; done) | (simp; omega))
    have gO_ : w_[55]? = some (ad 55, .inr (11, [.int (nI 2), .ref (ad 56), .ref (ad 57), .ref (ad 58), .ref (ad 59), .ref (ad 60), .ref (ad 61), .ref (ad 62), .ref (ad 63), .ref (ad 64), .ref (ad 65), .int (nI n), .int (nI nc), .ref (ad 66), .ref (ad 71), .ref (ad 72), .ref (ad 73)])) := hN1
    clear hU1 hN1
    refine W.eq (g2 := F0 m 523 ls [.int (nI 0)]) rfl ?_
    refine lv_istore (lv' := [(7, .int (nI 0)), (6, .int (nI 2)), (0, .ref b), (1, .ref (ad 0)), (2, .ref (ad 55)), (3, .ref (ad 74)), (4, .ref (ad 75)), (5, .int (nI i))]) S.1 S.2.1 dL_law_523 hl (by decide) rfl (fun ls hl => ?_)
    refine lv_aload_n S.1 S.2.1 dL_law_525 rfl (lv_at hl 4 rfl) ?_
    refine j_callV (k := 55) (ci := 11) (q := (RX12, TX12, 17)) (As := []) (rest := []) S hK hA hW (c_X12_thrown l D cy ad 2 n nc gO_   ) (jgo wm_L_136) yk_X12_thrown gO_ rfl rfl ⟨⟨rfl, rfl⟩, by decide, by decide⟩ rfl hl.1 rfl (Nat.le_of_ble_eq_true rfl) dL_law_526 ⟨by show (cells + 5) + 0 ≤ 601024; omega, by show (slots + 28) + 0 ≤ 7293033; omega⟩ (fun v u H locs hp hW => ?_)
    obtain ⟨rfl, rfl⟩ := hp
    refine W.eq (g2 := F0 m 529 ls [.int (nI 2)]) rfl ?_
    refine lv_iload S.1 S.2.1 dL_law_529 (lv_at hl 1 rfl) ?_
    refine jn_cmp_eq (tgt := 536) S (by omega) (by omega) dL_law_531 (by decide) (fun c_531 => ?_) (fun c_531 => ?_)
    · refine lv_iload S.1 S.2.1 dL_law_536 (lv_at hl 1 rfl) ?_
      refine jn_if_ne (tgt := 553) S (by omega) dL_law_538 (by decide) (fun c_538 => ?_) (fun c_538 => ?_)
      · refine lv_goto (tgt := 2382) S.1 S.2.1 dL_law_553 (by decide) ?_
        exact W.widen (by omega) (by omega) (kk _ _ _ _ ⟨_, _, _, _, _, _, _, _, _, _, _, _, _, _, hPI, (hCI.kept hU (by first | decide | (intro k hk; simp at hk; omega))), ⟨gx, _, _, gO_, gF_, gT_, gE_, gD_, gC0_, gC1_, gC2_, gC3_, gC4_, gP_, gK_, gV_, gR_, gU_, fun j hj => hU.get (hrow j hj) (by simp; omega), hkx⟩, hOut_, hOuD_⟩ hW (lv_sub hl [2, 3, 4, 5, 6, 7] rfl))
      · first | exact absurd (show 2 = 0 from c_538) (by decide) | exact absurd c_538 (by decide)
    · first | exact absurd (show 2 ≠ 2 from c_531) (by decide) | exact absurd c_531 (by decide)
/-- the law's drop -/
theorem s_drop {p : Program} {l : Launch} {e : Env} {s : State} {m : MethodId} {args : Array Value} {below : List Frame} {meth : Method} {c : Code} {Q : State → Prop} {D : va_G} {cy : Nat → ClassId} {A : Nat → Prop} {x0 : Cond} {ad : Nat → Nat} {b L : Nat} {xs : Nat → Int32} {i : Nat} {w : va_W} {H : Heap} {locs : List Loc} {ls : Array Slot} {cells slots : Nat} (htr : l.stackTraces = false) (C : LX p s m c args D cy A b L xs x0) (hI : INV ad cy w) (hW : jW D A s.heap w H locs) (hl : lv_has ls 10 [(0, .ref b), (1, .ref (ad 0)), (2, .ref (ad 55)), (3, .ref (ad 74)), (4, .ref (ad 75)), (5, .int (nI i))]) (hi : i + 5 ≤ L) (hL : L ≤ 2560) (hc : cells + 10 ≤ 601024) (hs : slots + 64 ≤ 7293033) (kk : LK p l e s m args below meth c Q D cy A ad b i cells slots) : W p l e room_1 s m args below meth c H locs cells slots Q (F0 m 556 ls []) := by
  obtain ⟨S, hK, hA, hX, hbl, hbA, hx, hnx⟩ := C
  obtain ⟨n, wf, wt, od, sd, se, nc, lv, cs, kv, kx, th, og, ogd, hPI, hCI, hRI, hOut, hOuD⟩ := hI
  have hPI0 := hPI
  obtain ⟨hn, hsdn, hse2, hnc, hlvn, hcs, hkI, hod, hodn, hinj⟩ := hPI0
  have hp2 := two_pow10 hn
  have hpt := Nat.two_pow_pos n
  have hWB := hCI.wb
  refine lv_aload_n S.1 S.2.1 dL_law_556 rfl (lv_at hl 1 rfl) ?_
  refine lv_aload_n S.1 S.2.1 dL_law_557 rfl (lv_at hl 0 rfl) ?_
  refine lv_iload S.1 S.2.1 dL_law_558 (lv_at hl 5 rfl) ?_
  refine lv_iconst (v := nI 1) S.1 S.2.1 dL_law_560 (by decide) ?_
  refine jn_add S dL_law_561 ?_
  refine j_sld (x := xs (i + 1)) S hX hbl hbA hW (vp_in_nI (by omega) (by omega)) (nI_clamp (by omega)) (rfl) dL_law_562 ?_
  refine lv_aload_n S.1 S.2.1 dL_law_563 rfl (lv_at hl 3 rfl) ?_
  refine j_callH (As := [.ref (ad 0), .int (xs (i + 1)), .ref (ad 74)]) (rest := []) S hK hA hW hx hnx (h_drop l htr D cy ad n wf wt od sd se nc lv cs kv kx (xs (i + 1)) og ogd hPI hCI hOut hOuD) (jgo wm_L_153) yk_L_drop ⟨⟨rfl, rfl⟩, by decide, by decide⟩ rfl hl.1 rfl (Nat.le_of_ble_eq_true rfl) dL_law_564 ⟨by show cells + 2 ≤ 601024; omega, by show slots + 12 ≤ 7293033; omega⟩ (fun v w H locs hp hW => ?_)
  rcases hp with ⟨j1, rfl, hq0, hq1, hq2, ⟨K1, hU1, hK1⟩, hCI, hOut, hOuD⟩ | ⟨rfl, hq, ⟨K1, hU1, hK1⟩, hCI, hOut, hOuD⟩ | ⟨rfl, hq, ⟨K1, hU1, hK1⟩, hCI, hOut, hOuD⟩
  · have hRI := hRI.kept hU1 (fun k hk => by have := hK1 k hk; omega)
    obtain ⟨gx, rb, tu, gO, gF, gT, gE, gD, gC0, gC1, gC2, gC3, gC4, gP, gK, gV, gR, gU, hrow, hkx⟩ := hRI
    have hPI1 : PI n wf wt od sd se nc (nAnd lv (2 ^ j1)) cs kv kx := hPI.drop
    refine W.eq (g2 := F0 m 567 ls [.int (nI 0)]) rfl ?_
    refine lv_istore (lv' := [(6, .int (nI 0)), (0, .ref b), (1, .ref (ad 0)), (2, .ref (ad 55)), (3, .ref (ad 74)), (4, .ref (ad 75)), (5, .int (nI i))]) S.1 S.2.1 dL_law_567 hl (by decide) rfl (fun ls hl => ?_)
    refine lv_aload_n S.1 S.2.1 dL_law_569 rfl (lv_at hl 3 rfl) ?_
    refine lv_aload_n S.1 S.2.1 dL_law_570 rfl (lv_at hl 1 rfl) ?_
    refine lv_iload S.1 S.2.1 dL_law_571 (lv_at hl 6 rfl) ?_
    refine lv_iconst (v := nI 1) S.1 S.2.1 dL_law_573 (by decide) ?_
    refine jn_add S dL_law_574 ?_
    refine j_sld (x := nI j1) S hX hbl hbA hW (vp_in_nI (by omega) (by omega)) (nI_clamp (by omega)) (hq1) dL_law_575 ?_
    refine j_callV (k := 55) (ci := 11) (q := (RX12, TX12, 17)) (As := [.int (nI j1)]) (rest := []) S hK hA hW (c_X12_drop_ok l D cy ad th n nc lv j1 gO gP   (by omega) (by omega) (hq2)) (jgo wm_L_156) yk_X12_drop gO rfl rfl ⟨⟨rfl, rfl⟩, by decide, by decide⟩ rfl hl.1 rfl (Nat.le_of_ble_eq_true rfl) dL_law_576 ⟨by show (cells + 2) + 0 ≤ 601024; omega, by show (slots + 12) + 0 ≤ 7293033; omega⟩ (fun v w_ H locs hp hW => ?_)
    obtain ⟨rfl, hU1, hN1, hN2⟩ := hp
    have hU : jU w w_ [55, 56, 57, 58, 59, 60, 61, 62, 63, 64, 65, 66, 71, 72, 73, 74, 75] := jU.mono hU1 (by first | decide | (simp; done) | (simp; omega))
    have gF_ := hU1.get gF (by first | decide | (simp; done) | (simp; omega))
    have gT_ := hU1.get gT (by first | decide | (simp; done) | (simp; omega))
    have gE_ := hU1.get gE (by first | decide | (simp; done) | (simp; omega))
    have gD_ := hU1.get gD (by first | decide | (simp; done) | (simp; omega))
    have gC0_ := hU1.get gC0 (by first | decide | (simp; done) | (simp; omega))
    have gC1_ := hU1.get gC1 (by first | decide | (simp; done) | (simp; omega))
    have gC2_ := hU1.get gC2 (by first | decide | (simp; done) | (simp; omega))
    have gC3_ := hU1.get gC3 (by first | decide | (simp; done) | (simp; omega))
    have gC4_ := hU1.get gC4 (by first | decide | (simp; done) | (simp; omega))
    have gK_ := hU1.get gK (by first | decide | (simp; done) | (simp; omega))
    have gV_ := hU1.get gV (by first | decide | (simp; done) | (simp; omega))
    have gR_ := hU1.get gR (by first | decide | (simp; done) | (simp; omega))
    have gU_ := hU1.get gU (by first | decide | (simp; done) | (simp; omega))
    have hOut_ := hU1.get hOut (by first | decide | (simp; done) | (simp; omega))
    have hOuD_ := hU1.get hOuD (by first | decide | (simp; done) | (simp; omega))
    have gO_ : w_[55]? = some (ad 55, .inr (11, [.int (nI 0), .ref (ad 56), .ref (ad 57), .ref (ad 58), .ref (ad 59), .ref (ad 60), .ref (ad 61), .ref (ad 62), .ref (ad 63), .ref (ad 64), .ref (ad 65), .int (nI n), .int (nI nc), .ref (ad 66), .ref (ad 71), .ref (ad 72), .ref (ad 73)])) := hN1
    have gP_ : w_[65]? = some (ad 65, .inl (cy 3, 20, .inl (bf (dpB nc (nAnd lv (2 ^ j1)))))) := hN2
    clear hU1 hN1 hN2
    refine W.eq (g2 := F0 m 579 ls [.int (nI (cnt (nAnd lv (2 ^ j1)).testBit nc))]) rfl ?_
    refine lv_topi_to (y := nI (cnt (nAnd lv (2 ^ j1)).testBit 32)) (congrArg nI (drop_ref hlvn hnc).symm) ?_
    refine lv_istore (lv' := [(7, .int (nI (cnt (nAnd lv (2 ^ j1)).testBit 32))), (6, .int (nI 0)), (0, .ref b), (1, .ref (ad 0)), (2, .ref (ad 55)), (3, .ref (ad 74)), (4, .ref (ad 75)), (5, .int (nI i))]) S.1 S.2.1 dL_law_579 hl (by decide) rfl (fun ls hl => ?_)
    refine lv_aload_n S.1 S.2.1 dL_law_581 rfl (lv_at hl 4 rfl) ?_
    refine j_callV (k := 55) (ci := 11) (q := (RX12, TX12, 17)) (As := []) (rest := []) S hK hA hW (c_X12_thrown l D cy ad 0 n nc gO_   ) (jgo wm_L_136) yk_X12_thrown gO_ rfl rfl ⟨⟨rfl, rfl⟩, by decide, by decide⟩ rfl hl.1 rfl (Nat.le_of_ble_eq_true rfl) dL_law_582 ⟨by show (cells + 2) + 0 ≤ 601024; omega, by show (slots + 12) + 0 ≤ 7293033; omega⟩ (fun v u H locs hp hW => ?_)
    obtain ⟨rfl, rfl⟩ := hp
    refine W.eq (g2 := F0 m 585 ls [.int (nI 0)]) rfl ?_
    refine lv_iload S.1 S.2.1 dL_law_585 (lv_at hl 1 rfl) ?_
    refine jn_cmp_eq (tgt := 592) S (by omega) (by omega) dL_law_587 (by decide) (fun c_587 => ?_) (fun c_587 => ?_)
    · refine lv_iload S.1 S.2.1 dL_law_592 (lv_at hl 1 rfl) ?_
      refine jn_if_ne (tgt := 609) S (by omega) dL_law_594 (by decide) (fun c_594 => ?_) (fun c_594 => ?_)
      · first | exact absurd (show 0 ≠ 0 from c_594) (by decide) | exact absurd c_594 (by decide)
      · refine lv_aload_n S.1 S.2.1 dL_law_597 rfl (lv_at hl 5 rfl) ?_
        refine lv_iconst (v := nI 0) S.1 S.2.1 dL_law_598 (by decide) ?_
        refine j_lald (x := (nI (cnt (nAnd lv (2 ^ j1)).testBit 32)).toInt64) S hK hW hOut_ (vp_in_nI (by omega) (by omega)) (nI_clamp (by omega)) (if_pos rfl) dL_law_599 ?_
        refine lv_iload S.1 S.2.1 dL_law_600 (lv_at hl 0 rfl) ?_
        refine lv_i2l (v := (nI (cnt (nAnd lv (2 ^ j1)).testBit 32)).toInt64) S.1 S.2.1 dL_law_602 (rfl) ?_
        refine jl_eq (tgt := 609) S dL_law_603 dL_law_604 (by decide) (fun c_604 => ?_) (fun c_604 => ?_)
        · refine lv_goto (tgt := 2382) S.1 S.2.1 dL_law_609 (by decide) ?_
          exact W.widen (by omega) (by omega) (kk _ _ _ _ ⟨_, _, _, _, _, _, _, _, _, _, _, _, _, _, hPI1, (hCI.kept hU (by first | decide | (intro k hk; simp at hk; omega))), ⟨gx, _, _, gO_, gF_, gT_, gE_, gD_, gC0_, gC1_, gC2_, gC3_, gC4_, gP_, gK_, gV_, gR_, gU_, fun j hj => hU.get (hrow j hj) (by simp; omega), hkx⟩, hOut_, hOuD_⟩ hW (lv_sub hl [2, 3, 4, 5, 6, 7] rfl))
        · exact absurd rfl c_604
    · first | exact absurd (show 0 ≠ 0 from c_587) (by decide) | exact absurd c_587 (by decide)
  · have hRI := hRI.kept hU1 (fun k hk => by have := hK1 k hk; omega)
    obtain ⟨gx, rb, tu, gO, gF, gT, gE, gD, gC0, gC1, gC2, gC3, gC4, gP, gK, gV, gR, gU, hrow, hkx⟩ := hRI
    refine W.eq (g2 := F0 m 567 ls [.int (nI 1)]) rfl ?_
    refine lv_istore (lv' := [(6, .int (nI 1)), (0, .ref b), (1, .ref (ad 0)), (2, .ref (ad 55)), (3, .ref (ad 74)), (4, .ref (ad 75)), (5, .int (nI i))]) S.1 S.2.1 dL_law_567 hl (by decide) rfl (fun ls hl => ?_)
    refine lv_aload_n S.1 S.2.1 dL_law_569 rfl (lv_at hl 3 rfl) ?_
    refine lv_aload_n S.1 S.2.1 dL_law_570 rfl (lv_at hl 1 rfl) ?_
    refine lv_iload S.1 S.2.1 dL_law_571 (lv_at hl 6 rfl) ?_
    refine lv_iconst (v := nI 1) S.1 S.2.1 dL_law_573 (by decide) ?_
    refine jn_add S dL_law_574 ?_
    refine j_sld (x := xs (i + 1)) S hX hbl hbA hW (vp_in_nI (by omega) (by omega)) (nI_clamp (by omega)) (rfl) dL_law_575 ?_
    refine j_callV (k := 55) (ci := 11) (q := (RX12, TX12, 17)) (As := [.int (xs (i + 1))]) (rest := []) S hK hA hW (c_X12_drop_b1 l D cy ad th n nc (xs (i + 1)) gO   (by omega) (hq)) (jgo wm_L_156) yk_X12_drop gO rfl rfl ⟨⟨rfl, rfl⟩, by decide, by decide⟩ rfl hl.1 rfl (Nat.le_of_ble_eq_true rfl) dL_law_576 ⟨by show (cells + 2) + 0 ≤ 601024; omega, by show (slots + 12) + 0 ≤ 7293033; omega⟩ (fun v w_ H locs hp hW => ?_)
    obtain ⟨rfl, hU1, hN1⟩ := hp
    have hU : jU w w_ [55, 56, 57, 58, 59, 60, 61, 62, 63, 64, 65, 66, 71, 72, 73, 74, 75] := jU.mono hU1 (by first | decide | (simp; done) | (simp; omega))
    have gF_ := hU1.get gF (by first | decide | (simp; done) | (simp; omega))
    have gT_ := hU1.get gT (by first | decide | (simp; done) | (simp; omega))
    have gE_ := hU1.get gE (by first | decide | (simp; done) | (simp; omega))
    have gD_ := hU1.get gD (by first | decide | (simp; done) | (simp; omega))
    have gC0_ := hU1.get gC0 (by first | decide | (simp; done) | (simp; omega))
    have gC1_ := hU1.get gC1 (by first | decide | (simp; done) | (simp; omega))
    have gC2_ := hU1.get gC2 (by first | decide | (simp; done) | (simp; omega))
    have gC3_ := hU1.get gC3 (by first | decide | (simp; done) | (simp; omega))
    have gC4_ := hU1.get gC4 (by first | decide | (simp; done) | (simp; omega))
    have gP_ := hU1.get gP (by first | decide | (simp; done) | (simp; omega))
    have gK_ := hU1.get gK (by first | decide | (simp; done) | (simp; omega))
    have gV_ := hU1.get gV (by first | decide | (simp; done) | (simp; omega))
    have gR_ := hU1.get gR (by first | decide | (simp; done) | (simp; omega))
    have gU_ := hU1.get gU (by first | decide | (simp; done) | (simp; omega))
    have hOut_ := hU1.get hOut (by first | decide | (simp; done) | (simp; omega))
    have hOuD_ := hU1.get hOuD (by first | decide | (simp; done) | (simp; omega))
    have gO_ : w_[55]? = some (ad 55, .inr (11, [.int (nI 1), .ref (ad 56), .ref (ad 57), .ref (ad 58), .ref (ad 59), .ref (ad 60), .ref (ad 61), .ref (ad 62), .ref (ad 63), .ref (ad 64), .ref (ad 65), .int (nI n), .int (nI nc), .ref (ad 66), .ref (ad 71), .ref (ad 72), .ref (ad 73)])) := hN1
    clear hU1 hN1
    refine W.eq (g2 := F0 m 579 ls [.int (nI 0)]) rfl ?_
    refine lv_istore (lv' := [(7, .int (nI 0)), (6, .int (nI 1)), (0, .ref b), (1, .ref (ad 0)), (2, .ref (ad 55)), (3, .ref (ad 74)), (4, .ref (ad 75)), (5, .int (nI i))]) S.1 S.2.1 dL_law_579 hl (by decide) rfl (fun ls hl => ?_)
    refine lv_aload_n S.1 S.2.1 dL_law_581 rfl (lv_at hl 4 rfl) ?_
    refine j_callV (k := 55) (ci := 11) (q := (RX12, TX12, 17)) (As := []) (rest := []) S hK hA hW (c_X12_thrown l D cy ad 1 n nc gO_   ) (jgo wm_L_136) yk_X12_thrown gO_ rfl rfl ⟨⟨rfl, rfl⟩, by decide, by decide⟩ rfl hl.1 rfl (Nat.le_of_ble_eq_true rfl) dL_law_582 ⟨by show (cells + 2) + 0 ≤ 601024; omega, by show (slots + 12) + 0 ≤ 7293033; omega⟩ (fun v u H locs hp hW => ?_)
    obtain ⟨rfl, rfl⟩ := hp
    refine W.eq (g2 := F0 m 585 ls [.int (nI 1)]) rfl ?_
    refine lv_iload S.1 S.2.1 dL_law_585 (lv_at hl 1 rfl) ?_
    refine jn_cmp_eq (tgt := 592) S (by omega) (by omega) dL_law_587 (by decide) (fun c_587 => ?_) (fun c_587 => ?_)
    · refine lv_iload S.1 S.2.1 dL_law_592 (lv_at hl 1 rfl) ?_
      refine jn_if_ne (tgt := 609) S (by omega) dL_law_594 (by decide) (fun c_594 => ?_) (fun c_594 => ?_)
      · refine lv_goto (tgt := 2382) S.1 S.2.1 dL_law_609 (by decide) ?_
        exact W.widen (by omega) (by omega) (kk _ _ _ _ ⟨_, _, _, _, _, _, _, _, _, _, _, _, _, _, hPI, (hCI.kept hU (by first | decide | (intro k hk; simp at hk; omega))), ⟨gx, _, _, gO_, gF_, gT_, gE_, gD_, gC0_, gC1_, gC2_, gC3_, gC4_, gP_, gK_, gV_, gR_, gU_, fun j hj => hU.get (hrow j hj) (by simp; omega), hkx⟩, hOut_, hOuD_⟩ hW (lv_sub hl [2, 3, 4, 5, 6, 7] rfl))
      · first | exact absurd (show 1 = 0 from c_594) (by decide) | exact absurd c_594 (by decide)
    · first | exact absurd (show 1 ≠ 1 from c_587) (by decide) | exact absurd c_587 (by decide)
  · have hRI := hRI.kept hU1 (fun k hk => by have := hK1 k hk; omega)
    obtain ⟨gx, rb, tu, gO, gF, gT, gE, gD, gC0, gC1, gC2, gC3, gC4, gP, gK, gV, gR, gU, hrow, hkx⟩ := hRI
    obtain ⟨j1, h1, e1, h2⟩ := hq
    refine W.eq (g2 := F0 m 567 ls [.int (nI 2)]) rfl ?_
    refine lv_istore (lv' := [(6, .int (nI 2)), (0, .ref b), (1, .ref (ad 0)), (2, .ref (ad 55)), (3, .ref (ad 74)), (4, .ref (ad 75)), (5, .int (nI i))]) S.1 S.2.1 dL_law_567 hl (by decide) rfl (fun ls hl => ?_)
    refine lv_aload_n S.1 S.2.1 dL_law_569 rfl (lv_at hl 3 rfl) ?_
    refine lv_aload_n S.1 S.2.1 dL_law_570 rfl (lv_at hl 1 rfl) ?_
    refine lv_iload S.1 S.2.1 dL_law_571 (lv_at hl 6 rfl) ?_
    refine lv_iconst (v := nI 1) S.1 S.2.1 dL_law_573 (by decide) ?_
    refine jn_add S dL_law_574 ?_
    refine j_sld (x := nI j1) S hX hbl hbA hW (vp_in_nI (by omega) (by omega)) (nI_clamp (by omega)) (e1) dL_law_575 ?_
    refine j_callV (k := 55) (ci := 11) (q := (RX12, TX12, 17)) (As := [.int (nI j1)]) (rest := []) S hK hA hW (c_X12_drop_b2 l D cy ad th n nc lv j1 gO gP   (by omega) (by omega) (h2)) (jgo wm_L_156) yk_X12_drop gO rfl rfl ⟨⟨rfl, rfl⟩, by decide, by decide⟩ rfl hl.1 rfl (Nat.le_of_ble_eq_true rfl) dL_law_576 ⟨by show (cells + 2) + 0 ≤ 601024; omega, by show (slots + 12) + 0 ≤ 7293033; omega⟩ (fun v w_ H locs hp hW => ?_)
    obtain ⟨rfl, hU1, hN1⟩ := hp
    have hU : jU w w_ [55, 56, 57, 58, 59, 60, 61, 62, 63, 64, 65, 66, 71, 72, 73, 74, 75] := jU.mono hU1 (by first | decide | (simp; done) | (simp; omega))
    have gF_ := hU1.get gF (by first | decide | (simp; done) | (simp; omega))
    have gT_ := hU1.get gT (by first | decide | (simp; done) | (simp; omega))
    have gE_ := hU1.get gE (by first | decide | (simp; done) | (simp; omega))
    have gD_ := hU1.get gD (by first | decide | (simp; done) | (simp; omega))
    have gC0_ := hU1.get gC0 (by first | decide | (simp; done) | (simp; omega))
    have gC1_ := hU1.get gC1 (by first | decide | (simp; done) | (simp; omega))
    have gC2_ := hU1.get gC2 (by first | decide | (simp; done) | (simp; omega))
    have gC3_ := hU1.get gC3 (by first | decide | (simp; done) | (simp; omega))
    have gC4_ := hU1.get gC4 (by first | decide | (simp; done) | (simp; omega))
    have gP_ := hU1.get gP (by first | decide | (simp; done) | (simp; omega))
    have gK_ := hU1.get gK (by first | decide | (simp; done) | (simp; omega))
    have gV_ := hU1.get gV (by first | decide | (simp; done) | (simp; omega))
    have gR_ := hU1.get gR (by first | decide | (simp; done) | (simp; omega))
    have gU_ := hU1.get gU (by first | decide | (simp; done) | (simp; omega))
    have hOut_ := hU1.get hOut (by first | decide | (simp; done) | (simp; omega))
    have hOuD_ := hU1.get hOuD (by first | decide | (simp; done) | (simp; omega))
    have gO_ : w_[55]? = some (ad 55, .inr (11, [.int (nI 2), .ref (ad 56), .ref (ad 57), .ref (ad 58), .ref (ad 59), .ref (ad 60), .ref (ad 61), .ref (ad 62), .ref (ad 63), .ref (ad 64), .ref (ad 65), .int (nI n), .int (nI nc), .ref (ad 66), .ref (ad 71), .ref (ad 72), .ref (ad 73)])) := hN1
    clear hU1 hN1
    refine W.eq (g2 := F0 m 579 ls [.int (nI 0)]) rfl ?_
    refine lv_istore (lv' := [(7, .int (nI 0)), (6, .int (nI 2)), (0, .ref b), (1, .ref (ad 0)), (2, .ref (ad 55)), (3, .ref (ad 74)), (4, .ref (ad 75)), (5, .int (nI i))]) S.1 S.2.1 dL_law_579 hl (by decide) rfl (fun ls hl => ?_)
    refine lv_aload_n S.1 S.2.1 dL_law_581 rfl (lv_at hl 4 rfl) ?_
    refine j_callV (k := 55) (ci := 11) (q := (RX12, TX12, 17)) (As := []) (rest := []) S hK hA hW (c_X12_thrown l D cy ad 2 n nc gO_   ) (jgo wm_L_136) yk_X12_thrown gO_ rfl rfl ⟨⟨rfl, rfl⟩, by decide, by decide⟩ rfl hl.1 rfl (Nat.le_of_ble_eq_true rfl) dL_law_582 ⟨by show (cells + 2) + 0 ≤ 601024; omega, by show (slots + 12) + 0 ≤ 7293033; omega⟩ (fun v u H locs hp hW => ?_)
    obtain ⟨rfl, rfl⟩ := hp
    refine W.eq (g2 := F0 m 585 ls [.int (nI 2)]) rfl ?_
    refine lv_iload S.1 S.2.1 dL_law_585 (lv_at hl 1 rfl) ?_
    refine jn_cmp_eq (tgt := 592) S (by omega) (by omega) dL_law_587 (by decide) (fun c_587 => ?_) (fun c_587 => ?_)
    · refine lv_iload S.1 S.2.1 dL_law_592 (lv_at hl 1 rfl) ?_
      refine jn_if_ne (tgt := 609) S (by omega) dL_law_594 (by decide) (fun c_594 => ?_) (fun c_594 => ?_)
      · refine lv_goto (tgt := 2382) S.1 S.2.1 dL_law_609 (by decide) ?_
        exact W.widen (by omega) (by omega) (kk _ _ _ _ ⟨_, _, _, _, _, _, _, _, _, _, _, _, _, _, hPI, (hCI.kept hU (by first | decide | (intro k hk; simp at hk; omega))), ⟨gx, _, _, gO_, gF_, gT_, gE_, gD_, gC0_, gC1_, gC2_, gC3_, gC4_, gP_, gK_, gV_, gR_, gU_, fun j hj => hU.get (hrow j hj) (by simp; omega), hkx⟩, hOut_, hOuD_⟩ hW (lv_sub hl [2, 3, 4, 5, 6, 7] rfl))
      · first | exact absurd (show 2 = 0 from c_594) (by decide) | exact absurd c_594 (by decide)
    · first | exact absurd (show 2 ≠ 2 from c_587) (by decide) | exact absurd c_587 (by decide)
/-- the law's kind -/
theorem s_kind {p : Program} {l : Launch} {e : Env} {s : State} {m : MethodId} {args : Array Value} {below : List Frame} {meth : Method} {c : Code} {Q : State → Prop} {D : va_G} {cy : Nat → ClassId} {A : Nat → Prop} {x0 : Cond} {ad : Nat → Nat} {b L : Nat} {xs : Nat → Int32} {i : Nat} {w : va_W} {H : Heap} {locs : List Loc} {ls : Array Slot} {cells slots : Nat} (htr : l.stackTraces = false) (C : LX p s m c args D cy A b L xs x0) (hI : INV ad cy w) (hW : jW D A s.heap w H locs) (hl : lv_has ls 10 [(0, .ref b), (1, .ref (ad 0)), (2, .ref (ad 55)), (3, .ref (ad 74)), (4, .ref (ad 75)), (5, .int (nI i))]) (hi : i + 5 ≤ L) (hL : L ≤ 2560) (hc : cells + 10 ≤ 601024) (hs : slots + 64 ≤ 7293033) (kk : LK p l e s m args below meth c Q D cy A ad b i cells slots) : W p l e room_1 s m args below meth c H locs cells slots Q (F0 m 612 ls []) := by
  obtain ⟨S, hK, hA, hX, hbl, hbA, hx, hnx⟩ := C
  obtain ⟨n, wf, wt, od, sd, se, nc, lv, cs, kv, kx, th, og, ogd, hPI, hCI, hRI, hOut, hOuD⟩ := hI
  have hPI0 := hPI
  obtain ⟨hn, hsdn, hse2, hnc, hlvn, hcs, hkI, hod, hodn, hinj⟩ := hPI0
  have hp2 := two_pow10 hn
  have hpt := Nat.two_pow_pos n
  have hWB := hCI.wb
  refine lv_aload_n S.1 S.2.1 dL_law_612 rfl (lv_at hl 1 rfl) ?_
  refine lv_aload_n S.1 S.2.1 dL_law_613 rfl (lv_at hl 0 rfl) ?_
  refine lv_iload S.1 S.2.1 dL_law_614 (lv_at hl 5 rfl) ?_
  refine lv_iconst (v := nI 1) S.1 S.2.1 dL_law_616 (by decide) ?_
  refine jn_add S dL_law_617 ?_
  refine j_sld (x := xs (i + 1)) S hX hbl hbA hW (vp_in_nI (by omega) (by omega)) (nI_clamp (by omega)) (rfl) dL_law_618 ?_
  refine lv_aload_n S.1 S.2.1 dL_law_619 rfl (lv_at hl 3 rfl) ?_
  refine j_callH (As := [.ref (ad 0), .int (xs (i + 1)), .ref (ad 74)]) (rest := []) S hK hA hW hx hnx (h_kind l htr D cy ad n wf wt od sd se nc lv cs kv kx (xs (i + 1)) og ogd hPI hCI hOut hOuD) (jgo wm_L_157) yk_L_kind ⟨⟨rfl, rfl⟩, by decide, by decide⟩ rfl hl.1 rfl (Nat.le_of_ble_eq_true rfl) dL_law_620 ⟨by show cells + 1 ≤ 601024; omega, by show slots + 6 ≤ 7293033; omega⟩ (fun v w H locs hp hW => ?_)
  rcases hp with ⟨j1, rfl, hq0, hq1, ⟨K1, hU1, hK1⟩, hCI, hOut, hOuD⟩ | ⟨rfl, hq, ⟨K1, hU1, hK1⟩, hCI, hOut, hOuD⟩
  · have hRI := hRI.kept hU1 (fun k hk => by have := hK1 k hk; omega)
    obtain ⟨gx, rb, tu, gO, gF, gT, gE, gD, gC0, gC1, gC2, gC3, gC4, gP, gK, gV, gR, gU, hrow, hkx⟩ := hRI
    refine W.eq (g2 := F0 m 623 ls [.int (nI 0)]) rfl ?_
    refine lv_istore (lv' := [(6, .int (nI 0)), (0, .ref b), (1, .ref (ad 0)), (2, .ref (ad 55)), (3, .ref (ad 74)), (4, .ref (ad 75)), (5, .int (nI i))]) S.1 S.2.1 dL_law_623 hl (by decide) rfl (fun ls hl => ?_)
    refine lv_aload_n S.1 S.2.1 dL_law_625 rfl (lv_at hl 3 rfl) ?_
    refine lv_aload_n S.1 S.2.1 dL_law_626 rfl (lv_at hl 1 rfl) ?_
    refine lv_iload S.1 S.2.1 dL_law_627 (lv_at hl 6 rfl) ?_
    refine lv_iconst (v := nI 1) S.1 S.2.1 dL_law_629 (by decide) ?_
    refine jn_add S dL_law_630 ?_
    refine j_sld (x := nI j1) S hX hbl hbA hW (vp_in_nI (by omega) (by omega)) (nI_clamp (by omega)) (hq1) dL_law_631 ?_
    refine j_callV (k := 55) (ci := 11) (q := (RX12, TX12, 17)) (As := [.int (nI j1)]) (rest := []) S hK hA hW (c_X12_kind_ok l D cy ad th n nc cs j1 gO gC0 gC1 gC2 gC3 gC4   (by omega) (by omega) (by obtain ⟨⟨z, -⟩, -⟩ := hcs j1 hq0; omega)) (jgo wm_L_159) yk_X12_kind gO rfl rfl ⟨⟨rfl, rfl⟩, by decide, by decide⟩ rfl hl.1 rfl (Nat.le_of_ble_eq_true rfl) dL_law_632 ⟨by show (cells + 1) + 0 ≤ 601024; omega, by show (slots + 6) + 0 ≤ 7293033; omega⟩ (fun v w_ H locs hp hW => ?_)
    obtain ⟨rfl, hU1, hN1⟩ := hp
    have hU : jU w w_ [55, 56, 57, 58, 59, 60, 61, 62, 63, 64, 65, 66, 71, 72, 73, 74, 75] := jU.mono hU1 (by first | decide | (simp; done) | (simp; omega))
    have gF_ := hU1.get gF (by first | decide | (simp; done) | (simp; omega))
    have gT_ := hU1.get gT (by first | decide | (simp; done) | (simp; omega))
    have gE_ := hU1.get gE (by first | decide | (simp; done) | (simp; omega))
    have gD_ := hU1.get gD (by first | decide | (simp; done) | (simp; omega))
    have gC0_ := hU1.get gC0 (by first | decide | (simp; done) | (simp; omega))
    have gC1_ := hU1.get gC1 (by first | decide | (simp; done) | (simp; omega))
    have gC2_ := hU1.get gC2 (by first | decide | (simp; done) | (simp; omega))
    have gC3_ := hU1.get gC3 (by first | decide | (simp; done) | (simp; omega))
    have gC4_ := hU1.get gC4 (by first | decide | (simp; done) | (simp; omega))
    have gP_ := hU1.get gP (by first | decide | (simp; done) | (simp; omega))
    have gK_ := hU1.get gK (by first | decide | (simp; done) | (simp; omega))
    have gV_ := hU1.get gV (by first | decide | (simp; done) | (simp; omega))
    have gR_ := hU1.get gR (by first | decide | (simp; done) | (simp; omega))
    have gU_ := hU1.get gU (by first | decide | (simp; done) | (simp; omega))
    have hOut_ := hU1.get hOut (by first | decide | (simp; done) | (simp; omega))
    have hOuD_ := hU1.get hOuD (by first | decide | (simp; done) | (simp; omega))
    have gO_ : w_[55]? = some (ad 55, .inr (11, [.int (nI 0), .ref (ad 56), .ref (ad 57), .ref (ad 58), .ref (ad 59), .ref (ad 60), .ref (ad 61), .ref (ad 62), .ref (ad 63), .ref (ad 64), .ref (ad 65), .int (nI n), .int (nI nc), .ref (ad 66), .ref (ad 71), .ref (ad 72), .ref (ad 73)])) := hN1
    clear hU1 hN1
    refine W.eq (g2 := F0 m 635 ls [.int (nI ((cs j1).1))]) rfl ?_
    refine lv_istore (lv' := [(7, .int (nI ((cs j1).1))), (6, .int (nI 0)), (0, .ref b), (1, .ref (ad 0)), (2, .ref (ad 55)), (3, .ref (ad 74)), (4, .ref (ad 75)), (5, .int (nI i))]) S.1 S.2.1 dL_law_635 hl (by decide) rfl (fun ls hl => ?_)
    refine lv_aload_n S.1 S.2.1 dL_law_637 rfl (lv_at hl 4 rfl) ?_
    refine j_callV (k := 55) (ci := 11) (q := (RX12, TX12, 17)) (As := []) (rest := []) S hK hA hW (c_X12_thrown l D cy ad 0 n nc gO_   ) (jgo wm_L_136) yk_X12_thrown gO_ rfl rfl ⟨⟨rfl, rfl⟩, by decide, by decide⟩ rfl hl.1 rfl (Nat.le_of_ble_eq_true rfl) dL_law_638 ⟨by show (cells + 1) + 0 ≤ 601024; omega, by show (slots + 6) + 0 ≤ 7293033; omega⟩ (fun v u H locs hp hW => ?_)
    obtain ⟨rfl, rfl⟩ := hp
    refine W.eq (g2 := F0 m 641 ls [.int (nI 0)]) rfl ?_
    refine lv_iload S.1 S.2.1 dL_law_641 (lv_at hl 1 rfl) ?_
    refine jn_cmp_eq (tgt := 648) S (by omega) (by omega) dL_law_643 (by decide) (fun c_643 => ?_) (fun c_643 => ?_)
    · refine lv_iload S.1 S.2.1 dL_law_648 (lv_at hl 1 rfl) ?_
      refine jn_if_ne (tgt := 665) S (by omega) dL_law_650 (by decide) (fun c_650 => ?_) (fun c_650 => ?_)
      · first | exact absurd (show 0 ≠ 0 from c_650) (by decide) | exact absurd c_650 (by decide)
      · refine lv_aload_n S.1 S.2.1 dL_law_653 rfl (lv_at hl 5 rfl) ?_
        refine lv_iconst (v := nI 0) S.1 S.2.1 dL_law_654 (by decide) ?_
        refine j_lald (x := (nI ((cs j1).1)).toInt64) S hK hW hOut_ (vp_in_nI (by omega) (by omega)) (nI_clamp (by omega)) (if_pos rfl) dL_law_655 ?_
        refine lv_iload S.1 S.2.1 dL_law_656 (lv_at hl 0 rfl) ?_
        refine lv_i2l (v := (nI ((cs j1).1)).toInt64) S.1 S.2.1 dL_law_658 (rfl) ?_
        refine jl_eq (tgt := 665) S dL_law_659 dL_law_660 (by decide) (fun c_660 => ?_) (fun c_660 => ?_)
        · refine lv_goto (tgt := 2382) S.1 S.2.1 dL_law_665 (by decide) ?_
          exact W.widen (by omega) (by omega) (kk _ _ _ _ ⟨_, _, _, _, _, _, _, _, _, _, _, _, _, _, hPI, (hCI.kept hU (by first | decide | (intro k hk; simp at hk; omega))), ⟨gx, _, _, gO_, gF_, gT_, gE_, gD_, gC0_, gC1_, gC2_, gC3_, gC4_, gP_, gK_, gV_, gR_, gU_, fun j hj => hU.get (hrow j hj) (by simp; omega), hkx⟩, hOut_, hOuD_⟩ hW (lv_sub hl [2, 3, 4, 5, 6, 7] rfl))
        · exact absurd rfl c_660
    · first | exact absurd (show 0 ≠ 0 from c_643) (by decide) | exact absurd c_643 (by decide)
  · have hRI := hRI.kept hU1 (fun k hk => by have := hK1 k hk; omega)
    obtain ⟨gx, rb, tu, gO, gF, gT, gE, gD, gC0, gC1, gC2, gC3, gC4, gP, gK, gV, gR, gU, hrow, hkx⟩ := hRI
    refine W.eq (g2 := F0 m 623 ls [.int (nI 1)]) rfl ?_
    refine lv_istore (lv' := [(6, .int (nI 1)), (0, .ref b), (1, .ref (ad 0)), (2, .ref (ad 55)), (3, .ref (ad 74)), (4, .ref (ad 75)), (5, .int (nI i))]) S.1 S.2.1 dL_law_623 hl (by decide) rfl (fun ls hl => ?_)
    refine lv_aload_n S.1 S.2.1 dL_law_625 rfl (lv_at hl 3 rfl) ?_
    refine lv_aload_n S.1 S.2.1 dL_law_626 rfl (lv_at hl 1 rfl) ?_
    refine lv_iload S.1 S.2.1 dL_law_627 (lv_at hl 6 rfl) ?_
    refine lv_iconst (v := nI 1) S.1 S.2.1 dL_law_629 (by decide) ?_
    refine jn_add S dL_law_630 ?_
    refine j_sld (x := xs (i + 1)) S hX hbl hbA hW (vp_in_nI (by omega) (by omega)) (nI_clamp (by omega)) (rfl) dL_law_631 ?_
    refine j_callV (k := 55) (ci := 11) (q := (RX12, TX12, 17)) (As := [.int (xs (i + 1))]) (rest := []) S hK hA hW (c_X12_kind_b l D cy ad th n nc (xs (i + 1)) gO   (by omega) (hq)) (jgo wm_L_159) yk_X12_kind gO rfl rfl ⟨⟨rfl, rfl⟩, by decide, by decide⟩ rfl hl.1 rfl (Nat.le_of_ble_eq_true rfl) dL_law_632 ⟨by show (cells + 1) + 0 ≤ 601024; omega, by show (slots + 6) + 0 ≤ 7293033; omega⟩ (fun v w_ H locs hp hW => ?_)
    obtain ⟨rfl, hU1, hN1⟩ := hp
    have hU : jU w w_ [55, 56, 57, 58, 59, 60, 61, 62, 63, 64, 65, 66, 71, 72, 73, 74, 75] := jU.mono hU1 (by first | decide | (simp; done) | (simp; omega))
    have gF_ := hU1.get gF (by first | decide | (simp; done) | (simp; omega))
    have gT_ := hU1.get gT (by first | decide | (simp; done) | (simp; omega))
    have gE_ := hU1.get gE (by first | decide | (simp; done) | (simp; omega))
    have gD_ := hU1.get gD (by first | decide | (simp; done) | (simp; omega))
    have gC0_ := hU1.get gC0 (by first | decide | (simp; done) | (simp; omega))
    have gC1_ := hU1.get gC1 (by first | decide | (simp; done) | (simp; omega))
    have gC2_ := hU1.get gC2 (by first | decide | (simp; done) | (simp; omega))
    have gC3_ := hU1.get gC3 (by first | decide | (simp; done) | (simp; omega))
    have gC4_ := hU1.get gC4 (by first | decide | (simp; done) | (simp; omega))
    have gP_ := hU1.get gP (by first | decide | (simp; done) | (simp; omega))
    have gK_ := hU1.get gK (by first | decide | (simp; done) | (simp; omega))
    have gV_ := hU1.get gV (by first | decide | (simp; done) | (simp; omega))
    have gR_ := hU1.get gR (by first | decide | (simp; done) | (simp; omega))
    have gU_ := hU1.get gU (by first | decide | (simp; done) | (simp; omega))
    have hOut_ := hU1.get hOut (by first | decide | (simp; done) | (simp; omega))
    have hOuD_ := hU1.get hOuD (by first | decide | (simp; done) | (simp; omega))
    have gO_ : w_[55]? = some (ad 55, .inr (11, [.int (nI 1), .ref (ad 56), .ref (ad 57), .ref (ad 58), .ref (ad 59), .ref (ad 60), .ref (ad 61), .ref (ad 62), .ref (ad 63), .ref (ad 64), .ref (ad 65), .int (nI n), .int (nI nc), .ref (ad 66), .ref (ad 71), .ref (ad 72), .ref (ad 73)])) := hN1
    clear hU1 hN1
    refine W.eq (g2 := F0 m 635 ls [.int (nI 0)]) rfl ?_
    refine lv_istore (lv' := [(7, .int (nI 0)), (6, .int (nI 1)), (0, .ref b), (1, .ref (ad 0)), (2, .ref (ad 55)), (3, .ref (ad 74)), (4, .ref (ad 75)), (5, .int (nI i))]) S.1 S.2.1 dL_law_635 hl (by decide) rfl (fun ls hl => ?_)
    refine lv_aload_n S.1 S.2.1 dL_law_637 rfl (lv_at hl 4 rfl) ?_
    refine j_callV (k := 55) (ci := 11) (q := (RX12, TX12, 17)) (As := []) (rest := []) S hK hA hW (c_X12_thrown l D cy ad 1 n nc gO_   ) (jgo wm_L_136) yk_X12_thrown gO_ rfl rfl ⟨⟨rfl, rfl⟩, by decide, by decide⟩ rfl hl.1 rfl (Nat.le_of_ble_eq_true rfl) dL_law_638 ⟨by show (cells + 1) + 0 ≤ 601024; omega, by show (slots + 6) + 0 ≤ 7293033; omega⟩ (fun v u H locs hp hW => ?_)
    obtain ⟨rfl, rfl⟩ := hp
    refine W.eq (g2 := F0 m 641 ls [.int (nI 1)]) rfl ?_
    refine lv_iload S.1 S.2.1 dL_law_641 (lv_at hl 1 rfl) ?_
    refine jn_cmp_eq (tgt := 648) S (by omega) (by omega) dL_law_643 (by decide) (fun c_643 => ?_) (fun c_643 => ?_)
    · refine lv_iload S.1 S.2.1 dL_law_648 (lv_at hl 1 rfl) ?_
      refine jn_if_ne (tgt := 665) S (by omega) dL_law_650 (by decide) (fun c_650 => ?_) (fun c_650 => ?_)
      · refine lv_goto (tgt := 2382) S.1 S.2.1 dL_law_665 (by decide) ?_
        exact W.widen (by omega) (by omega) (kk _ _ _ _ ⟨_, _, _, _, _, _, _, _, _, _, _, _, _, _, hPI, (hCI.kept hU (by first | decide | (intro k hk; simp at hk; omega))), ⟨gx, _, _, gO_, gF_, gT_, gE_, gD_, gC0_, gC1_, gC2_, gC3_, gC4_, gP_, gK_, gV_, gR_, gU_, fun j hj => hU.get (hrow j hj) (by simp; omega), hkx⟩, hOut_, hOuD_⟩ hW (lv_sub hl [2, 3, 4, 5, 6, 7] rfl))
      · first | exact absurd (show 1 = 0 from c_650) (by decide) | exact absurd c_650 (by decide)
    · first | exact absurd (show 1 ≠ 1 from c_643) (by decide) | exact absurd c_643 (by decide)
/-- the law's setEvidence -/
theorem s_setEvidence {p : Program} {l : Launch} {e : Env} {s : State} {m : MethodId} {args : Array Value} {below : List Frame} {meth : Method} {c : Code} {Q : State → Prop} {D : va_G} {cy : Nat → ClassId} {A : Nat → Prop} {x0 : Cond} {ad : Nat → Nat} {b L : Nat} {xs : Nat → Int32} {i : Nat} {w : va_W} {H : Heap} {locs : List Loc} {ls : Array Slot} {cells slots : Nat} (htr : l.stackTraces = false) (C : LX p s m c args D cy A b L xs x0) (hI : INV ad cy w) (hW : jW D A s.heap w H locs) (hl : lv_has ls 10 [(0, .ref b), (1, .ref (ad 0)), (2, .ref (ad 55)), (3, .ref (ad 74)), (4, .ref (ad 75)), (5, .int (nI i))]) (hi : i + 5 ≤ L) (hL : L ≤ 2560) (hc : cells + 10 ≤ 601024) (hs : slots + 64 ≤ 7293033) (kk : LK p l e s m args below meth c Q D cy A ad b i cells slots) : W p l e room_1 s m args below meth c H locs cells slots Q (F0 m 668 ls []) := by
  obtain ⟨S, hK, hA, hX, hbl, hbA, hx, hnx⟩ := C
  obtain ⟨n, wf, wt, od, sd, se, nc, lv, cs, kv, kx, th, og, ogd, hPI, hCI, hRI, hOut, hOuD⟩ := hI
  have hPI0 := hPI
  obtain ⟨hn, hsdn, hse2, hnc, hlvn, hcs, hkI, hod, hodn, hinj⟩ := hPI0
  have hp2 := two_pow10 hn
  have hpt := Nat.two_pow_pos n
  have hWB := hCI.wb
  refine lv_aload_n S.1 S.2.1 dL_law_668 rfl (lv_at hl 1 rfl) ?_
  refine lv_aload_n S.1 S.2.1 dL_law_669 rfl (lv_at hl 0 rfl) ?_
  refine lv_iload S.1 S.2.1 dL_law_670 (lv_at hl 5 rfl) ?_
  refine lv_iconst (v := nI 1) S.1 S.2.1 dL_law_672 (by decide) ?_
  refine jn_add S dL_law_673 ?_
  refine j_sld (x := xs (i + 1)) S hX hbl hbA hW (vp_in_nI (by omega) (by omega)) (nI_clamp (by omega)) (rfl) dL_law_674 ?_
  refine lv_aload_n S.1 S.2.1 dL_law_675 rfl (lv_at hl 0 rfl) ?_
  refine lv_iload S.1 S.2.1 dL_law_676 (lv_at hl 5 rfl) ?_
  refine lv_iconst (v := nI 2) S.1 S.2.1 dL_law_678 (by decide) ?_
  refine jn_add S dL_law_679 ?_
  refine j_sld (x := xs (i + 2)) S hX hbl hbA hW (vp_in_nI (by omega) (by omega)) (nI_clamp (by omega)) (rfl) dL_law_680 ?_
  refine lv_aload_n S.1 S.2.1 dL_law_681 rfl (lv_at hl 3 rfl) ?_
  refine j_callH (As := [.ref (ad 0), .int (xs (i + 1)), .int (xs (i + 2)), .ref (ad 74)]) (rest := []) S hK hA hW hx hnx (h_setEvidence l htr D cy ad n wf wt od sd se nc lv cs kv kx (xs (i + 1)) (xs (i + 2)) og ogd hPI hCI hOut hOuD) (jgo wm_L_160) yk_L_setEvidence ⟨⟨rfl, rfl⟩, by decide, by decide⟩ rfl hl.1 rfl (Nat.le_of_ble_eq_true rfl) dL_law_682 ⟨by show cells + 2 ≤ 601024; omega, by show slots + 12 ≤ 7293033; omega⟩ (fun v w H locs hp hW => ?_)
  rcases hp with ⟨x1, rfl, hq0, hq1, hq2, ⟨K1, hU1, hK1⟩, hCI, hOut, hOuD⟩ | ⟨rfl, hq, ⟨K1, hU1, hK1⟩, hCI, hOut, hOuD⟩ | ⟨rfl, hq, ⟨K1, hU1, hK1⟩, hCI, hOut, hOuD⟩
  · have hRI := hRI.kept hU1 (fun k hk => by have := hK1 k hk; omega)
    obtain ⟨gx, rb, tu, gO, gF, gT, gE, gD, gC0, gC1, gC2, gC3, gC4, gP, gK, gV, gR, gU, hrow, hkx⟩ := hRI
    have hPI1 : PI n wf wt od (evSd sd x1 (xs (i + 2))) (evSe se x1 (xs (i + 2))) nc lv cs kv kx := hPI.setEvidence hq0 hq2
    refine W.eq (g2 := F0 m 685 ls [.int (nI 0)]) rfl ?_
    refine lv_istore (lv' := [(6, .int (nI 0)), (0, .ref b), (1, .ref (ad 0)), (2, .ref (ad 55)), (3, .ref (ad 74)), (4, .ref (ad 75)), (5, .int (nI i))]) S.1 S.2.1 dL_law_685 hl (by decide) rfl (fun ls hl => ?_)
    refine lv_aload_n S.1 S.2.1 dL_law_687 rfl (lv_at hl 3 rfl) ?_
    refine lv_aload_n S.1 S.2.1 dL_law_688 rfl (lv_at hl 1 rfl) ?_
    refine lv_iload S.1 S.2.1 dL_law_689 (lv_at hl 6 rfl) ?_
    refine lv_iconst (v := nI 1) S.1 S.2.1 dL_law_691 (by decide) ?_
    refine jn_add S dL_law_692 ?_
    refine j_sld (x := nI x1) S hX hbl hbA hW (vp_in_nI (by omega) (by omega)) (nI_clamp (by omega)) (hq1) dL_law_693 ?_
    refine lv_aload_n S.1 S.2.1 dL_law_694 rfl (lv_at hl 1 rfl) ?_
    refine lv_iload S.1 S.2.1 dL_law_695 (lv_at hl 6 rfl) ?_
    refine lv_iconst (v := nI 2) S.1 S.2.1 dL_law_697 (by decide) ?_
    refine jn_add S dL_law_698 ?_
    refine j_sld (x := xs (i + 2)) S hX hbl hbA hW (vp_in_nI (by omega) (by omega)) (nI_clamp (by omega)) (rfl) dL_law_699 ?_
    refine j_callV (k := 55) (ci := 11) (q := (RX12, TX12, 17)) (As := [.int (nI x1), .int (xs (i + 2))]) (rest := []) S hK hA hW (c_X12_setEvidence_ok l D cy ad th n nc sd se x1 (xs (i + 2)) gO gE   (by omega) (by omega) (hq2)) (jgo wm_L_162) yk_X12_setEvidence gO rfl rfl ⟨⟨rfl, rfl⟩, by decide, by decide⟩ rfl hl.1 rfl (Nat.le_of_ble_eq_true rfl) dL_law_700 ⟨by show (cells + 2) + 0 ≤ 601024; omega, by show (slots + 12) + 0 ≤ 7293033; omega⟩ (fun v w_ H locs hp hW => ?_)
    obtain ⟨rfl, hU1, hN1, hN2⟩ := hp
    have hU : jU w w_ [55, 56, 57, 58, 59, 60, 61, 62, 63, 64, 65, 66, 71, 72, 73, 74, 75] := jU.mono hU1 (by first | decide | (simp; done) | (simp; omega))
    have gF_ := hU1.get gF (by first | decide | (simp; done) | (simp; omega))
    have gT_ := hU1.get gT (by first | decide | (simp; done) | (simp; omega))
    have gD_ := hU1.get gD (by first | decide | (simp; done) | (simp; omega))
    have gC0_ := hU1.get gC0 (by first | decide | (simp; done) | (simp; omega))
    have gC1_ := hU1.get gC1 (by first | decide | (simp; done) | (simp; omega))
    have gC2_ := hU1.get gC2 (by first | decide | (simp; done) | (simp; omega))
    have gC3_ := hU1.get gC3 (by first | decide | (simp; done) | (simp; omega))
    have gC4_ := hU1.get gC4 (by first | decide | (simp; done) | (simp; omega))
    have gP_ := hU1.get gP (by first | decide | (simp; done) | (simp; omega))
    have gK_ := hU1.get gK (by first | decide | (simp; done) | (simp; omega))
    have gV_ := hU1.get gV (by first | decide | (simp; done) | (simp; omega))
    have gR_ := hU1.get gR (by first | decide | (simp; done) | (simp; omega))
    have gU_ := hU1.get gU (by first | decide | (simp; done) | (simp; omega))
    have hOut_ := hU1.get hOut (by first | decide | (simp; done) | (simp; omega))
    have hOuD_ := hU1.get hOuD (by first | decide | (simp; done) | (simp; omega))
    have gO_ : w_[55]? = some (ad 55, .inr (11, [.int (nI 0), .ref (ad 56), .ref (ad 57), .ref (ad 58), .ref (ad 59), .ref (ad 60), .ref (ad 61), .ref (ad 62), .ref (ad 63), .ref (ad 64), .ref (ad 65), .int (nI n), .int (nI nc), .ref (ad 66), .ref (ad 71), .ref (ad 72), .ref (ad 73)])) := hN1
    have gE_ : w_[58]? = some (ad 58, .inl (cy 0, 10, .inl (evA n (evSd sd x1 (xs (i + 2))) (evSe se x1 (xs (i + 2)))))) := hN2
    clear hU1 hN1 hN2
    refine W.eq (g2 := F0 m 703 ls [.int (evI sd se x1)]) rfl ?_
    refine lv_istore (lv' := [(7, .int (evI sd se x1)), (6, .int (nI 0)), (0, .ref b), (1, .ref (ad 0)), (2, .ref (ad 55)), (3, .ref (ad 74)), (4, .ref (ad 75)), (5, .int (nI i))]) S.1 S.2.1 dL_law_703 hl (by decide) rfl (fun ls hl => ?_)
    refine lv_aload_n S.1 S.2.1 dL_law_705 rfl (lv_at hl 4 rfl) ?_
    refine j_callV (k := 55) (ci := 11) (q := (RX12, TX12, 17)) (As := []) (rest := []) S hK hA hW (c_X12_thrown l D cy ad 0 n nc gO_   ) (jgo wm_L_136) yk_X12_thrown gO_ rfl rfl ⟨⟨rfl, rfl⟩, by decide, by decide⟩ rfl hl.1 rfl (Nat.le_of_ble_eq_true rfl) dL_law_706 ⟨by show (cells + 2) + 0 ≤ 601024; omega, by show (slots + 12) + 0 ≤ 7293033; omega⟩ (fun v u H locs hp hW => ?_)
    obtain ⟨rfl, rfl⟩ := hp
    refine W.eq (g2 := F0 m 709 ls [.int (nI 0)]) rfl ?_
    refine lv_iload S.1 S.2.1 dL_law_709 (lv_at hl 1 rfl) ?_
    refine jn_cmp_eq (tgt := 716) S (by omega) (by omega) dL_law_711 (by decide) (fun c_711 => ?_) (fun c_711 => ?_)
    · refine lv_iload S.1 S.2.1 dL_law_716 (lv_at hl 1 rfl) ?_
      refine jn_if_ne (tgt := 733) S (by omega) dL_law_718 (by decide) (fun c_718 => ?_) (fun c_718 => ?_)
      · first | exact absurd (show 0 ≠ 0 from c_718) (by decide) | exact absurd c_718 (by decide)
      · refine lv_aload_n S.1 S.2.1 dL_law_721 rfl (lv_at hl 5 rfl) ?_
        refine lv_iconst (v := nI 0) S.1 S.2.1 dL_law_722 (by decide) ?_
        refine j_lald (x := (evI sd se x1).toInt64) S hK hW hOut_ (vp_in_nI (by omega) (by omega)) (nI_clamp (by omega)) (if_pos rfl) dL_law_723 ?_
        refine lv_iload S.1 S.2.1 dL_law_724 (lv_at hl 0 rfl) ?_
        refine lv_i2l (v := (evI sd se x1).toInt64) S.1 S.2.1 dL_law_726 (rfl) ?_
        refine jl_eq (tgt := 733) S dL_law_727 dL_law_728 (by decide) (fun c_728 => ?_) (fun c_728 => ?_)
        · refine lv_goto (tgt := 2382) S.1 S.2.1 dL_law_733 (by decide) ?_
          exact W.widen (by omega) (by omega) (kk _ _ _ _ ⟨_, _, _, _, _, _, _, _, _, _, _, _, _, _, hPI1, (hCI.kept hU (by first | decide | (intro k hk; simp at hk; omega))), ⟨gx, _, _, gO_, gF_, gT_, gE_, gD_, gC0_, gC1_, gC2_, gC3_, gC4_, gP_, gK_, gV_, gR_, gU_, fun j hj => hU.get (hrow j hj) (by simp; omega), hkx⟩, hOut_, hOuD_⟩ hW (lv_sub hl [2, 3, 4, 5, 6, 7] rfl))
        · exact absurd rfl c_728
    · first | exact absurd (show 0 ≠ 0 from c_711) (by decide) | exact absurd c_711 (by decide)
  · have hRI := hRI.kept hU1 (fun k hk => by have := hK1 k hk; omega)
    obtain ⟨gx, rb, tu, gO, gF, gT, gE, gD, gC0, gC1, gC2, gC3, gC4, gP, gK, gV, gR, gU, hrow, hkx⟩ := hRI
    refine W.eq (g2 := F0 m 685 ls [.int (nI 1)]) rfl ?_
    refine lv_istore (lv' := [(6, .int (nI 1)), (0, .ref b), (1, .ref (ad 0)), (2, .ref (ad 55)), (3, .ref (ad 74)), (4, .ref (ad 75)), (5, .int (nI i))]) S.1 S.2.1 dL_law_685 hl (by decide) rfl (fun ls hl => ?_)
    refine lv_aload_n S.1 S.2.1 dL_law_687 rfl (lv_at hl 3 rfl) ?_
    refine lv_aload_n S.1 S.2.1 dL_law_688 rfl (lv_at hl 1 rfl) ?_
    refine lv_iload S.1 S.2.1 dL_law_689 (lv_at hl 6 rfl) ?_
    refine lv_iconst (v := nI 1) S.1 S.2.1 dL_law_691 (by decide) ?_
    refine jn_add S dL_law_692 ?_
    refine j_sld (x := xs (i + 1)) S hX hbl hbA hW (vp_in_nI (by omega) (by omega)) (nI_clamp (by omega)) (rfl) dL_law_693 ?_
    refine lv_aload_n S.1 S.2.1 dL_law_694 rfl (lv_at hl 1 rfl) ?_
    refine lv_iload S.1 S.2.1 dL_law_695 (lv_at hl 6 rfl) ?_
    refine lv_iconst (v := nI 2) S.1 S.2.1 dL_law_697 (by decide) ?_
    refine jn_add S dL_law_698 ?_
    refine j_sld (x := xs (i + 2)) S hX hbl hbA hW (vp_in_nI (by omega) (by omega)) (nI_clamp (by omega)) (rfl) dL_law_699 ?_
    refine j_callV (k := 55) (ci := 11) (q := (RX12, TX12, 17)) (As := [.int (xs (i + 1)), .int (xs (i + 2))]) (rest := []) S hK hA hW (c_X12_setEvidence_b1 l D cy ad th n nc (xs (i + 1)) (xs (i + 2)) gO   (by omega) (hq)) (jgo wm_L_162) yk_X12_setEvidence gO rfl rfl ⟨⟨rfl, rfl⟩, by decide, by decide⟩ rfl hl.1 rfl (Nat.le_of_ble_eq_true rfl) dL_law_700 ⟨by show (cells + 2) + 0 ≤ 601024; omega, by show (slots + 12) + 0 ≤ 7293033; omega⟩ (fun v w_ H locs hp hW => ?_)
    obtain ⟨rfl, hU1, hN1⟩ := hp
    have hU : jU w w_ [55, 56, 57, 58, 59, 60, 61, 62, 63, 64, 65, 66, 71, 72, 73, 74, 75] := jU.mono hU1 (by first | decide | (simp; done) | (simp; omega))
    have gF_ := hU1.get gF (by first | decide | (simp; done) | (simp; omega))
    have gT_ := hU1.get gT (by first | decide | (simp; done) | (simp; omega))
    have gE_ := hU1.get gE (by first | decide | (simp; done) | (simp; omega))
    have gD_ := hU1.get gD (by first | decide | (simp; done) | (simp; omega))
    have gC0_ := hU1.get gC0 (by first | decide | (simp; done) | (simp; omega))
    have gC1_ := hU1.get gC1 (by first | decide | (simp; done) | (simp; omega))
    have gC2_ := hU1.get gC2 (by first | decide | (simp; done) | (simp; omega))
    have gC3_ := hU1.get gC3 (by first | decide | (simp; done) | (simp; omega))
    have gC4_ := hU1.get gC4 (by first | decide | (simp; done) | (simp; omega))
    have gP_ := hU1.get gP (by first | decide | (simp; done) | (simp; omega))
    have gK_ := hU1.get gK (by first | decide | (simp; done) | (simp; omega))
    have gV_ := hU1.get gV (by first | decide | (simp; done) | (simp; omega))
    have gR_ := hU1.get gR (by first | decide | (simp; done) | (simp; omega))
    have gU_ := hU1.get gU (by first | decide | (simp; done) | (simp; omega))
    have hOut_ := hU1.get hOut (by first | decide | (simp; done) | (simp; omega))
    have hOuD_ := hU1.get hOuD (by first | decide | (simp; done) | (simp; omega))
    have gO_ : w_[55]? = some (ad 55, .inr (11, [.int (nI 1), .ref (ad 56), .ref (ad 57), .ref (ad 58), .ref (ad 59), .ref (ad 60), .ref (ad 61), .ref (ad 62), .ref (ad 63), .ref (ad 64), .ref (ad 65), .int (nI n), .int (nI nc), .ref (ad 66), .ref (ad 71), .ref (ad 72), .ref (ad 73)])) := hN1
    clear hU1 hN1
    refine W.eq (g2 := F0 m 703 ls [.int (nI 0)]) rfl ?_
    refine lv_istore (lv' := [(7, .int (nI 0)), (6, .int (nI 1)), (0, .ref b), (1, .ref (ad 0)), (2, .ref (ad 55)), (3, .ref (ad 74)), (4, .ref (ad 75)), (5, .int (nI i))]) S.1 S.2.1 dL_law_703 hl (by decide) rfl (fun ls hl => ?_)
    refine lv_aload_n S.1 S.2.1 dL_law_705 rfl (lv_at hl 4 rfl) ?_
    refine j_callV (k := 55) (ci := 11) (q := (RX12, TX12, 17)) (As := []) (rest := []) S hK hA hW (c_X12_thrown l D cy ad 1 n nc gO_   ) (jgo wm_L_136) yk_X12_thrown gO_ rfl rfl ⟨⟨rfl, rfl⟩, by decide, by decide⟩ rfl hl.1 rfl (Nat.le_of_ble_eq_true rfl) dL_law_706 ⟨by show (cells + 2) + 0 ≤ 601024; omega, by show (slots + 12) + 0 ≤ 7293033; omega⟩ (fun v u H locs hp hW => ?_)
    obtain ⟨rfl, rfl⟩ := hp
    refine W.eq (g2 := F0 m 709 ls [.int (nI 1)]) rfl ?_
    refine lv_iload S.1 S.2.1 dL_law_709 (lv_at hl 1 rfl) ?_
    refine jn_cmp_eq (tgt := 716) S (by omega) (by omega) dL_law_711 (by decide) (fun c_711 => ?_) (fun c_711 => ?_)
    · refine lv_iload S.1 S.2.1 dL_law_716 (lv_at hl 1 rfl) ?_
      refine jn_if_ne (tgt := 733) S (by omega) dL_law_718 (by decide) (fun c_718 => ?_) (fun c_718 => ?_)
      · refine lv_goto (tgt := 2382) S.1 S.2.1 dL_law_733 (by decide) ?_
        exact W.widen (by omega) (by omega) (kk _ _ _ _ ⟨_, _, _, _, _, _, _, _, _, _, _, _, _, _, hPI, (hCI.kept hU (by first | decide | (intro k hk; simp at hk; omega))), ⟨gx, _, _, gO_, gF_, gT_, gE_, gD_, gC0_, gC1_, gC2_, gC3_, gC4_, gP_, gK_, gV_, gR_, gU_, fun j hj => hU.get (hrow j hj) (by simp; omega), hkx⟩, hOut_, hOuD_⟩ hW (lv_sub hl [2, 3, 4, 5, 6, 7] rfl))
      · first | exact absurd (show 1 = 0 from c_718) (by decide) | exact absurd c_718 (by decide)
    · first | exact absurd (show 1 ≠ 1 from c_711) (by decide) | exact absurd c_711 (by decide)
  · have hRI := hRI.kept hU1 (fun k hk => by have := hK1 k hk; omega)
    obtain ⟨gx, rb, tu, gO, gF, gT, gE, gD, gC0, gC1, gC2, gC3, gC4, gP, gK, gV, gR, gU, hrow, hkx⟩ := hRI
    obtain ⟨⟨x1, hx1, e1⟩, hq⟩ := hq
    refine W.eq (g2 := F0 m 685 ls [.int (nI 2)]) rfl ?_
    refine lv_istore (lv' := [(6, .int (nI 2)), (0, .ref b), (1, .ref (ad 0)), (2, .ref (ad 55)), (3, .ref (ad 74)), (4, .ref (ad 75)), (5, .int (nI i))]) S.1 S.2.1 dL_law_685 hl (by decide) rfl (fun ls hl => ?_)
    refine lv_aload_n S.1 S.2.1 dL_law_687 rfl (lv_at hl 3 rfl) ?_
    refine lv_aload_n S.1 S.2.1 dL_law_688 rfl (lv_at hl 1 rfl) ?_
    refine lv_iload S.1 S.2.1 dL_law_689 (lv_at hl 6 rfl) ?_
    refine lv_iconst (v := nI 1) S.1 S.2.1 dL_law_691 (by decide) ?_
    refine jn_add S dL_law_692 ?_
    refine j_sld (x := nI x1) S hX hbl hbA hW (vp_in_nI (by omega) (by omega)) (nI_clamp (by omega)) (e1) dL_law_693 ?_
    refine lv_aload_n S.1 S.2.1 dL_law_694 rfl (lv_at hl 1 rfl) ?_
    refine lv_iload S.1 S.2.1 dL_law_695 (lv_at hl 6 rfl) ?_
    refine lv_iconst (v := nI 2) S.1 S.2.1 dL_law_697 (by decide) ?_
    refine jn_add S dL_law_698 ?_
    refine j_sld (x := xs (i + 2)) S hX hbl hbA hW (vp_in_nI (by omega) (by omega)) (nI_clamp (by omega)) (rfl) dL_law_699 ?_
    refine j_callV (k := 55) (ci := 11) (q := (RX12, TX12, 17)) (As := [.int (nI x1), .int (xs (i + 2))]) (rest := []) S hK hA hW (c_X12_setEvidence_b2 l D cy ad th n nc x1 (xs (i + 2)) gO   (by omega) (by omega) (hq)) (jgo wm_L_162) yk_X12_setEvidence gO rfl rfl ⟨⟨rfl, rfl⟩, by decide, by decide⟩ rfl hl.1 rfl (Nat.le_of_ble_eq_true rfl) dL_law_700 ⟨by show (cells + 2) + 0 ≤ 601024; omega, by show (slots + 12) + 0 ≤ 7293033; omega⟩ (fun v w_ H locs hp hW => ?_)
    obtain ⟨rfl, hU1, hN1⟩ := hp
    have hU : jU w w_ [55, 56, 57, 58, 59, 60, 61, 62, 63, 64, 65, 66, 71, 72, 73, 74, 75] := jU.mono hU1 (by first | decide | (simp; done) | (simp; omega))
    have gF_ := hU1.get gF (by first | decide | (simp; done) | (simp; omega))
    have gT_ := hU1.get gT (by first | decide | (simp; done) | (simp; omega))
    have gE_ := hU1.get gE (by first | decide | (simp; done) | (simp; omega))
    have gD_ := hU1.get gD (by first | decide | (simp; done) | (simp; omega))
    have gC0_ := hU1.get gC0 (by first | decide | (simp; done) | (simp; omega))
    have gC1_ := hU1.get gC1 (by first | decide | (simp; done) | (simp; omega))
    have gC2_ := hU1.get gC2 (by first | decide | (simp; done) | (simp; omega))
    have gC3_ := hU1.get gC3 (by first | decide | (simp; done) | (simp; omega))
    have gC4_ := hU1.get gC4 (by first | decide | (simp; done) | (simp; omega))
    have gP_ := hU1.get gP (by first | decide | (simp; done) | (simp; omega))
    have gK_ := hU1.get gK (by first | decide | (simp; done) | (simp; omega))
    have gV_ := hU1.get gV (by first | decide | (simp; done) | (simp; omega))
    have gR_ := hU1.get gR (by first | decide | (simp; done) | (simp; omega))
    have gU_ := hU1.get gU (by first | decide | (simp; done) | (simp; omega))
    have hOut_ := hU1.get hOut (by first | decide | (simp; done) | (simp; omega))
    have hOuD_ := hU1.get hOuD (by first | decide | (simp; done) | (simp; omega))
    have gO_ : w_[55]? = some (ad 55, .inr (11, [.int (nI 2), .ref (ad 56), .ref (ad 57), .ref (ad 58), .ref (ad 59), .ref (ad 60), .ref (ad 61), .ref (ad 62), .ref (ad 63), .ref (ad 64), .ref (ad 65), .int (nI n), .int (nI nc), .ref (ad 66), .ref (ad 71), .ref (ad 72), .ref (ad 73)])) := hN1
    clear hU1 hN1
    refine W.eq (g2 := F0 m 703 ls [.int (nI 0)]) rfl ?_
    refine lv_istore (lv' := [(7, .int (nI 0)), (6, .int (nI 2)), (0, .ref b), (1, .ref (ad 0)), (2, .ref (ad 55)), (3, .ref (ad 74)), (4, .ref (ad 75)), (5, .int (nI i))]) S.1 S.2.1 dL_law_703 hl (by decide) rfl (fun ls hl => ?_)
    refine lv_aload_n S.1 S.2.1 dL_law_705 rfl (lv_at hl 4 rfl) ?_
    refine j_callV (k := 55) (ci := 11) (q := (RX12, TX12, 17)) (As := []) (rest := []) S hK hA hW (c_X12_thrown l D cy ad 2 n nc gO_   ) (jgo wm_L_136) yk_X12_thrown gO_ rfl rfl ⟨⟨rfl, rfl⟩, by decide, by decide⟩ rfl hl.1 rfl (Nat.le_of_ble_eq_true rfl) dL_law_706 ⟨by show (cells + 2) + 0 ≤ 601024; omega, by show (slots + 12) + 0 ≤ 7293033; omega⟩ (fun v u H locs hp hW => ?_)
    obtain ⟨rfl, rfl⟩ := hp
    refine W.eq (g2 := F0 m 709 ls [.int (nI 2)]) rfl ?_
    refine lv_iload S.1 S.2.1 dL_law_709 (lv_at hl 1 rfl) ?_
    refine jn_cmp_eq (tgt := 716) S (by omega) (by omega) dL_law_711 (by decide) (fun c_711 => ?_) (fun c_711 => ?_)
    · refine lv_iload S.1 S.2.1 dL_law_716 (lv_at hl 1 rfl) ?_
      refine jn_if_ne (tgt := 733) S (by omega) dL_law_718 (by decide) (fun c_718 => ?_) (fun c_718 => ?_)
      · refine lv_goto (tgt := 2382) S.1 S.2.1 dL_law_733 (by decide) ?_
        exact W.widen (by omega) (by omega) (kk _ _ _ _ ⟨_, _, _, _, _, _, _, _, _, _, _, _, _, _, hPI, (hCI.kept hU (by first | decide | (intro k hk; simp at hk; omega))), ⟨gx, _, _, gO_, gF_, gT_, gE_, gD_, gC0_, gC1_, gC2_, gC3_, gC4_, gP_, gK_, gV_, gR_, gU_, fun j hj => hU.get (hrow j hj) (by simp; omega), hkx⟩, hOut_, hOuD_⟩ hW (lv_sub hl [2, 3, 4, 5, 6, 7] rfl))
      · first | exact absurd (show 2 = 0 from c_718) (by decide) | exact absurd c_718 (by decide)
    · first | exact absurd (show 2 ≠ 2 from c_711) (by decide) | exact absurd c_711 (by decide)
/-- the law's holds -/
theorem s_holds {p : Program} {l : Launch} {e : Env} {s : State} {m : MethodId} {args : Array Value} {below : List Frame} {meth : Method} {c : Code} {Q : State → Prop} {D : va_G} {cy : Nat → ClassId} {A : Nat → Prop} {x0 : Cond} {ad : Nat → Nat} {b L : Nat} {xs : Nat → Int32} {i : Nat} {w : va_W} {H : Heap} {locs : List Loc} {ls : Array Slot} {cells slots : Nat} (htr : l.stackTraces = false) (C : LX p s m c args D cy A b L xs x0) (hI : INV ad cy w) (hW : jW D A s.heap w H locs) (hl : lv_has ls 10 [(0, .ref b), (1, .ref (ad 0)), (2, .ref (ad 55)), (3, .ref (ad 74)), (4, .ref (ad 75)), (5, .int (nI i))]) (hi : i + 5 ≤ L) (hL : L ≤ 2560) (hc : cells + 10 ≤ 601024) (hs : slots + 64 ≤ 7293033) (kk : LK p l e s m args below meth c Q D cy A ad b i cells slots) : W p l e room_1 s m args below meth c H locs cells slots Q (F0 m 736 ls []) := by
  obtain ⟨S, hK, hA, hX, hbl, hbA, hx, hnx⟩ := C
  obtain ⟨n, wf, wt, od, sd, se, nc, lv, cs, kv, kx, th, og, ogd, hPI, hCI, hRI, hOut, hOuD⟩ := hI
  have hPI0 := hPI
  obtain ⟨hn, hsdn, hse2, hnc, hlvn, hcs, hkI, hod, hodn, hinj⟩ := hPI0
  have hp2 := two_pow10 hn
  have hpt := Nat.two_pow_pos n
  have hWB := hCI.wb
  refine lv_aload_n S.1 S.2.1 dL_law_736 rfl (lv_at hl 1 rfl) ?_
  refine lv_aload_n S.1 S.2.1 dL_law_737 rfl (lv_at hl 0 rfl) ?_
  refine lv_iload S.1 S.2.1 dL_law_738 (lv_at hl 5 rfl) ?_
  refine lv_iconst (v := nI 1) S.1 S.2.1 dL_law_740 (by decide) ?_
  refine jn_add S dL_law_741 ?_
  refine j_sld (x := xs (i + 1)) S hX hbl hbA hW (vp_in_nI (by omega) (by omega)) (nI_clamp (by omega)) (rfl) dL_law_742 ?_
  refine lv_aload_n S.1 S.2.1 dL_law_743 rfl (lv_at hl 0 rfl) ?_
  refine lv_iload S.1 S.2.1 dL_law_744 (lv_at hl 5 rfl) ?_
  refine lv_iconst (v := nI 2) S.1 S.2.1 dL_law_746 (by decide) ?_
  refine jn_add S dL_law_747 ?_
  refine j_sld (x := xs (i + 2)) S hX hbl hbA hW (vp_in_nI (by omega) (by omega)) (nI_clamp (by omega)) (rfl) dL_law_748 ?_
  refine lv_aload_n S.1 S.2.1 dL_law_749 rfl (lv_at hl 3 rfl) ?_
  refine j_callH (As := [.ref (ad 0), .int (xs (i + 1)), .int (xs (i + 2)), .ref (ad 74)]) (rest := []) S hK hA hW hx hnx (h_holds l htr D cy ad n wf wt od sd se nc lv cs kv kx (xs (i + 1)) (xs (i + 2)) og ogd hPI hCI hOut hOuD) (jgo wm_L_163) yk_L_holds ⟨⟨rfl, rfl⟩, by decide, by decide⟩ rfl hl.1 rfl (Nat.le_of_ble_eq_true rfl) dL_law_750 ⟨by show cells + 1 ≤ 601024; omega, by show slots + 6 ≤ 7293033; omega⟩ (fun v w H locs hp hW => ?_)
  rcases hp with ⟨j1, x1, rfl, hq0, hq1, hq2, hq3, ⟨K1, hU1, hK1⟩, hCI, hOut, hOuD⟩ | ⟨rfl, hq, ⟨K1, hU1, hK1⟩, hCI, hOut, hOuD⟩ | ⟨rfl, hq, ⟨K1, hU1, hK1⟩, hCI, hOut, hOuD⟩
  · have hRI := hRI.kept hU1 (fun k hk => by have := hK1 k hk; omega)
    obtain ⟨gx, rb, tu, gO, gF, gT, gE, gD, gC0, gC1, gC2, gC3, gC4, gP, gK, gV, gR, gU, hrow, hkx⟩ := hRI
    refine W.eq (g2 := F0 m 753 ls [.int (nI 0)]) rfl ?_
    refine lv_istore (lv' := [(6, .int (nI 0)), (0, .ref b), (1, .ref (ad 0)), (2, .ref (ad 55)), (3, .ref (ad 74)), (4, .ref (ad 75)), (5, .int (nI i))]) S.1 S.2.1 dL_law_753 hl (by decide) rfl (fun ls hl => ?_)
    refine lv_aload_n S.1 S.2.1 dL_law_755 rfl (lv_at hl 3 rfl) ?_
    refine lv_aload_n S.1 S.2.1 dL_law_756 rfl (lv_at hl 1 rfl) ?_
    refine lv_iload S.1 S.2.1 dL_law_757 (lv_at hl 6 rfl) ?_
    refine lv_iconst (v := nI 1) S.1 S.2.1 dL_law_759 (by decide) ?_
    refine jn_add S dL_law_760 ?_
    refine j_sld (x := nI j1) S hX hbl hbA hW (vp_in_nI (by omega) (by omega)) (nI_clamp (by omega)) (hq1) dL_law_761 ?_
    refine lv_aload_n S.1 S.2.1 dL_law_762 rfl (lv_at hl 1 rfl) ?_
    refine lv_iload S.1 S.2.1 dL_law_763 (lv_at hl 6 rfl) ?_
    refine lv_iconst (v := nI 2) S.1 S.2.1 dL_law_765 (by decide) ?_
    refine jn_add S dL_law_766 ?_
    refine j_sld (x := nI x1) S hX hbl hbA hW (vp_in_nI (by omega) (by omega)) (nI_clamp (by omega)) (hq3) dL_law_767 ?_
    refine j_callV (k := 55) (ci := 11) (q := (RX12, TX12, 17)) (As := [.int (nI j1), .int (nI x1)]) (rest := []) S hK hA hW (c_X12_holds_ok l D cy ad th n nc cs j1 x1 gO gC0 gC1 gC2 gC3 gC4   (by omega) (by omega) (hcs) (by omega) (by omega)) (jgo wm_L_165) yk_X12_holds gO rfl rfl ⟨⟨rfl, rfl⟩, by decide, by decide⟩ rfl hl.1 rfl (Nat.le_of_ble_eq_true rfl) dL_law_768 ⟨by show (cells + 1) + 0 ≤ 601024; omega, by show (slots + 6) + 0 ≤ 7293033; omega⟩ (fun v w_ H locs hp hW => ?_)
    obtain ⟨rfl, hU1, hN1⟩ := hp
    have hU : jU w w_ [55, 56, 57, 58, 59, 60, 61, 62, 63, 64, 65, 66, 71, 72, 73, 74, 75] := jU.mono hU1 (by first | decide | (simp; done) | (simp; omega))
    have gF_ := hU1.get gF (by first | decide | (simp; done) | (simp; omega))
    have gT_ := hU1.get gT (by first | decide | (simp; done) | (simp; omega))
    have gE_ := hU1.get gE (by first | decide | (simp; done) | (simp; omega))
    have gD_ := hU1.get gD (by first | decide | (simp; done) | (simp; omega))
    have gC0_ := hU1.get gC0 (by first | decide | (simp; done) | (simp; omega))
    have gC1_ := hU1.get gC1 (by first | decide | (simp; done) | (simp; omega))
    have gC2_ := hU1.get gC2 (by first | decide | (simp; done) | (simp; omega))
    have gC3_ := hU1.get gC3 (by first | decide | (simp; done) | (simp; omega))
    have gC4_ := hU1.get gC4 (by first | decide | (simp; done) | (simp; omega))
    have gP_ := hU1.get gP (by first | decide | (simp; done) | (simp; omega))
    have gK_ := hU1.get gK (by first | decide | (simp; done) | (simp; omega))
    have gV_ := hU1.get gV (by first | decide | (simp; done) | (simp; omega))
    have gR_ := hU1.get gR (by first | decide | (simp; done) | (simp; omega))
    have gU_ := hU1.get gU (by first | decide | (simp; done) | (simp; omega))
    have hOut_ := hU1.get hOut (by first | decide | (simp; done) | (simp; omega))
    have hOuD_ := hU1.get hOuD (by first | decide | (simp; done) | (simp; omega))
    have gO_ : w_[55]? = some (ad 55, .inr (11, [.int (nI 0), .ref (ad 56), .ref (ad 57), .ref (ad 58), .ref (ad 59), .ref (ad 60), .ref (ad 61), .ref (ad 62), .ref (ad 63), .ref (ad 64), .ref (ad 65), .int (nI n), .int (nI nc), .ref (ad 66), .ref (ad 71), .ref (ad 72), .ref (ad 73)])) := hN1
    clear hU1 hN1
    refine W.eq (g2 := F0 m 771 ls [.int (bI (heldC (cs j1) x1))]) rfl ?_
    refine lv_istore (lv' := [(7, .int (bI (heldC (cs j1) x1))), (6, .int (nI 0)), (0, .ref b), (1, .ref (ad 0)), (2, .ref (ad 55)), (3, .ref (ad 74)), (4, .ref (ad 75)), (5, .int (nI i))]) S.1 S.2.1 dL_law_771 hl (by decide) rfl (fun ls hl => ?_)
    refine lv_aload_n S.1 S.2.1 dL_law_773 rfl (lv_at hl 4 rfl) ?_
    refine j_callV (k := 55) (ci := 11) (q := (RX12, TX12, 17)) (As := []) (rest := []) S hK hA hW (c_X12_thrown l D cy ad 0 n nc gO_   ) (jgo wm_L_136) yk_X12_thrown gO_ rfl rfl ⟨⟨rfl, rfl⟩, by decide, by decide⟩ rfl hl.1 rfl (Nat.le_of_ble_eq_true rfl) dL_law_774 ⟨by show (cells + 1) + 0 ≤ 601024; omega, by show (slots + 6) + 0 ≤ 7293033; omega⟩ (fun v u H locs hp hW => ?_)
    obtain ⟨rfl, rfl⟩ := hp
    refine W.eq (g2 := F0 m 777 ls [.int (nI 0)]) rfl ?_
    refine lv_iload S.1 S.2.1 dL_law_777 (lv_at hl 1 rfl) ?_
    refine jn_cmp_eq (tgt := 784) S (by omega) (by omega) dL_law_779 (by decide) (fun c_779 => ?_) (fun c_779 => ?_)
    · refine lv_iload S.1 S.2.1 dL_law_784 (lv_at hl 1 rfl) ?_
      refine jn_if_ne (tgt := 808) S (by omega) dL_law_786 (by decide) (fun c_786 => ?_) (fun c_786 => ?_)
      · first | exact absurd (show 0 ≠ 0 from c_786) (by decide) | exact absurd c_786 (by decide)
      · refine lv_aload_n S.1 S.2.1 dL_law_789 rfl (lv_at hl 5 rfl) ?_
        refine lv_iconst (v := nI 0) S.1 S.2.1 dL_law_790 (by decide) ?_
        refine j_lald (x := lN (b01 (heldC (cs j1) x1))) S hK hW hOut_ (vp_in_nI (by omega) (by omega)) (nI_clamp (by omega)) (if_pos rfl) dL_law_791 ?_
        refine lv_iload S.1 S.2.1 dL_law_792 (lv_at hl 0 rfl) ?_
        refine jb_if_eq (tgt := 801) S dL_law_794 (by decide) (fun c_794 => ?_) (fun c_794 => ?_)
        · refine lv_lconst (v := lN 0) S.1 S.2.1 dL_law_801 (by decide) ?_
          refine jl_eq (tgt := 808) S dL_law_802 dL_law_803 (by decide) (fun c_803 => ?_) (fun c_803 => ?_)
          · refine lv_goto (tgt := 2382) S.1 S.2.1 dL_law_808 (by decide) ?_
            exact W.widen (by omega) (by omega) (kk _ _ _ _ ⟨_, _, _, _, _, _, _, _, _, _, _, _, _, _, hPI, (hCI.kept hU (by first | decide | (intro k hk; simp at hk; omega))), ⟨gx, _, _, gO_, gF_, gT_, gE_, gD_, gC0_, gC1_, gC2_, gC3_, gC4_, gP_, gK_, gV_, gR_, gU_, fun j hj => hU.get (hrow j hj) (by simp; omega), hkx⟩, hOut_, hOuD_⟩ hW (lv_sub hl [2, 3, 4, 5, 6, 7] rfl))
          · exact absurd (by rw [c_794]; rfl) c_803
        · refine lv_lconst (v := lN 1) S.1 S.2.1 dL_law_797 (by decide) ?_
          refine lv_goto (tgt := 802) S.1 S.2.1 dL_law_798 (by decide) ?_
          refine jl_eq (tgt := 808) S dL_law_802 dL_law_803 (by decide) (fun c_803 => ?_) (fun c_803 => ?_)
          · refine lv_goto (tgt := 2382) S.1 S.2.1 dL_law_808 (by decide) ?_
            exact W.widen (by omega) (by omega) (kk _ _ _ _ ⟨_, _, _, _, _, _, _, _, _, _, _, _, _, _, hPI, (hCI.kept hU (by first | decide | (intro k hk; simp at hk; omega))), ⟨gx, _, _, gO_, gF_, gT_, gE_, gD_, gC0_, gC1_, gC2_, gC3_, gC4_, gP_, gK_, gV_, gR_, gU_, fun j hj => hU.get (hrow j hj) (by simp; omega), hkx⟩, hOut_, hOuD_⟩ hW (lv_sub hl [2, 3, 4, 5, 6, 7] rfl))
          · exact absurd (by rw [c_794]; rfl) c_803
    · first | exact absurd (show 0 ≠ 0 from c_779) (by decide) | exact absurd c_779 (by decide)
  · have hRI := hRI.kept hU1 (fun k hk => by have := hK1 k hk; omega)
    obtain ⟨gx, rb, tu, gO, gF, gT, gE, gD, gC0, gC1, gC2, gC3, gC4, gP, gK, gV, gR, gU, hrow, hkx⟩ := hRI
    refine W.eq (g2 := F0 m 753 ls [.int (nI 1)]) rfl ?_
    refine lv_istore (lv' := [(6, .int (nI 1)), (0, .ref b), (1, .ref (ad 0)), (2, .ref (ad 55)), (3, .ref (ad 74)), (4, .ref (ad 75)), (5, .int (nI i))]) S.1 S.2.1 dL_law_753 hl (by decide) rfl (fun ls hl => ?_)
    refine lv_aload_n S.1 S.2.1 dL_law_755 rfl (lv_at hl 3 rfl) ?_
    refine lv_aload_n S.1 S.2.1 dL_law_756 rfl (lv_at hl 1 rfl) ?_
    refine lv_iload S.1 S.2.1 dL_law_757 (lv_at hl 6 rfl) ?_
    refine lv_iconst (v := nI 1) S.1 S.2.1 dL_law_759 (by decide) ?_
    refine jn_add S dL_law_760 ?_
    refine j_sld (x := xs (i + 1)) S hX hbl hbA hW (vp_in_nI (by omega) (by omega)) (nI_clamp (by omega)) (rfl) dL_law_761 ?_
    refine lv_aload_n S.1 S.2.1 dL_law_762 rfl (lv_at hl 1 rfl) ?_
    refine lv_iload S.1 S.2.1 dL_law_763 (lv_at hl 6 rfl) ?_
    refine lv_iconst (v := nI 2) S.1 S.2.1 dL_law_765 (by decide) ?_
    refine jn_add S dL_law_766 ?_
    refine j_sld (x := xs (i + 2)) S hX hbl hbA hW (vp_in_nI (by omega) (by omega)) (nI_clamp (by omega)) (rfl) dL_law_767 ?_
    refine j_callV (k := 55) (ci := 11) (q := (RX12, TX12, 17)) (As := [.int (xs (i + 1)), .int (xs (i + 2))]) (rest := []) S hK hA hW (c_X12_holds_b1 l D cy ad th n nc (xs (i + 1)) (xs (i + 2)) gO   (by omega) (hq)) (jgo wm_L_165) yk_X12_holds gO rfl rfl ⟨⟨rfl, rfl⟩, by decide, by decide⟩ rfl hl.1 rfl (Nat.le_of_ble_eq_true rfl) dL_law_768 ⟨by show (cells + 1) + 0 ≤ 601024; omega, by show (slots + 6) + 0 ≤ 7293033; omega⟩ (fun v w_ H locs hp hW => ?_)
    obtain ⟨rfl, hU1, hN1⟩ := hp
    have hU : jU w w_ [55, 56, 57, 58, 59, 60, 61, 62, 63, 64, 65, 66, 71, 72, 73, 74, 75] := jU.mono hU1 (by first | decide | (simp; done) | (simp; omega))
    have gF_ := hU1.get gF (by first | decide | (simp; done) | (simp; omega))
    have gT_ := hU1.get gT (by first | decide | (simp; done) | (simp; omega))
    have gE_ := hU1.get gE (by first | decide | (simp; done) | (simp; omega))
    have gD_ := hU1.get gD (by first | decide | (simp; done) | (simp; omega))
    have gC0_ := hU1.get gC0 (by first | decide | (simp; done) | (simp; omega))
    have gC1_ := hU1.get gC1 (by first | decide | (simp; done) | (simp; omega))
    have gC2_ := hU1.get gC2 (by first | decide | (simp; done) | (simp; omega))
    have gC3_ := hU1.get gC3 (by first | decide | (simp; done) | (simp; omega))
    have gC4_ := hU1.get gC4 (by first | decide | (simp; done) | (simp; omega))
    have gP_ := hU1.get gP (by first | decide | (simp; done) | (simp; omega))
    have gK_ := hU1.get gK (by first | decide | (simp; done) | (simp; omega))
    have gV_ := hU1.get gV (by first | decide | (simp; done) | (simp; omega))
    have gR_ := hU1.get gR (by first | decide | (simp; done) | (simp; omega))
    have gU_ := hU1.get gU (by first | decide | (simp; done) | (simp; omega))
    have hOut_ := hU1.get hOut (by first | decide | (simp; done) | (simp; omega))
    have hOuD_ := hU1.get hOuD (by first | decide | (simp; done) | (simp; omega))
    have gO_ : w_[55]? = some (ad 55, .inr (11, [.int (nI 1), .ref (ad 56), .ref (ad 57), .ref (ad 58), .ref (ad 59), .ref (ad 60), .ref (ad 61), .ref (ad 62), .ref (ad 63), .ref (ad 64), .ref (ad 65), .int (nI n), .int (nI nc), .ref (ad 66), .ref (ad 71), .ref (ad 72), .ref (ad 73)])) := hN1
    clear hU1 hN1
    refine W.eq (g2 := F0 m 771 ls [.int (nI 0)]) rfl ?_
    refine lv_istore (lv' := [(7, .int (nI 0)), (6, .int (nI 1)), (0, .ref b), (1, .ref (ad 0)), (2, .ref (ad 55)), (3, .ref (ad 74)), (4, .ref (ad 75)), (5, .int (nI i))]) S.1 S.2.1 dL_law_771 hl (by decide) rfl (fun ls hl => ?_)
    refine lv_aload_n S.1 S.2.1 dL_law_773 rfl (lv_at hl 4 rfl) ?_
    refine j_callV (k := 55) (ci := 11) (q := (RX12, TX12, 17)) (As := []) (rest := []) S hK hA hW (c_X12_thrown l D cy ad 1 n nc gO_   ) (jgo wm_L_136) yk_X12_thrown gO_ rfl rfl ⟨⟨rfl, rfl⟩, by decide, by decide⟩ rfl hl.1 rfl (Nat.le_of_ble_eq_true rfl) dL_law_774 ⟨by show (cells + 1) + 0 ≤ 601024; omega, by show (slots + 6) + 0 ≤ 7293033; omega⟩ (fun v u H locs hp hW => ?_)
    obtain ⟨rfl, rfl⟩ := hp
    refine W.eq (g2 := F0 m 777 ls [.int (nI 1)]) rfl ?_
    refine lv_iload S.1 S.2.1 dL_law_777 (lv_at hl 1 rfl) ?_
    refine jn_cmp_eq (tgt := 784) S (by omega) (by omega) dL_law_779 (by decide) (fun c_779 => ?_) (fun c_779 => ?_)
    · refine lv_iload S.1 S.2.1 dL_law_784 (lv_at hl 1 rfl) ?_
      refine jn_if_ne (tgt := 808) S (by omega) dL_law_786 (by decide) (fun c_786 => ?_) (fun c_786 => ?_)
      · refine lv_goto (tgt := 2382) S.1 S.2.1 dL_law_808 (by decide) ?_
        exact W.widen (by omega) (by omega) (kk _ _ _ _ ⟨_, _, _, _, _, _, _, _, _, _, _, _, _, _, hPI, (hCI.kept hU (by first | decide | (intro k hk; simp at hk; omega))), ⟨gx, _, _, gO_, gF_, gT_, gE_, gD_, gC0_, gC1_, gC2_, gC3_, gC4_, gP_, gK_, gV_, gR_, gU_, fun j hj => hU.get (hrow j hj) (by simp; omega), hkx⟩, hOut_, hOuD_⟩ hW (lv_sub hl [2, 3, 4, 5, 6, 7] rfl))
      · first | exact absurd (show 1 = 0 from c_786) (by decide) | exact absurd c_786 (by decide)
    · first | exact absurd (show 1 ≠ 1 from c_779) (by decide) | exact absurd c_779 (by decide)
  · have hRI := hRI.kept hU1 (fun k hk => by have := hK1 k hk; omega)
    obtain ⟨gx, rb, tu, gO, gF, gT, gE, gD, gC0, gC1, gC2, gC3, gC4, gP, gK, gV, gR, gU, hrow, hkx⟩ := hRI
    obtain ⟨⟨j1, hj1, e1⟩, hq⟩ := hq
    refine W.eq (g2 := F0 m 753 ls [.int (nI 2)]) rfl ?_
    refine lv_istore (lv' := [(6, .int (nI 2)), (0, .ref b), (1, .ref (ad 0)), (2, .ref (ad 55)), (3, .ref (ad 74)), (4, .ref (ad 75)), (5, .int (nI i))]) S.1 S.2.1 dL_law_753 hl (by decide) rfl (fun ls hl => ?_)
    refine lv_aload_n S.1 S.2.1 dL_law_755 rfl (lv_at hl 3 rfl) ?_
    refine lv_aload_n S.1 S.2.1 dL_law_756 rfl (lv_at hl 1 rfl) ?_
    refine lv_iload S.1 S.2.1 dL_law_757 (lv_at hl 6 rfl) ?_
    refine lv_iconst (v := nI 1) S.1 S.2.1 dL_law_759 (by decide) ?_
    refine jn_add S dL_law_760 ?_
    refine j_sld (x := nI j1) S hX hbl hbA hW (vp_in_nI (by omega) (by omega)) (nI_clamp (by omega)) (e1) dL_law_761 ?_
    refine lv_aload_n S.1 S.2.1 dL_law_762 rfl (lv_at hl 1 rfl) ?_
    refine lv_iload S.1 S.2.1 dL_law_763 (lv_at hl 6 rfl) ?_
    refine lv_iconst (v := nI 2) S.1 S.2.1 dL_law_765 (by decide) ?_
    refine jn_add S dL_law_766 ?_
    refine j_sld (x := xs (i + 2)) S hX hbl hbA hW (vp_in_nI (by omega) (by omega)) (nI_clamp (by omega)) (rfl) dL_law_767 ?_
    refine j_callV (k := 55) (ci := 11) (q := (RX12, TX12, 17)) (As := [.int (nI j1), .int (xs (i + 2))]) (rest := []) S hK hA hW (c_X12_holds_b2 l D cy ad th n nc j1 (xs (i + 2)) gO   (by omega) (by omega) (by omega) (hq)) (jgo wm_L_165) yk_X12_holds gO rfl rfl ⟨⟨rfl, rfl⟩, by decide, by decide⟩ rfl hl.1 rfl (Nat.le_of_ble_eq_true rfl) dL_law_768 ⟨by show (cells + 1) + 0 ≤ 601024; omega, by show (slots + 6) + 0 ≤ 7293033; omega⟩ (fun v w_ H locs hp hW => ?_)
    obtain ⟨rfl, hU1, hN1⟩ := hp
    have hU : jU w w_ [55, 56, 57, 58, 59, 60, 61, 62, 63, 64, 65, 66, 71, 72, 73, 74, 75] := jU.mono hU1 (by first | decide | (simp; done) | (simp; omega))
    have gF_ := hU1.get gF (by first | decide | (simp; done) | (simp; omega))
    have gT_ := hU1.get gT (by first | decide | (simp; done) | (simp; omega))
    have gE_ := hU1.get gE (by first | decide | (simp; done) | (simp; omega))
    have gD_ := hU1.get gD (by first | decide | (simp; done) | (simp; omega))
    have gC0_ := hU1.get gC0 (by first | decide | (simp; done) | (simp; omega))
    have gC1_ := hU1.get gC1 (by first | decide | (simp; done) | (simp; omega))
    have gC2_ := hU1.get gC2 (by first | decide | (simp; done) | (simp; omega))
    have gC3_ := hU1.get gC3 (by first | decide | (simp; done) | (simp; omega))
    have gC4_ := hU1.get gC4 (by first | decide | (simp; done) | (simp; omega))
    have gP_ := hU1.get gP (by first | decide | (simp; done) | (simp; omega))
    have gK_ := hU1.get gK (by first | decide | (simp; done) | (simp; omega))
    have gV_ := hU1.get gV (by first | decide | (simp; done) | (simp; omega))
    have gR_ := hU1.get gR (by first | decide | (simp; done) | (simp; omega))
    have gU_ := hU1.get gU (by first | decide | (simp; done) | (simp; omega))
    have hOut_ := hU1.get hOut (by first | decide | (simp; done) | (simp; omega))
    have hOuD_ := hU1.get hOuD (by first | decide | (simp; done) | (simp; omega))
    have gO_ : w_[55]? = some (ad 55, .inr (11, [.int (nI 2), .ref (ad 56), .ref (ad 57), .ref (ad 58), .ref (ad 59), .ref (ad 60), .ref (ad 61), .ref (ad 62), .ref (ad 63), .ref (ad 64), .ref (ad 65), .int (nI n), .int (nI nc), .ref (ad 66), .ref (ad 71), .ref (ad 72), .ref (ad 73)])) := hN1
    clear hU1 hN1
    refine W.eq (g2 := F0 m 771 ls [.int (nI 0)]) rfl ?_
    refine lv_istore (lv' := [(7, .int (nI 0)), (6, .int (nI 2)), (0, .ref b), (1, .ref (ad 0)), (2, .ref (ad 55)), (3, .ref (ad 74)), (4, .ref (ad 75)), (5, .int (nI i))]) S.1 S.2.1 dL_law_771 hl (by decide) rfl (fun ls hl => ?_)
    refine lv_aload_n S.1 S.2.1 dL_law_773 rfl (lv_at hl 4 rfl) ?_
    refine j_callV (k := 55) (ci := 11) (q := (RX12, TX12, 17)) (As := []) (rest := []) S hK hA hW (c_X12_thrown l D cy ad 2 n nc gO_   ) (jgo wm_L_136) yk_X12_thrown gO_ rfl rfl ⟨⟨rfl, rfl⟩, by decide, by decide⟩ rfl hl.1 rfl (Nat.le_of_ble_eq_true rfl) dL_law_774 ⟨by show (cells + 1) + 0 ≤ 601024; omega, by show (slots + 6) + 0 ≤ 7293033; omega⟩ (fun v u H locs hp hW => ?_)
    obtain ⟨rfl, rfl⟩ := hp
    refine W.eq (g2 := F0 m 777 ls [.int (nI 2)]) rfl ?_
    refine lv_iload S.1 S.2.1 dL_law_777 (lv_at hl 1 rfl) ?_
    refine jn_cmp_eq (tgt := 784) S (by omega) (by omega) dL_law_779 (by decide) (fun c_779 => ?_) (fun c_779 => ?_)
    · refine lv_iload S.1 S.2.1 dL_law_784 (lv_at hl 1 rfl) ?_
      refine jn_if_ne (tgt := 808) S (by omega) dL_law_786 (by decide) (fun c_786 => ?_) (fun c_786 => ?_)
      · refine lv_goto (tgt := 2382) S.1 S.2.1 dL_law_808 (by decide) ?_
        exact W.widen (by omega) (by omega) (kk _ _ _ _ ⟨_, _, _, _, _, _, _, _, _, _, _, _, _, _, hPI, (hCI.kept hU (by first | decide | (intro k hk; simp at hk; omega))), ⟨gx, _, _, gO_, gF_, gT_, gE_, gD_, gC0_, gC1_, gC2_, gC3_, gC4_, gP_, gK_, gV_, gR_, gU_, fun j hj => hU.get (hrow j hj) (by simp; omega), hkx⟩, hOut_, hOuD_⟩ hW (lv_sub hl [2, 3, 4, 5, 6, 7] rfl))
      · first | exact absurd (show 2 = 0 from c_786) (by decide) | exact absurd c_786 (by decide)
    · first | exact absurd (show 2 ≠ 2 from c_779) (by decide) | exact absurd c_779 (by decide)
