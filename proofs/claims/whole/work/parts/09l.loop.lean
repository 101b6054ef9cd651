/-! THE LAW'S LOOP (laid by wip/whole/tools, from the specs there) -/
theorem and63 (x : Int32) : ∃ k, k < 64 ∧ x &&& nI 63 = nI k := by
  refine ⟨x.toBitVec.toNat % 64, Nat.mod_lt _ (by decide), ?_⟩
  apply Int32.toBitVec_inj.1
  apply BitVec.eq_of_toNat_eq
  show (x.toBitVec &&& BitVec.ofNat 32 63).toNat = (BitVec.ofNat 32 (x.toBitVec.toNat % 64)).toNat
  rw [BitVec.toNat_and, BitVec.toNat_ofNat, BitVec.toNat_ofNat, show 63 % 2 ^ 32 = 2 ^ 6 - 1 from rfl, Nat.and_two_pow_sub_one_eq_mod]
  have := Nat.mod_lt x.toBitVec.toNat (show 0 < 64 by decide)
  omega
theorem len_gt {L i : Nat} (hL : L ≤ 2560) (hi : i ≤ 2565) : nI L - nI 5 < nI i ↔ L < i + 5 := by
  rw [Int32.lt_iff_toInt_lt, nI_toInt (show i < 2 ^ 31 by omega)]
  have h1 : (nI L - nI 5).toInt = (L : Int) - 5 := by
    rw [Int32.toInt_sub, nI_toInt (show L < 2 ^ 31 by omega), nI_toInt (show 5 < 2 ^ 31 by omega)]
    rw [Int.bmod_eq_of_le (by omega) (by omega)]; rfl
  rw [h1]; omega
/-- the law's loop -/
theorem law_loop {p : Program} {l : Launch} {e : Env} {s : State} {m : MethodId} {args : Array Value} {below : List Frame} {meth : Method} {c : Code} {Q : State → Prop} {D : va_G} {cy : Nat → ClassId} {A : Nat → Prop} {x0 : Cond} {ad : Nat → Nat} {b L : Nat} {xs : Nat → Int32} {c0 s0 : Nat} (htr : l.stackTraces = false) (C : LX p s m c args D cy A b L xs x0) (hL : L ≤ 2560) (hc0 : c0 ≤ 1000) (hs0 : s0 ≤ 100000)
    (hend : ∀ (w : va_W) (H : Heap) (locs : List Loc) (ls : Array Slot) (t : Nat), t ≤ 513 → jW D A s.heap w H locs → W p l e room_1 s m args below meth c H locs (c0 + 10 * t) (s0 + 64 * t) Q (F0 m 2388 ls [])) :
    ∀ (k t : Nat), 513 - t = k → t ≤ 513 → 5 * t ≤ L + 4 → ∀ (w : va_W) (H : Heap) (locs : List Loc) (ls : Array Slot), INV ad cy w → jW D A s.heap w H locs → lv_has ls 10 [(0, .ref b), (1, .ref (ad 0)), (2, .ref (ad 55)), (3, .ref (ad 74)), (4, .ref (ad 75)), (5, .int (nI (5 * t)))] → W p l e room_1 s m args below meth c H locs (c0 + 10 * t) (s0 + 64 * t) Q (F0 m 28 ls []) := by
  intro k
  induction k using Nat.strongRecOn with
  | ind k ih =>
    intro t hk ht h5 w H locs ls hI hW hl
    have C' := C
    obtain ⟨S, hK, hA, hX, hbl, hbA, hx, hnx⟩ := C'
    refine lv_iload S.1 S.2.1 dL_law_28 (lv_at hl 5 rfl) ?_
    refine lv_aload_n S.1 S.2.1 dL_law_30 rfl (lv_at hl 0 rfl) ?_
    refine va_slen S.1 S.2.1 hX hbl hbA hW.2.2 dL_law_31 ?_
    refine lv_iconst (v := nI 5) S.1 S.2.1 dL_law_32 (by decide) ?_
    refine lv_isub S.1 S.2.1 dL_law_33 ?_
    refine lv_icmp_gt (tgt := 2388) S.1 S.2.1 dL_law_34 (by decide) (fun c1 => ?_) (fun c1 => ?_)
    · exact hend w H locs ls t ht hW
    have hi : 5 * t + 5 ≤ L := by
      have := mt (len_gt (L := L) (i := 5 * t) hL (by omega)).mpr c1
      omega
    have hc : c0 + 10 * t + 10 ≤ 601024 := by omega
    have hs : s0 + 64 * t + 64 ≤ 7293033 := by omega
    have hk : LK p l e s m args below meth c Q D cy A ad b (5 * t) (c0 + 10 * t) (s0 + 64 * t) := fun w1 H1 locs1 ls1 hI1 hW1 hl1 => by
      refine lv_iinc (v := nI (5 * t + 5)) (lv' := [(5, .int (nI (5 * t + 5))), (0, .ref b), (1, .ref (ad 0)), (2, .ref (ad 55)), (3, .ref (ad 74)), (4, .ref (ad 75))]) S.1 S.2.1 dL_law_2382 hl1 (k := 5) rfl (nI_add _ 5) (by decide) rfl (fun ls hl => ?_)
      refine lv_goto (tgt := 28) S.1 S.2.1 dL_law_2385 (by decide) ?_
      have z := ih (513 - (t + 1)) (by omega) (t + 1) rfl (by omega) (by omega) w1 H1 locs1 ls hI1 hW1 (lv_sub hl [1, 2, 3, 4, 5, 0] rfl)
      rw [show c0 + 10 * (t + 1) = c0 + 10 * t + 10 by omega, show s0 + 64 * (t + 1) = s0 + 64 * t + 64 by omega] at z
      exact z
    refine lv_aload_n S.1 S.2.1 dL_law_37 rfl (lv_at hl 0 rfl) ?_
    refine lv_iload S.1 S.2.1 dL_law_38 (lv_at hl 5 rfl) ?_
    refine j_sld (x := xs (5 * t)) S hX hbl hbA hW (vp_in_nI (by omega) (by omega)) (nI_clamp (by omega)) rfl dL_law_40 ?_
    refine lv_bipush (v := nI 63) S.1 S.2.1 dL_law_41 (by decide) ?_
    refine lv_iand S.1 S.2.1 dL_law_43 ?_
    obtain ⟨q, hq, eq⟩ := and63 (xs (5 * t))
    refine lv_topi_to (y := nI q) eq ?_
    clear eq
    rcases (show q = 0 ∨ q = 1 ∨ q = 2 ∨ q = 3 ∨ q = 4 ∨ q = 5 ∨ q = 6 ∨ q = 7 ∨ q = 8 ∨ q = 9 ∨ q = 10 ∨ q = 11 ∨ q = 12 ∨ q = 13 ∨ q = 14 ∨ q = 15 ∨ q = 16 ∨ q = 17 ∨ q = 18 ∨ q = 19 ∨ q = 20 ∨ q = 21 ∨ q = 22 ∨ q = 23 ∨ q = 24 ∨ q = 25 ∨ q = 26 ∨ q = 27 ∨ q = 28 ∨ q = 29 ∨ q = 30 ∨ q = 31 ∨ q = 32 ∨ q = 33 ∨ q = 34 ∨ q = 35 ∨ q = 36 ∨ q = 37 ∨ q = 38 ∨ 39 ≤ q by omega) with rfl | rfl | rfl | rfl | rfl | rfl | rfl | rfl | rfl | rfl | rfl | rfl | rfl | rfl | rfl | rfl | rfl | rfl | rfl | rfl | rfl | rfl | rfl | rfl | rfl | rfl | rfl | rfl | rfl | rfl | rfl | rfl | rfl | rfl | rfl | rfl | rfl | rfl | rfl | hq39
    · exact lv_tableIn (off := 172) (tgt := 216) S.1 S.2.1 dL_law_44 (by decide) (by decide) (by decide) (by decide) (s_addVariable htr C hI hW hl hi hL hc hs hk)
    · exact lv_tableIn (off := 216) (tgt := 260) S.1 S.2.1 dL_law_44 (by decide) (by decide) (by decide) (by decide) (s_setWeights htr C hI hW hl hi hL hc hs hk)
    · exact lv_tableIn (off := 296) (tgt := 340) S.1 S.2.1 dL_law_44 (by decide) (by decide) (by decide) (by decide) (s_addClause htr C hI hW hl hi hL hc hs hk)
    · exact lv_tableIn (off := 364) (tgt := 408) S.1 S.2.1 dL_law_44 (by decide) (by decide) (by decide) (by decide) (s_addParity htr C hI hW hl hi hL hc hs hk)
    · exact lv_tableIn (off := 432) (tgt := 476) S.1 S.2.1 dL_law_44 (by decide) (by decide) (by decide) (by decide) (s_addBound htr C hI hW hl hi hL hc hs hk)
    · exact lv_tableIn (off := 512) (tgt := 556) S.1 S.2.1 dL_law_44 (by decide) (by decide) (by decide) (by decide) (s_drop htr C hI hW hl hi hL hc hs hk)
    · exact lv_tableIn (off := 568) (tgt := 612) S.1 S.2.1 dL_law_44 (by decide) (by decide) (by decide) (by decide) (s_kind htr C hI hW hl hi hL hc hs hk)
    · exact lv_tableIn (off := 624) (tgt := 668) S.1 S.2.1 dL_law_44 (by decide) (by decide) (by decide) (by decide) (s_setEvidence htr C hI hW hl hi hL hc hs hk)
    · exact lv_tableIn (off := 692) (tgt := 736) S.1 S.2.1 dL_law_44 (by decide) (by decide) (by decide) (by decide) (s_holds htr C hI hW hl hi hL hc hs hk)
    · exact lv_tableIn (off := 767) (tgt := 811) S.1 S.2.1 dL_law_44 (by decide) (by decide) (by decide) (by decide) (s_models htr C hI hW hl hi hL hc hs hk)
    · exact lv_tableIn (off := 781) (tgt := 825) S.1 S.2.1 dL_law_44 (by decide) (by decide) (by decide) (by decide) (s_modelsByAll htr C hI hW hl hi hL hc hs hk)
    · exact lv_tableIn (off := 795) (tgt := 839) S.1 S.2.1 dL_law_44 (by decide) (by decide) (by decide) (by decide) (s_weight htr C hI hW hl hi hL hc hs hk)
    · exact lv_tableIn (off := 809) (tgt := 853) S.1 S.2.1 dL_law_44 (by decide) (by decide) (by decide) (by decide) (s_weightWith htr C hI hW hl hi hL hc hs hk)
    · exact lv_tableIn (off := 876) (tgt := 920) S.1 S.2.1 dL_law_44 (by decide) (by decide) (by decide) (by decide) (s_chanceTop htr C hI hW hl hi hL hc hs hk)
    · exact lv_tableIn (off := 931) (tgt := 975) S.1 S.2.1 dL_law_44 (by decide) (by decide) (by decide) (by decide) (s_chanceBottom htr C hI hW hl hi hL hc hs hk)
    · exact lv_tableIn (off := 986) (tgt := 1030) S.1 S.2.1 dL_law_44 (by decide) (by decide) (by decide) (by decide) (s_projected htr C hI hW hl hi hL hc hs hk)
    · exact lv_tableIn (off := 1041) (tgt := 1085) S.1 S.2.1 dL_law_44 (by decide) (by decide) (by decide) (by decide) (s_implied htr C hI hW hl hi hL hc hs hk)
    · exact lv_tableIn (off := 1097) (tgt := 1141) S.1 S.2.1 dL_law_44 (by decide) (by decide) (by decide) (by decide) (s_parts htr C hI hW hl hi hL hc hs hk)
    · exact lv_tableIn (off := 1110) (tgt := 1154) S.1 S.2.1 dL_law_44 (by decide) (by decide) (by decide) (by decide) (s_partOf htr C hI hW hl hi hL hc hs hk)
    · exact lv_tableIn (off := 1166) (tgt := 1210) S.1 S.2.1 dL_law_44 (by decide) (by decide) (by decide) (by decide) (s_modelsOfPart htr C hI hW hl hi hL hc hs hk)
    · exact lv_tableIn (off := 1221) (tgt := 1265) S.1 S.2.1 dL_law_44 (by decide) (by decide) (by decide) (by decide) (s_best htr C hI hW hl hi hL hc hs hk)
    · exact lv_tableIn (off := 1277) (tgt := 1321) S.1 S.2.1 dL_law_44 (by decide) (by decide) (by decide) (by decide) (s_weightOf htr C hI hW hl hi hL hc hs hk)
    · exact lv_tableIn (off := 1332) (tgt := 1376) S.1 S.2.1 dL_law_44 (by decide) (by decide) (by decide) (by decide) (s_lucky htr C hI hW hl hi hL hc hs hk)
    · exact lv_tableIn (off := 1420) (tgt := 1464) S.1 S.2.1 dL_law_44 (by decide) (by decide) (by decide) (by decide) (s_first htr C hI hW hl hi hL hc hs hk)
    · exact lv_tableIn (off := 1464) (tgt := 1508) S.1 S.2.1 dL_law_44 (by decide) (by decide) (by decide) (by decide) (s_nodes htr C hI hW hl hi hL hc hs hk)
    · exact lv_tableIn (off := 1477) (tgt := 1521) S.1 S.2.1 dL_law_44 (by decide) (by decide) (by decide) (by decide) (s_nodesFor htr C hI hW hl hi hL hc hs hk)
    · exact lv_tableIn (off := 1533) (tgt := 1577) S.1 S.2.1 dL_law_44 (by decide) (by decide) (by decide) (by decide) (s_ways htr C hI hW hl hi hL hc hs hk)
    · exact lv_tableIn (off := 1547) (tgt := 1591) S.1 S.2.1 dL_law_44 (by decide) (by decide) (by decide) (by decide) (s_exchange htr C hI hW hl hi hL hc hs hk)
    · exact lv_tableIn (off := 1615) (tgt := 1659) S.1 S.2.1 dL_law_44 (by decide) (by decide) (by decide) (by decide) (s_orderAt htr C hI hW hl hi hL hc hs hk)
    · exact lv_tableIn (off := 1671) (tgt := 1715) S.1 S.2.1 dL_law_44 (by decide) (by decide) (by decide) (by decide) (s_keep htr C hI hW hl hi hL hc hs hk)
    · exact lv_tableIn (off := 1727) (tgt := 1771) S.1 S.2.1 dL_law_44 (by decide) (by decide) (by decide) (by decide) (s_join htr C hI hW hl hi hL hc hs hk)
    · exact lv_tableIn (off := 1821) (tgt := 1865) S.1 S.2.1 dL_law_44 (by decide) (by decide) (by decide) (by decide) (s_fix htr C hI hW hl hi hL hc hs hk)
    · exact lv_tableIn (off := 1901) (tgt := 1945) S.1 S.2.1 dL_law_44 (by decide) (by decide) (by decide) (by decide) (s_free htr C hI hW hl hi hL hc hs hk)
    · exact lv_tableIn (off := 1969) (tgt := 2013) S.1 S.2.1 dL_law_44 (by decide) (by decide) (by decide) (by decide) (s_nodesOf htr C hI hW hl hi hL hc hs hk)
    · exact lv_tableIn (off := 2025) (tgt := 2069) S.1 S.2.1 dL_law_44 (by decide) (by decide) (by decide) (by decide) (s_modelsOf htr C hI hW hl hi hL hc hs hk)
    · exact lv_tableIn (off := 2080) (tgt := 2124) S.1 S.2.1 dL_law_44 (by decide) (by decide) (by decide) (by decide) (s_areSame htr C hI hW hl hi hL hc hs hk)
    · exact lv_tableIn (off := 2155) (tgt := 2199) S.1 S.2.1 dL_law_44 (by decide) (by decide) (by decide) (by decide) (s_isWithin htr C hI hW hl hi hL hc hs hk)
    · exact lv_tableIn (off := 2230) (tgt := 2274) S.1 S.2.1 dL_law_44 (by decide) (by decide) (by decide) (by decide) (s_density htr C hI hW hl hi hL hc hs hk)
    · exact lv_tableIn (off := 2273) (tgt := 2317) S.1 S.2.1 dL_law_44 (by decide) (by decide) (by decide) (by decide) (s_meanTrue htr C hI hW hl hi hL hc hs hk)
    · refine lv_tableOut (tgt := 2382) S.1 S.2.1 dL_law_44 (Or.inr ?_) (by decide) (W.widen (by omega) (by omega) (hk w H locs ls hI hW hl))
      rw [nI_toInt (by omega)]; omega
