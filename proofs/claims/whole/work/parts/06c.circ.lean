/-! CIRCUIT: nodeWith, mergePlace, its small answers (laid by wip/whole/tools, from the specs there) -/
/-! CIRCUIT, numbers: one place merged. tp: where the choices for the places ahead of the next one lead; g: where those for the places ahead of this one do -/
def newF (tp : Nat → Nat) (c : Nat) : Bool := decide (tp (2 * c) ≠ tp (2 * c + 1)) && allB (fun d => !(decide (tp (2 * d) = tp (2 * c)) && decide (tp (2 * d + 1) = tp (2 * c + 1)))) c
def mixN (i : Nat) (g f : Nat → Nat) : Nat → Nat := fun j => if j < i then g j else f j
theorem mixN_0 (g f : Nat → Nat) : mixN 0 g f = f := by funext j; exact if_neg (by omega)
theorem mixN_hi {i j : Nat} {g f : Nat → Nat} (h : i ≤ j) : mixN i g f j = f j := if_neg (by omega)
theorem mixN_lo {i j : Nat} {g f : Nat → Nat} (h : j < i) : mixN i g f j = g j := if_pos h
theorem mixN_s (i v : Nat) (g f : Nat → Nat) : upB (mixN i g f) i v = mixN (i + 1) (upB g i v) f := by
  funext j
  unfold upB mixN
  by_cases e : j = i
  · rw [if_pos e, if_pos (by omega)]
    show v = if j = i then v else g j
    rw [if_pos e]
  · rw [if_neg e]
    by_cases h : j < i
    · rw [if_pos h, if_pos (by omega)]
      show g j = if j = i then v else g j
      rw [if_neg e]
    · rw [if_neg h, if_neg (by omega)]
def mrgI (tp : Nat → Nat) (s0 i s1 : Nat) (fw tw yw yw1 g : Nat → Nat) : Prop :=
  (s1 = s0 + cnt (newF tp) i ∧ (∀ a, fw a < 272) ∧ ∀ a, tw a < 272) ∧
  (∀ c, c < i → (tp (2 * c) = tp (2 * c + 1) → g c = tp (2 * c)) ∧ (tp (2 * c) ≠ tp (2 * c + 1) → s0 ≤ g c ∧ g c < s1 ∧ fw (g c) = tp (2 * c) ∧ tw (g c) = tp (2 * c + 1))) ∧
  (∀ a b, s0 ≤ a → a < s1 → s0 ≤ b → b < s1 → fw a = fw b → tw a = tw b → a = b) ∧
  (∀ a, s0 ≤ a → a < s1 → ∃ c, c < i ∧ tp (2 * c) = fw a ∧ tp (2 * c + 1) = tw a) ∧
  (∀ a, s0 ≤ a → a < s1 → yw1 a = yw (fw a) + yw (tw a)) ∧ ∀ a, a < s0 → yw1 a = yw a
theorem newF_red {tp : Nat → Nat} {c : Nat} (h : tp (2 * c) = tp (2 * c + 1)) : newF tp c = false := by unfold newF; rw [decide_eq_false (fun q => q h)]; rfl
theorem newF_old {tp : Nat → Nat} {c d : Nat} (hd : d < c) (h1 : tp (2 * d) = tp (2 * c)) (h2 : tp (2 * d + 1) = tp (2 * c + 1)) : newF tp c = false := by
  unfold newF
  rw [allB_false hd (by rw [decide_eq_true h1, decide_eq_true h2]; rfl), Bool.and_false]
theorem newF_new {tp : Nat → Nat} {c : Nat} (h : tp (2 * c) ≠ tp (2 * c + 1)) (hn : ∀ d, d < c → ¬ (tp (2 * d) = tp (2 * c) ∧ tp (2 * d + 1) = tp (2 * c + 1))) : newF tp c = true := by
  unfold newF
  rw [decide_eq_true h, Bool.true_and, allB_iff]
  intro d hd
  have := hn d hd
  by_cases e1 : tp (2 * d) = tp (2 * c)
  · rw [decide_eq_false (fun q => this ⟨e1, q⟩), Bool.and_false]; rfl
  · rw [decide_eq_false e1]; rfl
theorem cnt_s0 {S : Nat → Bool} {n : Nat} (h : S n = false) : cnt S (n + 1) = cnt S n := by simp only [cnt]; rw [h]; rfl
theorem cnt_s1 {S : Nat → Bool} {n : Nat} (h : S n = true) : cnt S (n + 1) = cnt S n + 1 := by simp only [cnt]; rw [h]; rfl
theorem mrgI_0 {tp fw tw yw : Nat → Nat} {s0 : Nat} (hf : ∀ a, fw a < 272) (ht : ∀ a, tw a < 272) : mrgI tp s0 0 s0 fw tw yw yw tp :=
  ⟨⟨rfl, hf, ht⟩, fun c h => absurd h (by omega), fun a b h1 h2 => absurd h1 (by omega), fun a h1 h2 => absurd h1 (by omega), fun a h1 h2 => absurd h1 (by omega), fun a _ => rfl⟩
/-- the pair was there, or leads to one place -/
theorem mrgI_keep {tp fw tw yw yw1 g : Nat → Nat} {s0 i s1 r : Nat} (h : mrgI tp s0 i s1 fw tw yw yw1 g) (hr : (tp (2 * i) = tp (2 * i + 1) ∧ r = tp (2 * i)) ∨ (tp (2 * i) ≠ tp (2 * i + 1) ∧ s0 ≤ r ∧ r < s1 ∧ fw r = tp (2 * i) ∧ tw r = tp (2 * i + 1))) : mrgI tp s0 (i + 1) s1 fw tw yw yw1 (upB g i r) := by
  obtain ⟨⟨h1, hf, ht⟩, h2, h3, h4, h5, h6⟩ := h
  have hnew : newF tp i = false := by
    rcases hr with ⟨e, -⟩ | ⟨e, r1, r2, r3, r4⟩
    · exact newF_red e
    · obtain ⟨d, hd, d1, d2⟩ := h4 r r1 r2
      exact newF_old hd (d1.trans r3) (d2.trans r4)
  refine ⟨⟨by rw [cnt_s0 hnew]; exact h1, hf, ht⟩, fun c hc => ?_, h3, fun a a1 a2 => ?_, h5, h6⟩
  · by_cases e : c = i
    · subst e
      rw [upB_same]
      refine ⟨fun q => ?_, fun q => ?_⟩
      · rcases hr with ⟨-, r0⟩ | ⟨r0, -⟩
        · exact r0
        · exact absurd q r0
      · rcases hr with ⟨r0, -⟩ | ⟨-, r0⟩
        · exact absurd r0 q
        · exact r0
    · rw [upB_ne e]; exact h2 c (by omega)
  · obtain ⟨c, hc, c1⟩ := h4 a a1 a2
    exact ⟨c, by omega, c1⟩
/-- a new node -/
theorem mrgI_new {tp fw tw yw yw1 g : Nat → Nat} {s0 i s1 : Nat} (h : mrgI tp s0 i s1 fw tw yw yw1 g) (hne : tp (2 * i) ≠ tp (2 * i + 1)) (hb : tp (2 * i) < s0 ∧ tp (2 * i + 1) < s0) (hs : s1 < 272)
    (hn : ∀ a, s0 ≤ a → a < s1 → ¬ (fw a = tp (2 * i) ∧ tw a = tp (2 * i + 1))) : mrgI tp s0 (i + 1) (s1 + 1) (upB fw s1 (tp (2 * i))) (upB tw s1 (tp (2 * i + 1))) yw (upB yw1 s1 (yw1 (tp (2 * i)) + yw1 (tp (2 * i + 1)))) (upB g i s1) := by
  obtain ⟨⟨h1, hf, ht⟩, h2, h3, h4, h5, h6⟩ := h
  have hs0 : s0 ≤ s1 := by omega
  have hnew : newF tp i = true := newF_new hne (fun d hd q => by
    have hd2 := (h2 d hd).2 (by rw [q.1, q.2]; exact hne)
    exact hn (g d) hd2.1 hd2.2.1 ⟨hd2.2.2.1.trans q.1, hd2.2.2.2.trans q.2⟩)
  refine ⟨⟨by rw [cnt_s1 hnew]; omega, fun a => ?_, fun a => ?_⟩, fun c hc => ?_, fun a b a1 a2 b1 b2 q1 q2 => ?_, fun a a1 a2 => ?_, fun a a1 a2 => ?_, fun a ha => ?_⟩
  · unfold upB; split
    · omega
    · exact hf a
  · unfold upB; split
    · omega
    · exact ht a
  · by_cases e : c = i
    · subst e
      rw [upB_same, upB_same, upB_same]
      exact ⟨fun q => absurd q hne, fun _ => ⟨hs0, by omega, rfl, rfl⟩⟩
    · rw [upB_ne e]
      refine ⟨(h2 c (by omega)).1, fun q => ?_⟩
      have := (h2 c (by omega)).2 q
      rw [upB_ne (by omega), upB_ne (by omega)]
      exact ⟨this.1, by omega, this.2.2⟩
  · by_cases ea : a = s1
    · by_cases eb : b = s1
      · omega
      · subst ea
        rw [upB_same, upB_ne eb] at q1 q2
        exact absurd ⟨q1.symm, q2.symm⟩ (hn b b1 (by omega))
    · by_cases eb : b = s1
      · subst eb
        rw [upB_ne ea, upB_same] at q1 q2
        exact absurd ⟨q1, q2⟩ (hn a a1 (by omega))
      · rw [upB_ne ea, upB_ne eb] at q1 q2
        exact h3 a b a1 (by omega) b1 (by omega) q1 q2
  · by_cases ea : a = s1
    · subst ea
      rw [upB_same, upB_same]
      exact ⟨i, by omega, rfl, rfl⟩
    · rw [upB_ne ea, upB_ne ea]
      obtain ⟨c, hc, c1⟩ := h4 a a1 (by omega)
      exact ⟨c, by omega, c1⟩
  · by_cases ea : a = s1
    · subst ea
      rw [upB_same, upB_same, upB_same, h6 _ hb.1, h6 _ hb.2]
    · rw [upB_ne ea, upB_ne ea, upB_ne ea]
      exact h5 a a1 (by omega)
  · rw [upB_ne (by omega)]; exact h6 a ha
/-- nodesInAll -/
theorem c_X2_nodesInAll (l : Launch) (D : va_G) (cy : Nat → ClassId) {w : va_W} (ad : Nat → Nat) (sz : Nat) (hX : w[31]? = some (ad 31, .inr (2, [.ref (ad 32), .ref (ad 34), .ref (ad 36), .ref (ad 38), .ref (ad 40), .int (nI sz)]))) (hsz : 2 ≤ sz) : jM l yX2_nodesInAll (jws yX2_nodesInAll cX2_nodesInAll 1 (some .int)) (jR 0 0 0) D cy w [.ref (ad 31)] 0 0 (fun vv uu => vv = some (.int (nI (sz - 2))) ∧ w = uu) := by
  refine j_of (by decide) rfl (Nat.le_of_ble_eq_true rfl) ?_
  intro p e s m args below meth c A ls Q hQ S hr hK hA H locs hW hl
  have hl : lv_has ls 1 [(0, .ref (ad 31))] := hl
  refine lv_aload_n S.1 S.2.1 dX2_nodesInAll_0 rfl (lv_at hl 0 rfl) ?_
  refine j_get (ci := 2) (C := RX2) (T := TX2) (N := 6) (v := .int (nI sz)) S (fun w h => List.mem_cons_of_mem _ (inG2 w h)) hK hW hX rfl 5 (by decide) (List.mem_cons_of_mem _ wfl_X2_54) (fun _ h9 => h9) rfl dX2_nodesInAll_1 ?_
  refine lv_iconst (v := nI 2) S.1 S.2.1 dX2_nodesInAll_4 (by decide) ?_
  refine jn_sub S (by omega) dX2_nodesInAll_5 ?_
  subst hQ
  exact j_iret (u := w) S hr (rfl) hK hW dX2_nodesInAll_6 ⟨by decide, by decide⟩ (⟨rfl, rfl⟩)
/-- nodesAtPlace -/
theorem c_X2_nodesAtPlace (l : Launch) (D : va_G) (cy : Nat → ClassId) {w : va_W} (ad : Nat → Nat) (sz : Nat) (pcn : Nat → Nat) (q : Nat) (hX : w[31]? = some (ad 31, .inr (2, [.ref (ad 32), .ref (ad 34), .ref (ad 36), .ref (ad 38), .ref (ad 40), .int (nI sz)]))) (hXpo : w[40]? = some (ad 40, .inr (5, [.ref (ad 41)]))) (hXpa : w[41]? = some (ad 41, .inl (cy 0, 10, .inl (nf pcn)))) (hq : q < 10) : jM l yX2_nodesAtPlace (jws yX2_nodesAtPlace cX2_nodesAtPlace 2 (some .int)) (jR 1 0 0) D cy w [.ref (ad 31), .int (nI q)] 0 0 (fun vv uu => vv = some (.int (nI (pcn q))) ∧ w = uu) := by
  refine j_of (by decide) rfl (Nat.le_of_ble_eq_true rfl) ?_
  intro p e s m args below meth c A ls Q hQ S hr hK hA H locs hW hl
  have hl : lv_has ls 2 [(0, .ref (ad 31)), (1, .int (nI q))] := hl
  refine lv_aload_n S.1 S.2.1 dX2_nodesAtPlace_0 rfl (lv_at hl 0 rfl) ?_
  refine j_get (ci := 2) (C := RX2) (T := TX2) (N := 6) (v := .ref (ad 40)) S (fun w h => List.mem_cons_of_mem _ (inG2 w h)) hK hW hX rfl 4 (by decide) (List.mem_cons_of_mem _ wfl_X2_29) (fun _ h9 => h9) rfl dX2_nodesAtPlace_1 ?_
  refine lv_iload_n S.1 S.2.1 dX2_nodesAtPlace_4 rfl (lv_at hl 1 rfl) ?_
  refine j_callV (k := 40) (ci := 5) (q := (RX6, TX6, 1)) (As := [.int (nI q)]) (rest := []) S hK hA hW (c_X6_atN l D cy 40 41 (ad 40) (ad 41) 10 q pcn hXpo hXpa   (by omega) (by decide)) (jgo wm_X2_42) yk_X6_at hXpo rfl rfl ⟨⟨rfl, rfl⟩, by decide, by decide⟩ rfl hl.1 rfl (Nat.le_of_ble_eq_true rfl) dX2_nodesAtPlace_5 ⟨Nat.le_of_ble_eq_true rfl, Nat.le_of_ble_eq_true rfl⟩ (fun v u H locs hp hW => ?_)
  obtain ⟨rfl, rfl⟩ := hp
  refine W.eq (g2 := F0 m 8 ls [.int (nI (pcn q))]) rfl ?_
  subst hQ
  exact j_iret (u := w) S hr (rfl) hK hW dX2_nodesAtPlace_8 ⟨by decide, by decide⟩ (⟨rfl, rfl⟩)
/-- waysToYes -/
theorem c_X2_waysToYes (l : Launch) (D : va_G) (cy : Nat → ClassId) {w : va_W} (ad : Nat → Nat) (sz : Nat) (tp yw : Nat → Nat) (hX : w[31]? = some (ad 31, .inr (2, [.ref (ad 32), .ref (ad 34), .ref (ad 36), .ref (ad 38), .ref (ad 40), .int (nI sz)]))) (hXto : w[32]? = some (ad 32, .inr (5, [.ref (ad 33)]))) (hXta : w[33]? = some (ad 33, .inl (cy 0, 1024, .inl (nf tp)))) (hXyo : w[38]? = some (ad 38, .inr (5, [.ref (ad 39)]))) (hXya : w[39]? = some (ad 39, .inl (cy 0, 272, .inl (nf yw)))) (hq : tp 0 < 272) : jM l yX2_waysToYes (jws yX2_waysToYes cX2_waysToYes 1 (some .int)) (jR 1 0 0) D cy w [.ref (ad 31)] 0 0 (fun vv uu => vv = some (.int (nI (yw (tp 0)))) ∧ w = uu) := by
  refine j_of (by decide) rfl (Nat.le_of_ble_eq_true rfl) ?_
  intro p e s m args below meth c A ls Q hQ S hr hK hA H locs hW hl
  have hl : lv_has ls 1 [(0, .ref (ad 31))] := hl
  refine lv_aload_n S.1 S.2.1 dX2_waysToYes_0 rfl (lv_at hl 0 rfl) ?_
  refine j_get (ci := 2) (C := RX2) (T := TX2) (N := 6) (v := .ref (ad 38)) S (fun w h => List.mem_cons_of_mem _ (inG2 w h)) hK hW hX rfl 3 (by decide) (List.mem_cons_of_mem _ wfl_X2_26) (fun _ h9 => h9) rfl dX2_waysToYes_1 ?_
  refine lv_aload_n S.1 S.2.1 dX2_waysToYes_4 rfl (lv_at hl 0 rfl) ?_
  refine j_get (ci := 2) (C := RX2) (T := TX2) (N := 6) (v := .ref (ad 32)) S (fun w h => List.mem_cons_of_mem _ (inG2 w h)) hK hW hX rfl 0 (by decide) (List.mem_cons_of_mem _ wfl_X2_14) (fun _ h9 => h9) rfl dX2_waysToYes_5 ?_
  refine lv_iconst (v := nI 0) S.1 S.2.1 dX2_waysToYes_8 (by decide) ?_
  refine j_callV (k := 32) (ci := 5) (q := (RX6, TX6, 1)) (As := [.int (nI 0)]) (rest := [.ref (ad 38)]) S hK hA hW (c_X6_atN l D cy 32 33 (ad 32) (ad 33) 1024 0 tp hXto hXta   (by omega) (by decide)) (jgo wm_X2_42) yk_X6_at hXto rfl rfl ⟨⟨rfl, rfl⟩, by decide, by decide⟩ rfl hl.1 rfl (Nat.le_of_ble_eq_true rfl) dX2_waysToYes_9 ⟨Nat.le_of_ble_eq_true rfl, Nat.le_of_ble_eq_true rfl⟩ (fun v u H locs hp hW => ?_)
  obtain ⟨rfl, rfl⟩ := hp
  refine W.eq (g2 := F0 m 12 ls [.int (nI (tp 0)), .ref (ad 38)]) rfl ?_
  refine j_callV (k := 38) (ci := 5) (q := (RX6, TX6, 1)) (As := [.int (nI (tp 0))]) (rest := []) S hK hA hW (c_X6_atN l D cy 38 39 (ad 38) (ad 39) 272 (tp 0) yw hXyo hXya   (by omega) (by decide)) (jgo wm_X2_42) yk_X6_at hXyo rfl rfl ⟨⟨rfl, rfl⟩, by decide, by decide⟩ rfl hl.1 rfl (Nat.le_of_ble_eq_true rfl) dX2_waysToYes_12 ⟨Nat.le_of_ble_eq_true rfl, Nat.le_of_ble_eq_true rfl⟩ (fun v u H locs hp hW => ?_)
  obtain ⟨rfl, rfl⟩ := hp
  refine W.eq (g2 := F0 m 15 ls [.int (nI (yw (tp 0)))]) rfl ?_
  subst hQ
  exact j_iret (u := w) S hr (rfl) hK hW dX2_waysToYes_15 ⟨by decide, by decide⟩ (⟨rfl, rfl⟩)
/-- nodeWith: the node of a pair of ways, made if it isn't there -/
theorem c_X2_nodeWith (l : Launch) (D : va_G) (cy : Nat → ClassId) {w : va_W} (ad : Nat → Nat) (sz : Nat) (fw tw yw : Nat → Nat) (no ye fst : Nat) (hX : w[31]? = some (ad 31, .inr (2, [.ref (ad 32), .ref (ad 34), .ref (ad 36), .ref (ad 38), .ref (ad 40), .int (nI sz)]))) (hXfo : w[34]? = some (ad 34, .inr (5, [.ref (ad 35)]))) (hXfa : w[35]? = some (ad 35, .inl (cy 0, 272, .inl (nf fw)))) (hXwo : w[36]? = some (ad 36, .inr (5, [.ref (ad 37)]))) (hXwa : w[37]? = some (ad 37, .inl (cy 0, 272, .inl (nf tw)))) (hXyo : w[38]? = some (ad 38, .inr (5, [.ref (ad 39)]))) (hXya : w[39]? = some (ad 39, .inl (cy 0, 272, .inl (nf yw)))) (hsz : fst ≤ sz ∧ sz ≤ 272) (hf : ∀ a, fw a < 272) (ht : ∀ a, tw a < 272) (hn2 : no < 272 ∧ ye < 272) (hroom : (∃ nd, fst ≤ nd ∧ nd < sz ∧ fw nd = no ∧ tw nd = ye) ∨ sz < 272) : jM l yX2_nodeWith (jws yX2_nodeWith cX2_nodeWith 5 (some .int)) (jR 1 0 0) D cy w [.ref (ad 31), .int (nI no), .int (nI ye), .int (nI fst)] 0 0 (fun vv uu => ∃ (r : Nat), ∃ (sz1 : Nat), ∃ (fw1 : Nat → Nat), ∃ (tw1 : Nat → Nat), ∃ (yw1 : Nat → Nat), vv = some (.int (nI r)) ∧ ((fst ≤ r ∧ r < sz ∧ fw r = no ∧ tw r = ye ∧ sz1 = sz ∧ fw1 = fw ∧ tw1 = tw ∧ yw1 = yw) ∨ (r = sz ∧ sz < 272 ∧ (∀ nd, fst ≤ nd → nd < sz → ¬ (fw nd = no ∧ tw nd = ye)) ∧ sz1 = sz + 1 ∧ fw1 = upB fw sz no ∧ tw1 = upB tw sz ye ∧ yw1 = upB yw sz (yw no + yw ye))) ∧ jU w uu [31, 35, 37, 39] ∧ uu[31]? = some (ad 31, .inr (2, [.ref (ad 32), .ref (ad 34), .ref (ad 36), .ref (ad 38), .ref (ad 40), .int (nI sz1)])) ∧ uu[35]? = some (ad 35, .inl (cy 0, 272, .inl (nf fw1))) ∧ uu[37]? = some (ad 37, .inl (cy 0, 272, .inl (nf tw1))) ∧ uu[39]? = some (ad 39, .inl (cy 0, 272, .inl (nf yw1)))) := by
  refine j_of (by decide) rfl (Nat.le_of_ble_eq_true rfl) ?_
  intro p e s m args below meth c A ls Q hQ S hr hK hA H locs hW hl
  have hl : lv_has ls 5 [(0, .ref (ad 31)), (1, .int (nI no)), (2, .int (nI ye)), (3, .int (nI fst))] := hl
  refine lv_iload_n S.1 S.2.1 dX2_nodeWith_0 rfl (lv_at hl 3 rfl) ?_
  refine lv_istore (lv' := [(4, .int (nI fst)), (0, .ref (ad 31)), (1, .int (nI no)), (2, .int (nI ye)), (3, .int (nI fst))]) S.1 S.2.1 dX2_nodeWith_1 hl (by decide) rfl (fun ls hl => ?_)
  have L3 : ∀ (k : Nat) (i : Nat), sz - i = k → (fst ≤ i ∧ i ≤ sz) → (∀ nd, fst ≤ nd → nd < i → ¬ (fw nd = no ∧ tw nd = ye)) → ∀ (H : Heap) (locs : List Loc) (ls : Array Slot), jW D A s.heap w H locs → lv_has ls 5 [(0, .ref (ad 31)), (1, .int (nI no)), (2, .int (nI ye)), (3, .int (nI fst)), (4, .int (nI i))] → W p l e (jR 1 0 0) s m args below meth c H locs 0 0 Q (F0 m 3 ls []) := by
    intro k
    induction k using Nat.strongRecOn with
    | ind k ih3 =>
    intro i hk hi hno H locs ls hW hl
    subst hk
    refine lv_iload S.1 S.2.1 dX2_nodeWith_3 (lv_at hl 4 rfl) ?_
    refine lv_aload_n S.1 S.2.1 dX2_nodeWith_5 rfl (lv_at hl 0 rfl) ?_
    refine j_get (ci := 2) (C := RX2) (T := TX2) (N := 6) (v := .int (nI sz)) S (fun w h => List.mem_cons_of_mem _ (inG2 w h)) hK hW hX rfl 5 (by decide) (List.mem_cons_of_mem _ wfl_X2_54) (fun _ h9 => h9) rfl dX2_nodeWith_6 ?_
    refine jn_cmp_ge (tgt := 47) S (by omega) (by omega) dX2_nodeWith_9 (by decide) (fun c_9 => ?_) (fun c_9 => ?_)
    · have hno : ∀ nd, fst ≤ nd → nd < sz → ¬ (fw nd = no ∧ tw nd = ye) := fun nd h1 h2 => hno nd h1 (by omega)
      have hs : sz < 272 := hroom.elim (fun ⟨nd, n1, n2, n3, n4⟩ => absurd ⟨n3, n4⟩ (hno nd n1 n2)) id
      refine lv_aload_n S.1 S.2.1 dX2_nodeWith_47 rfl (lv_at hl 0 rfl) ?_
      refine j_get (ci := 2) (C := RX2) (T := TX2) (N := 6) (v := .int (nI sz)) S (fun w h => List.mem_cons_of_mem _ (inG2 w h)) hK hW hX rfl 5 (by decide) (List.mem_cons_of_mem _ wfl_X2_54) (fun _ h9 => h9) rfl dX2_nodeWith_48 ?_
      refine lv_istore (lv' := [(4, .int (nI sz)), (0, .ref (ad 31)), (1, .int (nI no)), (2, .int (nI ye)), (3, .int (nI fst))]) S.1 S.2.1 dX2_nodeWith_51 hl (by decide) rfl (fun ls hl => ?_)
      refine lv_aload_n S.1 S.2.1 dX2_nodeWith_53 rfl (lv_at hl 1 rfl) ?_
      refine j_get (ci := 2) (C := RX2) (T := TX2) (N := 6) (v := .ref (ad 34)) S (fun w h => List.mem_cons_of_mem _ (inG2 w h)) hK hW hX rfl 1 (by decide) (List.mem_cons_of_mem _ wfl_X2_20) (fun _ h9 => h9) rfl dX2_nodeWith_54 ?_
      refine lv_iload S.1 S.2.1 dX2_nodeWith_57 (lv_at hl 0 rfl) ?_
      refine lv_iload_n S.1 S.2.1 dX2_nodeWith_59 rfl (lv_at hl 2 rfl) ?_
      refine j_callV (k := 34) (ci := 5) (q := (RX6, TX6, 1)) (As := [.int (nI sz), .int (nI no)]) (rest := []) S hK hA hW (c_X6_putN l D cy 34 35 (ad 34) (ad 35) 272 sz fw no hXfo hXfa   (by omega) (by decide)) (jgo wm_X2_50) yk_X6_put hXfo rfl rfl ⟨⟨rfl, rfl⟩, by decide, by decide⟩ rfl hl.1 rfl (Nat.le_of_ble_eq_true rfl) dX2_nodeWith_60 ⟨Nat.le_of_ble_eq_true rfl, Nat.le_of_ble_eq_true rfl⟩ (fun v w_ H locs hp hW => ?_)
      obtain ⟨rfl, hU1, hN1⟩ := hp
      have hU : jU w w_ [31, 35, 37, 39] := jU.mono hU1 (by decide)
      have hX_ := hU1.get hX (by decide)
      have hXwa_ := hU1.get hXwa (by decide)
      have hXya_ := hU1.get hXya (by decide)
      have hXfa_ : w_[35]? = some (ad 35, .inl (cy 0, 272, .inl (nf (upB fw sz no)))) := hN1
      clear hU1 hN1
      refine W.eq (g2 := F0 m 63 ls []) rfl ?_
      refine lv_aload_n S.1 S.2.1 dX2_nodeWith_63 rfl (lv_at hl 1 rfl) ?_
      refine j_get (ci := 2) (C := RX2) (T := TX2) (N := 6) (v := .ref (ad 36)) S (fun w h => List.mem_cons_of_mem _ (inG2 w h)) hK hW hX_ rfl 2 (by decide) (List.mem_cons_of_mem _ wfl_X2_23) (fun _ h9 => h9) rfl dX2_nodeWith_64 ?_
      refine lv_iload S.1 S.2.1 dX2_nodeWith_67 (lv_at hl 0 rfl) ?_
      refine lv_iload_n S.1 S.2.1 dX2_nodeWith_69 rfl (lv_at hl 3 rfl) ?_
      refine j_callV (k := 36) (ci := 5) (q := (RX6, TX6, 1)) (As := [.int (nI sz), .int (nI ye)]) (rest := []) S hK hA hW (c_X6_putN l D cy 36 37 (ad 36) (ad 37) 272 sz tw ye (hU.get hXwo (by decide)) hXwa_   (by omega) (by decide)) (jgo wm_X2_50) yk_X6_put (hU.get hXwo (by decide)) rfl rfl ⟨⟨rfl, rfl⟩, by decide, by decide⟩ rfl hl.1 rfl (Nat.le_of_ble_eq_true rfl) dX2_nodeWith_70 ⟨Nat.le_of_ble_eq_true rfl, Nat.le_of_ble_eq_true rfl⟩ (fun v w_ H locs hp hW => ?_)
      obtain ⟨rfl, hU1, hN1⟩ := hp
      have hU := hU.then hU1 (by decide)
      have hX_ := hU1.get hX_ (by decide)
      have hXya_ := hU1.get hXya_ (by decide)
      have hXfa_ := hU1.get hXfa_ (by decide)
      have hXwa_ : w_[37]? = some (ad 37, .inl (cy 0, 272, .inl (nf (upB tw sz ye)))) := hN1
      clear hU1 hN1
      refine W.eq (g2 := F0 m 73 ls []) rfl ?_
      refine lv_aload_n S.1 S.2.1 dX2_nodeWith_73 rfl (lv_at hl 1 rfl) ?_
      refine j_get (ci := 2) (C := RX2) (T := TX2) (N := 6) (v := .ref (ad 38)) S (fun w h => List.mem_cons_of_mem _ (inG2 w h)) hK hW hX_ rfl 3 (by decide) (List.mem_cons_of_mem _ wfl_X2_26) (fun _ h9 => h9) rfl dX2_nodeWith_74 ?_
      refine lv_iload S.1 S.2.1 dX2_nodeWith_77 (lv_at hl 0 rfl) ?_
      refine lv_aload_n S.1 S.2.1 dX2_nodeWith_79 rfl (lv_at hl 1 rfl) ?_
      refine j_get (ci := 2) (C := RX2) (T := TX2) (N := 6) (v := .ref (ad 38)) S (fun w h => List.mem_cons_of_mem _ (inG2 w h)) hK hW hX_ rfl 3 (by decide) (List.mem_cons_of_mem _ wfl_X2_26) (fun _ h9 => h9) rfl dX2_nodeWith_80 ?_
      refine lv_iload_n S.1 S.2.1 dX2_nodeWith_83 rfl (lv_at hl 2 rfl) ?_
      refine j_callV (k := 38) (ci := 5) (q := (RX6, TX6, 1)) (As := [.int (nI no)]) (rest := [.int (nI sz), .ref (ad 38)]) S hK hA hW (c_X6_atN l D cy 38 39 (ad 38) (ad 39) 272 no yw (hU.get hXyo (by decide)) hXya_   (by omega) (by decide)) (jgo wm_X2_42) yk_X6_at (hU.get hXyo (by decide)) rfl rfl ⟨⟨rfl, rfl⟩, by decide, by decide⟩ rfl hl.1 rfl (Nat.le_of_ble_eq_true rfl) dX2_nodeWith_84 ⟨Nat.le_of_ble_eq_true rfl, Nat.le_of_ble_eq_true rfl⟩ (fun v u H locs hp hW => ?_)
      obtain ⟨rfl, rfl⟩ := hp
      refine W.eq (g2 := F0 m 87 ls [.int (nI (yw no)), .int (nI sz), .ref (ad 38)]) rfl ?_
      refine lv_aload_n S.1 S.2.1 dX2_nodeWith_87 rfl (lv_at hl 1 rfl) ?_
      refine j_get (ci := 2) (C := RX2) (T := TX2) (N := 6) (v := .ref (ad 38)) S (fun w h => List.mem_cons_of_mem _ (inG2 w h)) hK hW hX_ rfl 3 (by decide) (List.mem_cons_of_mem _ wfl_X2_26) (fun _ h9 => h9) rfl dX2_nodeWith_88 ?_
      refine lv_iload_n S.1 S.2.1 dX2_nodeWith_91 rfl (lv_at hl 3 rfl) ?_
      refine j_callV (k := 38) (ci := 5) (q := (RX6, TX6, 1)) (As := [.int (nI ye)]) (rest := [.int (nI (yw no)), .int (nI sz), .ref (ad 38)]) S hK hA hW (c_X6_atN l D cy 38 39 (ad 38) (ad 39) 272 ye yw (hU.get hXyo (by decide)) hXya_   (by omega) (by decide)) (jgo wm_X2_42) yk_X6_at (hU.get hXyo (by decide)) rfl rfl ⟨⟨rfl, rfl⟩, by decide, by decide⟩ rfl hl.1 rfl (Nat.le_of_ble_eq_true rfl) dX2_nodeWith_92 ⟨Nat.le_of_ble_eq_true rfl, Nat.le_of_ble_eq_true rfl⟩ (fun v u H locs hp hW => ?_)
      obtain ⟨rfl, rfl⟩ := hp
      refine W.eq (g2 := F0 m 95 ls [.int (nI (yw ye)), .int (nI (yw no)), .int (nI sz), .ref (ad 38)]) rfl ?_
      refine jn_add S dX2_nodeWith_95 ?_
      refine j_callV (k := 38) (ci := 5) (q := (RX6, TX6, 1)) (As := [.int (nI sz), .int (nI ((yw no) + (yw ye)))]) (rest := []) S hK hA hW (c_X6_putN l D cy 38 39 (ad 38) (ad 39) 272 sz yw ((yw no) + (yw ye)) (hU.get hXyo (by decide)) hXya_   (by omega) (by decide)) (jgo wm_X2_50) yk_X6_put (hU.get hXyo (by decide)) rfl rfl ⟨⟨rfl, rfl⟩, by decide, by decide⟩ rfl hl.1 rfl (Nat.le_of_ble_eq_true rfl) dX2_nodeWith_96 ⟨Nat.le_of_ble_eq_true rfl, Nat.le_of_ble_eq_true rfl⟩ (fun v w_ H locs hp hW => ?_)
      obtain ⟨rfl, hU1, hN1⟩ := hp
      have hU := hU.then hU1 (by decide)
      have hX_ := hU1.get hX_ (by decide)
      have hXwa_ := hU1.get hXwa_ (by decide)
      have hXfa_ := hU1.get hXfa_ (by decide)
      have hXya_ : w_[39]? = some (ad 39, .inl (cy 0, 272, .inl (nf (upB yw sz ((yw no) + (yw ye)))))) := hN1
      clear hU1 hN1
      refine W.eq (g2 := F0 m 99 ls []) rfl ?_
      refine lv_aload_n S.1 S.2.1 dX2_nodeWith_99 rfl (lv_at hl 1 rfl) ?_
      refine lv_dup S.1 S.2.1 dX2_nodeWith_100 rfl ?_
      refine j_get (ci := 2) (C := RX2) (T := TX2) (N := 6) (v := .int (nI sz)) S (fun w h => List.mem_cons_of_mem _ (inG2 w h)) hK hW hX_ rfl 5 (by decide) (List.mem_cons_of_mem _ wfl_X2_54) (fun _ h9 => h9) rfl dX2_nodeWith_101 ?_
      refine lv_iconst (v := nI 1) S.1 S.2.1 dX2_nodeWith_104 (by decide) ?_
      refine jn_add S dX2_nodeWith_105 ?_
      refine j_put (ci := 2) (C := RX2) (T := TX2) (N := 6) (ty := .int) S (fun w h => List.mem_cons_of_mem _ (inG2 w h)) tyX2 tyX2_ok nmX2 hK hW hX_ rfl 5 (by decide) (List.mem_cons_of_mem _ wfl_X2_54) (fun _ h9 => h9) rfl (by decide +kernel) (rfl) (rfl) (Nat.le_of_ble_eq_true rfl) dX2_nodeWith_106 (fun H locs w_ hU1 hN1 hW => ?_)
      have hU := hU.then hU1 (by decide)
      have hXwa_ := hU1.get hXwa_ (by decide)
      have hXya_ := hU1.get hXya_ (by decide)
      have hXfa_ := hU1.get hXfa_ (by decide)
      have hX_ : w_[31]? = some (ad 31, .inr (2, [.ref (ad 32), .ref (ad 34), .ref (ad 36), .ref (ad 38), .ref (ad 40), .int (nI (sz + 1))])) := hN1
      clear hU1 hN1
      refine lv_iload S.1 S.2.1 dX2_nodeWith_109 (lv_at hl 0 rfl) ?_
      subst hQ
      exact j_iret (u := w_) S hr (rfl) hK hW dX2_nodeWith_111 ⟨by decide, by decide⟩ (⟨_, _, _, _, _, rfl, Or.inr ⟨rfl, hs, hno, rfl, rfl, rfl, rfl⟩, hU, hX_, hXfa_, hXwa_, hXya_⟩)
    · have b1 := hf i
      have b2 := ht i
      refine lv_aload_n S.1 S.2.1 dX2_nodeWith_12 rfl (lv_at hl 0 rfl) ?_
      refine j_get (ci := 2) (C := RX2) (T := TX2) (N := 6) (v := .ref (ad 34)) S (fun w h => List.mem_cons_of_mem _ (inG2 w h)) hK hW hX rfl 1 (by decide) (List.mem_cons_of_mem _ wfl_X2_20) (fun _ h9 => h9) rfl dX2_nodeWith_13 ?_
      refine lv_iload S.1 S.2.1 dX2_nodeWith_16 (lv_at hl 4 rfl) ?_
      refine j_callV (k := 34) (ci := 5) (q := (RX6, TX6, 1)) (As := [.int (nI i)]) (rest := []) S hK hA hW (c_X6_atN l D cy 34 35 (ad 34) (ad 35) 272 i fw hXfo hXfa   (by omega) (by decide)) (jgo wm_X2_42) yk_X6_at hXfo rfl rfl ⟨⟨rfl, rfl⟩, by decide, by decide⟩ rfl hl.1 rfl (Nat.le_of_ble_eq_true rfl) dX2_nodeWith_18 ⟨Nat.le_of_ble_eq_true rfl, Nat.le_of_ble_eq_true rfl⟩ (fun v u H locs hp hW => ?_)
      obtain ⟨rfl, rfl⟩ := hp
      refine W.eq (g2 := F0 m 21 ls [.int (nI (fw i))]) rfl ?_
      refine lv_iload_n S.1 S.2.1 dX2_nodeWith_21 rfl (lv_at hl 1 rfl) ?_
      refine jn_cmp_ne (tgt := 41) S (by omega) (by omega) dX2_nodeWith_22 (by decide) (fun c_22 => ?_) (fun c_22 => ?_)
      · refine lv_iinc (v := nI (i + 1)) (lv' := [(4, .int (nI (i + 1))), (0, .ref (ad 31)), (1, .int (nI no)), (2, .int (nI ye)), (3, .int (nI fst))]) S.1 S.2.1 dX2_nodeWith_41 hl (k := 4) rfl (nI_add _ 1) (by decide) rfl (fun ls hl => ?_)
        refine lv_goto (tgt := 3) S.1 S.2.1 dX2_nodeWith_44 (by decide) ?_
        exact ih3 _ (by omega) (i + 1) rfl (by omega) (fun nd h1 h2 q => by
          rcases Nat.lt_or_ge nd i with z | z
          · exact hno nd h1 z q
          · rw [show nd = i by omega] at q; first | exact c_22 q.1 | exact c_35 q.2) H locs ls hW (lv_sub hl [1, 2, 3, 4, 0] rfl)
      · refine lv_aload_n S.1 S.2.1 dX2_nodeWith_25 rfl (lv_at hl 0 rfl) ?_
        refine j_get (ci := 2) (C := RX2) (T := TX2) (N := 6) (v := .ref (ad 36)) S (fun w h => List.mem_cons_of_mem _ (inG2 w h)) hK hW hX rfl 2 (by decide) (List.mem_cons_of_mem _ wfl_X2_23) (fun _ h9 => h9) rfl dX2_nodeWith_26 ?_
        refine lv_iload S.1 S.2.1 dX2_nodeWith_29 (lv_at hl 4 rfl) ?_
        refine j_callV (k := 36) (ci := 5) (q := (RX6, TX6, 1)) (As := [.int (nI i)]) (rest := []) S hK hA hW (c_X6_atN l D cy 36 37 (ad 36) (ad 37) 272 i tw hXwo hXwa   (by omega) (by decide)) (jgo wm_X2_42) yk_X6_at hXwo rfl rfl ⟨⟨rfl, rfl⟩, by decide, by decide⟩ rfl hl.1 rfl (Nat.le_of_ble_eq_true rfl) dX2_nodeWith_31 ⟨Nat.le_of_ble_eq_true rfl, Nat.le_of_ble_eq_true rfl⟩ (fun v u H locs hp hW => ?_)
        obtain ⟨rfl, rfl⟩ := hp
        refine W.eq (g2 := F0 m 34 ls [.int (nI (tw i))]) rfl ?_
        refine lv_iload_n S.1 S.2.1 dX2_nodeWith_34 rfl (lv_at hl 2 rfl) ?_
        refine jn_cmp_ne (tgt := 41) S (by omega) (by omega) dX2_nodeWith_35 (by decide) (fun c_35 => ?_) (fun c_35 => ?_)
        · refine lv_iinc (v := nI (i + 1)) (lv' := [(4, .int (nI (i + 1))), (0, .ref (ad 31)), (1, .int (nI no)), (2, .int (nI ye)), (3, .int (nI fst))]) S.1 S.2.1 dX2_nodeWith_41 hl (k := 4) rfl (nI_add _ 1) (by decide) rfl (fun ls hl => ?_)
          refine lv_goto (tgt := 3) S.1 S.2.1 dX2_nodeWith_44 (by decide) ?_
          exact ih3 _ (by omega) (i + 1) rfl (by omega) (fun nd h1 h2 q => by
          rcases Nat.lt_or_ge nd i with z | z
          · exact hno nd h1 z q
          · rw [show nd = i by omega] at q; first | exact c_22 q.1 | exact c_35 q.2) H locs ls hW (lv_sub hl [1, 2, 3, 4, 0] rfl)
        · refine lv_iload S.1 S.2.1 dX2_nodeWith_38 (lv_at hl 4 rfl) ?_
          subst hQ
          exact j_iret (u := w) S hr (rfl) hK hW dX2_nodeWith_40 ⟨by decide, by decide⟩ (⟨i, sz, fw, tw, yw, rfl, Or.inl ⟨hi.1, c_9, c_22, c_35, rfl, rfl, rfl, rfl⟩, jU.rf, hX, hXfa, hXwa, hXya⟩)
  exact L3 _ fst rfl (⟨Nat.le_refl _, hsz.1⟩) (fun nd h1 h2 => absurd h1 (by omega)) H locs ls hW (lv_sub hl [1, 2, 3, 4, 0] rfl)
theorem c_X2_mergePlace (l : Launch) (D : va_G) (cy : Nat → ClassId) {w : va_W} (ad : Nat → Nat) (sz : Nat) (tp fw tw yw pcn : Nat → Nat) (q : Nat) (hX : w[31]? = some (ad 31, .inr (2, [.ref (ad 32), .ref (ad 34), .ref (ad 36), .ref (ad 38), .ref (ad 40), .int (nI sz)]))) (hXto : w[32]? = some (ad 32, .inr (5, [.ref (ad 33)]))) (hXta : w[33]? = some (ad 33, .inl (cy 0, 1024, .inl (nf tp)))) (hXfo : w[34]? = some (ad 34, .inr (5, [.ref (ad 35)]))) (hXfa : w[35]? = some (ad 35, .inl (cy 0, 272, .inl (nf fw)))) (hXwo : w[36]? = some (ad 36, .inr (5, [.ref (ad 37)]))) (hXwa : w[37]? = some (ad 37, .inl (cy 0, 272, .inl (nf tw)))) (hXyo : w[38]? = some (ad 38, .inr (5, [.ref (ad 39)]))) (hXya : w[39]? = some (ad 39, .inl (cy 0, 272, .inl (nf yw)))) (hXpo : w[40]? = some (ad 40, .inr (5, [.ref (ad 41)]))) (hXpa : w[41]? = some (ad 41, .inl (cy 0, 10, .inl (nf pcn)))) (hq : q < 10) (htp : ∀ j, j < 2 ^ (q + 1) → tp j < sz) (hsz : sz + cnt (newF tp) (2 ^ q) ≤ 272) (hf : ∀ a, fw a < 272) (ht : ∀ a, tw a < 272) : jM l yX2_mergePlace (jws yX2_mergePlace cX2_mergePlace 6 none) (jR 2 0 0) D cy w [.ref (ad 31), .int (nI q)] 0 0 (fun vv uu => ∃ (sz1 : Nat), ∃ (fw1 : Nat → Nat), ∃ (tw1 : Nat → Nat), ∃ (yw1 : Nat → Nat), ∃ (gg : Nat → Nat), vv = none ∧ mrgI tp sz (2 ^ q) sz1 fw1 tw1 yw yw1 gg ∧ jU w uu [31, 33, 35, 37, 39, 41] ∧ uu[31]? = some (ad 31, .inr (2, [.ref (ad 32), .ref (ad 34), .ref (ad 36), .ref (ad 38), .ref (ad 40), .int (nI sz1)])) ∧ uu[33]? = some (ad 33, .inl (cy 0, 1024, .inl (nf (mixN (2 ^ q) gg tp)))) ∧ uu[35]? = some (ad 35, .inl (cy 0, 272, .inl (nf fw1))) ∧ uu[37]? = some (ad 37, .inl (cy 0, 272, .inl (nf tw1))) ∧ uu[39]? = some (ad 39, .inl (cy 0, 272, .inl (nf yw1))) ∧ uu[41]? = some (ad 41, .inl (cy 0, 10, .inl (nf (upB pcn q (sz1 - sz)))))) := by
  have hp : 2 ^ (q + 1) = 2 ^ q + 2 ^ q := by rw [Nat.pow_succ]; omega
  have hp2 : 2 ^ q ≤ 512 := Nat.pow_le_pow_right (by decide) (show q ≤ 9 by omega)
  refine j_of (by decide) rfl (Nat.le_of_ble_eq_true rfl) ?_
  intro p e s m args below meth c A ls Q hQ S hr hK hA H locs hW hl
  have hl : lv_has ls 6 [(0, .ref (ad 31)), (1, .int (nI q))] := hl
  refine lv_aload_n S.1 S.2.1 dX2_mergePlace_0 rfl (lv_at hl 0 rfl) ?_
  refine j_get (ci := 2) (C := RX2) (T := TX2) (N := 6) (v := .int (nI sz)) S (fun w h => List.mem_cons_of_mem _ (inG2 w h)) hK hW hX rfl 5 (by decide) (List.mem_cons_of_mem _ wfl_X2_54) (fun _ h9 => h9) rfl dX2_mergePlace_1 ?_
  refine lv_istore_n (lv' := [(2, .int (nI sz)), (0, .ref (ad 31)), (1, .int (nI q))]) S.1 S.2.1 dX2_mergePlace_4 rfl hl (by decide) rfl (fun ls hl => ?_)
  refine lv_iconst (v := nI 0) S.1 S.2.1 dX2_mergePlace_5 (by decide) ?_
  refine lv_istore_n (lv' := [(3, .int (nI 0)), (2, .int (nI sz)), (0, .ref (ad 31)), (1, .int (nI q))]) S.1 S.2.1 dX2_mergePlace_6 rfl hl (by decide) rfl (fun ls hl => ?_)
  have L7 : ∀ (k : Nat) (i : Nat) (sz1 : Nat) (fw1 : Nat → Nat) (tw1 : Nat → Nat) (yw1 : Nat → Nat) (gg : Nat → Nat), 2 ^ q - i = k → (i ≤ 2 ^ q) → (mrgI tp sz i sz1 fw1 tw1 yw yw1 gg) → ∀ (w_ : va_W), jU w w_ [31, 33, 35, 37, 39, 41] → (w_[31]? = some (ad 31, .inr (2, [.ref (ad 32), .ref (ad 34), .ref (ad 36), .ref (ad 38), .ref (ad 40), .int (nI sz1)]))) → (w_[33]? = some (ad 33, .inl (cy 0, 1024, .inl (nf (mixN i gg tp))))) → (w_[35]? = some (ad 35, .inl (cy 0, 272, .inl (nf fw1)))) → (w_[37]? = some (ad 37, .inl (cy 0, 272, .inl (nf tw1)))) → (w_[39]? = some (ad 39, .inl (cy 0, 272, .inl (nf yw1)))) → (w_[41]? = some (ad 41, .inl (cy 0, 10, .inl (nf pcn)))) → ∀ (H : Heap) (locs : List Loc) (ls : Array Slot), jW D A s.heap w_ H locs → lv_has ls 6 [(0, .ref (ad 31)), (1, .int (nI q)), (2, .int (nI sz)), (3, .int (nI i))] → W p l e (jR 2 0 0) s m args below meth c H locs 0 0 Q (F0 m 7 ls []) := by
    intro k
    induction k using Nat.strongRecOn with
    | ind k ih7 =>
    intro i sz1 fw1 tw1 yw1 gg hk hi hI w_ hU hX_ hXta_ hXfa_ hXwa_ hXya_ hXpa_ H locs ls hW hl
    subst hk
    refine lv_iload_n S.1 S.2.1 dX2_mergePlace_7 rfl (lv_at hl 3 rfl) ?_
    refine lv_iconst (v := nI 1) S.1 S.2.1 dX2_mergePlace_8 (by decide) ?_
    refine lv_iload_n S.1 S.2.1 dX2_mergePlace_9 rfl (lv_at hl 1 rfl) ?_
    refine jn_shl1 S (by omega) dX2_mergePlace_10 ?_
    refine jn_cmp_ge (tgt := 75) S (by omega) (by omega) dX2_mergePlace_11 (by decide) (fun c_11 => ?_) (fun c_11 => ?_)
    · have hs1 := hI.1.1
      refine lv_aload_n S.1 S.2.1 dX2_mergePlace_75 rfl (lv_at hl 0 rfl) ?_
      refine j_get (ci := 2) (C := RX2) (T := TX2) (N := 6) (v := .ref (ad 40)) S (fun w h => List.mem_cons_of_mem _ (inG2 w h)) hK hW hX_ rfl 4 (by decide) (List.mem_cons_of_mem _ wfl_X2_29) (fun _ h9 => h9) rfl dX2_mergePlace_76 ?_
      refine lv_iload_n S.1 S.2.1 dX2_mergePlace_79 rfl (lv_at hl 1 rfl) ?_
      refine lv_aload_n S.1 S.2.1 dX2_mergePlace_80 rfl (lv_at hl 0 rfl) ?_
      refine j_get (ci := 2) (C := RX2) (T := TX2) (N := 6) (v := .int (nI sz1)) S (fun w h => List.mem_cons_of_mem _ (inG2 w h)) hK hW hX_ rfl 5 (by decide) (List.mem_cons_of_mem _ wfl_X2_54) (fun _ h9 => h9) rfl dX2_mergePlace_81 ?_
      refine lv_iload_n S.1 S.2.1 dX2_mergePlace_84 rfl (lv_at hl 2 rfl) ?_
      refine jn_sub S (by omega) dX2_mergePlace_85 ?_
      refine j_callV (k := 40) (ci := 5) (q := (RX6, TX6, 1)) (As := [.int (nI q), .int (nI (sz1 - sz))]) (rest := []) S hK hA hW (c_X6_putN l D cy 40 41 (ad 40) (ad 41) 10 q pcn (sz1 - sz) (hU.get hXpo (by decide)) hXpa_   (by omega) (by decide)) (jgo wm_X2_50) yk_X6_put (hU.get hXpo (by decide)) rfl rfl ⟨⟨rfl, rfl⟩, by decide, by decide⟩ rfl hl.1 rfl (Nat.le_of_ble_eq_true rfl) dX2_mergePlace_86 ⟨Nat.le_of_ble_eq_true rfl, Nat.le_of_ble_eq_true rfl⟩ (fun v w_ H locs hp hW => ?_)
      obtain ⟨rfl, hU1, hN1⟩ := hp
      have hU := hU.then hU1 (by decide)
      have hX_ := hU1.get hX_ (by decide)
      have hXta_ := hU1.get hXta_ (by decide)
      have hXfa_ := hU1.get hXfa_ (by decide)
      have hXwa_ := hU1.get hXwa_ (by decide)
      have hXya_ := hU1.get hXya_ (by decide)
      have hXpa_ : w_[41]? = some (ad 41, .inl (cy 0, 10, .inl (nf (upB pcn q (sz1 - sz))))) := hN1
      clear hU1 hN1
      refine W.eq (g2 := F0 m 89 ls []) rfl ?_
      subst hQ
      refine j_vret (u := w_) S hr hK hW dX2_mergePlace_89 ⟨by decide, by decide⟩ ?_
      have ei : i = 2 ^ q := by omega
      subst ei
      exact ⟨_, _, _, _, _, rfl, hI, hU, hX_, hXta_, hXfa_, hXwa_, hXya_, hXpa_⟩
    · have t1 := htp (2 * i) (by omega)
      have t2 := htp (2 * i + 1) (by omega)
      have hcm : cnt (newF tp) i ≤ cnt (newF tp) (2 ^ q) := cnt_mono _ hi
      have hs1 := hI.1.1
      have e1 : mixN i gg tp (2 * i) = tp (2 * i) := mixN_hi (by omega)
      have e2 : mixN i gg tp (2 * i + 1) = tp (2 * i + 1) := mixN_hi (by omega)
      refine lv_aload_n S.1 S.2.1 dX2_mergePlace_14 rfl (lv_at hl 0 rfl) ?_
      refine j_get (ci := 2) (C := RX2) (T := TX2) (N := 6) (v := .ref (ad 32)) S (fun w h => List.mem_cons_of_mem _ (inG2 w h)) hK hW hX_ rfl 0 (by decide) (List.mem_cons_of_mem _ wfl_X2_14) (fun _ h9 => h9) rfl dX2_mergePlace_15 ?_
      refine lv_iconst (v := nI 2) S.1 S.2.1 dX2_mergePlace_18 (by decide) ?_
      refine lv_iload_n S.1 S.2.1 dX2_mergePlace_19 rfl (lv_at hl 3 rfl) ?_
      refine jn_mul S dX2_mergePlace_20 ?_
      refine j_callV (k := 32) (ci := 5) (q := (RX6, TX6, 1)) (As := [.int (nI (2 * i))]) (rest := []) S hK hA hW (c_X6_atN l D cy 32 33 (ad 32) (ad 33) 1024 (2 * i) (mixN i gg tp) (hU.get hXto (by decide)) hXta_   (by omega) (by decide)) (jgo wm_X2_42) yk_X6_at (hU.get hXto (by decide)) rfl rfl ⟨⟨rfl, rfl⟩, by decide, by decide⟩ rfl hl.1 rfl (Nat.le_of_ble_eq_true rfl) dX2_mergePlace_21 ⟨Nat.le_of_ble_eq_true rfl, Nat.le_of_ble_eq_true rfl⟩ (fun v u H locs hp hW => ?_)
      obtain ⟨rfl, rfl⟩ := hp
      refine W.eq (g2 := F0 m 24 ls [.int (nI ((mixN i gg tp) (2 * i)))]) rfl ?_
      refine lv_topi_to (y := nI (tp (2 * i))) (by rw [e1]) ?_
      refine lv_istore (lv' := [(4, .int (nI (tp (2 * i)))), (0, .ref (ad 31)), (1, .int (nI q)), (2, .int (nI sz)), (3, .int (nI i))]) S.1 S.2.1 dX2_mergePlace_24 hl (by decide) rfl (fun ls hl => ?_)
      refine lv_aload_n S.1 S.2.1 dX2_mergePlace_26 rfl (lv_at hl 1 rfl) ?_
      refine j_get (ci := 2) (C := RX2) (T := TX2) (N := 6) (v := .ref (ad 32)) S (fun w h => List.mem_cons_of_mem _ (inG2 w h)) hK hW hX_ rfl 0 (by decide) (List.mem_cons_of_mem _ wfl_X2_14) (fun _ h9 => h9) rfl dX2_mergePlace_27 ?_
      refine lv_iconst (v := nI 2) S.1 S.2.1 dX2_mergePlace_30 (by decide) ?_
      refine lv_iload_n S.1 S.2.1 dX2_mergePlace_31 rfl (lv_at hl 4 rfl) ?_
      refine jn_mul S dX2_mergePlace_32 ?_
      refine lv_iconst (v := nI 1) S.1 S.2.1 dX2_mergePlace_33 (by decide) ?_
      refine jn_add S dX2_mergePlace_34 ?_
      refine j_callV (k := 32) (ci := 5) (q := (RX6, TX6, 1)) (As := [.int (nI ((2 * i) + 1))]) (rest := []) S hK hA hW (c_X6_atN l D cy 32 33 (ad 32) (ad 33) 1024 ((2 * i) + 1) (mixN i gg tp) (hU.get hXto (by decide)) hXta_   (by omega) (by decide)) (jgo wm_X2_42) yk_X6_at (hU.get hXto (by decide)) rfl rfl ⟨⟨rfl, rfl⟩, by decide, by decide⟩ rfl hl.1 rfl (Nat.le_of_ble_eq_true rfl) dX2_mergePlace_35 ⟨Nat.le_of_ble_eq_true rfl, Nat.le_of_ble_eq_true rfl⟩ (fun v u H locs hp hW => ?_)
      obtain ⟨rfl, rfl⟩ := hp
      refine W.eq (g2 := F0 m 38 ls [.int (nI ((mixN i gg tp) ((2 * i) + 1)))]) rfl ?_
      refine lv_topi_to (y := nI (tp (2 * i + 1))) (by rw [e2]) ?_
      refine lv_istore (lv' := [(5, .int (nI (tp (2 * i + 1)))), (4, .int (nI (tp (2 * i)))), (0, .ref (ad 31)), (1, .int (nI q)), (2, .int (nI sz)), (3, .int (nI i))]) S.1 S.2.1 dX2_mergePlace_38 hl (by decide) rfl (fun ls hl => ?_)
      refine lv_aload_n S.1 S.2.1 dX2_mergePlace_40 rfl (lv_at hl 2 rfl) ?_
      refine j_get (ci := 2) (C := RX2) (T := TX2) (N := 6) (v := .ref (ad 32)) S (fun w h => List.mem_cons_of_mem _ (inG2 w h)) hK hW hX_ rfl 0 (by decide) (List.mem_cons_of_mem _ wfl_X2_14) (fun _ h9 => h9) rfl dX2_mergePlace_41 ?_
      refine lv_iload_n S.1 S.2.1 dX2_mergePlace_44 rfl (lv_at hl 5 rfl) ?_
      refine lv_iload S.1 S.2.1 dX2_mergePlace_45 (lv_at hl 1 rfl) ?_
      refine lv_iload S.1 S.2.1 dX2_mergePlace_47 (lv_at hl 0 rfl) ?_
      refine jn_cmp_ne (tgt := 57) S (by omega) (by omega) dX2_mergePlace_49 (by decide) (fun c_49 => ?_) (fun c_49 => ?_)
      · have hroom63 : (∃ nd, sz ≤ nd ∧ nd < sz1 ∧ fw1 nd = tp (2 * i) ∧ tw1 nd = tp (2 * i + 1)) ∨ sz1 < 272 := by
          by_cases hnn : ∃ nd, sz ≤ nd ∧ nd < sz1 ∧ fw1 nd = tp (2 * i) ∧ tw1 nd = tp (2 * i + 1)
          · exact Or.inl hnn
          · have hnew := newF_new c_49 (fun d hd z => by
              have hd2 := (hI.2.1 d hd).2 (by rw [z.1, z.2]; exact c_49)
              exact hnn ⟨gg d, hd2.1, hd2.2.1, hd2.2.2.1.trans z.1, hd2.2.2.2.trans z.2⟩)
            have h2 := cnt_s1 hnew
            have h3 := cnt_mono (newF tp) (show i + 1 ≤ 2 ^ q by omega)
            exact Or.inr (by omega)
        refine lv_aload_n S.1 S.2.1 dX2_mergePlace_57 rfl (lv_at hl 2 rfl) ?_
        refine lv_iload S.1 S.2.1 dX2_mergePlace_58 (lv_at hl 1 rfl) ?_
        refine lv_iload S.1 S.2.1 dX2_mergePlace_60 (lv_at hl 0 rfl) ?_
        refine lv_iload_n S.1 S.2.1 dX2_mergePlace_62 rfl (lv_at hl 4 rfl) ?_
        refine j_callV (k := 31) (ci := 2) (q := (RX2, TX2, 6)) (As := [.int (nI (tp (2 * i))), .int (nI (tp (2 * i + 1))), .int (nI sz)]) (rest := [.int (nI i), .ref (ad 32)]) S hK hA hW (c_X2_nodeWith l D cy ad sz1 fw1 tw1 yw1 (tp (2 * i)) (tp (2 * i + 1)) sz hX_ (hU.get hXfo (by decide)) hXfa_ (hU.get hXwo (by decide)) hXwa_ (hU.get hXyo (by decide)) hXya_   (by omega) (hI.1.2.1) (hI.1.2.2) (by omega) (hroom63)) (jgo wm_X2_61) yk_X2_nodeWith hX_ rfl rfl ⟨⟨rfl, rfl⟩, by decide, by decide⟩ rfl hl.1 rfl (Nat.le_of_ble_eq_true rfl) dX2_mergePlace_63 ⟨Nat.le_of_ble_eq_true rfl, Nat.le_of_ble_eq_true rfl⟩ (fun v w_ H locs hp hW => ?_)
        obtain ⟨r_63, sz1_63, fw1_63, tw1_63, yw1_63, rfl, hp63_0, hU1, hN1, hN2, hN3, hN4⟩ := hp
        have hU := hU.then hU1 (by decide)
        have hXta_ := hU1.get hXta_ (by decide)
        have hXpa_ := hU1.get hXpa_ (by decide)
        have hX_ : w_[31]? = some (ad 31, .inr (2, [.ref (ad 32), .ref (ad 34), .ref (ad 36), .ref (ad 38), .ref (ad 40), .int (nI sz1_63)])) := hN1
        have hXfa_ : w_[35]? = some (ad 35, .inl (cy 0, 272, .inl (nf fw1_63))) := hN2
        have hXwa_ : w_[37]? = some (ad 37, .inl (cy 0, 272, .inl (nf tw1_63))) := hN3
        have hXya_ : w_[39]? = some (ad 39, .inl (cy 0, 272, .inl (nf yw1_63))) := hN4
        clear hU1 hN1 hN2 hN3 hN4
        refine W.eq (g2 := F0 m 66 ls [.int (nI r_63), .int (nI i), .ref (ad 32)]) rfl ?_
        have hI2 : mrgI tp sz (i + 1) sz1_63 fw1_63 tw1_63 yw yw1_63 (upB gg i r_63) := by
          rcases hp63_0 with ⟨z1, z2, z3, z4, rfl, rfl, rfl, rfl⟩ | ⟨rfl, z1, z2, rfl, rfl, rfl, rfl⟩
          · exact mrgI_keep hI (Or.inr ⟨c_49, z1, z2, z3, z4⟩)
          · exact mrgI_new hI c_49 ⟨t1, t2⟩ z1 z2
        refine j_callV (k := 32) (ci := 5) (q := (RX6, TX6, 1)) (As := [.int (nI i), .int (nI r_63)]) (rest := []) S hK hA hW (c_X6_putN l D cy 32 33 (ad 32) (ad 33) 1024 i (mixN i gg tp) r_63 (hU.get hXto (by decide)) hXta_   (by omega) (by decide)) (jgo wm_X2_50) yk_X6_put (hU.get hXto (by decide)) rfl rfl ⟨⟨rfl, rfl⟩, by decide, by decide⟩ rfl hl.1 rfl (Nat.le_of_ble_eq_true rfl) dX2_mergePlace_66 ⟨Nat.le_of_ble_eq_true rfl, Nat.le_of_ble_eq_true rfl⟩ (fun v w_ H locs hp hW => ?_)
        obtain ⟨rfl, hU1, hN1⟩ := hp
        have hU := hU.then hU1 (by decide)
        have hX_ := hU1.get hX_ (by decide)
        have hXfa_ := hU1.get hXfa_ (by decide)
        have hXwa_ := hU1.get hXwa_ (by decide)
        have hXya_ := hU1.get hXya_ (by decide)
        have hXpa_ := hU1.get hXpa_ (by decide)
        have hXta_ : w_[33]? = some (ad 33, .inl (cy 0, 1024, .inl (nf (upB (mixN i gg tp) i r_63)))) := hN1
        clear hU1 hN1
        refine W.eq (g2 := F0 m 69 ls []) rfl ?_
        have hXta_ : w_[33]? = some (ad 33, .inl (cy 0, 1024, .inl (nf (mixN (i + 1) (upB gg i r_63) tp)))) := by
          rw [← mixN_s]; exact hXta_
        refine lv_iinc (v := nI (i + 1)) (lv' := [(3, .int (nI (i + 1))), (5, .int (nI (tp (2 * i + 1)))), (4, .int (nI (tp (2 * i)))), (0, .ref (ad 31)), (1, .int (nI q)), (2, .int (nI sz))]) S.1 S.2.1 dX2_mergePlace_69 hl (k := 5) rfl (nI_add _ 1) (by decide) rfl (fun ls hl => ?_)
        refine lv_goto (tgt := 7) S.1 S.2.1 dX2_mergePlace_72 (by decide) ?_
        exact ih7 _ (by omega) (i + 1) sz1_63 fw1_63 tw1_63 yw1_63 (upB gg i r_63) rfl (by omega) (hI2) w_ hU hX_ hXta_ hXfa_ hXwa_ hXya_ hXpa_ H locs ls hW (lv_sub hl [3, 4, 5, 0] rfl)
      · refine lv_iload S.1 S.2.1 dX2_mergePlace_52 (lv_at hl 1 rfl) ?_
        refine lv_goto (tgt := 66) S.1 S.2.1 dX2_mergePlace_54 (by decide) ?_
        refine j_callV (k := 32) (ci := 5) (q := (RX6, TX6, 1)) (As := [.int (nI i), .int (nI (tp (2 * i)))]) (rest := []) S hK hA hW (c_X6_putN l D cy 32 33 (ad 32) (ad 33) 1024 i (mixN i gg tp) (tp (2 * i)) (hU.get hXto (by decide)) hXta_   (by omega) (by decide)) (jgo wm_X2_50) yk_X6_put (hU.get hXto (by decide)) rfl rfl ⟨⟨rfl, rfl⟩, by decide, by decide⟩ rfl hl.1 rfl (Nat.le_of_ble_eq_true rfl) dX2_mergePlace_66 ⟨Nat.le_of_ble_eq_true rfl, Nat.le_of_ble_eq_true rfl⟩ (fun v w_ H locs hp hW => ?_)
        obtain ⟨rfl, hU1, hN1⟩ := hp
        have hU := hU.then hU1 (by decide)
        have hX_ := hU1.get hX_ (by decide)
        have hXfa_ := hU1.get hXfa_ (by decide)
        have hXwa_ := hU1.get hXwa_ (by decide)
        have hXya_ := hU1.get hXya_ (by decide)
        have hXpa_ := hU1.get hXpa_ (by decide)
        have hXta_ : w_[33]? = some (ad 33, .inl (cy 0, 1024, .inl (nf (upB (mixN i gg tp) i (tp (2 * i)))))) := hN1
        clear hU1 hN1
        refine W.eq (g2 := F0 m 69 ls []) rfl ?_
        have hXta_ : w_[33]? = some (ad 33, .inl (cy 0, 1024, .inl (nf (mixN (i + 1) (upB gg i (tp (2 * i))) tp)))) := by
          rw [← mixN_s]; exact hXta_
        refine lv_iinc (v := nI (i + 1)) (lv' := [(3, .int (nI (i + 1))), (5, .int (nI (tp (2 * i + 1)))), (4, .int (nI (tp (2 * i)))), (0, .ref (ad 31)), (1, .int (nI q)), (2, .int (nI sz))]) S.1 S.2.1 dX2_mergePlace_69 hl (k := 5) rfl (nI_add _ 1) (by decide) rfl (fun ls hl => ?_)
        refine lv_goto (tgt := 7) S.1 S.2.1 dX2_mergePlace_72 (by decide) ?_
        exact ih7 _ (by omega) (i + 1) sz1 fw1 tw1 yw1 (upB gg i (tp (2 * i))) rfl (by omega) (mrgI_keep hI (Or.inl ⟨c_49, rfl⟩)) w_ hU hX_ hXta_ hXfa_ hXwa_ hXya_ hXpa_ H locs ls hW (lv_sub hl [3, 4, 5, 0] rfl)
  exact L7 _ 0 sz fw tw yw tp rfl (Nat.zero_le _) (mrgI_0 hf ht) w jU.rf hX hXta hXfa hXwa hXya hXpa H locs ls hW (lv_sub hl [2, 3, 1, 0] rfl)
