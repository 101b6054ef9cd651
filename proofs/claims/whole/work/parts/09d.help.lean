/-! THE LAW'S HELPERS: what is told (laid by wip/whole/tools, from the specs there) -/
theorem conOK.more {w u : va_W} {nc nL q : Nat} {tf : Nat → Option Nat} {cp ca : Nat → Nat} {cs : Nat → CN} {cn : CN} {K : List Nat} (h : conOK w nc tf cp ca cs) (hU : jU w u K) (hK : ∀ k ∈ K, k < 76) (hnc : nc < 20) (hlen : w.length = nL) (h76 : 76 ≤ nL) (hq : u[nL]? = some (q, .inr (cobj cn))) (ok : okC cn) : conOK u (nc + 1) (va_up tf nc (some q)) (upB cp nc nL) (upB ca nc q) (upB cs nc cn) := by
  refine ⟨by omega, fun c hc => ?_, fun c hc => ?_, fun c hc => ?_⟩
  · unfold va_up upB
    by_cases e : c = nc
    · rw [if_pos e, if_pos e]
    · rw [if_neg e, if_neg e]; exact h.2.1 c (by omega)
  · unfold va_up
    rw [if_neg (by omega)]; exact h.2.2.1 c (by omega)
  · unfold upB
    by_cases e : c = nc
    · rw [if_pos e, if_pos e, if_pos e]; exact ⟨h76, hq, ok⟩
    · rw [if_neg e, if_neg e, if_neg e]
      obtain ⟨h1, h2, h3⟩ := h.2.2.2 c (by omega)
      exact ⟨h1, hU.get h2 (fun q => by have := hK _ q; omega), h3⟩
theorem slOK.keep {w u : va_W} {ad : Nat → Nat} {cy : Nat → ClassId} {kv : Nat → Int32} {kx : Nat → Nat → Bool} {X : Nat → Bool} {x : Int32} {j : Nat} {K : List Nat} (h : slOK w ad cy kv kx) (hU : jU w u K) (hK : ∀ k ∈ K, 43 ≤ k → k ≤ 54 → k = 43 + 3 * j ∨ k = 45 + 3 * j) (h1 : u[43 + 3 * j]? = some (ad (43 + 3 * j), .inr (0, [.ref (ad (44 + 3 * j)), .int x]))) (h2 : u[45 + 3 * j]? = some (ad (45 + 3 * j), .inl (cy 1, 16, .inr (.inl (wd X))))) : slOK u ad cy (upd kv j x) (upB kx j X) := fun i hi => by
  obtain ⟨a, b, c⟩ := h i hi
  have hb := hU.get b (fun q => by have := hK _ q (by omega) (by omega); omega)
  unfold upd upB
  by_cases e : i = j
  · subst e; rw [if_pos rfl, if_pos rfl]; exact ⟨h1, hb, h2⟩
  · rw [if_neg e, if_neg e]
    exact ⟨hU.get a (fun q => by have := hK _ q (by omega) (by omega); omega), hb, hU.get c (fun q => by have := hK _ q (by omega) (by omega); omega)⟩
theorem slOK.set {w u : va_W} {ad : Nat → Nat} {cy : Nat → ClassId} {kv : Nat → Int32} {kx : Nat → Nat → Bool} {X : Nat → Bool} {j : Nat} {K : List Nat} (h : slOK w ad cy kv kx) (hU : jU w u K) (hK : ∀ k ∈ K, 43 ≤ k → k ≤ 54 → k = 45 + 3 * j) (h2 : u[45 + 3 * j]? = some (ad (45 + 3 * j), .inl (cy 1, 16, .inr (.inl (wd X))))) : slOK u ad cy kv (upB kx j X) := fun i hi => by
  obtain ⟨a, b, c⟩ := h i hi
  have ha := hU.get a (fun q => by have := hK _ q (by omega) (by omega); omega)
  have hb := hU.get b (fun q => by have := hK _ q (by omega) (by omega); omega)
  unfold upB
  by_cases e : i = j
  · subst e; rw [if_pos rfl]; exact ⟨ha, hb, h2⟩
  · rw [if_neg e]
    exact ⟨ha, hb, hU.get c (fun q => by have := hK _ q (by omega) (by omega); omega)⟩
/-- the law's addVariable -/
theorem h_addVariable (l : Launch) (htr : l.stackTraces = false) (D : va_G) (cy : Nat → ClassId) {w : va_W} (ad : Nat → Nat) (n : Nat) (wf wt od : Nat → Nat) (sd se nc lv : Nat) (cs : Nat → CN) (kv : Nat → Int32) (kx : Nat → Nat → Bool) (og : Nat → Int64) (ogd : Nat → UInt64) (hPI : PI n wf wt od sd se nc lv cs kv kx) (hCI : CI ad cy w n wf wt od sd se nc lv cs kv kx) (hOut : w[74]? = some (ad 74, .inl (cy 1, 1, .inr (.inl og)))) (hOuD : w[75]? = some (ad 75, .inl (cy 7, 1, .inr (.inr (.inr (.inl ogd)))))) : jMh l yL_addVariable (jwsW yL_addVariable cL_addVariable 3 (some .int) [(0, 8, 11, 13)]) (jR 9 1 6) D cy w [.ref (ad 0), .ref (ad 74)] 1 6 (fun vv uu => (vv = some (.int (nI 0)) ∧ n < 10 ∧ jUc w uu ∧ CI ad cy uu (n + 1) (upB wf n 1) (upB wt n 1) (upB od n n) sd se nc lv cs kv kx ∧ uu[74]? = some (ad 74, .inl (cy 1, 1, .inr (.inl (vp_updL og 0 ((nI n).toInt64))))) ∧ uu[75]? = some (ad 75, .inl (cy 7, 1, .inr (.inr (.inr (.inl ogd)))))) ∨ (vv = some (.int (nI 1)) ∧ (n = 10) ∧ jUc w uu ∧ CI ad cy uu n wf wt od sd se nc lv cs kv kx ∧ uu[74]? = some (ad 74, .inl (cy 1, 1, .inr (.inl og))) ∧ uu[75]? = some (ad 75, .inl (cy 7, 1, .inr (.inr (.inr (.inl ogd))))))) := by
  obtain ⟨hn, hsdn, hse2, hnc, hlvn, hcs, hkI, hod, hodn, hinj⟩ := hPI
  have hp2 := two_pow10 hn
  have hsd : sd < 1024 := by omega
  have hse : se < 1024 := by rw [← hse2]; exact Nat.lt_of_le_of_lt Nat.and_le_right hsd
  have hlv : lv < 2 ^ 20 := Nat.lt_of_lt_of_le hlvn (Nat.pow_le_pow_right (by decide) hnc)
  have hCI0 := hCI
  obtain ⟨bO, bW, bD, bC, bM, bP, bR, bX, bS⟩ := hCI
  have bO0 := bO
  have bW0 := bW
  have bD0 := bD
  obtain ⟨fr, mv, MX, hO, hMo, hMl, hMa, hfr⟩ := bO
  obtain ⟨pr, hFo, hFa, hGo, hGa, hDo, hDa, hwf, hwt, hpr, hpn⟩ := bW
  obtain ⟨hOo, hOa⟩ := bD
  refine j_ofH (by decide) rfl (Nat.le_of_ble_eq_true rfl) ?_
  intro p e s m args below meth c A ls Q hQ S hr hK hA H locs hW hl htab hx hnx
  have hl : lv_has ls 3 [(0, .ref (ad 0)), (1, .ref (ad 74))] := hl
  refine lv_aload_n S.1 S.2.1 dL_addVariable_0 rfl (lv_at hl 1 rfl) ?_
  refine lv_iconst (v := nI 0) S.1 S.2.1 dL_addVariable_1 (by decide) ?_
  refine lv_aload_n S.1 S.2.1 dL_addVariable_2 rfl (lv_at hl 0 rfl) ?_
  refine jx_callT (k := 0) (ci := 10) (q := (RX11, TX11, 15)) (As := []) (rest := [.int (nI 0), .ref (ad 74)]) S hK hA hW hx (c_X11_addVariable l htr D cy ad n sd se fr wf wt pr od hO hFo hFa hGo hGa hDo hDa hOo hOa   (hn) (hwf) (hwt)) (jgo wm_L_7) yk_X11_addVariable hO rfl rfl ⟨⟨rfl, rfl⟩, by decide, by decide⟩ rfl hl.1 rfl (Nat.le_of_ble_eq_true rfl) dL_addVariable_3 ⟨Nat.le_of_ble_eq_true rfl, Nat.le_of_ble_eq_true rfl⟩ (fun E ce q9 w_ H locs hp hW hc1 hc2 hc3 => ?_) (fun v w_ H locs hp hW => ?_)
  · obtain ⟨hp, rfl⟩ := hp
    obtain ⟨rfl, hp⟩ := hp
    refine vx_catch (name := "java/lang/IllegalStateException") S.2.2.2.1 [] ⟨0, 8, 11, 13⟩ [] (htab.trans rfl) (fun _ h => absurd h List.not_mem_nil) (by decide) (by decide) (S.2.2.2.2 _ (List.mem_cons_of_mem _ wcl_L_13)) (va_Nw.use rfl (hx.2.2.1 "java/lang/IllegalStateException" (by decide))) hc1 hc2 hc3 ?_
    refine W.eq (g2 := F0 m 11 ls [.ref q9]) rfl ?_
    refine lv_astore_n (lv' := [(2, .ref q9), (0, .ref (ad 0)), (1, .ref (ad 74))]) S.1 S.2.1 dL_addVariable_11 rfl hl (by decide) rfl (fun ls hl => ?_)
    refine lv_iconst (v := nI 1) S.1 S.2.1 dL_addVariable_12 (by decide) ?_
    subst hQ
    exact j_iret (u := w) S hr (rfl) hK hW dL_addVariable_13 ⟨by decide, by decide⟩ (Or.inr (⟨rfl, hp, jUc.rf, hCI0, hOut, hOuD⟩))
  obtain ⟨rfl, hp3_0, hU1, hN1, hN2, hN3, hN4, hN5⟩ := hp
  have hU : jU w w_ [0, 2, 4, 6, 8, 74] := jU.mono hU1 (by first | decide | (simp; done) | (simp; omega))
  have hOut_ := hU1.get hOut (by first | decide | (simp; done) | (simp; omega))
  have hO_ : w_[0]? = some (ad 0, .inr (10, [.int (nI (n + 1)), .ref (ad 1), .ref (ad 3), .ref (ad 5), .int (nI sd), .int (nI se), .ref (ad 7), .ref (ad 9), .ref (ad 11), .ref (ad 20), .int (bI false), .ref (ad 23), .ref (ad 26), .ref (ad 31), .ref (ad 42)])) := hN1
  have hFa_ : w_[2]? = some (ad 2, .inl (cy 0, 10, .inl (nf (upB wf n 1)))) := hN2
  have hGa_ : w_[4]? = some (ad 4, .inl (cy 0, 10, .inl (nf (upB wt n 1)))) := hN3
  have hDa_ : w_[6]? = some (ad 6, .inl (cy 1, 1024, .inr (.inl (lf (mixN (2 ^ (n + 1)) (fun d => prodN (upB wf n 1) (upB wt n 1) d (n + 1)) pr))))) := hN4
  have hOa_ : w_[8]? = some (ad 8, .inl (cy 0, 10, .inl (nf (upB od n n)))) := hN5
  clear hU1 hN1 hN2 hN3 hN4 hN5
  refine W.eq (g2 := F0 m 6 ls [.int (nI n), .int (nI 0), .ref (ad 74)]) rfl ?_
  have hCI1 : CI ad cy w_ (n + 1) (upB wf n 1) (upB wt n 1) (upB od n n) sd se nc lv cs kv kx := ⟨⟨_, _, _, hO_, (hU.get hMo (by first | decide | (simp; done) | (simp; omega))), (hU.get hMl (by first | decide | (simp; done) | (simp; omega))), (hU.get hMa (by first | decide | (simp; done) | (simp; omega))), by first | exact fun _ => ⟨rfl, rfl⟩ | exact fun h => by cases h | exact hfr⟩, ⟨_, (hU.get hFo (by first | decide | (simp; done) | (simp; omega))), hFa_, (hU.get hGo (by first | decide | (simp; done) | (simp; omega))), hGa_, (hU.get hDo (by first | decide | (simp; done) | (simp; omega))), hDa_, fun j => by unfold upB; split; omega; exact hwf j, fun j => by unfold upB; split; omega; exact hwt j, fun j => by unfold mixN; split; exact (Nat.le_trans (prodN_le (fun j => by unfold upB; split; omega; exact hwf j) (fun j => by unfold upB; split; omega; exact hwt j) _ _) (Nat.pow_le_pow_right (n := 9) (i := n + 1) (j := 10) (by decide) (by omega))); exact hpr j, fun a ha => mixN_lo ha⟩, ⟨(hU.get hOo (by first | decide | (simp; done) | (simp; omega))), hOa_⟩, bC.kept hU (by first | decide | (intro k hk; simp at hk; omega)), bM.kept hU (by first | decide | (intro k hk; simp at hk; omega)), bP.kept hU (by first | decide | (intro k hk; simp at hk; omega)), bR.kept hU (by first | decide | (intro k hk; simp at hk; omega)), bX.kept hU (by first | decide | (intro k hk; simp at hk; omega)), bS.kept hU (by first | decide | (intro k hk; simp at hk; omega))⟩
  refine lv_i2l (v := (nI n).toInt64) S.1 S.2.1 dL_addVariable_6 (rfl) ?_
  refine j_last S hK hW hOut_ (vp_in_nI (by omega) (by omega)) (nI_clamp (by omega)) dL_addVariable_7 (fun H locs w_ hU1 hN1 hW => ?_)
  have hU := hU.then hU1 (by first | decide | (simp; done) | (simp; omega))
  have hO_ := hU1.get hO_ (by first | decide | (simp; done) | (simp; omega))
  have hFa_ := hU1.get hFa_ (by first | decide | (simp; done) | (simp; omega))
  have hGa_ := hU1.get hGa_ (by first | decide | (simp; done) | (simp; omega))
  have hDa_ := hU1.get hDa_ (by first | decide | (simp; done) | (simp; omega))
  have hOa_ := hU1.get hOa_ (by first | decide | (simp; done) | (simp; omega))
  have hOut_ : w_[74]? = some (ad 74, .inl (cy 1, 1, .inr (.inl (vp_updL og 0 ((nI n).toInt64))))) := hN1
  have hCI1 := hCI1.kept hU1 (by decide)
  clear hU1 hN1
  refine lv_goto (tgt := 14) S.1 S.2.1 dL_addVariable_8 (by decide) ?_
  refine lv_iconst (v := nI 0) S.1 S.2.1 dL_addVariable_14 (by decide) ?_
  subst hQ
  exact j_iret (u := w_) S hr (rfl) hK hW dL_addVariable_15 ⟨by decide, by decide⟩ (Or.inl (⟨rfl, hp3_0, ⟨_, hU, by first | decide | (intro k hk; simp at hk; omega)⟩, hCI1, hOut_, (hU.get hOuD (by first | decide | (simp; done) | (simp; omega)))⟩))
/-- the law's setWeights -/
theorem h_setWeights (l : Launch) (htr : l.stackTraces = false) (D : va_G) (cy : Nat → ClassId) {w : va_W} (ad : Nat → Nat) (n : Nat) (wf wt od : Nat → Nat) (sd se nc lv : Nat) (cs : Nat → CN) (kv : Nat → Int32) (kx : Nat → Nat → Bool) (v : Int32) (no : Int32) (ye : Int32) (og : Nat → Int64) (ogd : Nat → UInt64) (hPI : PI n wf wt od sd se nc lv cs kv kx) (hCI : CI ad cy w n wf wt od sd se nc lv cs kv kx) (hOut : w[74]? = some (ad 74, .inl (cy 1, 1, .inr (.inl og)))) (hOuD : w[75]? = some (ad 75, .inl (cy 7, 1, .inr (.inr (.inr (.inl ogd)))))) : jMh l yL_setWeights (jwsW yL_setWeights cL_setWeights 6 (some .int) [(0, 12, 15, 19), (0, 12, 19, 21)]) (jR 10 2 12) D cy w [.ref (ad 0), .int v, .int no, .int ye, .ref (ad 74)] 2 12 (fun vv uu => (∃ (x : Nat), ∃ (a : Nat), ∃ (b : Nat), vv = some (.int (nI 0)) ∧ x < n ∧ v = nI x ∧ a < 10 ∧ no = nI a ∧ b < 10 ∧ ye = nI b ∧ jUc w uu ∧ CI ad cy uu n (upB wf x a) (upB wt x b) od sd se nc lv cs kv kx ∧ uu[74]? = some (ad 74, .inl (cy 1, 1, .inr (.inl (vp_updL og 0 ((nI (10 * wf x + wt x)).toInt64))))) ∧ uu[75]? = some (ad 75, .inl (cy 7, 1, .inr (.inr (.inr (.inl ogd)))))) ∨ (vv = some (.int (nI 1)) ∧ (vB v n = false) ∧ jUc w uu ∧ CI ad cy uu n wf wt od sd se nc lv cs kv kx ∧ uu[74]? = some (ad 74, .inl (cy 1, 1, .inr (.inl og))) ∧ uu[75]? = some (ad 75, .inl (cy 7, 1, .inr (.inr (.inr (.inl ogd)))))) ∨ (vv = some (.int (nI 2)) ∧ ((∃ x, x < n ∧ v = nI x) ∧ (vB no 10 = false ∨ vB ye 10 = false)) ∧ jUc w uu ∧ CI ad cy uu n wf wt od sd se nc lv cs kv kx ∧ uu[74]? = some (ad 74, .inl (cy 1, 1, .inr (.inl og))) ∧ uu[75]? = some (ad 75, .inl (cy 7, 1, .inr (.inr (.inr (.inl ogd))))))) := by
  obtain ⟨hn, hsdn, hse2, hnc, hlvn, hcs, hkI, hod, hodn, hinj⟩ := hPI
  have hp2 := two_pow10 hn
  have hsd : sd < 1024 := by omega
  have hse : se < 1024 := by rw [← hse2]; exact Nat.lt_of_le_of_lt Nat.and_le_right hsd
  have hlv : lv < 2 ^ 20 := Nat.lt_of_lt_of_le hlvn (Nat.pow_le_pow_right (by decide) hnc)
  have hCI0 := hCI
  obtain ⟨bO, bW, bD, bC, bM, bP, bR, bX, bS⟩ := hCI
  have bO0 := bO
  have bW0 := bW
  obtain ⟨fr, mv, MX, hO, hMo, hMl, hMa, hfr⟩ := bO
  obtain ⟨pr, hFo, hFa, hGo, hGa, hDo, hDa, hwf, hwt, hpr, hpn⟩ := bW
  refine j_ofH (by decide) rfl (Nat.le_of_ble_eq_true rfl) ?_
  intro p e s m args below meth c A ls Q hQ S hr hK hA H locs hW hl htab hx hnx
  have hl : lv_has ls 6 [(0, .ref (ad 0)), (1, .int v), (2, .int no), (3, .int ye), (4, .ref (ad 74))] := hl
  refine lv_aload S.1 S.2.1 dL_setWeights_0 (lv_at hl 4 rfl) ?_
  refine lv_iconst (v := nI 0) S.1 S.2.1 dL_setWeights_2 (by decide) ?_
  refine lv_aload_n S.1 S.2.1 dL_setWeights_3 rfl (lv_at hl 0 rfl) ?_
  refine lv_iload_n S.1 S.2.1 dL_setWeights_4 rfl (lv_at hl 1 rfl) ?_
  refine lv_iload_n S.1 S.2.1 dL_setWeights_5 rfl (lv_at hl 2 rfl) ?_
  refine lv_iload_n S.1 S.2.1 dL_setWeights_6 rfl (lv_at hl 3 rfl) ?_
  refine jx_callT (k := 0) (ci := 10) (q := (RX11, TX11, 15)) (As := [.int v, .int no, .int ye]) (rest := [.int (nI 0), .ref (ad 74)]) S hK hA hW hx (c_X11_setWeights l htr D cy ad n sd se fr wf wt pr v no ye hO hFo hFa hGo hGa hDo hDa   (hn) (hwf) (hwt)) (jgo wm_L_15) yk_X11_setWeights hO rfl rfl ⟨⟨rfl, rfl⟩, by decide, by decide⟩ rfl hl.1 rfl (Nat.le_of_ble_eq_true rfl) dL_setWeights_7 ⟨Nat.le_of_ble_eq_true rfl, Nat.le_of_ble_eq_true rfl⟩ (fun E ce q9 w_ H locs hp hW hc1 hc2 hc3 => ?_) (fun v w_ H locs hp hW => ?_)
  · obtain ⟨hp, rfl⟩ := hp
    rcases hp with ⟨rfl, hp⟩ | ⟨rfl, hp⟩
    · refine vx_catch (name := "java/lang/IndexOutOfBoundsException") S.2.2.2.1 [] ⟨0, 12, 15, 19⟩ [⟨0, 12, 19, 21⟩] (htab.trans rfl) (fun _ h => absurd h List.not_mem_nil) (by decide) (by decide) (S.2.2.2.2 _ (List.mem_cons_of_mem _ wcl_L_19)) (va_Nw.use rfl (hx.2.2.1 "java/lang/IndexOutOfBoundsException" (by decide))) hc1 hc2 hc3 ?_
      refine W.eq (g2 := F0 m 15 ls [.ref q9]) rfl ?_
      refine lv_astore (lv' := [(5, .ref q9), (0, .ref (ad 0)), (1, .int v), (2, .int no), (3, .int ye), (4, .ref (ad 74))]) S.1 S.2.1 dL_setWeights_15 hl (by decide) rfl (fun ls hl => ?_)
      refine lv_iconst (v := nI 1) S.1 S.2.1 dL_setWeights_17 (by decide) ?_
      subst hQ
      exact j_iret (u := w) S hr (rfl) hK hW dL_setWeights_18 ⟨by decide, by decide⟩ (Or.inr (Or.inl (⟨rfl, hp, jUc.rf, hCI0, hOut, hOuD⟩)))
    · refine vx_catch (name := "java/lang/IllegalArgumentException") S.2.2.2.1 [⟨0, 12, 15, 19⟩] ⟨0, 12, 19, 21⟩ [] (htab.trans rfl) (List.forall_mem_cons.mpr ⟨Or.inr ⟨by decide, "java/lang/IndexOutOfBoundsException", S.2.2.2.2 _ (List.mem_cons_of_mem _ wcl_L_19), hnx "java/lang/IllegalArgumentException" (by decide) "java/lang/IndexOutOfBoundsException" (by decide) (by decide)⟩, fun _ h => absurd h List.not_mem_nil⟩) (by decide) (by decide) (S.2.2.2.2 _ (List.mem_cons_of_mem _ wcl_L_21)) (va_Nw.use rfl (hx.2.2.1 "java/lang/IllegalArgumentException" (by decide))) hc1 hc2 hc3 ?_
      refine W.eq (g2 := F0 m 19 ls [.ref q9]) rfl ?_
      refine lv_astore (lv' := [(5, .ref q9), (0, .ref (ad 0)), (1, .int v), (2, .int no), (3, .int ye), (4, .ref (ad 74))]) S.1 S.2.1 dL_setWeights_19 hl (by decide) rfl (fun ls hl => ?_)
      refine lv_iconst (v := nI 2) S.1 S.2.1 dL_setWeights_21 (by decide) ?_
      subst hQ
      exact j_iret (u := w) S hr (rfl) hK hW dL_setWeights_22 ⟨by decide, by decide⟩ (Or.inr (Or.inr (⟨rfl, hp, jUc.rf, hCI0, hOut, hOuD⟩)))
  obtain ⟨x_7, a_7, b_7, rfl, hp7_0, hp7_1, hp7_2, hp7_3, hp7_4, hp7_5, hU1, hN1, hN2, hN3⟩ := hp
  have hU : jU w w_ [2, 4, 6, 74] := jU.mono hU1 (by first | decide | (simp; done) | (simp; omega))
  have hOut_ := hU1.get hOut (by first | decide | (simp; done) | (simp; omega))
  have hFa_ : w_[2]? = some (ad 2, .inl (cy 0, 10, .inl (nf (upB wf x_7 a_7)))) := hN1
  have hGa_ : w_[4]? = some (ad 4, .inl (cy 0, 10, .inl (nf (upB wt x_7 b_7)))) := hN2
  have hDa_ : w_[6]? = some (ad 6, .inl (cy 1, 1024, .inr (.inl (lf (mixN (2 ^ n) (fun d => prodN (upB wf x_7 a_7) (upB wt x_7 b_7) d n) pr))))) := hN3
  clear hU1 hN1 hN2 hN3
  refine W.eq (g2 := F0 m 10 ls [.int (nI (10 * wf x_7 + wt x_7)), .int (nI 0), .ref (ad 74)]) rfl ?_
  have hCI1 : CI ad cy w_ n (upB wf x_7 a_7) (upB wt x_7 b_7) od sd se nc lv cs kv kx := ⟨bO0.kept hU (by first | decide | (intro k hk; simp at hk; omega)), ⟨_, (hU.get hFo (by first | decide | (simp; done) | (simp; omega))), hFa_, (hU.get hGo (by first | decide | (simp; done) | (simp; omega))), hGa_, (hU.get hDo (by first | decide | (simp; done) | (simp; omega))), hDa_, fun j => by unfold upB; split; omega; exact hwf j, fun j => by unfold upB; split; omega; exact hwt j, fun j => by unfold mixN; split; exact (Nat.le_trans (prodN_le (fun j => by unfold upB; split; omega; exact hwf j) (fun j => by unfold upB; split; omega; exact hwt j) _ _) (Nat.pow_le_pow_right (n := 9) (i := n) (j := 10) (by decide) (by omega))); exact hpr j, fun a_7 ha => mixN_lo ha⟩, bD.kept hU (by first | decide | (intro k hk; simp at hk; omega)), bC.kept hU (by first | decide | (intro k hk; simp at hk; omega)), bM.kept hU (by first | decide | (intro k hk; simp at hk; omega)), bP.kept hU (by first | decide | (intro k hk; simp at hk; omega)), bR.kept hU (by first | decide | (intro k hk; simp at hk; omega)), bX.kept hU (by first | decide | (intro k hk; simp at hk; omega)), bS.kept hU (by first | decide | (intro k hk; simp at hk; omega))⟩
  refine lv_i2l (v := (nI (10 * wf x_7 + wt x_7)).toInt64) S.1 S.2.1 dL_setWeights_10 (rfl) ?_
  refine j_last S hK hW hOut_ (vp_in_nI (by omega) (by omega)) (nI_clamp (by omega)) dL_setWeights_11 (fun H locs w_ hU1 hN1 hW => ?_)
  have hU := hU.then hU1 (by first | decide | (simp; done) | (simp; omega))
  have hFa_ := hU1.get hFa_ (by first | decide | (simp; done) | (simp; omega))
  have hGa_ := hU1.get hGa_ (by first | decide | (simp; done) | (simp; omega))
  have hDa_ := hU1.get hDa_ (by first | decide | (simp; done) | (simp; omega))
  have hOut_ : w_[74]? = some (ad 74, .inl (cy 1, 1, .inr (.inl (vp_updL og 0 ((nI (10 * wf x_7 + wt x_7)).toInt64))))) := hN1
  have hCI1 := hCI1.kept hU1 (by decide)
  clear hU1 hN1
  refine lv_goto (tgt := 23) S.1 S.2.1 dL_setWeights_12 (by decide) ?_
  refine lv_iconst (v := nI 0) S.1 S.2.1 dL_setWeights_23 (by decide) ?_
  subst hQ
  exact j_iret (u := w_) S hr (rfl) hK hW dL_setWeights_24 ⟨by decide, by decide⟩ (Or.inl (⟨x_7, a_7, b_7, rfl, hp7_0, hp7_1, hp7_2, hp7_3, hp7_4, hp7_5, ⟨_, hU, by first | decide | (intro k hk; simp at hk; omega)⟩, hCI1, hOut_, (hU.get hOuD (by first | decide | (simp; done) | (simp; omega)))⟩))
/-- the law's addClause -/
theorem h_addClause (l : Launch) (htr : l.stackTraces = false) (D : va_G) (cy : Nat → ClassId) {w : va_W} (ad : Nat → Nat) (n : Nat) (wf wt od : Nat → Nat) (sd se nc lv : Nat) (cs : Nat → CN) (kv : Nat → Int32) (kx : Nat → Nat → Bool) (y : Int32) (o : Int32) (nL : Nat) (og : Nat → Int64) (ogd : Nat → UInt64) (hPI : PI n wf wt od sd se nc lv cs kv kx) (hCI : CI ad cy w n wf wt od sd se nc lv cs kv kx) (hOut : w[74]? = some (ad 74, .inl (cy 1, 1, .inr (.inl og)))) (hOuD : w[75]? = some (ad 75, .inl (cy 7, 1, .inr (.inr (.inr (.inl ogd)))))) (hlen : w.length = nL) (hnL : 76 ≤ nL) : jMh l yL_addClause (jwsW yL_addClause cL_addClause 5 (some .int) [(0, 10, 13, 21), (0, 10, 17, 13)]) (jR 11 5 28) D cy w [.ref (ad 0), .int y, .int o, .ref (ad 74)] 5 28 (fun vv uu => (∃ (a : Nat), ∃ (b : Nat), vv = some (.int (nI 0)) ∧ nc < 20 ∧ a < 2 ^ n ∧ y = nI a ∧ b < 2 ^ n ∧ o = nI b ∧ a ||| b ≠ 0 ∧ jUc w uu ∧ CI ad cy uu n wf wt od sd se (nc + 1) (lv ||| 2 ^ nc) (upB cs nc (111, a, b, 0, 0)) kv kx ∧ uu[74]? = some (ad 74, .inl (cy 1, 1, .inr (.inl (vp_updL og 0 ((nI nc).toInt64))))) ∧ uu[75]? = some (ad 75, .inl (cy 7, 1, .inr (.inr (.inr (.inl ogd)))))) ∨ (vv = some (.int (nI 1)) ∧ (vB y (2 ^ n) = false ∨ vB o (2 ^ n) = false ∨ (∃ a b, a < 2 ^ n ∧ b < 2 ^ n ∧ y = nI a ∧ o = nI b ∧ a ||| b = 0)) ∧ jUc w uu ∧ CI ad cy uu n wf wt od sd se nc lv cs kv kx ∧ uu[74]? = some (ad 74, .inl (cy 1, 1, .inr (.inl og))) ∧ uu[75]? = some (ad 75, .inl (cy 7, 1, .inr (.inr (.inr (.inl ogd)))))) ∨ (vv = some (.int (nI 2)) ∧ (nc = 20 ∧ (∃ a b, a < 2 ^ n ∧ b < 2 ^ n ∧ y = nI a ∧ o = nI b ∧ a ||| b ≠ 0)) ∧ jUc w uu ∧ CI ad cy uu n wf wt od sd se nc lv cs kv kx ∧ uu[74]? = some (ad 74, .inl (cy 1, 1, .inr (.inl og))) ∧ uu[75]? = some (ad 75, .inl (cy 7, 1, .inr (.inr (.inr (.inl ogd))))))) := by
  obtain ⟨hn, hsdn, hse2, hnc, hlvn, hcs, hkI, hod, hodn, hinj⟩ := hPI
  have hp2 := two_pow10 hn
  have hsd : sd < 1024 := by omega
  have hse : se < 1024 := by rw [← hse2]; exact Nat.lt_of_le_of_lt Nat.and_le_right hsd
  have hlv : lv < 2 ^ 20 := Nat.lt_of_lt_of_le hlvn (Nat.pow_le_pow_right (by decide) hnc)
  have hCI0 := hCI
  obtain ⟨bO, bW, bD, bC, bM, bP, bR, bX, bS⟩ := hCI
  have bO0 := bO
  have bC0 := bC
  have bM0 := bM
  obtain ⟨fr, mv, MX, hO, hMo, hMl, hMa, hfr⟩ := bO
  obtain ⟨tf, cp, ca, hC, hT, hcon⟩ := bC
  obtain ⟨ps, pk, pv, pn, hP, hP1o, hP1a, hP2o, hP2a, hP3o, hP3a, hP4o, hP4a, hpm⟩ := bM
  refine j_ofH (by decide) rfl (Nat.le_of_ble_eq_true rfl) ?_
  intro p e s m args below meth c A ls Q hQ S hr hK hA H locs hW hl htab hx hnx
  have hl : lv_has ls 5 [(0, .ref (ad 0)), (1, .int y), (2, .int o), (3, .ref (ad 74))] := hl
  refine lv_aload_n S.1 S.2.1 dL_addClause_0 rfl (lv_at hl 3 rfl) ?_
  refine lv_iconst (v := nI 0) S.1 S.2.1 dL_addClause_1 (by decide) ?_
  refine lv_aload_n S.1 S.2.1 dL_addClause_2 rfl (lv_at hl 0 rfl) ?_
  refine lv_iload_n S.1 S.2.1 dL_addClause_3 rfl (lv_at hl 1 rfl) ?_
  refine lv_iload_n S.1 S.2.1 dL_addClause_4 rfl (lv_at hl 2 rfl) ?_
  refine jx_callT (k := 0) (ci := 10) (q := (RX11, TX11, 15)) (As := [.int y, .int o]) (rest := [.int (nI 0), .ref (ad 74)]) S hK hA hW hx (c_X11_addClause l htr D cy ad n sd se fr nc lv tf y o nL hO hC hT  hlen (hn) (hnc) (hnL)) (jgo wm_L_23) yk_X11_addClause hO rfl rfl ⟨⟨rfl, rfl⟩, by decide, by decide⟩ rfl hl.1 rfl (Nat.le_of_ble_eq_true rfl) dL_addClause_5 ⟨Nat.le_of_ble_eq_true rfl, Nat.le_of_ble_eq_true rfl⟩ (fun E ce q9 w_ H locs hp hW hc1 hc2 hc3 => ?_) (fun v w_ H locs hp hW => ?_)
  · obtain ⟨hp, rfl⟩ := hp
    rcases hp with ⟨rfl, hp⟩ | ⟨rfl, hp⟩
    · refine vx_catch (name := "java/lang/IllegalArgumentException") S.2.2.2.1 [] ⟨0, 10, 13, 21⟩ [⟨0, 10, 17, 13⟩] (htab.trans rfl) (fun _ h => absurd h List.not_mem_nil) (by decide) (by decide) (S.2.2.2.2 _ (List.mem_cons_of_mem _ wcl_L_21)) (va_Nw.use rfl (hx.2.2.1 "java/lang/IllegalArgumentException" (by decide))) hc1 hc2 hc3 ?_
      refine W.eq (g2 := F0 m 13 ls [.ref q9]) rfl ?_
      refine lv_astore (lv' := [(4, .ref q9), (0, .ref (ad 0)), (1, .int y), (2, .int o), (3, .ref (ad 74))]) S.1 S.2.1 dL_addClause_13 hl (by decide) rfl (fun ls hl => ?_)
      refine lv_iconst (v := nI 1) S.1 S.2.1 dL_addClause_15 (by decide) ?_
      subst hQ
      exact j_iret (u := w) S hr (rfl) hK hW dL_addClause_16 ⟨by decide, by decide⟩ (Or.inr (Or.inl (⟨rfl, hp, jUc.rf, hCI0, hOut, hOuD⟩)))
    · refine vx_catch (name := "java/lang/IllegalStateException") S.2.2.2.1 [⟨0, 10, 13, 21⟩] ⟨0, 10, 17, 13⟩ [] (htab.trans rfl) (List.forall_mem_cons.mpr ⟨Or.inr ⟨by decide, "java/lang/IllegalArgumentException", S.2.2.2.2 _ (List.mem_cons_of_mem _ wcl_L_21), hnx "java/lang/IllegalStateException" (by decide) "java/lang/IllegalArgumentException" (by decide) (by decide)⟩, fun _ h => absurd h List.not_mem_nil⟩) (by decide) (by decide) (S.2.2.2.2 _ (List.mem_cons_of_mem _ wcl_L_13)) (va_Nw.use rfl (hx.2.2.1 "java/lang/IllegalStateException" (by decide))) hc1 hc2 hc3 ?_
      refine W.eq (g2 := F0 m 17 ls [.ref q9]) rfl ?_
      refine lv_astore (lv' := [(4, .ref q9), (0, .ref (ad 0)), (1, .int y), (2, .int o), (3, .ref (ad 74))]) S.1 S.2.1 dL_addClause_17 hl (by decide) rfl (fun ls hl => ?_)
      refine lv_iconst (v := nI 2) S.1 S.2.1 dL_addClause_19 (by decide) ?_
      subst hQ
      exact j_iret (u := w) S hr (rfl) hK hW dL_addClause_20 ⟨by decide, by decide⟩ (Or.inr (Or.inr (⟨rfl, hp, jUc.rf, hCI0, hOut, hOuD⟩)))
  obtain ⟨a_5, b_5, q_5, rfl, hp5_0, hp5_1, hp5_2, hp5_3, hp5_4, hp5_5, hp5_6, hU1, hN1, hN2, hN3⟩ := hp
  have hU : jU w w_ [0, 9, 10, 74] := jU.mono hU1 (by first | decide | (simp; done) | (simp; omega))
  have hOut_ := hU1.get hOut (by first | decide | (simp; done) | (simp; omega))
  have hO_ : w_[0]? = some (ad 0, .inr (10, [.int (nI n), .ref (ad 1), .ref (ad 3), .ref (ad 5), .int (nI sd), .int (nI se), .ref (ad 7), .ref (ad 9), .ref (ad 11), .ref (ad 20), .int (bI false), .ref (ad 23), .ref (ad 26), .ref (ad 31), .ref (ad 42)])) := hN1
  have hC_ : w_[9]? = some (ad 9, .inr (4, [.ref (ad 10), .int (nI (nc + 1)), .int (nI (lv ||| 2 ^ nc))])) := hN2
  have hT_ : w_[10]? = some (ad 10, .inl (cy 5, 20, .inr (.inr (.inr (.inr (va_up tf nc (some q_5))))))) := hN3
  clear hU1 hN1 hN2 hN3
  refine W.eq (g2 := F0 m 8 ls [.int (nI nc), .int (nI 0), .ref (ad 74)]) rfl ?_
  have hCI1 : CI ad cy w_ n wf wt od sd se (nc + 1) (lv ||| 2 ^ nc) (upB cs nc (111, a_5, b_5, 0, 0)) kv kx := ⟨⟨_, _, _, hO_, (hU.get hMo (by first | decide | (simp; done) | (simp; omega))), (hU.get hMl (by first | decide | (simp; done) | (simp; omega))), (hU.get hMa (by first | decide | (simp; done) | (simp; omega))), by first | exact fun _ => ⟨rfl, rfl⟩ | exact fun h => by cases h | exact hfr⟩, bW.kept hU (by first | decide | (intro k hk; simp at hk; omega)), bD.kept hU (by first | decide | (intro k hk; simp at hk; omega)), ⟨_, upB cp nc nL, upB ca nc q_5, hC_, hT_, hcon.more hU (by decide) hp5_0 hlen hnL hp5_6 (⟨Or.inl rfl, by show a_5 < 1024; omega, by show b_5 < 1024; omega, by show 0 < 1024; decide, by show 0 < 1024; decide⟩)⟩, ⟨_, _, _, _, (hU.get hP (by first | decide | (simp; done) | (simp; omega))), (hU.get hP1o (by first | decide | (simp; done) | (simp; omega))), (hU.get hP1a (by first | decide | (simp; done) | (simp; omega))), (hU.get hP2o (by first | decide | (simp; done) | (simp; omega))), (hU.get hP2a (by first | decide | (simp; done) | (simp; omega))), (hU.get hP3o (by first | decide | (simp; done) | (simp; omega))), (hU.get hP3a (by first | decide | (simp; done) | (simp; omega))), (hU.get hP4o (by first | decide | (simp; done) | (simp; omega))), (hU.get hP4a (by first | decide | (simp; done) | (simp; omega))), pmI_more hpm⟩, bP.kept hU (by first | decide | (intro k hk; simp at hk; omega)), bR.kept hU (by first | decide | (intro k hk; simp at hk; omega)), bX.kept hU (by first | decide | (intro k hk; simp at hk; omega)), bS.kept hU (by first | decide | (intro k hk; simp at hk; omega))⟩
  refine lv_i2l (v := (nI nc).toInt64) S.1 S.2.1 dL_addClause_8 (rfl) ?_
  refine j_last S hK hW hOut_ (vp_in_nI (by omega) (by omega)) (nI_clamp (by omega)) dL_addClause_9 (fun H locs w_ hU1 hN1 hW => ?_)
  have hU := hU.then hU1 (by first | decide | (simp; done) | (simp; omega))
  have hO_ := hU1.get hO_ (by first | decide | (simp; done) | (simp; omega))
  have hC_ := hU1.get hC_ (by first | decide | (simp; done) | (simp; omega))
  have hT_ := hU1.get hT_ (by first | decide | (simp; done) | (simp; omega))
  have hOut_ : w_[74]? = some (ad 74, .inl (cy 1, 1, .inr (.inl (vp_updL og 0 ((nI nc).toInt64))))) := hN1
  have hCI1 := hCI1.kept hU1 (by decide)
  clear hU1 hN1
  refine lv_goto (tgt := 21) S.1 S.2.1 dL_addClause_10 (by decide) ?_
  refine lv_iconst (v := nI 0) S.1 S.2.1 dL_addClause_21 (by decide) ?_
  subst hQ
  exact j_iret (u := w_) S hr (rfl) hK hW dL_addClause_22 ⟨by decide, by decide⟩ (Or.inl (⟨a_5, b_5, rfl, hp5_0, hp5_1, hp5_2, hp5_3, hp5_4, hp5_5, ⟨_, hU, by first | decide | (intro k hk; simp at hk; omega)⟩, hCI1, hOut_, (hU.get hOuD (by first | decide | (simp; done) | (simp; omega)))⟩))
/-- the law's addParity -/
theorem h_addParity (l : Launch) (htr : l.stackTraces = false) (D : va_G) (cy : Nat → ClassId) {w : va_W} (ad : Nat → Nat) (n : Nat) (wf wt od : Nat → Nat) (sd se nc lv : Nat) (cs : Nat → CN) (kv : Nat → Int32) (kx : Nat → Nat → Bool) (y : Int32) (r : Int32) (nL : Nat) (og : Nat → Int64) (ogd : Nat → UInt64) (hPI : PI n wf wt od sd se nc lv cs kv kx) (hCI : CI ad cy w n wf wt od sd se nc lv cs kv kx) (hOut : w[74]? = some (ad 74, .inl (cy 1, 1, .inr (.inl og)))) (hOuD : w[75]? = some (ad 75, .inl (cy 7, 1, .inr (.inr (.inr (.inl ogd)))))) (hlen : w.length = nL) (hnL : 76 ≤ nL) : jMh l yL_addParity (jwsW yL_addParity cL_addParity 5 (some .int) [(0, 10, 13, 21), (0, 10, 17, 13)]) (jR 11 5 27) D cy w [.ref (ad 0), .int y, .int r, .ref (ad 74)] 5 27 (fun vv uu => (∃ (a : Nat), ∃ (b : Nat), vv = some (.int (nI 0)) ∧ nc < 20 ∧ a < 2 ^ n ∧ y = nI a ∧ b < 2 ∧ r = nI b ∧ a ≠ 0 ∧ jUc w uu ∧ CI ad cy uu n wf wt od sd se (nc + 1) (lv ||| 2 ^ nc) (upB cs nc (120, a, 0, b, b)) kv kx ∧ uu[74]? = some (ad 74, .inl (cy 1, 1, .inr (.inl (vp_updL og 0 ((nI nc).toInt64))))) ∧ uu[75]? = some (ad 75, .inl (cy 7, 1, .inr (.inr (.inr (.inl ogd)))))) ∨ (vv = some (.int (nI 1)) ∧ (vB y (2 ^ n) = false ∨ y = nI 0 ∨ vB r 2 = false) ∧ jUc w uu ∧ CI ad cy uu n wf wt od sd se nc lv cs kv kx ∧ uu[74]? = some (ad 74, .inl (cy 1, 1, .inr (.inl og))) ∧ uu[75]? = some (ad 75, .inl (cy 7, 1, .inr (.inr (.inr (.inl ogd)))))) ∨ (vv = some (.int (nI 2)) ∧ (nc = 20 ∧ (∃ a b, a < 2 ^ n ∧ b < 2 ∧ y = nI a ∧ r = nI b ∧ a ≠ 0)) ∧ jUc w uu ∧ CI ad cy uu n wf wt od sd se nc lv cs kv kx ∧ uu[74]? = some (ad 74, .inl (cy 1, 1, .inr (.inl og))) ∧ uu[75]? = some (ad 75, .inl (cy 7, 1, .inr (.inr (.inr (.inl ogd))))))) := by
  obtain ⟨hn, hsdn, hse2, hnc, hlvn, hcs, hkI, hod, hodn, hinj⟩ := hPI
  have hp2 := two_pow10 hn
  have hsd : sd < 1024 := by omega
  have hse : se < 1024 := by rw [← hse2]; exact Nat.lt_of_le_of_lt Nat.and_le_right hsd
  have hlv : lv < 2 ^ 20 := Nat.lt_of_lt_of_le hlvn (Nat.pow_le_pow_right (by decide) hnc)
  have hCI0 := hCI
  obtain ⟨bO, bW, bD, bC, bM, bP, bR, bX, bS⟩ := hCI
  have bO0 := bO
  have bC0 := bC
  have bM0 := bM
  obtain ⟨fr, mv, MX, hO, hMo, hMl, hMa, hfr⟩ := bO
  obtain ⟨tf, cp, ca, hC, hT, hcon⟩ := bC
  obtain ⟨ps, pk, pv, pn, hP, hP1o, hP1a, hP2o, hP2a, hP3o, hP3a, hP4o, hP4a, hpm⟩ := bM
  refine j_ofH (by decide) rfl (Nat.le_of_ble_eq_true rfl) ?_
  intro p e s m args below meth c A ls Q hQ S hr hK hA H locs hW hl htab hx hnx
  have hl : lv_has ls 5 [(0, .ref (ad 0)), (1, .int y), (2, .int r), (3, .ref (ad 74))] := hl
  refine lv_aload_n S.1 S.2.1 dL_addParity_0 rfl (lv_at hl 3 rfl) ?_
  refine lv_iconst (v := nI 0) S.1 S.2.1 dL_addParity_1 (by decide) ?_
  refine lv_aload_n S.1 S.2.1 dL_addParity_2 rfl (lv_at hl 0 rfl) ?_
  refine lv_iload_n S.1 S.2.1 dL_addParity_3 rfl (lv_at hl 1 rfl) ?_
  refine lv_iload_n S.1 S.2.1 dL_addParity_4 rfl (lv_at hl 2 rfl) ?_
  refine jx_callT (k := 0) (ci := 10) (q := (RX11, TX11, 15)) (As := [.int y, .int r]) (rest := [.int (nI 0), .ref (ad 74)]) S hK hA hW hx (c_X11_addParity l htr D cy ad n sd se fr nc lv tf y r nL hO hC hT  hlen (hn) (hnc) (hnL)) (jgo wm_L_27) yk_X11_addParity hO rfl rfl ⟨⟨rfl, rfl⟩, by decide, by decide⟩ rfl hl.1 rfl (Nat.le_of_ble_eq_true rfl) dL_addParity_5 ⟨Nat.le_of_ble_eq_true rfl, Nat.le_of_ble_eq_true rfl⟩ (fun E ce q9 w_ H locs hp hW hc1 hc2 hc3 => ?_) (fun v w_ H locs hp hW => ?_)
  · obtain ⟨hp, rfl⟩ := hp
    rcases hp with ⟨rfl, hp⟩ | ⟨rfl, hp⟩
    · refine vx_catch (name := "java/lang/IllegalArgumentException") S.2.2.2.1 [] ⟨0, 10, 13, 21⟩ [⟨0, 10, 17, 13⟩] (htab.trans rfl) (fun _ h => absurd h List.not_mem_nil) (by decide) (by decide) (S.2.2.2.2 _ (List.mem_cons_of_mem _ wcl_L_21)) (va_Nw.use rfl (hx.2.2.1 "java/lang/IllegalArgumentException" (by decide))) hc1 hc2 hc3 ?_
      refine W.eq (g2 := F0 m 13 ls [.ref q9]) rfl ?_
      refine lv_astore (lv' := [(4, .ref q9), (0, .ref (ad 0)), (1, .int y), (2, .int r), (3, .ref (ad 74))]) S.1 S.2.1 dL_addParity_13 hl (by decide) rfl (fun ls hl => ?_)
      refine lv_iconst (v := nI 1) S.1 S.2.1 dL_addParity_15 (by decide) ?_
      subst hQ
      exact j_iret (u := w) S hr (rfl) hK hW dL_addParity_16 ⟨by decide, by decide⟩ (Or.inr (Or.inl (⟨rfl, hp, jUc.rf, hCI0, hOut, hOuD⟩)))
    · refine vx_catch (name := "java/lang/IllegalStateException") S.2.2.2.1 [⟨0, 10, 13, 21⟩] ⟨0, 10, 17, 13⟩ [] (htab.trans rfl) (List.forall_mem_cons.mpr ⟨Or.inr ⟨by decide, "java/lang/IllegalArgumentException", S.2.2.2.2 _ (List.mem_cons_of_mem _ wcl_L_21), hnx "java/lang/IllegalStateException" (by decide) "java/lang/IllegalArgumentException" (by decide) (by decide)⟩, fun _ h => absurd h List.not_mem_nil⟩) (by decide) (by decide) (S.2.2.2.2 _ (List.mem_cons_of_mem _ wcl_L_13)) (va_Nw.use rfl (hx.2.2.1 "java/lang/IllegalStateException" (by decide))) hc1 hc2 hc3 ?_
      refine W.eq (g2 := F0 m 17 ls [.ref q9]) rfl ?_
      refine lv_astore (lv' := [(4, .ref q9), (0, .ref (ad 0)), (1, .int y), (2, .int r), (3, .ref (ad 74))]) S.1 S.2.1 dL_addParity_17 hl (by decide) rfl (fun ls hl => ?_)
      refine lv_iconst (v := nI 2) S.1 S.2.1 dL_addParity_19 (by decide) ?_
      subst hQ
      exact j_iret (u := w) S hr (rfl) hK hW dL_addParity_20 ⟨by decide, by decide⟩ (Or.inr (Or.inr (⟨rfl, hp, jUc.rf, hCI0, hOut, hOuD⟩)))
  obtain ⟨a_5, b_5, q_5, rfl, hp5_0, hp5_1, hp5_2, hp5_3, hp5_4, hp5_5, hp5_6, hU1, hN1, hN2, hN3⟩ := hp
  have hU : jU w w_ [0, 9, 10, 74] := jU.mono hU1 (by first | decide | (simp; done) | (simp; omega))
  have hOut_ := hU1.get hOut (by first | decide | (simp; done) | (simp; omega))
  have hO_ : w_[0]? = some (ad 0, .inr (10, [.int (nI n), .ref (ad 1), .ref (ad 3), .ref (ad 5), .int (nI sd), .int (nI se), .ref (ad 7), .ref (ad 9), .ref (ad 11), .ref (ad 20), .int (bI false), .ref (ad 23), .ref (ad 26), .ref (ad 31), .ref (ad 42)])) := hN1
  have hC_ : w_[9]? = some (ad 9, .inr (4, [.ref (ad 10), .int (nI (nc + 1)), .int (nI (lv ||| 2 ^ nc))])) := hN2
  have hT_ : w_[10]? = some (ad 10, .inl (cy 5, 20, .inr (.inr (.inr (.inr (va_up tf nc (some q_5))))))) := hN3
  clear hU1 hN1 hN2 hN3
  refine W.eq (g2 := F0 m 8 ls [.int (nI nc), .int (nI 0), .ref (ad 74)]) rfl ?_
  have hCI1 : CI ad cy w_ n wf wt od sd se (nc + 1) (lv ||| 2 ^ nc) (upB cs nc (120, a_5, 0, b_5, b_5)) kv kx := ⟨⟨_, _, _, hO_, (hU.get hMo (by first | decide | (simp; done) | (simp; omega))), (hU.get hMl (by first | decide | (simp; done) | (simp; omega))), (hU.get hMa (by first | decide | (simp; done) | (simp; omega))), by first | exact fun _ => ⟨rfl, rfl⟩ | exact fun h => by cases h | exact hfr⟩, bW.kept hU (by first | decide | (intro k hk; simp at hk; omega)), bD.kept hU (by first | decide | (intro k hk; simp at hk; omega)), ⟨_, upB cp nc nL, upB ca nc q_5, hC_, hT_, hcon.more hU (by decide) hp5_0 hlen hnL hp5_6 (⟨Or.inr (Or.inl rfl), by show a_5 < 1024; omega, by show 0 < 1024; decide, by show b_5 < 1024; omega, by show b_5 < 1024; omega⟩)⟩, ⟨_, _, _, _, (hU.get hP (by first | decide | (simp; done) | (simp; omega))), (hU.get hP1o (by first | decide | (simp; done) | (simp; omega))), (hU.get hP1a (by first | decide | (simp; done) | (simp; omega))), (hU.get hP2o (by first | decide | (simp; done) | (simp; omega))), (hU.get hP2a (by first | decide | (simp; done) | (simp; omega))), (hU.get hP3o (by first | decide | (simp; done) | (simp; omega))), (hU.get hP3a (by first | decide | (simp; done) | (simp; omega))), (hU.get hP4o (by first | decide | (simp; done) | (simp; omega))), (hU.get hP4a (by first | decide | (simp; done) | (simp; omega))), pmI_more hpm⟩, bP.kept hU (by first | decide | (intro k hk; simp at hk; omega)), bR.kept hU (by first | decide | (intro k hk; simp at hk; omega)), bX.kept hU (by first | decide | (intro k hk; simp at hk; omega)), bS.kept hU (by first | decide | (intro k hk; simp at hk; omega))⟩
  refine lv_i2l (v := (nI nc).toInt64) S.1 S.2.1 dL_addParity_8 (rfl) ?_
  refine j_last S hK hW hOut_ (vp_in_nI (by omega) (by omega)) (nI_clamp (by omega)) dL_addParity_9 (fun H locs w_ hU1 hN1 hW => ?_)
  have hU := hU.then hU1 (by first | decide | (simp; done) | (simp; omega))
  have hO_ := hU1.get hO_ (by first | decide | (simp; done) | (simp; omega))
  have hC_ := hU1.get hC_ (by first | decide | (simp; done) | (simp; omega))
  have hT_ := hU1.get hT_ (by first | decide | (simp; done) | (simp; omega))
  have hOut_ : w_[74]? = some (ad 74, .inl (cy 1, 1, .inr (.inl (vp_updL og 0 ((nI nc).toInt64))))) := hN1
  have hCI1 := hCI1.kept hU1 (by decide)
  clear hU1 hN1
  refine lv_goto (tgt := 21) S.1 S.2.1 dL_addParity_10 (by decide) ?_
  refine lv_iconst (v := nI 0) S.1 S.2.1 dL_addParity_21 (by decide) ?_
  subst hQ
  exact j_iret (u := w_) S hr (rfl) hK hW dL_addParity_22 ⟨by decide, by decide⟩ (Or.inl (⟨a_5, b_5, rfl, hp5_0, hp5_1, hp5_2, hp5_3, hp5_4, hp5_5, ⟨_, hU, by first | decide | (intro k hk; simp at hk; omega)⟩, hCI1, hOut_, (hU.get hOuD (by first | decide | (simp; done) | (simp; omega)))⟩))
/-- the law's addBound -/
theorem h_addBound (l : Launch) (htr : l.stackTraces = false) (D : va_G) (cy : Nat → ClassId) {w : va_W} (ad : Nat → Nat) (n : Nat) (wf wt od : Nat → Nat) (sd se nc lv : Nat) (cs : Nat → CN) (kv : Nat → Int32) (kx : Nat → Nat → Bool) (y : Int32) (lo : Int32) (hi : Int32) (nL : Nat) (og : Nat → Int64) (ogd : Nat → UInt64) (hPI : PI n wf wt od sd se nc lv cs kv kx) (hCI : CI ad cy w n wf wt od sd se nc lv cs kv kx) (hOut : w[74]? = some (ad 74, .inl (cy 1, 1, .inr (.inl og)))) (hOuD : w[75]? = some (ad 75, .inl (cy 7, 1, .inr (.inr (.inr (.inl ogd)))))) (hlen : w.length = nL) (hnL : 76 ≤ nL) : jMh l yL_addBound (jwsW yL_addBound cL_addBound 6 (some .int) [(0, 12, 15, 21), (0, 12, 19, 13)]) (jR 11 5 28) D cy w [.ref (ad 0), .int y, .int lo, .int hi, .ref (ad 74)] 5 28 (fun vv uu => (∃ (a : Nat), ∃ (b : Nat), ∃ (d : Nat), vv = some (.int (nI 0)) ∧ nc < 20 ∧ a < 2 ^ n ∧ y = nI a ∧ b ≤ d ∧ d ≤ 10 ∧ lo = nI b ∧ hi = nI d ∧ a ≠ 0 ∧ jUc w uu ∧ CI ad cy uu n wf wt od sd se (nc + 1) (lv ||| 2 ^ nc) (upB cs nc (107, a, 0, b, d)) kv kx ∧ uu[74]? = some (ad 74, .inl (cy 1, 1, .inr (.inl (vp_updL og 0 ((nI nc).toInt64))))) ∧ uu[75]? = some (ad 75, .inl (cy 7, 1, .inr (.inr (.inr (.inl ogd)))))) ∨ (vv = some (.int (nI 1)) ∧ (vB y (2 ^ n) = false ∨ y = nI 0 ∨ bdB lo hi = false) ∧ jUc w uu ∧ CI ad cy uu n wf wt od sd se nc lv cs kv kx ∧ uu[74]? = some (ad 74, .inl (cy 1, 1, .inr (.inl og))) ∧ uu[75]? = some (ad 75, .inl (cy 7, 1, .inr (.inr (.inr (.inl ogd)))))) ∨ (vv = some (.int (nI 2)) ∧ (nc = 20 ∧ (∃ a lo1 hi1, a < 2 ^ n ∧ lo1 ≤ hi1 ∧ hi1 ≤ 10 ∧ y = nI a ∧ lo = nI lo1 ∧ hi = nI hi1 ∧ a ≠ 0)) ∧ jUc w uu ∧ CI ad cy uu n wf wt od sd se nc lv cs kv kx ∧ uu[74]? = some (ad 74, .inl (cy 1, 1, .inr (.inl og))) ∧ uu[75]? = some (ad 75, .inl (cy 7, 1, .inr (.inr (.inr (.inl ogd))))))) := by
  obtain ⟨hn, hsdn, hse2, hnc, hlvn, hcs, hkI, hod, hodn, hinj⟩ := hPI
  have hp2 := two_pow10 hn
  have hsd : sd < 1024 := by omega
  have hse : se < 1024 := by rw [← hse2]; exact Nat.lt_of_le_of_lt Nat.and_le_right hsd
  have hlv : lv < 2 ^ 20 := Nat.lt_of_lt_of_le hlvn (Nat.pow_le_pow_right (by decide) hnc)
  have hCI0 := hCI
  obtain ⟨bO, bW, bD, bC, bM, bP, bR, bX, bS⟩ := hCI
  have bO0 := bO
  have bC0 := bC
  have bM0 := bM
  obtain ⟨fr, mv, MX, hO, hMo, hMl, hMa, hfr⟩ := bO
  obtain ⟨tf, cp, ca, hC, hT, hcon⟩ := bC
  obtain ⟨ps, pk, pv, pn, hP, hP1o, hP1a, hP2o, hP2a, hP3o, hP3a, hP4o, hP4a, hpm⟩ := bM
  refine j_ofH (by decide) rfl (Nat.le_of_ble_eq_true rfl) ?_
  intro p e s m args below meth c A ls Q hQ S hr hK hA H locs hW hl htab hx hnx
  have hl : lv_has ls 6 [(0, .ref (ad 0)), (1, .int y), (2, .int lo), (3, .int hi), (4, .ref (ad 74))] := hl
  refine lv_aload S.1 S.2.1 dL_addBound_0 (lv_at hl 4 rfl) ?_
  refine lv_iconst (v := nI 0) S.1 S.2.1 dL_addBound_2 (by decide) ?_
  refine lv_aload_n S.1 S.2.1 dL_addBound_3 rfl (lv_at hl 0 rfl) ?_
  refine lv_iload_n S.1 S.2.1 dL_addBound_4 rfl (lv_at hl 1 rfl) ?_
  refine lv_iload_n S.1 S.2.1 dL_addBound_5 rfl (lv_at hl 2 rfl) ?_
  refine lv_iload_n S.1 S.2.1 dL_addBound_6 rfl (lv_at hl 3 rfl) ?_
  refine jx_callT (k := 0) (ci := 10) (q := (RX11, TX11, 15)) (As := [.int y, .int lo, .int hi]) (rest := [.int (nI 0), .ref (ad 74)]) S hK hA hW hx (c_X11_addBound l htr D cy ad n sd se fr nc lv tf y lo hi nL hO hC hT  hlen (hn) (hnc) (hnL)) (jgo wm_L_30) yk_X11_addBound hO rfl rfl ⟨⟨rfl, rfl⟩, by decide, by decide⟩ rfl hl.1 rfl (Nat.le_of_ble_eq_true rfl) dL_addBound_7 ⟨Nat.le_of_ble_eq_true rfl, Nat.le_of_ble_eq_true rfl⟩ (fun E ce q9 w_ H locs hp hW hc1 hc2 hc3 => ?_) (fun v w_ H locs hp hW => ?_)
  · obtain ⟨hp, rfl⟩ := hp
    rcases hp with ⟨rfl, hp⟩ | ⟨rfl, hp⟩
    · refine vx_catch (name := "java/lang/IllegalArgumentException") S.2.2.2.1 [] ⟨0, 12, 15, 21⟩ [⟨0, 12, 19, 13⟩] (htab.trans rfl) (fun _ h => absurd h List.not_mem_nil) (by decide) (by decide) (S.2.2.2.2 _ (List.mem_cons_of_mem _ wcl_L_21)) (va_Nw.use rfl (hx.2.2.1 "java/lang/IllegalArgumentException" (by decide))) hc1 hc2 hc3 ?_
      refine W.eq (g2 := F0 m 15 ls [.ref q9]) rfl ?_
      refine lv_astore (lv' := [(5, .ref q9), (0, .ref (ad 0)), (1, .int y), (2, .int lo), (3, .int hi), (4, .ref (ad 74))]) S.1 S.2.1 dL_addBound_15 hl (by decide) rfl (fun ls hl => ?_)
      refine lv_iconst (v := nI 1) S.1 S.2.1 dL_addBound_17 (by decide) ?_
      subst hQ
      exact j_iret (u := w) S hr (rfl) hK hW dL_addBound_18 ⟨by decide, by decide⟩ (Or.inr (Or.inl (⟨rfl, hp, jUc.rf, hCI0, hOut, hOuD⟩)))
    · refine vx_catch (name := "java/lang/IllegalStateException") S.2.2.2.1 [⟨0, 12, 15, 21⟩] ⟨0, 12, 19, 13⟩ [] (htab.trans rfl) (List.forall_mem_cons.mpr ⟨Or.inr ⟨by decide, "java/lang/IllegalArgumentException", S.2.2.2.2 _ (List.mem_cons_of_mem _ wcl_L_21), hnx "java/lang/IllegalStateException" (by decide) "java/lang/IllegalArgumentException" (by decide) (by decide)⟩, fun _ h => absurd h List.not_mem_nil⟩) (by decide) (by decide) (S.2.2.2.2 _ (List.mem_cons_of_mem _ wcl_L_13)) (va_Nw.use rfl (hx.2.2.1 "java/lang/IllegalStateException" (by decide))) hc1 hc2 hc3 ?_
      refine W.eq (g2 := F0 m 19 ls [.ref q9]) rfl ?_
      refine lv_astore (lv' := [(5, .ref q9), (0, .ref (ad 0)), (1, .int y), (2, .int lo), (3, .int hi), (4, .ref (ad 74))]) S.1 S.2.1 dL_addBound_19 hl (by decide) rfl (fun ls hl => ?_)
      refine lv_iconst (v := nI 2) S.1 S.2.1 dL_addBound_21 (by decide) ?_
      subst hQ
      exact j_iret (u := w) S hr (rfl) hK hW dL_addBound_22 ⟨by decide, by decide⟩ (Or.inr (Or.inr (⟨rfl, hp, jUc.rf, hCI0, hOut, hOuD⟩)))
  obtain ⟨a_7, b_7, d_7, q_7, rfl, hp7_0, hp7_1, hp7_2, hp7_3, hp7_4, hp7_5, hp7_6, hp7_7, hp7_8, hU1, hN1, hN2, hN3⟩ := hp
  have hU : jU w w_ [0, 9, 10, 74] := jU.mono hU1 (by first | decide | (simp; done) | (simp; omega))
  have hOut_ := hU1.get hOut (by first | decide | (simp; done) | (simp; omega))
  have hO_ : w_[0]? = some (ad 0, .inr (10, [.int (nI n), .ref (ad 1), .ref (ad 3), .ref (ad 5), .int (nI sd), .int (nI se), .ref (ad 7), .ref (ad 9), .ref (ad 11), .ref (ad 20), .int (bI false), .ref (ad 23), .ref (ad 26), .ref (ad 31), .ref (ad 42)])) := hN1
  have hC_ : w_[9]? = some (ad 9, .inr (4, [.ref (ad 10), .int (nI (nc + 1)), .int (nI (lv ||| 2 ^ nc))])) := hN2
  have hT_ : w_[10]? = some (ad 10, .inl (cy 5, 20, .inr (.inr (.inr (.inr (va_up tf nc (some q_7))))))) := hN3
  clear hU1 hN1 hN2 hN3
  refine W.eq (g2 := F0 m 10 ls [.int (nI nc), .int (nI 0), .ref (ad 74)]) rfl ?_
  have hCI1 : CI ad cy w_ n wf wt od sd se (nc + 1) (lv ||| 2 ^ nc) (upB cs nc (107, a_7, 0, b_7, d_7)) kv kx := ⟨⟨_, _, _, hO_, (hU.get hMo (by first | decide | (simp; done) | (simp; omega))), (hU.get hMl (by first | decide | (simp; done) | (simp; omega))), (hU.get hMa (by first | decide | (simp; done) | (simp; omega))), by first | exact fun _ => ⟨rfl, rfl⟩ | exact fun h => by cases h | exact hfr⟩, bW.kept hU (by first | decide | (intro k hk; simp at hk; omega)), bD.kept hU (by first | decide | (intro k hk; simp at hk; omega)), ⟨_, upB cp nc nL, upB ca nc q_7, hC_, hT_, hcon.more hU (by decide) hp7_0 hlen hnL hp7_8 (⟨Or.inr (Or.inr rfl), by show a_7 < 1024; omega, by show 0 < 1024; decide, by show b_7 < 1024; omega, by show d_7 < 1024; omega⟩)⟩, ⟨_, _, _, _, (hU.get hP (by first | decide | (simp; done) | (simp; omega))), (hU.get hP1o (by first | decide | (simp; done) | (simp; omega))), (hU.get hP1a (by first | decide | (simp; done) | (simp; omega))), (hU.get hP2o (by first | decide | (simp; done) | (simp; omega))), (hU.get hP2a (by first | decide | (simp; done) | (simp; omega))), (hU.get hP3o (by first | decide | (simp; done) | (simp; omega))), (hU.get hP3a (by first | decide | (simp; done) | (simp; omega))), (hU.get hP4o (by first | decide | (simp; done) | (simp; omega))), (hU.get hP4a (by first | decide | (simp; done) | (simp; omega))), pmI_more hpm⟩, bP.kept hU (by first | decide | (intro k hk; simp at hk; omega)), bR.kept hU (by first | decide | (intro k hk; simp at hk; omega)), bX.kept hU (by first | decide | (intro k hk; simp at hk; omega)), bS.kept hU (by first | decide | (intro k hk; simp at hk; omega))⟩
  refine lv_i2l (v := (nI nc).toInt64) S.1 S.2.1 dL_addBound_10 (rfl) ?_
  refine j_last S hK hW hOut_ (vp_in_nI (by omega) (by omega)) (nI_clamp (by omega)) dL_addBound_11 (fun H locs w_ hU1 hN1 hW => ?_)
  have hU := hU.then hU1 (by first | decide | (simp; done) | (simp; omega))
  have hO_ := hU1.get hO_ (by first | decide | (simp; done) | (simp; omega))
  have hC_ := hU1.get hC_ (by first | decide | (simp; done) | (simp; omega))
  have hT_ := hU1.get hT_ (by first | decide | (simp; done) | (simp; omega))
  have hOut_ : w_[74]? = some (ad 74, .inl (cy 1, 1, .inr (.inl (vp_updL og 0 ((nI nc).toInt64))))) := hN1
  have hCI1 := hCI1.kept hU1 (by decide)
  clear hU1 hN1
  refine lv_goto (tgt := 23) S.1 S.2.1 dL_addBound_12 (by decide) ?_
  refine lv_iconst (v := nI 0) S.1 S.2.1 dL_addBound_23 (by decide) ?_
  subst hQ
  exact j_iret (u := w_) S hr (rfl) hK hW dL_addBound_24 ⟨by decide, by decide⟩ (Or.inl (⟨a_7, b_7, d_7, rfl, hp7_0, hp7_1, hp7_2, hp7_3, hp7_4, hp7_5, hp7_6, hp7_7, ⟨_, hU, by first | decide | (intro k hk; simp at hk; omega)⟩, hCI1, hOut_, (hU.get hOuD (by first | decide | (simp; done) | (simp; omega)))⟩))
/-- the law's drop -/
theorem h_drop (l : Launch) (htr : l.stackTraces = false) (D : va_G) (cy : Nat → ClassId) {w : va_W} (ad : Nat → Nat) (n : Nat) (wf wt od : Nat → Nat) (sd se nc lv : Nat) (cs : Nat → CN) (kv : Nat → Int32) (kx : Nat → Nat → Bool) (v : Int32) (og : Nat → Int64) (ogd : Nat → UInt64) (hPI : PI n wf wt od sd se nc lv cs kv kx) (hCI : CI ad cy w n wf wt od sd se nc lv cs kv kx) (hOut : w[74]? = some (ad 74, .inl (cy 1, 1, .inr (.inl og)))) (hOuD : w[75]? = some (ad 75, .inl (cy 7, 1, .inr (.inr (.inr (.inl ogd)))))) : jMh l yL_drop (jwsW yL_drop cL_drop 4 (some .int) [(0, 9, 12, 19), (0, 9, 15, 13)]) (jR 10 2 12) D cy w [.ref (ad 0), .int v, .ref (ad 74)] 2 12 (fun vv uu => (∃ (j : Nat), vv = some (.int (nI 0)) ∧ j < nc ∧ v = nI j ∧ lv.testBit j = true ∧ jUc w uu ∧ CI ad cy uu n wf wt od sd se nc (nAnd lv (2 ^ j)) cs kv kx ∧ uu[74]? = some (ad 74, .inl (cy 1, 1, .inr (.inl (vp_updL og 0 ((nI (cnt (nAnd lv (2 ^ j)).testBit 32)).toInt64))))) ∧ uu[75]? = some (ad 75, .inl (cy 7, 1, .inr (.inr (.inr (.inl ogd)))))) ∨ (vv = some (.int (nI 1)) ∧ (vB v nc = false) ∧ jUc w uu ∧ CI ad cy uu n wf wt od sd se nc lv cs kv kx ∧ uu[74]? = some (ad 74, .inl (cy 1, 1, .inr (.inl og))) ∧ uu[75]? = some (ad 75, .inl (cy 7, 1, .inr (.inr (.inr (.inl ogd)))))) ∨ (vv = some (.int (nI 2)) ∧ (∃ j, j < nc ∧ v = nI j ∧ lv.testBit j = false) ∧ jUc w uu ∧ CI ad cy uu n wf wt od sd se nc lv cs kv kx ∧ uu[74]? = some (ad 74, .inl (cy 1, 1, .inr (.inl og))) ∧ uu[75]? = some (ad 75, .inl (cy 7, 1, .inr (.inr (.inr (.inl ogd))))))) := by
  obtain ⟨hn, hsdn, hse2, hnc, hlvn, hcs, hkI, hod, hodn, hinj⟩ := hPI
  have hp2 := two_pow10 hn
  have hsd : sd < 1024 := by omega
  have hse : se < 1024 := by rw [← hse2]; exact Nat.lt_of_le_of_lt Nat.and_le_right hsd
  have hlv : lv < 2 ^ 20 := Nat.lt_of_lt_of_le hlvn (Nat.pow_le_pow_right (by decide) hnc)
  have hCI0 := hCI
  obtain ⟨bO, bW, bD, bC, bM, bP, bR, bX, bS⟩ := hCI
  have bO0 := bO
  have bC0 := bC
  obtain ⟨fr, mv, MX, hO, hMo, hMl, hMa, hfr⟩ := bO
  obtain ⟨tf, cp, ca, hC, hT, hcon⟩ := bC
  refine j_ofH (by decide) rfl (Nat.le_of_ble_eq_true rfl) ?_
  intro p e s m args below meth c A ls Q hQ S hr hK hA H locs hW hl htab hx hnx
  have hl : lv_has ls 4 [(0, .ref (ad 0)), (1, .int v), (2, .ref (ad 74))] := hl
  refine lv_aload_n S.1 S.2.1 dL_drop_0 rfl (lv_at hl 2 rfl) ?_
  refine lv_iconst (v := nI 0) S.1 S.2.1 dL_drop_1 (by decide) ?_
  refine lv_aload_n S.1 S.2.1 dL_drop_2 rfl (lv_at hl 0 rfl) ?_
  refine lv_iload_n S.1 S.2.1 dL_drop_3 rfl (lv_at hl 1 rfl) ?_
  refine jx_callT (k := 0) (ci := 10) (q := (RX11, TX11, 15)) (As := [.int v]) (rest := [.int (nI 0), .ref (ad 74)]) S hK hA hW hx (c_X11_drop l htr D cy ad n sd se fr nc lv tf cp ca cs v hO hC hT hcon  (hn) (hlv)) (jgo wm_L_33) yk_X11_drop hO rfl rfl ⟨⟨rfl, rfl⟩, by decide, by decide⟩ rfl hl.1 rfl (Nat.le_of_ble_eq_true rfl) dL_drop_4 ⟨Nat.le_of_ble_eq_true rfl, Nat.le_of_ble_eq_true rfl⟩ (fun E ce q9 w_ H locs hp hW hc1 hc2 hc3 => ?_) (fun v w_ H locs hp hW => ?_)
  · obtain ⟨hp, rfl⟩ := hp
    rcases hp with ⟨rfl, hp⟩ | ⟨rfl, hp⟩
    · refine vx_catch (name := "java/lang/IndexOutOfBoundsException") S.2.2.2.1 [] ⟨0, 9, 12, 19⟩ [⟨0, 9, 15, 13⟩] (htab.trans rfl) (fun _ h => absurd h List.not_mem_nil) (by decide) (by decide) (S.2.2.2.2 _ (List.mem_cons_of_mem _ wcl_L_19)) (va_Nw.use rfl (hx.2.2.1 "java/lang/IndexOutOfBoundsException" (by decide))) hc1 hc2 hc3 ?_
      refine W.eq (g2 := F0 m 12 ls [.ref q9]) rfl ?_
      refine lv_astore_n (lv' := [(3, .ref q9), (0, .ref (ad 0)), (1, .int v), (2, .ref (ad 74))]) S.1 S.2.1 dL_drop_12 rfl hl (by decide) rfl (fun ls hl => ?_)
      refine lv_iconst (v := nI 1) S.1 S.2.1 dL_drop_13 (by decide) ?_
      subst hQ
      exact j_iret (u := w) S hr (rfl) hK hW dL_drop_14 ⟨by decide, by decide⟩ (Or.inr (Or.inl (⟨rfl, hp, jUc.rf, hCI0, hOut, hOuD⟩)))
    · refine vx_catch (name := "java/lang/IllegalStateException") S.2.2.2.1 [⟨0, 9, 12, 19⟩] ⟨0, 9, 15, 13⟩ [] (htab.trans rfl) (List.forall_mem_cons.mpr ⟨Or.inr ⟨by decide, "java/lang/IndexOutOfBoundsException", S.2.2.2.2 _ (List.mem_cons_of_mem _ wcl_L_19), hnx "java/lang/IllegalStateException" (by decide) "java/lang/IndexOutOfBoundsException" (by decide) (by decide)⟩, fun _ h => absurd h List.not_mem_nil⟩) (by decide) (by decide) (S.2.2.2.2 _ (List.mem_cons_of_mem _ wcl_L_13)) (va_Nw.use rfl (hx.2.2.1 "java/lang/IllegalStateException" (by decide))) hc1 hc2 hc3 ?_
      refine W.eq (g2 := F0 m 15 ls [.ref q9]) rfl ?_
      refine lv_astore_n (lv' := [(3, .ref q9), (0, .ref (ad 0)), (1, .int v), (2, .ref (ad 74))]) S.1 S.2.1 dL_drop_15 rfl hl (by decide) rfl (fun ls hl => ?_)
      refine lv_iconst (v := nI 2) S.1 S.2.1 dL_drop_16 (by decide) ?_
      subst hQ
      exact j_iret (u := w) S hr (rfl) hK hW dL_drop_17 ⟨by decide, by decide⟩ (Or.inr (Or.inr (⟨rfl, hp, jUc.rf, hCI0, hOut, hOuD⟩)))
  obtain ⟨j_4, rfl, hp4_0, hp4_1, hp4_2, hU1, hN1, hN2⟩ := hp
  have hU : jU w w_ [0, 9, 74] := jU.mono hU1 (by first | decide | (simp; done) | (simp; omega))
  have hOut_ := hU1.get hOut (by first | decide | (simp; done) | (simp; omega))
  have hO_ : w_[0]? = some (ad 0, .inr (10, [.int (nI n), .ref (ad 1), .ref (ad 3), .ref (ad 5), .int (nI sd), .int (nI se), .ref (ad 7), .ref (ad 9), .ref (ad 11), .ref (ad 20), .int (bI false), .ref (ad 23), .ref (ad 26), .ref (ad 31), .ref (ad 42)])) := hN1
  have hC_ : w_[9]? = some (ad 9, .inr (4, [.ref (ad 10), .int (nI nc), .int (nI (nAnd lv (2 ^ j_4)))])) := hN2
  clear hU1 hN1 hN2
  refine W.eq (g2 := F0 m 7 ls [.int (nI (cnt (nAnd lv (2 ^ j_4)).testBit 32)), .int (nI 0), .ref (ad 74)]) rfl ?_
  have hCI1 : CI ad cy w_ n wf wt od sd se nc (nAnd lv (2 ^ j_4)) cs kv kx := ⟨⟨_, _, _, hO_, (hU.get hMo (by first | decide | (simp; done) | (simp; omega))), (hU.get hMl (by first | decide | (simp; done) | (simp; omega))), (hU.get hMa (by first | decide | (simp; done) | (simp; omega))), by first | exact fun _ => ⟨rfl, rfl⟩ | exact fun h => by cases h | exact hfr⟩, bW.kept hU (by first | decide | (intro k hk; simp at hk; omega)), bD.kept hU (by first | decide | (intro k hk; simp at hk; omega)), ⟨_, _, _, hC_, (hU.get hT (by first | decide | (simp; done) | (simp; omega))), hcon.kept hU (by first | decide | (intro k hk; simp at hk; omega))⟩, bM.kept hU (by first | decide | (intro k hk; simp at hk; omega)), bP.kept hU (by first | decide | (intro k hk; simp at hk; omega)), bR.kept hU (by first | decide | (intro k hk; simp at hk; omega)), bX.kept hU (by first | decide | (intro k hk; simp at hk; omega)), bS.kept hU (by first | decide | (intro k hk; simp at hk; omega))⟩
  refine lv_i2l (v := (nI (cnt (nAnd lv (2 ^ j_4)).testBit 32)).toInt64) S.1 S.2.1 dL_drop_7 (rfl) ?_
  refine j_last S hK hW hOut_ (vp_in_nI (by omega) (by omega)) (nI_clamp (by omega)) dL_drop_8 (fun H locs w_ hU1 hN1 hW => ?_)
  have hU := hU.then hU1 (by first | decide | (simp; done) | (simp; omega))
  have hO_ := hU1.get hO_ (by first | decide | (simp; done) | (simp; omega))
  have hC_ := hU1.get hC_ (by first | decide | (simp; done) | (simp; omega))
  have hOut_ : w_[74]? = some (ad 74, .inl (cy 1, 1, .inr (.inl (vp_updL og 0 ((nI (cnt (nAnd lv (2 ^ j_4)).testBit 32)).toInt64))))) := hN1
  have hCI1 := hCI1.kept hU1 (by decide)
  clear hU1 hN1
  refine lv_goto (tgt := 18) S.1 S.2.1 dL_drop_9 (by decide) ?_
  refine lv_iconst (v := nI 0) S.1 S.2.1 dL_drop_18 (by decide) ?_
  subst hQ
  exact j_iret (u := w_) S hr (rfl) hK hW dL_drop_19 ⟨by decide, by decide⟩ (Or.inl (⟨j_4, rfl, hp4_0, hp4_1, hp4_2, ⟨_, hU, by first | decide | (intro k hk; simp at hk; omega)⟩, hCI1, hOut_, (hU.get hOuD (by first | decide | (simp; done) | (simp; omega)))⟩))
/-- the law's kind -/
theorem h_kind (l : Launch) (htr : l.stackTraces = false) (D : va_G) (cy : Nat → ClassId) {w : va_W} (ad : Nat → Nat) (n : Nat) (wf wt od : Nat → Nat) (sd se nc lv : Nat) (cs : Nat → CN) (kv : Nat → Int32) (kx : Nat → Nat → Bool) (v : Int32) (og : Nat → Int64) (ogd : Nat → UInt64) (hPI : PI n wf wt od sd se nc lv cs kv kx) (hCI : CI ad cy w n wf wt od sd se nc lv cs kv kx) (hOut : w[74]? = some (ad 74, .inl (cy 1, 1, .inr (.inl og)))) (hOuD : w[75]? = some (ad 75, .inl (cy 7, 1, .inr (.inr (.inr (.inl ogd)))))) : jMh l yL_kind (jwsW yL_kind cL_kind 4 (some .int) [(0, 9, 12, 19)]) (jR 10 1 6) D cy w [.ref (ad 0), .int v, .ref (ad 74)] 1 6 (fun vv uu => (∃ (j : Nat), vv = some (.int (nI 0)) ∧ j < nc ∧ v = nI j ∧ jUc w uu ∧ CI ad cy uu n wf wt od sd se nc lv cs kv kx ∧ uu[74]? = some (ad 74, .inl (cy 1, 1, .inr (.inl (vp_updL og 0 ((nI ((cs j).1)).toInt64))))) ∧ uu[75]? = some (ad 75, .inl (cy 7, 1, .inr (.inr (.inr (.inl ogd)))))) ∨ (vv = some (.int (nI 1)) ∧ (vB v nc = false) ∧ jUc w uu ∧ CI ad cy uu n wf wt od sd se nc lv cs kv kx ∧ uu[74]? = some (ad 74, .inl (cy 1, 1, .inr (.inl og))) ∧ uu[75]? = some (ad 75, .inl (cy 7, 1, .inr (.inr (.inr (.inl ogd))))))) := by
  obtain ⟨hn, hsdn, hse2, hnc, hlvn, hcs, hkI, hod, hodn, hinj⟩ := hPI
  have hp2 := two_pow10 hn
  have hsd : sd < 1024 := by omega
  have hse : se < 1024 := by rw [← hse2]; exact Nat.lt_of_le_of_lt Nat.and_le_right hsd
  have hlv : lv < 2 ^ 20 := Nat.lt_of_lt_of_le hlvn (Nat.pow_le_pow_right (by decide) hnc)
  have hCI0 := hCI
  obtain ⟨bO, bW, bD, bC, bM, bP, bR, bX, bS⟩ := hCI
  have bO0 := bO
  have bC0 := bC
  obtain ⟨fr, mv, MX, hO, hMo, hMl, hMa, hfr⟩ := bO
  obtain ⟨tf, cp, ca, hC, hT, hcon⟩ := bC
  refine j_ofH (by decide) rfl (Nat.le_of_ble_eq_true rfl) ?_
  intro p e s m args below meth c A ls Q hQ S hr hK hA H locs hW hl htab hx hnx
  have hl : lv_has ls 4 [(0, .ref (ad 0)), (1, .int v), (2, .ref (ad 74))] := hl
  refine lv_aload_n S.1 S.2.1 dL_kind_0 rfl (lv_at hl 2 rfl) ?_
  refine lv_iconst (v := nI 0) S.1 S.2.1 dL_kind_1 (by decide) ?_
  refine lv_aload_n S.1 S.2.1 dL_kind_2 rfl (lv_at hl 0 rfl) ?_
  refine lv_iload_n S.1 S.2.1 dL_kind_3 rfl (lv_at hl 1 rfl) ?_
  refine jx_callT (k := 0) (ci := 10) (q := (RX11, TX11, 15)) (As := [.int v]) (rest := [.int (nI 0), .ref (ad 74)]) S hK hA hW hx (c_X11_kind l htr D cy ad n sd se fr nc lv tf cp ca cs v hO hC hT hcon  (hn)) (jgo wm_L_37) yk_X11_kind hO rfl rfl ⟨⟨rfl, rfl⟩, by decide, by decide⟩ rfl hl.1 rfl (Nat.le_of_ble_eq_true rfl) dL_kind_4 ⟨Nat.le_of_ble_eq_true rfl, Nat.le_of_ble_eq_true rfl⟩ (fun E ce q9 w_ H locs hp hW hc1 hc2 hc3 => ?_) (fun v u H locs hp hW => ?_)
  · obtain ⟨hp, rfl⟩ := hp
    obtain ⟨rfl, hp⟩ := hp
    refine vx_catch (name := "java/lang/IndexOutOfBoundsException") S.2.2.2.1 [] ⟨0, 9, 12, 19⟩ [] (htab.trans rfl) (fun _ h => absurd h List.not_mem_nil) (by decide) (by decide) (S.2.2.2.2 _ (List.mem_cons_of_mem _ wcl_L_19)) (va_Nw.use rfl (hx.2.2.1 "java/lang/IndexOutOfBoundsException" (by decide))) hc1 hc2 hc3 ?_
    refine W.eq (g2 := F0 m 12 ls [.ref q9]) rfl ?_
    refine lv_astore_n (lv' := [(3, .ref q9), (0, .ref (ad 0)), (1, .int v), (2, .ref (ad 74))]) S.1 S.2.1 dL_kind_12 rfl hl (by decide) rfl (fun ls hl => ?_)
    refine lv_iconst (v := nI 1) S.1 S.2.1 dL_kind_13 (by decide) ?_
    subst hQ
    exact j_iret (u := w) S hr (rfl) hK hW dL_kind_14 ⟨by decide, by decide⟩ (Or.inr (⟨rfl, hp, jUc.rf, hCI0, hOut, hOuD⟩))
  obtain ⟨j_4, rfl, hp4_0, hp4_1, rfl⟩ := hp
  refine W.eq (g2 := F0 m 7 ls [.int (nI ((cs j_4).1)), .int (nI 0), .ref (ad 74)]) rfl ?_
  refine lv_i2l (v := (nI ((cs j_4).1)).toInt64) S.1 S.2.1 dL_kind_7 (rfl) ?_
  refine j_last S hK hW hOut (vp_in_nI (by omega) (by omega)) (nI_clamp (by omega)) dL_kind_8 (fun H locs w_ hU1 hN1 hW => ?_)
  have hU : jU w w_ [74] := jU.mono hU1 (by first | decide | (simp; done) | (simp; omega))
  have hOut_ : w_[74]? = some (ad 74, .inl (cy 1, 1, .inr (.inl (vp_updL og 0 ((nI ((cs j_4).1)).toInt64))))) := hN1
  clear hU1 hN1
  refine lv_goto (tgt := 15) S.1 S.2.1 dL_kind_9 (by decide) ?_
  refine lv_iconst (v := nI 0) S.1 S.2.1 dL_kind_15 (by decide) ?_
  subst hQ
  exact j_iret (u := w_) S hr (rfl) hK hW dL_kind_16 ⟨by decide, by decide⟩ (Or.inl (⟨j_4, rfl, hp4_0, hp4_1, ⟨_, hU, by first | decide | (intro k hk; simp at hk; omega)⟩, (hCI0.kept hU (by decide)), hOut_, (hU.get hOuD (by first | decide | (simp; done) | (simp; omega)))⟩))
/-- the law's setEvidence -/
theorem h_setEvidence (l : Launch) (htr : l.stackTraces = false) (D : va_G) (cy : Nat → ClassId) {w : va_W} (ad : Nat → Nat) (n : Nat) (wf wt od : Nat → Nat) (sd se nc lv : Nat) (cs : Nat → CN) (kv : Nat → Int32) (kx : Nat → Nat → Bool) (v : Int32) (ev : Int32) (og : Nat → Int64) (ogd : Nat → UInt64) (hPI : PI n wf wt od sd se nc lv cs kv kx) (hCI : CI ad cy w n wf wt od sd se nc lv cs kv kx) (hOut : w[74]? = some (ad 74, .inl (cy 1, 1, .inr (.inl og)))) (hOuD : w[75]? = some (ad 75, .inl (cy 7, 1, .inr (.inr (.inr (.inl ogd)))))) : jMh l yL_setEvidence (jwsW yL_setEvidence cL_setEvidence 5 (some .int) [(0, 10, 13, 19), (0, 10, 17, 21)]) (jR 10 2 12) D cy w [.ref (ad 0), .int v, .int ev, .ref (ad 74)] 2 12 (fun vv uu => (∃ (x : Nat), vv = some (.int (nI 0)) ∧ x < n ∧ v = nI x ∧ ev3 ev ∧ jUc w uu ∧ CI ad cy uu n wf wt od (evSd sd x ev) (evSe se x ev) nc lv cs kv kx ∧ uu[74]? = some (ad 74, .inl (cy 1, 1, .inr (.inl (vp_updL og 0 ((evI sd se x).toInt64))))) ∧ uu[75]? = some (ad 75, .inl (cy 7, 1, .inr (.inr (.inr (.inl ogd)))))) ∨ (vv = some (.int (nI 1)) ∧ (vB v n = false) ∧ jUc w uu ∧ CI ad cy uu n wf wt od sd se nc lv cs kv kx ∧ uu[74]? = some (ad 74, .inl (cy 1, 1, .inr (.inl og))) ∧ uu[75]? = some (ad 75, .inl (cy 7, 1, .inr (.inr (.inr (.inl ogd)))))) ∨ (vv = some (.int (nI 2)) ∧ ((∃ x, x < n ∧ v = nI x) ∧ ¬ ev3 ev) ∧ jUc w uu ∧ CI ad cy uu n wf wt od sd se nc lv cs kv kx ∧ uu[74]? = some (ad 74, .inl (cy 1, 1, .inr (.inl og))) ∧ uu[75]? = some (ad 75, .inl (cy 7, 1, .inr (.inr (.inr (.inl ogd))))))) := by
  obtain ⟨hn, hsdn, hse2, hnc, hlvn, hcs, hkI, hod, hodn, hinj⟩ := hPI
  have hp2 := two_pow10 hn
  have hsd : sd < 1024 := by omega
  have hse : se < 1024 := by rw [← hse2]; exact Nat.lt_of_le_of_lt Nat.and_le_right hsd
  have hlv : lv < 2 ^ 20 := Nat.lt_of_lt_of_le hlvn (Nat.pow_le_pow_right (by decide) hnc)
  have hCI0 := hCI
  obtain ⟨bO, bW, bD, bC, bM, bP, bR, bX, bS⟩ := hCI
  have bO0 := bO
  obtain ⟨fr, mv, MX, hO, hMo, hMl, hMa, hfr⟩ := bO
  refine j_ofH (by decide) rfl (Nat.le_of_ble_eq_true rfl) ?_
  intro p e s m args below meth c A ls Q hQ S hr hK hA H locs hW hl htab hx hnx
  have hl : lv_has ls 5 [(0, .ref (ad 0)), (1, .int v), (2, .int ev), (3, .ref (ad 74))] := hl
  refine lv_aload_n S.1 S.2.1 dL_setEvidence_0 rfl (lv_at hl 3 rfl) ?_
  refine lv_iconst (v := nI 0) S.1 S.2.1 dL_setEvidence_1 (by decide) ?_
  refine lv_aload_n S.1 S.2.1 dL_setEvidence_2 rfl (lv_at hl 0 rfl) ?_
  refine lv_iload_n S.1 S.2.1 dL_setEvidence_3 rfl (lv_at hl 1 rfl) ?_
  refine lv_iload_n S.1 S.2.1 dL_setEvidence_4 rfl (lv_at hl 2 rfl) ?_
  refine jx_callT (k := 0) (ci := 10) (q := (RX11, TX11, 15)) (As := [.int v, .int ev]) (rest := [.int (nI 0), .ref (ad 74)]) S hK hA hW hx (c_X11_setEvidence l htr D cy ad n sd se fr v ev hO   (hn) (hsd) (hse)) (jgo wm_L_41) yk_X11_setEvidence hO rfl rfl ⟨⟨rfl, rfl⟩, by decide, by decide⟩ rfl hl.1 rfl (Nat.le_of_ble_eq_true rfl) dL_setEvidence_5 ⟨Nat.le_of_ble_eq_true rfl, Nat.le_of_ble_eq_true rfl⟩ (fun E ce q9 w_ H locs hp hW hc1 hc2 hc3 => ?_) (fun v w_ H locs hp hW => ?_)
  · obtain ⟨hp, rfl⟩ := hp
    rcases hp with ⟨rfl, hp⟩ | ⟨rfl, hp⟩
    · refine vx_catch (name := "java/lang/IndexOutOfBoundsException") S.2.2.2.1 [] ⟨0, 10, 13, 19⟩ [⟨0, 10, 17, 21⟩] (htab.trans rfl) (fun _ h => absurd h List.not_mem_nil) (by decide) (by decide) (S.2.2.2.2 _ (List.mem_cons_of_mem _ wcl_L_19)) (va_Nw.use rfl (hx.2.2.1 "java/lang/IndexOutOfBoundsException" (by decide))) hc1 hc2 hc3 ?_
      refine W.eq (g2 := F0 m 13 ls [.ref q9]) rfl ?_
      refine lv_astore (lv' := [(4, .ref q9), (0, .ref (ad 0)), (1, .int v), (2, .int ev), (3, .ref (ad 74))]) S.1 S.2.1 dL_setEvidence_13 hl (by decide) rfl (fun ls hl => ?_)
      refine lv_iconst (v := nI 1) S.1 S.2.1 dL_setEvidence_15 (by decide) ?_
      subst hQ
      exact j_iret (u := w) S hr (rfl) hK hW dL_setEvidence_16 ⟨by decide, by decide⟩ (Or.inr (Or.inl (⟨rfl, hp, jUc.rf, hCI0, hOut, hOuD⟩)))
    · refine vx_catch (name := "java/lang/IllegalArgumentException") S.2.2.2.1 [⟨0, 10, 13, 19⟩] ⟨0, 10, 17, 21⟩ [] (htab.trans rfl) (List.forall_mem_cons.mpr ⟨Or.inr ⟨by decide, "java/lang/IndexOutOfBoundsException", S.2.2.2.2 _ (List.mem_cons_of_mem _ wcl_L_19), hnx "java/lang/IllegalArgumentException" (by decide) "java/lang/IndexOutOfBoundsException" (by decide) (by decide)⟩, fun _ h => absurd h List.not_mem_nil⟩) (by decide) (by decide) (S.2.2.2.2 _ (List.mem_cons_of_mem _ wcl_L_21)) (va_Nw.use rfl (hx.2.2.1 "java/lang/IllegalArgumentException" (by decide))) hc1 hc2 hc3 ?_
      refine W.eq (g2 := F0 m 17 ls [.ref q9]) rfl ?_
      refine lv_astore (lv' := [(4, .ref q9), (0, .ref (ad 0)), (1, .int v), (2, .int ev), (3, .ref (ad 74))]) S.1 S.2.1 dL_setEvidence_17 hl (by decide) rfl (fun ls hl => ?_)
      refine lv_iconst (v := nI 2) S.1 S.2.1 dL_setEvidence_19 (by decide) ?_
      subst hQ
      exact j_iret (u := w) S hr (rfl) hK hW dL_setEvidence_20 ⟨by decide, by decide⟩ (Or.inr (Or.inr (⟨rfl, hp, jUc.rf, hCI0, hOut, hOuD⟩)))
  obtain ⟨x_5, rfl, hp5_0, hp5_1, hp5_2, hU1, hN1⟩ := hp
  have hU : jU w w_ [0, 74] := jU.mono hU1 (by first | decide | (simp; done) | (simp; omega))
  have hOut_ := hU1.get hOut (by first | decide | (simp; done) | (simp; omega))
  have hO_ : w_[0]? = some (ad 0, .inr (10, [.int (nI n), .ref (ad 1), .ref (ad 3), .ref (ad 5), .int (nI (evSd sd x_5 ev)), .int (nI (evSe se x_5 ev)), .ref (ad 7), .ref (ad 9), .ref (ad 11), .ref (ad 20), .int (bI false), .ref (ad 23), .ref (ad 26), .ref (ad 31), .ref (ad 42)])) := hN1
  clear hU1 hN1
  refine W.eq (g2 := F0 m 8 ls [.int (evI sd se x_5), .int (nI 0), .ref (ad 74)]) rfl ?_
  have hCI1 : CI ad cy w_ n wf wt od (evSd sd x_5 ev) (evSe se x_5 ev) nc lv cs kv kx := ⟨⟨_, _, _, hO_, (hU.get hMo (by first | decide | (simp; done) | (simp; omega))), (hU.get hMl (by first | decide | (simp; done) | (simp; omega))), (hU.get hMa (by first | decide | (simp; done) | (simp; omega))), by first | exact fun _ => ⟨rfl, rfl⟩ | exact fun h => by cases h | exact hfr⟩, bW.kept hU (by first | decide | (intro k hk; simp at hk; omega)), bD.kept hU (by first | decide | (intro k hk; simp at hk; omega)), bC.kept hU (by first | decide | (intro k hk; simp at hk; omega)), bM.kept hU (by first | decide | (intro k hk; simp at hk; omega)), bP.kept hU (by first | decide | (intro k hk; simp at hk; omega)), bR.kept hU (by first | decide | (intro k hk; simp at hk; omega)), bX.kept hU (by first | decide | (intro k hk; simp at hk; omega)), bS.kept hU (by first | decide | (intro k hk; simp at hk; omega))⟩
  refine lv_i2l (v := (evI sd se x_5).toInt64) S.1 S.2.1 dL_setEvidence_8 (rfl) ?_
  refine j_last S hK hW hOut_ (vp_in_nI (by omega) (by omega)) (nI_clamp (by omega)) dL_setEvidence_9 (fun H locs w_ hU1 hN1 hW => ?_)
  have hU := hU.then hU1 (by first | decide | (simp; done) | (simp; omega))
  have hO_ := hU1.get hO_ (by first | decide | (simp; done) | (simp; omega))
  have hOut_ : w_[74]? = some (ad 74, .inl (cy 1, 1, .inr (.inl (vp_updL og 0 ((evI sd se x_5).toInt64))))) := hN1
  have hCI1 := hCI1.kept hU1 (by decide)
  clear hU1 hN1
  refine lv_goto (tgt := 21) S.1 S.2.1 dL_setEvidence_10 (by decide) ?_
  refine lv_iconst (v := nI 0) S.1 S.2.1 dL_setEvidence_21 (by decide) ?_
  subst hQ
  exact j_iret (u := w_) S hr (rfl) hK hW dL_setEvidence_22 ⟨by decide, by decide⟩ (Or.inl (⟨x_5, rfl, hp5_0, hp5_1, hp5_2, ⟨_, hU, by first | decide | (intro k hk; simp at hk; omega)⟩, hCI1, hOut_, (hU.get hOuD (by first | decide | (simp; done) | (simp; omega)))⟩))
/-- the law's holds -/
theorem h_holds (l : Launch) (htr : l.stackTraces = false) (D : va_G) (cy : Nat → ClassId) {w : va_W} (ad : Nat → Nat) (n : Nat) (wf wt od : Nat → Nat) (sd se nc lv : Nat) (cs : Nat → CN) (kv : Nat → Int32) (kx : Nat → Nat → Bool) (v : Int32) (a : Int32) (og : Nat → Int64) (ogd : Nat → UInt64) (hPI : PI n wf wt od sd se nc lv cs kv kx) (hCI : CI ad cy w n wf wt od sd se nc lv cs kv kx) (hOut : w[74]? = some (ad 74, .inl (cy 1, 1, .inr (.inl og)))) (hOuD : w[75]? = some (ad 75, .inl (cy 7, 1, .inr (.inr (.inr (.inl ogd)))))) : jMh l yL_holds (jwsW yL_holds cL_holds 5 (some .int) [(0, 17, 20, 19), (0, 17, 24, 21)]) (jR 10 1 6) D cy w [.ref (ad 0), .int v, .int a, .ref (ad 74)] 1 6 (fun vv uu => (∃ (j : Nat), ∃ (x : Nat), vv = some (.int (nI 0)) ∧ j < nc ∧ v = nI j ∧ x < 2 ^ n ∧ a = nI x ∧ jUc w uu ∧ CI ad cy uu n wf wt od sd se nc lv cs kv kx ∧ uu[74]? = some (ad 74, .inl (cy 1, 1, .inr (.inl (vp_updL og 0 (lN (b01 (heldC (cs j) x))))))) ∧ uu[75]? = some (ad 75, .inl (cy 7, 1, .inr (.inr (.inr (.inl ogd)))))) ∨ (vv = some (.int (nI 1)) ∧ (vB v nc = false) ∧ jUc w uu ∧ CI ad cy uu n wf wt od sd se nc lv cs kv kx ∧ uu[74]? = some (ad 74, .inl (cy 1, 1, .inr (.inl og))) ∧ uu[75]? = some (ad 75, .inl (cy 7, 1, .inr (.inr (.inr (.inl ogd)))))) ∨ (vv = some (.int (nI 2)) ∧ ((∃ j, j < nc ∧ v = nI j) ∧ vB a (2 ^ n) = false) ∧ jUc w uu ∧ CI ad cy uu n wf wt od sd se nc lv cs kv kx ∧ uu[74]? = some (ad 74, .inl (cy 1, 1, .inr (.inl og))) ∧ uu[75]? = some (ad 75, .inl (cy 7, 1, .inr (.inr (.inr (.inl ogd))))))) := by
  obtain ⟨hn, hsdn, hse2, hnc, hlvn, hcs, hkI, hod, hodn, hinj⟩ := hPI
  have hp2 := two_pow10 hn
  have hsd : sd < 1024 := by omega
  have hse : se < 1024 := by rw [← hse2]; exact Nat.lt_of_le_of_lt Nat.and_le_right hsd
  have hlv : lv < 2 ^ 20 := Nat.lt_of_lt_of_le hlvn (Nat.pow_le_pow_right (by decide) hnc)
  have hCI0 := hCI
  obtain ⟨bO, bW, bD, bC, bM, bP, bR, bX, bS⟩ := hCI
  have bO0 := bO
  have bC0 := bC
  obtain ⟨fr, mv, MX, hO, hMo, hMl, hMa, hfr⟩ := bO
  obtain ⟨tf, cp, ca, hC, hT, hcon⟩ := bC
  refine j_ofH (by decide) rfl (Nat.le_of_ble_eq_true rfl) ?_
  intro p e s m args below meth c A ls Q hQ S hr hK hA H locs hW hl htab hx hnx
  have hl : lv_has ls 5 [(0, .ref (ad 0)), (1, .int v), (2, .int a), (3, .ref (ad 74))] := hl
  refine lv_aload_n S.1 S.2.1 dL_holds_0 rfl (lv_at hl 3 rfl) ?_
  refine lv_iconst (v := nI 0) S.1 S.2.1 dL_holds_1 (by decide) ?_
  refine lv_aload_n S.1 S.2.1 dL_holds_2 rfl (lv_at hl 0 rfl) ?_
  refine lv_iload_n S.1 S.2.1 dL_holds_3 rfl (lv_at hl 1 rfl) ?_
  refine lv_iload_n S.1 S.2.1 dL_holds_4 rfl (lv_at hl 2 rfl) ?_
  refine jx_callT (k := 0) (ci := 10) (q := (RX11, TX11, 15)) (As := [.int v, .int a]) (rest := [.int (nI 0), .ref (ad 74)]) S hK hA hW hx (c_X11_holds l htr D cy ad n sd se fr nc lv tf cp ca cs v a hO hC hT hcon  (hn)) (jgo wm_L_44) yk_X11_holds hO rfl rfl ⟨⟨rfl, rfl⟩, by decide, by decide⟩ rfl hl.1 rfl (Nat.le_of_ble_eq_true rfl) dL_holds_5 ⟨Nat.le_of_ble_eq_true rfl, Nat.le_of_ble_eq_true rfl⟩ (fun E ce q9 w_ H locs hp hW hc1 hc2 hc3 => ?_) (fun v u H locs hp hW => ?_)
  · obtain ⟨hp, rfl⟩ := hp
    rcases hp with ⟨rfl, hp⟩ | ⟨rfl, hp⟩
    · refine vx_catch (name := "java/lang/IndexOutOfBoundsException") S.2.2.2.1 [] ⟨0, 17, 20, 19⟩ [⟨0, 17, 24, 21⟩] (htab.trans rfl) (fun _ h => absurd h List.not_mem_nil) (by decide) (by decide) (S.2.2.2.2 _ (List.mem_cons_of_mem _ wcl_L_19)) (va_Nw.use rfl (hx.2.2.1 "java/lang/IndexOutOfBoundsException" (by decide))) hc1 hc2 hc3 ?_
      refine W.eq (g2 := F0 m 20 ls [.ref q9]) rfl ?_
      refine lv_astore (lv' := [(4, .ref q9), (0, .ref (ad 0)), (1, .int v), (2, .int a), (3, .ref (ad 74))]) S.1 S.2.1 dL_holds_20 hl (by decide) rfl (fun ls hl => ?_)
      refine lv_iconst (v := nI 1) S.1 S.2.1 dL_holds_22 (by decide) ?_
      subst hQ
      exact j_iret (u := w) S hr (rfl) hK hW dL_holds_23 ⟨by decide, by decide⟩ (Or.inr (Or.inl (⟨rfl, hp, jUc.rf, hCI0, hOut, hOuD⟩)))
    · refine vx_catch (name := "java/lang/IllegalArgumentException") S.2.2.2.1 [⟨0, 17, 20, 19⟩] ⟨0, 17, 24, 21⟩ [] (htab.trans rfl) (List.forall_mem_cons.mpr ⟨Or.inr ⟨by decide, "java/lang/IndexOutOfBoundsException", S.2.2.2.2 _ (List.mem_cons_of_mem _ wcl_L_19), hnx "java/lang/IllegalArgumentException" (by decide) "java/lang/IndexOutOfBoundsException" (by decide) (by decide)⟩, fun _ h => absurd h List.not_mem_nil⟩) (by decide) (by decide) (S.2.2.2.2 _ (List.mem_cons_of_mem _ wcl_L_21)) (va_Nw.use rfl (hx.2.2.1 "java/lang/IllegalArgumentException" (by decide))) hc1 hc2 hc3 ?_
      refine W.eq (g2 := F0 m 24 ls [.ref q9]) rfl ?_
      refine lv_astore (lv' := [(4, .ref q9), (0, .ref (ad 0)), (1, .int v), (2, .int a), (3, .ref (ad 74))]) S.1 S.2.1 dL_holds_24 hl (by decide) rfl (fun ls hl => ?_)
      refine lv_iconst (v := nI 2) S.1 S.2.1 dL_holds_26 (by decide) ?_
      subst hQ
      exact j_iret (u := w) S hr (rfl) hK hW dL_holds_27 ⟨by decide, by decide⟩ (Or.inr (Or.inr (⟨rfl, hp, jUc.rf, hCI0, hOut, hOuD⟩)))
  obtain ⟨j_5, x_5, rfl, hp5_0, hp5_1, hp5_2, hp5_3, rfl⟩ := hp
  refine W.eq (g2 := F0 m 8 ls [.int (bI (heldC (cs j_5) x_5)), .int (nI 0), .ref (ad 74)]) rfl ?_
  refine jb_if_eq (tgt := 15) S dL_holds_8 (by decide) (fun c_8 => ?_) (fun c_8 => ?_)
  · refine lv_lconst (v := lN 0) S.1 S.2.1 dL_holds_15 (by decide) ?_
    refine j_last S hK hW hOut (vp_in_nI (by omega) (by omega)) (nI_clamp (by omega)) dL_holds_16 (fun H locs w_ hU1 hN1 hW => ?_)
    have hU : jU w w_ [74] := jU.mono hU1 (by first | decide | (simp; done) | (simp; omega))
    have hOut_ : w_[74]? = some (ad 74, .inl (cy 1, 1, .inr (.inl (vp_updL og 0 (lN 0))))) := hN1
    clear hU1 hN1
    have hOut_ : w_[74]? = some (ad 74, .inl (cy 1, 1, .inr (.inl (vp_updL og 0 (lN (b01 (heldC (cs j_5) x_5))))))) := by
      rw [c_8]; exact hOut_
    refine lv_goto (tgt := 28) S.1 S.2.1 dL_holds_17 (by decide) ?_
    refine lv_iconst (v := nI 0) S.1 S.2.1 dL_holds_28 (by decide) ?_
    subst hQ
    exact j_iret (u := w_) S hr (rfl) hK hW dL_holds_29 ⟨by decide, by decide⟩ (Or.inl (⟨j_5, x_5, rfl, hp5_0, hp5_1, hp5_2, hp5_3, ⟨_, hU, by first | decide | (intro k hk; simp at hk; omega)⟩, (hCI0.kept hU (by decide)), hOut_, (hU.get hOuD (by first | decide | (simp; done) | (simp; omega)))⟩))
  · refine lv_lconst (v := lN 1) S.1 S.2.1 dL_holds_11 (by decide) ?_
    refine lv_goto (tgt := 16) S.1 S.2.1 dL_holds_12 (by decide) ?_
    refine j_last S hK hW hOut (vp_in_nI (by omega) (by omega)) (nI_clamp (by omega)) dL_holds_16 (fun H locs w_ hU1 hN1 hW => ?_)
    have hU : jU w w_ [74] := jU.mono hU1 (by first | decide | (simp; done) | (simp; omega))
    have hOut_ : w_[74]? = some (ad 74, .inl (cy 1, 1, .inr (.inl (vp_updL og 0 (lN 1))))) := hN1
    clear hU1 hN1
    have hOut_ : w_[74]? = some (ad 74, .inl (cy 1, 1, .inr (.inl (vp_updL og 0 (lN (b01 (heldC (cs j_5) x_5))))))) := by
      rw [c_8]; exact hOut_
    refine lv_goto (tgt := 28) S.1 S.2.1 dL_holds_17 (by decide) ?_
    refine lv_iconst (v := nI 0) S.1 S.2.1 dL_holds_28 (by decide) ?_
    subst hQ
    exact j_iret (u := w_) S hr (rfl) hK hW dL_holds_29 ⟨by decide, by decide⟩ (Or.inl (⟨j_5, x_5, rfl, hp5_0, hp5_1, hp5_2, hp5_3, ⟨_, hU, by first | decide | (intro k hk; simp at hk; omega)⟩, (hCI0.kept hU (by decide)), hOut_, (hU.get hOuD (by first | decide | (simp; done) | (simp; omega)))⟩))
