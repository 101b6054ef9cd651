/-! COUNTFALL: evidence, models, weights (laid by wip/whole/tools, from the specs there) -/
/-! COUNTFALL, numbers of evidence and counts -/
def evI (sd se v : Nat) : Int32 := if sd.testBit v then bI (se.testBit v) else -1
def evSd (sd v : Nat) (e : Int32) : Nat := if e = -1 then nAnd sd (2 ^ v) else sd ||| 2 ^ v
def evSe (se v : Nat) (e : Int32) : Nat := if e = nI 1 then se ||| 2 ^ v else nAnd se (2 ^ v)
def ev3 (e : Int32) : Prop := e = -1 ∨ e = nI 0 ∨ e = nI 1
theorem ev3_t {e : Int32} (h1 : ¬ e < -1) (h2 : e ≤ nI 1) : ev3 e := by
  have a := mt Int32.lt_iff_toInt_lt.mpr h1
  have b := Int32.le_iff_toInt_le.mp h2
  have c : (-1 : Int32).toInt = -1 := by decide
  have d : (nI 1).toInt = 1 := by decide
  rw [c] at a; rw [d] at b
  rcases (show e.toInt = -1 ∨ e.toInt = 0 ∨ e.toInt = 1 by omega) with q | q | q
  · exact Or.inl (Int32.toInt_inj.mp (by rw [q]; decide))
  · exact Or.inr (Or.inl (Int32.toInt_inj.mp (by rw [q]; decide)))
  · exact Or.inr (Or.inr (Int32.toInt_inj.mp (by rw [q]; decide)))
theorem ev3_1 {e : Int32} (h : e < -1) : ¬ ev3 e := by
  rintro (rfl | rfl | rfl) <;> exact absurd h (by decide)
theorem ev3_2 {e : Int32} (h : ¬ e ≤ nI 1) : ¬ ev3 e := by
  rintro (rfl | rfl | rfl) <;> exact h (by decide)
theorem sumI_mono {X Y : Nat → Bool} {f : Nat → Nat} {n : Nat} (h : ∀ a, a < n → X a = true → Y a = true) : sumI X f n ≤ sumI Y f n := by
  induction n with
  | zero => exact Nat.le_refl _
  | succ n ih =>
    simp only [sumI]
    have h1 := ih (fun a ha => h a (by omega))
    by_cases e : X n = true
    · rw [if_pos e, if_pos (h n (by omega) e)]; omega
    · rw [if_neg e]; omega
def prjS (X : Nat → Bool) (x i : Nat) : Nat → Bool := fun b => anyB (fun a => X a && decide (a &&& x = b)) i
theorem prjS_0 (X : Nat → Bool) (x : Nat) : prjS X x 0 = fun _ => false := rfl
theorem prjS_t {X : Nat → Bool} {x i : Nat} (h : X i = true) : upB (prjS X x i) (i &&& x) true = prjS X x (i + 1) := by
  funext b
  show _ = (anyB (fun a => X a && decide (a &&& x = b)) i || (X i && decide (i &&& x = b)))
  unfold upB
  by_cases e : b = i &&& x
  · rw [if_pos e, h, decide_eq_true e.symm]; simp
  · rw [if_neg e, decide_eq_false (fun q => e q.symm), Bool.and_false, Bool.or_false]; rfl
theorem prjS_f {X : Nat → Bool} {x i : Nat} (h : X i = false) : prjS X x (i + 1) = prjS X x i := by
  funext b
  show (anyB (fun a => X a && decide (a &&& x = b)) i || (X i && decide (i &&& x = b))) = _
  rw [h, Bool.false_and, Bool.or_false]; rfl
def impC (f t : Bool) : Nat := if t then (if f then 45 else 116) else (if f then 102 else 110)
theorem anyB_s {g : Nat → Bool} {i : Nat} (h : g i = false) : anyB g (i + 1) = anyB g i := by show (anyB g i || g i) = _; rw [h, Bool.or_false]
theorem anyB_t {g : Nat → Bool} {i : Nat} (h : g i = true) : anyB g (i + 1) = true := by show (anyB g i || g i) = _; rw [h, Bool.or_true]
/-- setEvidence -/
theorem c_X11_setEvidence (l : Launch) (htr : l.stackTraces = false) (D : va_G) (cy : Nat → ClassId) {w : va_W} (ad : Nat → Nat) (n sd se : Nat) (fr : Bool) (v ev : Int32) (hO : w[0]? = some (ad 0, .inr (10, [.int (nI n), .ref (ad 1), .ref (ad 3), .ref (ad 5), .int (nI sd), .int (nI se), .ref (ad 7), .ref (ad 9), .ref (ad 11), .ref (ad 20), .int (bI fr), .ref (ad 23), .ref (ad 26), .ref (ad 31), .ref (ad 42)]))) (hn : n ≤ 10) (hsd : sd < 1024) (hse : se < 1024) : jMx jTexts l yX11_setEvidence (jws yX11_setEvidence cX11_setEvidence 5 (some .int)) (jR 9 2 12) D cy w [.ref (ad 0), .int v, .int ev] 2 12 (fun vv uu => ∃ (x : Nat), vv = some (.int (evI sd se x)) ∧ x < n ∧ v = nI x ∧ ev3 ev ∧ jU w uu [0] ∧ uu[0]? = some (ad 0, .inr (10, [.int (nI n), .ref (ad 1), .ref (ad 3), .ref (ad 5), .int (nI (evSd sd x ev)), .int (nI (evSe se x ev)), .ref (ad 7), .ref (ad 9), .ref (ad 11), .ref (ad 20), .int (bI false), .ref (ad 23), .ref (ad 26), .ref (ad 31), .ref (ad 42)]))) (fun EE uu => ((EE = "java/lang/IndexOutOfBoundsException" ∧ (vB v n = false)) ∨ (EE = "java/lang/IllegalArgumentException" ∧ ((∃ x, x < n ∧ v = nI x) ∧ ¬ ev3 ev))) ∧ w = uu) := by
  refine jx_of (by decide) rfl (Nat.le_of_ble_eq_true rfl) ?_
  intro p e s m args below meth c A ls Q hQ S hr hK hA H locs hW hl htab hx
  have hl : lv_has ls 5 [(0, .ref (ad 0)), (1, .int v), (2, .int ev)] := hl
  refine lv_aload_n S.1 S.2.1 dX11_setEvidence_0 rfl (lv_at hl 0 rfl) ?_
  refine lv_iload_n S.1 S.2.1 dX11_setEvidence_1 rfl (lv_at hl 1 rfl) ?_
  refine jx_callq (k := 0) (ci := 10) (q := (RX11, TX11, 15)) (As := [.int v]) (rest := []) S hK hA hW hQ htab hr hx (c_X11_checkVariable l htr D cy ad n sd se fr v hO   (by omega)) (jgo wm_X11_98) yk_X11_checkVariable hO rfl rfl ⟨⟨rfl, rfl⟩, by decide, by decide⟩ rfl hl.1 rfl (Nat.le_of_ble_eq_true rfl) dX11_setEvidence_2 ⟨Nat.le_of_ble_eq_true rfl, Nat.le_of_ble_eq_true rfl⟩ ⟨by decide, by decide⟩ (fun E u h => by obtain ⟨⟨e1, h⟩, e⟩ := h; exact ⟨Or.inl ⟨e1, by first | exact h | exact Or.inl h | exact Or.inr h | exact Or.inr (Or.inl h) | exact Or.inr (Or.inr h) | omega | (simp at h ⊢; omega)⟩, e⟩) (fun v u H locs hp hW => ?_)
  obtain ⟨xN_2, rfl, hp2_0, hp2_1, rfl⟩ := hp
  refine W.eq (g2 := F0 m 5 ls []) rfl ?_
  subst hp2_1
  refine lv_iload_n S.1 S.2.1 dX11_setEvidence_5 rfl (lv_at hl 2 rfl) ?_
  refine lv_iconst (v := (-1)) S.1 S.2.1 dX11_setEvidence_6 (by decide) ?_
  refine lv_icmp_lt (tgt := 15) S.1 S.2.1 dX11_setEvidence_7 (by decide) (fun c_7 => ?_) (fun c_7 => ?_)
  · subst hQ
    obtain ⟨sa, hsa⟩ := hx.2.1 (168, "the evidence is not from -1 to 1") (by decide)
    exact jx_throw (text := "the evidence is not from -1 to 1") (names := jNm) (sa := sa) S htr jfit_105 jfit_n wcl_X11_101 wini_java_lang_IllegalArgumentException vxg_105 vxn_105 vxh_105 (by decide) hsa hx hK hW hl.1 htab hr.2.1 ⟨by decide, by decide, by decide, by decide⟩ ⟨by decide, by decide⟩ dX11_setEvidence_15 dX11_setEvidence_18 dX11_setEvidence_19 dX11_setEvidence_21 dX11_setEvidence_24 (⟨Or.inr (⟨rfl, ⟨⟨xN_2, hp2_0, rfl⟩, by first | exact ev3_1 c_7 | exact ev3_2 c_12⟩⟩), rfl⟩)
  · refine lv_iload_n S.1 S.2.1 dX11_setEvidence_10 rfl (lv_at hl 2 rfl) ?_
    refine lv_iconst (v := nI 1) S.1 S.2.1 dX11_setEvidence_11 (by decide) ?_
    refine lv_icmp_le (tgt := 25) S.1 S.2.1 dX11_setEvidence_12 (by decide) (fun c_12 => ?_) (fun c_12 => ?_)
    · rcases ev3_t c_7 c_12 with rfl | rfl | rfl
      · refine lv_aload_n S.1 S.2.1 dX11_setEvidence_25 rfl (lv_at hl 0 rfl) ?_
        refine lv_iload_n S.1 S.2.1 dX11_setEvidence_26 rfl (lv_at hl 1 rfl) ?_
        refine j_callV (k := 0) (ci := 10) (q := (RX11, TX11, 15)) (As := [.int (nI xN_2)]) (rest := []) S hK hA hW (c_X11_isSettled l D cy ad n sd se fr xN_2 hO   (by omega) (by omega) (by omega)) (jgo wm_X11_170) yk_X11_isSettled hO rfl rfl ⟨⟨rfl, rfl⟩, by decide, by decide⟩ rfl hl.1 rfl (Nat.le_of_ble_eq_true rfl) dX11_setEvidence_27 ⟨Nat.le_of_ble_eq_true rfl, Nat.le_of_ble_eq_true rfl⟩ (fun v u H locs hp hW => ?_)
        obtain ⟨rfl, rfl⟩ := hp
        refine W.eq (g2 := F0 m 30 ls [.int (bI (sd.testBit xN_2))]) rfl ?_
        refine jb_if_eq (tgt := 44) S dX11_setEvidence_30 (by decide) (fun c_30 => ?_) (fun c_30 => ?_)
        · refine lv_iconst (v := (-1)) S.1 S.2.1 dX11_setEvidence_44 (by decide) ?_
          refine lv_istore_n (lv' := [(3, .int (-1)), (0, .ref (ad 0)), (1, .int (nI xN_2)), (2, .int (-1))]) S.1 S.2.1 dX11_setEvidence_45 rfl hl (by decide) rfl (fun ls hl => ?_)
          refine lv_iconst (v := nI 1) S.1 S.2.1 dX11_setEvidence_46 (by decide) ?_
          refine lv_iload_n S.1 S.2.1 dX11_setEvidence_47 rfl (lv_at hl 2 rfl) ?_
          refine jn_shl1 S (by omega) dX11_setEvidence_48 ?_
          refine lv_istore (lv' := [(4, .int (nI (2 ^ xN_2))), (3, .int (-1)), (0, .ref (ad 0)), (1, .int (nI xN_2)), (2, .int (-1))]) S.1 S.2.1 dX11_setEvidence_49 hl (by decide) rfl (fun ls hl => ?_)
          refine lv_aload_n S.1 S.2.1 dX11_setEvidence_51 rfl (lv_at hl 2 rfl) ?_
          refine lv_iload_n S.1 S.2.1 dX11_setEvidence_52 rfl (lv_at hl 4 rfl) ?_
          refine lv_iconst (v := (-1)) S.1 S.2.1 dX11_setEvidence_53 (by decide) ?_
          refine lv_icmp_ne (tgt := 69) S.1 S.2.1 dX11_setEvidence_54 (by decide) (fun c_54 => ?_) (fun c_54 => ?_)
          · exact absurd rfl c_54
          · refine lv_aload_n S.1 S.2.1 dX11_setEvidence_57 rfl (lv_at hl 2 rfl) ?_
            refine j_get (ci := 10) (C := RX11) (T := TX11) (N := 15) (v := .int (nI sd)) S (fun w h => List.mem_cons_of_mem _ (inG11 w h)) hK hW hO rfl 4 (by decide) (List.mem_cons_of_mem _ wfl_X11_176) (fun _ h9 => h9) rfl dX11_setEvidence_58 ?_
            refine lv_iload S.1 S.2.1 dX11_setEvidence_61 (lv_at hl 0 rfl) ?_
            refine lv_iconst (v := (-1)) S.1 S.2.1 dX11_setEvidence_63 (by decide) ?_
            refine lv_ixor S.1 S.2.1 dX11_setEvidence_64 ?_
            refine jn_andn S dX11_setEvidence_65 ?_
            refine lv_goto (tgt := 76) S.1 S.2.1 dX11_setEvidence_66 (by decide) ?_
            refine j_put (ci := 10) (C := RX11) (T := TX11) (N := 15) (ty := .int) S (fun w h => List.mem_cons_of_mem _ (inG11 w h)) tyX11 tyX11_ok nmX11 hK hW hO rfl 4 (by decide) (List.mem_cons_of_mem _ wfl_X11_176) (fun _ h9 => h9) rfl (by decide +kernel) (rfl) (rfl) (Nat.le_of_ble_eq_true rfl) dX11_setEvidence_76 (fun H locs w_ hU1 hN1 hW => ?_)
            have hU : jU w w_ [0] := jU.mono hU1 (by decide)
            have hO_ : w_[0]? = some (ad 0, .inr (10, [.int (nI n), .ref (ad 1), .ref (ad 3), .ref (ad 5), .int (nI (nAnd sd (2 ^ xN_2))), .int (nI se), .ref (ad 7), .ref (ad 9), .ref (ad 11), .ref (ad 20), .int (bI fr), .ref (ad 23), .ref (ad 26), .ref (ad 31), .ref (ad 42)])) := hN1
            clear hU1 hN1
            refine lv_aload_n S.1 S.2.1 dX11_setEvidence_79 rfl (lv_at hl 2 rfl) ?_
            refine lv_iload_n S.1 S.2.1 dX11_setEvidence_80 rfl (lv_at hl 4 rfl) ?_
            refine lv_iconst (v := nI 1) S.1 S.2.1 dX11_setEvidence_81 (by decide) ?_
            refine lv_icmp_ne (tgt := 95) S.1 S.2.1 dX11_setEvidence_82 (by decide) (fun c_82 => ?_) (fun c_82 => ?_)
            · refine lv_aload_n S.1 S.2.1 dX11_setEvidence_95 rfl (lv_at hl 2 rfl) ?_
              refine j_get (ci := 10) (C := RX11) (T := TX11) (N := 15) (v := .int (nI se)) S (fun w h => List.mem_cons_of_mem _ (inG11 w h)) hK hW hO_ rfl 5 (by decide) (List.mem_cons_of_mem _ wfl_X11_173) (fun _ h9 => h9) rfl dX11_setEvidence_96 ?_
              refine lv_iload S.1 S.2.1 dX11_setEvidence_99 (lv_at hl 0 rfl) ?_
              refine lv_iconst (v := (-1)) S.1 S.2.1 dX11_setEvidence_101 (by decide) ?_
              refine lv_ixor S.1 S.2.1 dX11_setEvidence_102 ?_
              refine jn_andn S dX11_setEvidence_103 ?_
              refine j_put (ci := 10) (C := RX11) (T := TX11) (N := 15) (ty := .int) S (fun w h => List.mem_cons_of_mem _ (inG11 w h)) tyX11 tyX11_ok nmX11 hK hW hO_ rfl 5 (by decide) (List.mem_cons_of_mem _ wfl_X11_173) (fun _ h9 => h9) rfl (by decide +kernel) (rfl) (rfl) (Nat.le_of_ble_eq_true rfl) dX11_setEvidence_104 (fun H locs w_ hU1 hN1 hW => ?_)
              have hU := hU.then hU1 (by decide)
              have hO_ : w_[0]? = some (ad 0, .inr (10, [.int (nI n), .ref (ad 1), .ref (ad 3), .ref (ad 5), .int (nI (nAnd sd (2 ^ xN_2))), .int (nI (nAnd se (2 ^ xN_2))), .ref (ad 7), .ref (ad 9), .ref (ad 11), .ref (ad 20), .int (bI fr), .ref (ad 23), .ref (ad 26), .ref (ad 31), .ref (ad 42)])) := hN1
              clear hU1 hN1
              refine lv_aload_n S.1 S.2.1 dX11_setEvidence_107 rfl (lv_at hl 2 rfl) ?_
              refine lv_iconst (v := nI 0) S.1 S.2.1 dX11_setEvidence_108 (by decide) ?_
              refine j_put (ci := 10) (C := RX11) (T := TX11) (N := 15) (ty := .boolean) S (fun w h => List.mem_cons_of_mem _ (inG11 w h)) tyX11 tyX11_ok nmX11 hK hW hO_ rfl 10 (by decide) (List.mem_cons_of_mem _ wfl_X11_94) (fun _ h9 => h9) rfl (by decide +kernel) (rfl) (rfl) (Nat.le_of_ble_eq_true rfl) dX11_setEvidence_109 (fun H locs w_ hU1 hN1 hW => ?_)
              have hU := hU.then hU1 (by decide)
              have hO_ : w_[0]? = some (ad 0, .inr (10, [.int (nI n), .ref (ad 1), .ref (ad 3), .ref (ad 5), .int (nI (nAnd sd (2 ^ xN_2))), .int (nI (nAnd se (2 ^ xN_2))), .ref (ad 7), .ref (ad 9), .ref (ad 11), .ref (ad 20), .int (nI 0), .ref (ad 23), .ref (ad 26), .ref (ad 31), .ref (ad 42)])) := hN1
              clear hU1 hN1
              refine lv_iload_n S.1 S.2.1 dX11_setEvidence_112 rfl (lv_at hl 1 rfl) ?_
              subst hQ
              refine vx_ret ?_
              exact j_iret (u := w_) S hr (rfl) hK hW dX11_setEvidence_113 ⟨by decide, by decide⟩ (⟨xN_2, by rw [evI]; first | (rw [c_30]; rfl) | (rw [c_30, ← nI_bit]; rfl), hp2_0, rfl, by first | exact Or.inl rfl | exact Or.inr (Or.inl rfl) | exact Or.inr (Or.inr rfl), hU, hO_⟩)
            · exact absurd c_82 (by decide)
        · refine lv_aload_n S.1 S.2.1 dX11_setEvidence_33 rfl (lv_at hl 0 rfl) ?_
          refine j_get (ci := 10) (C := RX11) (T := TX11) (N := 15) (v := .int (nI se)) S (fun w h => List.mem_cons_of_mem _ (inG11 w h)) hK hW hO rfl 5 (by decide) (List.mem_cons_of_mem _ wfl_X11_173) (fun _ h9 => h9) rfl dX11_setEvidence_34 ?_
          refine lv_iload_n S.1 S.2.1 dX11_setEvidence_37 rfl (lv_at hl 1 rfl) ?_
          refine jn_shr S (by omega) (by omega) dX11_setEvidence_38 ?_
          refine lv_iconst (v := nI 1) S.1 S.2.1 dX11_setEvidence_39 (by decide) ?_
          refine jn_and S dX11_setEvidence_40 ?_
          refine lv_goto (tgt := 45) S.1 S.2.1 dX11_setEvidence_41 (by decide) ?_
          refine lv_istore_n (lv' := [(3, .int (nI ((se >>> xN_2) &&& 1))), (0, .ref (ad 0)), (1, .int (nI xN_2)), (2, .int (-1))]) S.1 S.2.1 dX11_setEvidence_45 rfl hl (by decide) rfl (fun ls hl => ?_)
          refine lv_iconst (v := nI 1) S.1 S.2.1 dX11_setEvidence_46 (by decide) ?_
          refine lv_iload_n S.1 S.2.1 dX11_setEvidence_47 rfl (lv_at hl 2 rfl) ?_
          refine jn_shl1 S (by omega) dX11_setEvidence_48 ?_
          refine lv_istore (lv' := [(4, .int (nI (2 ^ xN_2))), (3, .int (nI ((se >>> xN_2) &&& 1))), (0, .ref (ad 0)), (1, .int (nI xN_2)), (2, .int (-1))]) S.1 S.2.1 dX11_setEvidence_49 hl (by decide) rfl (fun ls hl => ?_)
          refine lv_aload_n S.1 S.2.1 dX11_setEvidence_51 rfl (lv_at hl 2 rfl) ?_
          refine lv_iload_n S.1 S.2.1 dX11_setEvidence_52 rfl (lv_at hl 4 rfl) ?_
          refine lv_iconst (v := (-1)) S.1 S.2.1 dX11_setEvidence_53 (by decide) ?_
          refine lv_icmp_ne (tgt := 69) S.1 S.2.1 dX11_setEvidence_54 (by decide) (fun c_54 => ?_) (fun c_54 => ?_)
          · exact absurd rfl c_54
          · refine lv_aload_n S.1 S.2.1 dX11_setEvidence_57 rfl (lv_at hl 2 rfl) ?_
            refine j_get (ci := 10) (C := RX11) (T := TX11) (N := 15) (v := .int (nI sd)) S (fun w h => List.mem_cons_of_mem _ (inG11 w h)) hK hW hO rfl 4 (by decide) (List.mem_cons_of_mem _ wfl_X11_176) (fun _ h9 => h9) rfl dX11_setEvidence_58 ?_
            refine lv_iload S.1 S.2.1 dX11_setEvidence_61 (lv_at hl 0 rfl) ?_
            refine lv_iconst (v := (-1)) S.1 S.2.1 dX11_setEvidence_63 (by decide) ?_
            refine lv_ixor S.1 S.2.1 dX11_setEvidence_64 ?_
            refine jn_andn S dX11_setEvidence_65 ?_
            refine lv_goto (tgt := 76) S.1 S.2.1 dX11_setEvidence_66 (by decide) ?_
            refine j_put (ci := 10) (C := RX11) (T := TX11) (N := 15) (ty := .int) S (fun w h => List.mem_cons_of_mem _ (inG11 w h)) tyX11 tyX11_ok nmX11 hK hW hO rfl 4 (by decide) (List.mem_cons_of_mem _ wfl_X11_176) (fun _ h9 => h9) rfl (by decide +kernel) (rfl) (rfl) (Nat.le_of_ble_eq_true rfl) dX11_setEvidence_76 (fun H locs w_ hU1 hN1 hW => ?_)
            have hU : jU w w_ [0] := jU.mono hU1 (by decide)
            have hO_ : w_[0]? = some (ad 0, .inr (10, [.int (nI n), .ref (ad 1), .ref (ad 3), .ref (ad 5), .int (nI (nAnd sd (2 ^ xN_2))), .int (nI se), .ref (ad 7), .ref (ad 9), .ref (ad 11), .ref (ad 20), .int (bI fr), .ref (ad 23), .ref (ad 26), .ref (ad 31), .ref (ad 42)])) := hN1
            clear hU1 hN1
            refine lv_aload_n S.1 S.2.1 dX11_setEvidence_79 rfl (lv_at hl 2 rfl) ?_
            refine lv_iload_n S.1 S.2.1 dX11_setEvidence_80 rfl (lv_at hl 4 rfl) ?_
            refine lv_iconst (v := nI 1) S.1 S.2.1 dX11_setEvidence_81 (by decide) ?_
            refine lv_icmp_ne (tgt := 95) S.1 S.2.1 dX11_setEvidence_82 (by decide) (fun c_82 => ?_) (fun c_82 => ?_)
            · refine lv_aload_n S.1 S.2.1 dX11_setEvidence_95 rfl (lv_at hl 2 rfl) ?_
              refine j_get (ci := 10) (C := RX11) (T := TX11) (N := 15) (v := .int (nI se)) S (fun w h => List.mem_cons_of_mem _ (inG11 w h)) hK hW hO_ rfl 5 (by decide) (List.mem_cons_of_mem _ wfl_X11_173) (fun _ h9 => h9) rfl dX11_setEvidence_96 ?_
              refine lv_iload S.1 S.2.1 dX11_setEvidence_99 (lv_at hl 0 rfl) ?_
              refine lv_iconst (v := (-1)) S.1 S.2.1 dX11_setEvidence_101 (by decide) ?_
              refine lv_ixor S.1 S.2.1 dX11_setEvidence_102 ?_
              refine jn_andn S dX11_setEvidence_103 ?_
              refine j_put (ci := 10) (C := RX11) (T := TX11) (N := 15) (ty := .int) S (fun w h => List.mem_cons_of_mem _ (inG11 w h)) tyX11 tyX11_ok nmX11 hK hW hO_ rfl 5 (by decide) (List.mem_cons_of_mem _ wfl_X11_173) (fun _ h9 => h9) rfl (by decide +kernel) (rfl) (rfl) (Nat.le_of_ble_eq_true rfl) dX11_setEvidence_104 (fun H locs w_ hU1 hN1 hW => ?_)
              have hU := hU.then hU1 (by decide)
              have hO_ : w_[0]? = some (ad 0, .inr (10, [.int (nI n), .ref (ad 1), .ref (ad 3), .ref (ad 5), .int (nI (nAnd sd (2 ^ xN_2))), .int (nI (nAnd se (2 ^ xN_2))), .ref (ad 7), .ref (ad 9), .ref (ad 11), .ref (ad 20), .int (bI fr), .ref (ad 23), .ref (ad 26), .ref (ad 31), .ref (ad 42)])) := hN1
              clear hU1 hN1
              refine lv_aload_n S.1 S.2.1 dX11_setEvidence_107 rfl (lv_at hl 2 rfl) ?_
              refine lv_iconst (v := nI 0) S.1 S.2.1 dX11_setEvidence_108 (by decide) ?_
              refine j_put (ci := 10) (C := RX11) (T := TX11) (N := 15) (ty := .boolean) S (fun w h => List.mem_cons_of_mem _ (inG11 w h)) tyX11 tyX11_ok nmX11 hK hW hO_ rfl 10 (by decide) (List.mem_cons_of_mem _ wfl_X11_94) (fun _ h9 => h9) rfl (by decide +kernel) (rfl) (rfl) (Nat.le_of_ble_eq_true rfl) dX11_setEvidence_109 (fun H locs w_ hU1 hN1 hW => ?_)
              have hU := hU.then hU1 (by decide)
              have hO_ : w_[0]? = some (ad 0, .inr (10, [.int (nI n), .ref (ad 1), .ref (ad 3), .ref (ad 5), .int (nI (nAnd sd (2 ^ xN_2))), .int (nI (nAnd se (2 ^ xN_2))), .ref (ad 7), .ref (ad 9), .ref (ad 11), .ref (ad 20), .int (nI 0), .ref (ad 23), .ref (ad 26), .ref (ad 31), .ref (ad 42)])) := hN1
              clear hU1 hN1
              refine lv_iload_n S.1 S.2.1 dX11_setEvidence_112 rfl (lv_at hl 1 rfl) ?_
              subst hQ
              refine vx_ret ?_
              exact j_iret (u := w_) S hr (rfl) hK hW dX11_setEvidence_113 ⟨by decide, by decide⟩ (⟨xN_2, by rw [evI]; first | (rw [c_30]; rfl) | (rw [c_30, ← nI_bit]; rfl), hp2_0, rfl, by first | exact Or.inl rfl | exact Or.inr (Or.inl rfl) | exact Or.inr (Or.inr rfl), hU, hO_⟩)
            · exact absurd c_82 (by decide)
      · refine lv_aload_n S.1 S.2.1 dX11_setEvidence_25 rfl (lv_at hl 0 rfl) ?_
        refine lv_iload_n S.1 S.2.1 dX11_setEvidence_26 rfl (lv_at hl 1 rfl) ?_
        refine j_callV (k := 0) (ci := 10) (q := (RX11, TX11, 15)) (As := [.int (nI xN_2)]) (rest := []) S hK hA hW (c_X11_isSettled l D cy ad n sd se fr xN_2 hO   (by omega) (by omega) (by omega)) (jgo wm_X11_170) yk_X11_isSettled hO rfl rfl ⟨⟨rfl, rfl⟩, by decide, by decide⟩ rfl hl.1 rfl (Nat.le_of_ble_eq_true rfl) dX11_setEvidence_27 ⟨Nat.le_of_ble_eq_true rfl, Nat.le_of_ble_eq_true rfl⟩ (fun v u H locs hp hW => ?_)
        obtain ⟨rfl, rfl⟩ := hp
        refine W.eq (g2 := F0 m 30 ls [.int (bI (sd.testBit xN_2))]) rfl ?_
        refine jb_if_eq (tgt := 44) S dX11_setEvidence_30 (by decide) (fun c_30 => ?_) (fun c_30 => ?_)
        · refine lv_iconst (v := (-1)) S.1 S.2.1 dX11_setEvidence_44 (by decide) ?_
          refine lv_istore_n (lv' := [(3, .int (-1)), (0, .ref (ad 0)), (1, .int (nI xN_2)), (2, .int (nI 0))]) S.1 S.2.1 dX11_setEvidence_45 rfl hl (by decide) rfl (fun ls hl => ?_)
          refine lv_iconst (v := nI 1) S.1 S.2.1 dX11_setEvidence_46 (by decide) ?_
          refine lv_iload_n S.1 S.2.1 dX11_setEvidence_47 rfl (lv_at hl 2 rfl) ?_
          refine jn_shl1 S (by omega) dX11_setEvidence_48 ?_
          refine lv_istore (lv' := [(4, .int (nI (2 ^ xN_2))), (3, .int (-1)), (0, .ref (ad 0)), (1, .int (nI xN_2)), (2, .int (nI 0))]) S.1 S.2.1 dX11_setEvidence_49 hl (by decide) rfl (fun ls hl => ?_)
          refine lv_aload_n S.1 S.2.1 dX11_setEvidence_51 rfl (lv_at hl 2 rfl) ?_
          refine lv_iload_n S.1 S.2.1 dX11_setEvidence_52 rfl (lv_at hl 4 rfl) ?_
          refine lv_iconst (v := (-1)) S.1 S.2.1 dX11_setEvidence_53 (by decide) ?_
          refine lv_icmp_ne (tgt := 69) S.1 S.2.1 dX11_setEvidence_54 (by decide) (fun c_54 => ?_) (fun c_54 => ?_)
          · refine lv_aload_n S.1 S.2.1 dX11_setEvidence_69 rfl (lv_at hl 2 rfl) ?_
            refine j_get (ci := 10) (C := RX11) (T := TX11) (N := 15) (v := .int (nI sd)) S (fun w h => List.mem_cons_of_mem _ (inG11 w h)) hK hW hO rfl 4 (by decide) (List.mem_cons_of_mem _ wfl_X11_176) (fun _ h9 => h9) rfl dX11_setEvidence_70 ?_
            refine lv_iload S.1 S.2.1 dX11_setEvidence_73 (lv_at hl 0 rfl) ?_
            refine jn_or S dX11_setEvidence_75 ?_
            refine j_put (ci := 10) (C := RX11) (T := TX11) (N := 15) (ty := .int) S (fun w h => List.mem_cons_of_mem _ (inG11 w h)) tyX11 tyX11_ok nmX11 hK hW hO rfl 4 (by decide) (List.mem_cons_of_mem _ wfl_X11_176) (fun _ h9 => h9) rfl (by decide +kernel) (rfl) (rfl) (Nat.le_of_ble_eq_true rfl) dX11_setEvidence_76 (fun H locs w_ hU1 hN1 hW => ?_)
            have hU : jU w w_ [0] := jU.mono hU1 (by decide)
            have hO_ : w_[0]? = some (ad 0, .inr (10, [.int (nI n), .ref (ad 1), .ref (ad 3), .ref (ad 5), .int (nI (sd ||| (2 ^ xN_2))), .int (nI se), .ref (ad 7), .ref (ad 9), .ref (ad 11), .ref (ad 20), .int (bI fr), .ref (ad 23), .ref (ad 26), .ref (ad 31), .ref (ad 42)])) := hN1
            clear hU1 hN1
            refine lv_aload_n S.1 S.2.1 dX11_setEvidence_79 rfl (lv_at hl 2 rfl) ?_
            refine lv_iload_n S.1 S.2.1 dX11_setEvidence_80 rfl (lv_at hl 4 rfl) ?_
            refine lv_iconst (v := nI 1) S.1 S.2.1 dX11_setEvidence_81 (by decide) ?_
            refine jn_cmp_ne (tgt := 95) S (by omega) (by omega) dX11_setEvidence_82 (by decide) (fun c_82 => ?_) (fun c_82 => ?_)
            · refine lv_aload_n S.1 S.2.1 dX11_setEvidence_95 rfl (lv_at hl 2 rfl) ?_
              refine j_get (ci := 10) (C := RX11) (T := TX11) (N := 15) (v := .int (nI se)) S (fun w h => List.mem_cons_of_mem _ (inG11 w h)) hK hW hO_ rfl 5 (by decide) (List.mem_cons_of_mem _ wfl_X11_173) (fun _ h9 => h9) rfl dX11_setEvidence_96 ?_
              refine lv_iload S.1 S.2.1 dX11_setEvidence_99 (lv_at hl 0 rfl) ?_
              refine lv_iconst (v := (-1)) S.1 S.2.1 dX11_setEvidence_101 (by decide) ?_
              refine lv_ixor S.1 S.2.1 dX11_setEvidence_102 ?_
              refine jn_andn S dX11_setEvidence_103 ?_
              refine j_put (ci := 10) (C := RX11) (T := TX11) (N := 15) (ty := .int) S (fun w h => List.mem_cons_of_mem _ (inG11 w h)) tyX11 tyX11_ok nmX11 hK hW hO_ rfl 5 (by decide) (List.mem_cons_of_mem _ wfl_X11_173) (fun _ h9 => h9) rfl (by decide +kernel) (rfl) (rfl) (Nat.le_of_ble_eq_true rfl) dX11_setEvidence_104 (fun H locs w_ hU1 hN1 hW => ?_)
              have hU := hU.then hU1 (by decide)
              have hO_ : w_[0]? = some (ad 0, .inr (10, [.int (nI n), .ref (ad 1), .ref (ad 3), .ref (ad 5), .int (nI (sd ||| (2 ^ xN_2))), .int (nI (nAnd se (2 ^ xN_2))), .ref (ad 7), .ref (ad 9), .ref (ad 11), .ref (ad 20), .int (bI fr), .ref (ad 23), .ref (ad 26), .ref (ad 31), .ref (ad 42)])) := hN1
              clear hU1 hN1
              refine lv_aload_n S.1 S.2.1 dX11_setEvidence_107 rfl (lv_at hl 2 rfl) ?_
              refine lv_iconst (v := nI 0) S.1 S.2.1 dX11_setEvidence_108 (by decide) ?_
              refine j_put (ci := 10) (C := RX11) (T := TX11) (N := 15) (ty := .boolean) S (fun w h => List.mem_cons_of_mem _ (inG11 w h)) tyX11 tyX11_ok nmX11 hK hW hO_ rfl 10 (by decide) (List.mem_cons_of_mem _ wfl_X11_94) (fun _ h9 => h9) rfl (by decide +kernel) (rfl) (rfl) (Nat.le_of_ble_eq_true rfl) dX11_setEvidence_109 (fun H locs w_ hU1 hN1 hW => ?_)
              have hU := hU.then hU1 (by decide)
              have hO_ : w_[0]? = some (ad 0, .inr (10, [.int (nI n), .ref (ad 1), .ref (ad 3), .ref (ad 5), .int (nI (sd ||| (2 ^ xN_2))), .int (nI (nAnd se (2 ^ xN_2))), .ref (ad 7), .ref (ad 9), .ref (ad 11), .ref (ad 20), .int (nI 0), .ref (ad 23), .ref (ad 26), .ref (ad 31), .ref (ad 42)])) := hN1
              clear hU1 hN1
              refine lv_iload_n S.1 S.2.1 dX11_setEvidence_112 rfl (lv_at hl 1 rfl) ?_
              subst hQ
              refine vx_ret ?_
              exact j_iret (u := w_) S hr (rfl) hK hW dX11_setEvidence_113 ⟨by decide, by decide⟩ (⟨xN_2, by rw [evI]; first | (rw [c_30]; rfl) | (rw [c_30, ← nI_bit]; rfl), hp2_0, rfl, by first | exact Or.inl rfl | exact Or.inr (Or.inl rfl) | exact Or.inr (Or.inr rfl), hU, hO_⟩)
            · exact absurd c_82 (by decide)
          · exact absurd c_54 (by decide)
        · refine lv_aload_n S.1 S.2.1 dX11_setEvidence_33 rfl (lv_at hl 0 rfl) ?_
          refine j_get (ci := 10) (C := RX11) (T := TX11) (N := 15) (v := .int (nI se)) S (fun w h => List.mem_cons_of_mem _ (inG11 w h)) hK hW hO rfl 5 (by decide) (List.mem_cons_of_mem _ wfl_X11_173) (fun _ h9 => h9) rfl dX11_setEvidence_34 ?_
          refine lv_iload_n S.1 S.2.1 dX11_setEvidence_37 rfl (lv_at hl 1 rfl) ?_
          refine jn_shr S (by omega) (by omega) dX11_setEvidence_38 ?_
          refine lv_iconst (v := nI 1) S.1 S.2.1 dX11_setEvidence_39 (by decide) ?_
          refine jn_and S dX11_setEvidence_40 ?_
          refine lv_goto (tgt := 45) S.1 S.2.1 dX11_setEvidence_41 (by decide) ?_
          refine lv_istore_n (lv' := [(3, .int (nI ((se >>> xN_2) &&& 1))), (0, .ref (ad 0)), (1, .int (nI xN_2)), (2, .int (nI 0))]) S.1 S.2.1 dX11_setEvidence_45 rfl hl (by decide) rfl (fun ls hl => ?_)
          refine lv_iconst (v := nI 1) S.1 S.2.1 dX11_setEvidence_46 (by decide) ?_
          refine lv_iload_n S.1 S.2.1 dX11_setEvidence_47 rfl (lv_at hl 2 rfl) ?_
          refine jn_shl1 S (by omega) dX11_setEvidence_48 ?_
          refine lv_istore (lv' := [(4, .int (nI (2 ^ xN_2))), (3, .int (nI ((se >>> xN_2) &&& 1))), (0, .ref (ad 0)), (1, .int (nI xN_2)), (2, .int (nI 0))]) S.1 S.2.1 dX11_setEvidence_49 hl (by decide) rfl (fun ls hl => ?_)
          refine lv_aload_n S.1 S.2.1 dX11_setEvidence_51 rfl (lv_at hl 2 rfl) ?_
          refine lv_iload_n S.1 S.2.1 dX11_setEvidence_52 rfl (lv_at hl 4 rfl) ?_
          refine lv_iconst (v := (-1)) S.1 S.2.1 dX11_setEvidence_53 (by decide) ?_
          refine lv_icmp_ne (tgt := 69) S.1 S.2.1 dX11_setEvidence_54 (by decide) (fun c_54 => ?_) (fun c_54 => ?_)
          · refine lv_aload_n S.1 S.2.1 dX11_setEvidence_69 rfl (lv_at hl 2 rfl) ?_
            refine j_get (ci := 10) (C := RX11) (T := TX11) (N := 15) (v := .int (nI sd)) S (fun w h => List.mem_cons_of_mem _ (inG11 w h)) hK hW hO rfl 4 (by decide) (List.mem_cons_of_mem _ wfl_X11_176) (fun _ h9 => h9) rfl dX11_setEvidence_70 ?_
            refine lv_iload S.1 S.2.1 dX11_setEvidence_73 (lv_at hl 0 rfl) ?_
            refine jn_or S dX11_setEvidence_75 ?_
            refine j_put (ci := 10) (C := RX11) (T := TX11) (N := 15) (ty := .int) S (fun w h => List.mem_cons_of_mem _ (inG11 w h)) tyX11 tyX11_ok nmX11 hK hW hO rfl 4 (by decide) (List.mem_cons_of_mem _ wfl_X11_176) (fun _ h9 => h9) rfl (by decide +kernel) (rfl) (rfl) (Nat.le_of_ble_eq_true rfl) dX11_setEvidence_76 (fun H locs w_ hU1 hN1 hW => ?_)
            have hU : jU w w_ [0] := jU.mono hU1 (by decide)
            have hO_ : w_[0]? = some (ad 0, .inr (10, [.int (nI n), .ref (ad 1), .ref (ad 3), .ref (ad 5), .int (nI (sd ||| (2 ^ xN_2))), .int (nI se), .ref (ad 7), .ref (ad 9), .ref (ad 11), .ref (ad 20), .int (bI fr), .ref (ad 23), .ref (ad 26), .ref (ad 31), .ref (ad 42)])) := hN1
            clear hU1 hN1
            refine lv_aload_n S.1 S.2.1 dX11_setEvidence_79 rfl (lv_at hl 2 rfl) ?_
            refine lv_iload_n S.1 S.2.1 dX11_setEvidence_80 rfl (lv_at hl 4 rfl) ?_
            refine lv_iconst (v := nI 1) S.1 S.2.1 dX11_setEvidence_81 (by decide) ?_
            refine jn_cmp_ne (tgt := 95) S (by omega) (by omega) dX11_setEvidence_82 (by decide) (fun c_82 => ?_) (fun c_82 => ?_)
            · refine lv_aload_n S.1 S.2.1 dX11_setEvidence_95 rfl (lv_at hl 2 rfl) ?_
              refine j_get (ci := 10) (C := RX11) (T := TX11) (N := 15) (v := .int (nI se)) S (fun w h => List.mem_cons_of_mem _ (inG11 w h)) hK hW hO_ rfl 5 (by decide) (List.mem_cons_of_mem _ wfl_X11_173) (fun _ h9 => h9) rfl dX11_setEvidence_96 ?_
              refine lv_iload S.1 S.2.1 dX11_setEvidence_99 (lv_at hl 0 rfl) ?_
              refine lv_iconst (v := (-1)) S.1 S.2.1 dX11_setEvidence_101 (by decide) ?_
              refine lv_ixor S.1 S.2.1 dX11_setEvidence_102 ?_
              refine jn_andn S dX11_setEvidence_103 ?_
              refine j_put (ci := 10) (C := RX11) (T := TX11) (N := 15) (ty := .int) S (fun w h => List.mem_cons_of_mem _ (inG11 w h)) tyX11 tyX11_ok nmX11 hK hW hO_ rfl 5 (by decide) (List.mem_cons_of_mem _ wfl_X11_173) (fun _ h9 => h9) rfl (by decide +kernel) (rfl) (rfl) (Nat.le_of_ble_eq_true rfl) dX11_setEvidence_104 (fun H locs w_ hU1 hN1 hW => ?_)
              have hU := hU.then hU1 (by decide)
              have hO_ : w_[0]? = some (ad 0, .inr (10, [.int (nI n), .ref (ad 1), .ref (ad 3), .ref (ad 5), .int (nI (sd ||| (2 ^ xN_2))), .int (nI (nAnd se (2 ^ xN_2))), .ref (ad 7), .ref (ad 9), .ref (ad 11), .ref (ad 20), .int (bI fr), .ref (ad 23), .ref (ad 26), .ref (ad 31), .ref (ad 42)])) := hN1
              clear hU1 hN1
              refine lv_aload_n S.1 S.2.1 dX11_setEvidence_107 rfl (lv_at hl 2 rfl) ?_
              refine lv_iconst (v := nI 0) S.1 S.2.1 dX11_setEvidence_108 (by decide) ?_
              refine j_put (ci := 10) (C := RX11) (T := TX11) (N := 15) (ty := .boolean) S (fun w h => List.mem_cons_of_mem _ (inG11 w h)) tyX11 tyX11_ok nmX11 hK hW hO_ rfl 10 (by decide) (List.mem_cons_of_mem _ wfl_X11_94) (fun _ h9 => h9) rfl (by decide +kernel) (rfl) (rfl) (Nat.le_of_ble_eq_true rfl) dX11_setEvidence_109 (fun H locs w_ hU1 hN1 hW => ?_)
              have hU := hU.then hU1 (by decide)
              have hO_ : w_[0]? = some (ad 0, .inr (10, [.int (nI n), .ref (ad 1), .ref (ad 3), .ref (ad 5), .int (nI (sd ||| (2 ^ xN_2))), .int (nI (nAnd se (2 ^ xN_2))), .ref (ad 7), .ref (ad 9), .ref (ad 11), .ref (ad 20), .int (nI 0), .ref (ad 23), .ref (ad 26), .ref (ad 31), .ref (ad 42)])) := hN1
              clear hU1 hN1
              refine lv_iload_n S.1 S.2.1 dX11_setEvidence_112 rfl (lv_at hl 1 rfl) ?_
              subst hQ
              refine vx_ret ?_
              exact j_iret (u := w_) S hr (rfl) hK hW dX11_setEvidence_113 ⟨by decide, by decide⟩ (⟨xN_2, by rw [evI]; first | (rw [c_30]; rfl) | (rw [c_30, ← nI_bit]; rfl), hp2_0, rfl, by first | exact Or.inl rfl | exact Or.inr (Or.inl rfl) | exact Or.inr (Or.inr rfl), hU, hO_⟩)
            · exact absurd c_82 (by decide)
          · exact absurd c_54 (by decide)
      · refine lv_aload_n S.1 S.2.1 dX11_setEvidence_25 rfl (lv_at hl 0 rfl) ?_
        refine lv_iload_n S.1 S.2.1 dX11_setEvidence_26 rfl (lv_at hl 1 rfl) ?_
        refine j_callV (k := 0) (ci := 10) (q := (RX11, TX11, 15)) (As := [.int (nI xN_2)]) (rest := []) S hK hA hW (c_X11_isSettled l D cy ad n sd se fr xN_2 hO   (by omega) (by omega) (by omega)) (jgo wm_X11_170) yk_X11_isSettled hO rfl rfl ⟨⟨rfl, rfl⟩, by decide, by decide⟩ rfl hl.1 rfl (Nat.le_of_ble_eq_true rfl) dX11_setEvidence_27 ⟨Nat.le_of_ble_eq_true rfl, Nat.le_of_ble_eq_true rfl⟩ (fun v u H locs hp hW => ?_)
        obtain ⟨rfl, rfl⟩ := hp
        refine W.eq (g2 := F0 m 30 ls [.int (bI (sd.testBit xN_2))]) rfl ?_
        refine jb_if_eq (tgt := 44) S dX11_setEvidence_30 (by decide) (fun c_30 => ?_) (fun c_30 => ?_)
        · refine lv_iconst (v := (-1)) S.1 S.2.1 dX11_setEvidence_44 (by decide) ?_
          refine lv_istore_n (lv' := [(3, .int (-1)), (0, .ref (ad 0)), (1, .int (nI xN_2)), (2, .int (nI 1))]) S.1 S.2.1 dX11_setEvidence_45 rfl hl (by decide) rfl (fun ls hl => ?_)
          refine lv_iconst (v := nI 1) S.1 S.2.1 dX11_setEvidence_46 (by decide) ?_
          refine lv_iload_n S.1 S.2.1 dX11_setEvidence_47 rfl (lv_at hl 2 rfl) ?_
          refine jn_shl1 S (by omega) dX11_setEvidence_48 ?_
          refine lv_istore (lv' := [(4, .int (nI (2 ^ xN_2))), (3, .int (-1)), (0, .ref (ad 0)), (1, .int (nI xN_2)), (2, .int (nI 1))]) S.1 S.2.1 dX11_setEvidence_49 hl (by decide) rfl (fun ls hl => ?_)
          refine lv_aload_n S.1 S.2.1 dX11_setEvidence_51 rfl (lv_at hl 2 rfl) ?_
          refine lv_iload_n S.1 S.2.1 dX11_setEvidence_52 rfl (lv_at hl 4 rfl) ?_
          refine lv_iconst (v := (-1)) S.1 S.2.1 dX11_setEvidence_53 (by decide) ?_
          refine lv_icmp_ne (tgt := 69) S.1 S.2.1 dX11_setEvidence_54 (by decide) (fun c_54 => ?_) (fun c_54 => ?_)
          · refine lv_aload_n S.1 S.2.1 dX11_setEvidence_69 rfl (lv_at hl 2 rfl) ?_
            refine j_get (ci := 10) (C := RX11) (T := TX11) (N := 15) (v := .int (nI sd)) S (fun w h => List.mem_cons_of_mem _ (inG11 w h)) hK hW hO rfl 4 (by decide) (List.mem_cons_of_mem _ wfl_X11_176) (fun _ h9 => h9) rfl dX11_setEvidence_70 ?_
            refine lv_iload S.1 S.2.1 dX11_setEvidence_73 (lv_at hl 0 rfl) ?_
            refine jn_or S dX11_setEvidence_75 ?_
            refine j_put (ci := 10) (C := RX11) (T := TX11) (N := 15) (ty := .int) S (fun w h => List.mem_cons_of_mem _ (inG11 w h)) tyX11 tyX11_ok nmX11 hK hW hO rfl 4 (by decide) (List.mem_cons_of_mem _ wfl_X11_176) (fun _ h9 => h9) rfl (by decide +kernel) (rfl) (rfl) (Nat.le_of_ble_eq_true rfl) dX11_setEvidence_76 (fun H locs w_ hU1 hN1 hW => ?_)
            have hU : jU w w_ [0] := jU.mono hU1 (by decide)
            have hO_ : w_[0]? = some (ad 0, .inr (10, [.int (nI n), .ref (ad 1), .ref (ad 3), .ref (ad 5), .int (nI (sd ||| (2 ^ xN_2))), .int (nI se), .ref (ad 7), .ref (ad 9), .ref (ad 11), .ref (ad 20), .int (bI fr), .ref (ad 23), .ref (ad 26), .ref (ad 31), .ref (ad 42)])) := hN1
            clear hU1 hN1
            refine lv_aload_n S.1 S.2.1 dX11_setEvidence_79 rfl (lv_at hl 2 rfl) ?_
            refine lv_iload_n S.1 S.2.1 dX11_setEvidence_80 rfl (lv_at hl 4 rfl) ?_
            refine lv_iconst (v := nI 1) S.1 S.2.1 dX11_setEvidence_81 (by decide) ?_
            refine jn_cmp_ne (tgt := 95) S (by omega) (by omega) dX11_setEvidence_82 (by decide) (fun c_82 => ?_) (fun c_82 => ?_)
            · exact absurd rfl c_82
            · refine lv_aload_n S.1 S.2.1 dX11_setEvidence_85 rfl (lv_at hl 2 rfl) ?_
              refine j_get (ci := 10) (C := RX11) (T := TX11) (N := 15) (v := .int (nI se)) S (fun w h => List.mem_cons_of_mem _ (inG11 w h)) hK hW hO_ rfl 5 (by decide) (List.mem_cons_of_mem _ wfl_X11_173) (fun _ h9 => h9) rfl dX11_setEvidence_86 ?_
              refine lv_iload S.1 S.2.1 dX11_setEvidence_89 (lv_at hl 0 rfl) ?_
              refine jn_or S dX11_setEvidence_91 ?_
              refine lv_goto (tgt := 104) S.1 S.2.1 dX11_setEvidence_92 (by decide) ?_
              refine j_put (ci := 10) (C := RX11) (T := TX11) (N := 15) (ty := .int) S (fun w h => List.mem_cons_of_mem _ (inG11 w h)) tyX11 tyX11_ok nmX11 hK hW hO_ rfl 5 (by decide) (List.mem_cons_of_mem _ wfl_X11_173) (fun _ h9 => h9) rfl (by decide +kernel) (rfl) (rfl) (Nat.le_of_ble_eq_true rfl) dX11_setEvidence_104 (fun H locs w_ hU1 hN1 hW => ?_)
              have hU := hU.then hU1 (by decide)
              have hO_ : w_[0]? = some (ad 0, .inr (10, [.int (nI n), .ref (ad 1), .ref (ad 3), .ref (ad 5), .int (nI (sd ||| (2 ^ xN_2))), .int (nI (se ||| (2 ^ xN_2))), .ref (ad 7), .ref (ad 9), .ref (ad 11), .ref (ad 20), .int (bI fr), .ref (ad 23), .ref (ad 26), .ref (ad 31), .ref (ad 42)])) := hN1
              clear hU1 hN1
              refine lv_aload_n S.1 S.2.1 dX11_setEvidence_107 rfl (lv_at hl 2 rfl) ?_
              refine lv_iconst (v := nI 0) S.1 S.2.1 dX11_setEvidence_108 (by decide) ?_
              refine j_put (ci := 10) (C := RX11) (T := TX11) (N := 15) (ty := .boolean) S (fun w h => List.mem_cons_of_mem _ (inG11 w h)) tyX11 tyX11_ok nmX11 hK hW hO_ rfl 10 (by decide) (List.mem_cons_of_mem _ wfl_X11_94) (fun _ h9 => h9) rfl (by decide +kernel) (rfl) (rfl) (Nat.le_of_ble_eq_true rfl) dX11_setEvidence_109 (fun H locs w_ hU1 hN1 hW => ?_)
              have hU := hU.then hU1 (by decide)
              have hO_ : w_[0]? = some (ad 0, .inr (10, [.int (nI n), .ref (ad 1), .ref (ad 3), .ref (ad 5), .int (nI (sd ||| (2 ^ xN_2))), .int (nI (se ||| (2 ^ xN_2))), .ref (ad 7), .ref (ad 9), .ref (ad 11), .ref (ad 20), .int (nI 0), .ref (ad 23), .ref (ad 26), .ref (ad 31), .ref (ad 42)])) := hN1
              clear hU1 hN1
              refine lv_iload_n S.1 S.2.1 dX11_setEvidence_112 rfl (lv_at hl 1 rfl) ?_
              subst hQ
              refine vx_ret ?_
              exact j_iret (u := w_) S hr (rfl) hK hW dX11_setEvidence_113 ⟨by decide, by decide⟩ (⟨xN_2, by rw [evI]; first | (rw [c_30]; rfl) | (rw [c_30, ← nI_bit]; rfl), hp2_0, rfl, by first | exact Or.inl rfl | exact Or.inr (Or.inl rfl) | exact Or.inr (Or.inr rfl), hU, hO_⟩)
          · exact absurd c_54 (by decide)
        · refine lv_aload_n S.1 S.2.1 dX11_setEvidence_33 rfl (lv_at hl 0 rfl) ?_
          refine j_get (ci := 10) (C := RX11) (T := TX11) (N := 15) (v := .int (nI se)) S (fun w h => List.mem_cons_of_mem _ (inG11 w h)) hK hW hO rfl 5 (by decide) (List.mem_cons_of_mem _ wfl_X11_173) (fun _ h9 => h9) rfl dX11_setEvidence_34 ?_
          refine lv_iload_n S.1 S.2.1 dX11_setEvidence_37 rfl (lv_at hl 1 rfl) ?_
          refine jn_shr S (by omega) (by omega) dX11_setEvidence_38 ?_
          refine lv_iconst (v := nI 1) S.1 S.2.1 dX11_setEvidence_39 (by decide) ?_
          refine jn_and S dX11_setEvidence_40 ?_
          refine lv_goto (tgt := 45) S.1 S.2.1 dX11_setEvidence_41 (by decide) ?_
          refine lv_istore_n (lv' := [(3, .int (nI ((se >>> xN_2) &&& 1))), (0, .ref (ad 0)), (1, .int (nI xN_2)), (2, .int (nI 1))]) S.1 S.2.1 dX11_setEvidence_45 rfl hl (by decide) rfl (fun ls hl => ?_)
          refine lv_iconst (v := nI 1) S.1 S.2.1 dX11_setEvidence_46 (by decide) ?_
          refine lv_iload_n S.1 S.2.1 dX11_setEvidence_47 rfl (lv_at hl 2 rfl) ?_
          refine jn_shl1 S (by omega) dX11_setEvidence_48 ?_
          refine lv_istore (lv' := [(4, .int (nI (2 ^ xN_2))), (3, .int (nI ((se >>> xN_2) &&& 1))), (0, .ref (ad 0)), (1, .int (nI xN_2)), (2, .int (nI 1))]) S.1 S.2.1 dX11_setEvidence_49 hl (by decide) rfl (fun ls hl => ?_)
          refine lv_aload_n S.1 S.2.1 dX11_setEvidence_51 rfl (lv_at hl 2 rfl) ?_
          refine lv_iload_n S.1 S.2.1 dX11_setEvidence_52 rfl (lv_at hl 4 rfl) ?_
          refine lv_iconst (v := (-1)) S.1 S.2.1 dX11_setEvidence_53 (by decide) ?_
          refine lv_icmp_ne (tgt := 69) S.1 S.2.1 dX11_setEvidence_54 (by decide) (fun c_54 => ?_) (fun c_54 => ?_)
          · refine lv_aload_n S.1 S.2.1 dX11_setEvidence_69 rfl (lv_at hl 2 rfl) ?_
            refine j_get (ci := 10) (C := RX11) (T := TX11) (N := 15) (v := .int (nI sd)) S (fun w h => List.mem_cons_of_mem _ (inG11 w h)) hK hW hO rfl 4 (by decide) (List.mem_cons_of_mem _ wfl_X11_176) (fun _ h9 => h9) rfl dX11_setEvidence_70 ?_
            refine lv_iload S.1 S.2.1 dX11_setEvidence_73 (lv_at hl 0 rfl) ?_
            refine jn_or S dX11_setEvidence_75 ?_
            refine j_put (ci := 10) (C := RX11) (T := TX11) (N := 15) (ty := .int) S (fun w h => List.mem_cons_of_mem _ (inG11 w h)) tyX11 tyX11_ok nmX11 hK hW hO rfl 4 (by decide) (List.mem_cons_of_mem _ wfl_X11_176) (fun _ h9 => h9) rfl (by decide +kernel) (rfl) (rfl) (Nat.le_of_ble_eq_true rfl) dX11_setEvidence_76 (fun H locs w_ hU1 hN1 hW => ?_)
            have hU : jU w w_ [0] := jU.mono hU1 (by decide)
            have hO_ : w_[0]? = some (ad 0, .inr (10, [.int (nI n), .ref (ad 1), .ref (ad 3), .ref (ad 5), .int (nI (sd ||| (2 ^ xN_2))), .int (nI se), .ref (ad 7), .ref (ad 9), .ref (ad 11), .ref (ad 20), .int (bI fr), .ref (ad 23), .ref (ad 26), .ref (ad 31), .ref (ad 42)])) := hN1
            clear hU1 hN1
            refine lv_aload_n S.1 S.2.1 dX11_setEvidence_79 rfl (lv_at hl 2 rfl) ?_
            refine lv_iload_n S.1 S.2.1 dX11_setEvidence_80 rfl (lv_at hl 4 rfl) ?_
            refine lv_iconst (v := nI 1) S.1 S.2.1 dX11_setEvidence_81 (by decide) ?_
            refine jn_cmp_ne (tgt := 95) S (by omega) (by omega) dX11_setEvidence_82 (by decide) (fun c_82 => ?_) (fun c_82 => ?_)
            · exact absurd rfl c_82
            · refine lv_aload_n S.1 S.2.1 dX11_setEvidence_85 rfl (lv_at hl 2 rfl) ?_
              refine j_get (ci := 10) (C := RX11) (T := TX11) (N := 15) (v := .int (nI se)) S (fun w h => List.mem_cons_of_mem _ (inG11 w h)) hK hW hO_ rfl 5 (by decide) (List.mem_cons_of_mem _ wfl_X11_173) (fun _ h9 => h9) rfl dX11_setEvidence_86 ?_
              refine lv_iload S.1 S.2.1 dX11_setEvidence_89 (lv_at hl 0 rfl) ?_
              refine jn_or S dX11_setEvidence_91 ?_
              refine lv_goto (tgt := 104) S.1 S.2.1 dX11_setEvidence_92 (by decide) ?_
              refine j_put (ci := 10) (C := RX11) (T := TX11) (N := 15) (ty := .int) S (fun w h => List.mem_cons_of_mem _ (inG11 w h)) tyX11 tyX11_ok nmX11 hK hW hO_ rfl 5 (by decide) (List.mem_cons_of_mem _ wfl_X11_173) (fun _ h9 => h9) rfl (by decide +kernel) (rfl) (rfl) (Nat.le_of_ble_eq_true rfl) dX11_setEvidence_104 (fun H locs w_ hU1 hN1 hW => ?_)
              have hU := hU.then hU1 (by decide)
              have hO_ : w_[0]? = some (ad 0, .inr (10, [.int (nI n), .ref (ad 1), .ref (ad 3), .ref (ad 5), .int (nI (sd ||| (2 ^ xN_2))), .int (nI (se ||| (2 ^ xN_2))), .ref (ad 7), .ref (ad 9), .ref (ad 11), .ref (ad 20), .int (bI fr), .ref (ad 23), .ref (ad 26), .ref (ad 31), .ref (ad 42)])) := hN1
              clear hU1 hN1
              refine lv_aload_n S.1 S.2.1 dX11_setEvidence_107 rfl (lv_at hl 2 rfl) ?_
              refine lv_iconst (v := nI 0) S.1 S.2.1 dX11_setEvidence_108 (by decide) ?_
              refine j_put (ci := 10) (C := RX11) (T := TX11) (N := 15) (ty := .boolean) S (fun w h => List.mem_cons_of_mem _ (inG11 w h)) tyX11 tyX11_ok nmX11 hK hW hO_ rfl 10 (by decide) (List.mem_cons_of_mem _ wfl_X11_94) (fun _ h9 => h9) rfl (by decide +kernel) (rfl) (rfl) (Nat.le_of_ble_eq_true rfl) dX11_setEvidence_109 (fun H locs w_ hU1 hN1 hW => ?_)
              have hU := hU.then hU1 (by decide)
              have hO_ : w_[0]? = some (ad 0, .inr (10, [.int (nI n), .ref (ad 1), .ref (ad 3), .ref (ad 5), .int (nI (sd ||| (2 ^ xN_2))), .int (nI (se ||| (2 ^ xN_2))), .ref (ad 7), .ref (ad 9), .ref (ad 11), .ref (ad 20), .int (nI 0), .ref (ad 23), .ref (ad 26), .ref (ad 31), .ref (ad 42)])) := hN1
              clear hU1 hN1
              refine lv_iload_n S.1 S.2.1 dX11_setEvidence_112 rfl (lv_at hl 1 rfl) ?_
              subst hQ
              refine vx_ret ?_
              exact j_iret (u := w_) S hr (rfl) hK hW dX11_setEvidence_113 ⟨by decide, by decide⟩ (⟨xN_2, by rw [evI]; first | (rw [c_30]; rfl) | (rw [c_30, ← nI_bit]; rfl), hp2_0, rfl, by first | exact Or.inl rfl | exact Or.inr (Or.inl rfl) | exact Or.inr (Or.inr rfl), hU, hO_⟩)
          · exact absurd c_54 (by decide)
    · subst hQ
      obtain ⟨sa, hsa⟩ := hx.2.1 (168, "the evidence is not from -1 to 1") (by decide)
      exact jx_throw (text := "the evidence is not from -1 to 1") (names := jNm) (sa := sa) S htr jfit_105 jfit_n wcl_X11_101 wini_java_lang_IllegalArgumentException vxg_105 vxn_105 vxh_105 (by decide) hsa hx hK hW hl.1 htab hr.2.1 ⟨by decide, by decide, by decide, by decide⟩ ⟨by decide, by decide⟩ dX11_setEvidence_15 dX11_setEvidence_18 dX11_setEvidence_19 dX11_setEvidence_21 dX11_setEvidence_24 (⟨Or.inr (⟨rfl, ⟨⟨xN_2, hp2_0, rfl⟩, by first | exact ev3_1 c_7 | exact ev3_2 c_12⟩⟩), rfl⟩)
/-- models: by parts -/
theorem c_X11_models (l : Launch) (D : va_G) (cy : Nat → ClassId) {w : va_W} (ad : Nat → Nat) (n sd se : Nat) (fr : Bool) (nc lv : Nat) (tf : Nat → Option Nat) (cp ca : Nat → Nat) (cs : Nat → CN) (ps pk pv pn : Nat → Nat) (hO : w[0]? = some (ad 0, .inr (10, [.int (nI n), .ref (ad 1), .ref (ad 3), .ref (ad 5), .int (nI sd), .int (nI se), .ref (ad 7), .ref (ad 9), .ref (ad 11), .ref (ad 20), .int (bI fr), .ref (ad 23), .ref (ad 26), .ref (ad 31), .ref (ad 42)]))) (hC : w[9]? = some (ad 9, .inr (4, [.ref (ad 10), .int (nI nc), .int (nI lv)]))) (hT : w[10]? = some (ad 10, .inl (cy 5, 20, .inr (.inr (.inr (.inr tf)))))) (hP : w[11]? = some (ad 11, .inr (8, [.ref (ad 12), .ref (ad 14), .ref (ad 16), .ref (ad 18)]))) (hP1o : w[12]? = some (ad 12, .inr (5, [.ref (ad 13)]))) (hP1a : w[13]? = some (ad 13, .inl (cy 0, 10, .inl (nf ps)))) (hP2o : w[14]? = some (ad 14, .inr (5, [.ref (ad 15)]))) (hP2a : w[15]? = some (ad 15, .inl (cy 0, 10, .inl (nf pk)))) (hP3o : w[16]? = some (ad 16, .inr (5, [.ref (ad 17)]))) (hP3a : w[17]? = some (ad 17, .inl (cy 0, 10, .inl (nf pv)))) (hP4o : w[18]? = some (ad 18, .inr (6, [.ref (ad 19)]))) (hP4a : w[19]? = some (ad 19, .inl (cy 1, 10, .inr (.inl (lf pn))))) (hcon : conOK w nc tf cp ca cs) (hn : n ≤ 10) (hsd : sd < 1024) (hse : se < 1024) (hlv : lv < 2 ^ 20) (hpm : pmI nc cs ps pk pv pn) : jM l yX11_models (jws yX11_models cX11_models 8 (some .long)) (jR 5 0 0) D cy w [.ref (ad 0)] 0 0 (fun vv uu => ∃ (ps1 : Nat → Nat), ∃ (pk1 : Nat → Nat), ∃ (pv1 : Nat → Nat), ∃ (pn1 : Nat → Nat), vv = some (.long (lN (if metN cs nc (nAnd lv (touchN cs lv nc (nAnd (2 ^ n - 1) sd))) se then (mprN nc cs lv se (nAnd (2 ^ n - 1) sd) n).1 else 0))) ∧ pmI nc cs ps1 pk1 pv1 pn1 ∧ jU w uu [13, 15, 17, 19] ∧ uu[13]? = some (ad 13, .inl (cy 0, 10, .inl (nf ps1))) ∧ uu[15]? = some (ad 15, .inl (cy 0, 10, .inl (nf pk1))) ∧ uu[17]? = some (ad 17, .inl (cy 0, 10, .inl (nf pv1))) ∧ uu[19]? = some (ad 19, .inl (cy 1, 10, .inr (.inl (lf pn1))))) := by
  have hop : nAnd (2 ^ n - 1) sd < 1024 := by have := two_pow10 hn; exact nAnd_lt (n := 10) (by omega)
  have hm20 := hcon.1
  refine j_of (by decide) rfl (Nat.le_of_ble_eq_true rfl) ?_
  intro p e s m args below meth c A ls Q hQ S hr hK hA H locs hW hl
  have hl : lv_has ls 8 [(0, .ref (ad 0))] := hl
  refine lv_aload_n S.1 S.2.1 dX11_models_0 rfl (lv_at hl 0 rfl) ?_
  refine j_callV (k := 0) (ci := 10) (q := (RX11, TX11, 15)) (As := []) (rest := []) S hK hA hW (c_X11_openVariables l D cy ad n sd se fr hO   (by omega)) (jgo wm_X11_182) yk_X11_openVariables hO rfl rfl ⟨⟨rfl, rfl⟩, by decide, by decide⟩ rfl hl.1 rfl (Nat.le_of_ble_eq_true rfl) dX11_models_1 ⟨Nat.le_of_ble_eq_true rfl, Nat.le_of_ble_eq_true rfl⟩ (fun v u H locs hp hW => ?_)
  obtain ⟨rfl, rfl⟩ := hp
  refine W.eq (g2 := F0 m 4 ls [.int (nI (nAnd (2 ^ n - 1) sd))]) rfl ?_
  refine lv_istore_n (lv' := [(1, .int (nI (nAnd (2 ^ n - 1) sd))), (0, .ref (ad 0))]) S.1 S.2.1 dX11_models_4 rfl hl (by decide) rfl (fun ls hl => ?_)
  refine lv_aload_n S.1 S.2.1 dX11_models_5 rfl (lv_at hl 1 rfl) ?_
  refine j_get (ci := 10) (C := RX11) (T := TX11) (N := 15) (v := .ref (ad 9)) S (fun w h => List.mem_cons_of_mem _ (inG11 w h)) hK hW hO rfl 7 (by decide) (List.mem_cons_of_mem _ wfl_X11_34) (fun _ h9 => h9) rfl dX11_models_6 ?_
  refine j_callV (k := 9) (ci := 4) (q := (RX5, TX5, 3)) (As := []) (rest := []) S hK hA hW (c_X5_live l D cy ad nc lv tf hC hT   ) (jgo wm_X11_153) yk_X5_live hC rfl rfl ⟨⟨rfl, rfl⟩, by decide, by decide⟩ rfl hl.1 rfl (Nat.le_of_ble_eq_true rfl) dX11_models_9 ⟨Nat.le_of_ble_eq_true rfl, Nat.le_of_ble_eq_true rfl⟩ (fun v u H locs hp hW => ?_)
  obtain ⟨rfl, rfl⟩ := hp
  refine W.eq (g2 := F0 m 12 ls [.int (nI lv)]) rfl ?_
  refine lv_aload_n S.1 S.2.1 dX11_models_12 rfl (lv_at hl 1 rfl) ?_
  refine j_get (ci := 10) (C := RX11) (T := TX11) (N := 15) (v := .ref (ad 9)) S (fun w h => List.mem_cons_of_mem _ (inG11 w h)) hK hW hO rfl 7 (by decide) (List.mem_cons_of_mem _ wfl_X11_34) (fun _ h9 => h9) rfl dX11_models_13 ?_
  refine lv_iload_n S.1 S.2.1 dX11_models_16 rfl (lv_at hl 0 rfl) ?_
  refine j_callV (k := 9) (ci := 4) (q := (RX5, TX5, 3)) (As := [.int (nI (nAnd (2 ^ n - 1) sd))]) (rest := [.int (nI lv)]) S hK hA hW (c_X5_touching l D cy ad nc lv tf cp ca cs (nAnd (2 ^ n - 1) sd) hC hT hcon  (hop)) (jgo wm_X11_185) yk_X5_touching hC rfl rfl ⟨⟨rfl, rfl⟩, by decide, by decide⟩ rfl hl.1 rfl (Nat.le_of_ble_eq_true rfl) dX11_models_17 ⟨Nat.le_of_ble_eq_true rfl, Nat.le_of_ble_eq_true rfl⟩ (fun v u H locs hp hW => ?_)
  obtain ⟨rfl, rfl⟩ := hp
  refine W.eq (g2 := F0 m 20 ls [.int (nI (touchN cs lv nc (nAnd (2 ^ n - 1) sd))), .int (nI lv)]) rfl ?_
  refine lv_iconst (v := (-1)) S.1 S.2.1 dX11_models_20 (by decide) ?_
  refine lv_ixor S.1 S.2.1 dX11_models_21 ?_
  refine jn_andn S dX11_models_22 ?_
  refine lv_istore_n (lv' := [(2, .int (nI (nAnd lv (touchN cs lv nc (nAnd (2 ^ n - 1) sd))))), (1, .int (nI (nAnd (2 ^ n - 1) sd))), (0, .ref (ad 0))]) S.1 S.2.1 dX11_models_23 rfl hl (by decide) rfl (fun ls hl => ?_)
  refine lv_aload_n S.1 S.2.1 dX11_models_24 rfl (lv_at hl 2 rfl) ?_
  refine j_get (ci := 10) (C := RX11) (T := TX11) (N := 15) (v := .ref (ad 9)) S (fun w h => List.mem_cons_of_mem _ (inG11 w h)) hK hW hO rfl 7 (by decide) (List.mem_cons_of_mem _ wfl_X11_34) (fun _ h9 => h9) rfl dX11_models_25 ?_
  refine lv_iload_n S.1 S.2.1 dX11_models_28 rfl (lv_at hl 0 rfl) ?_
  refine lv_aload_n S.1 S.2.1 dX11_models_29 rfl (lv_at hl 2 rfl) ?_
  refine j_get (ci := 10) (C := RX11) (T := TX11) (N := 15) (v := .int (nI se)) S (fun w h => List.mem_cons_of_mem _ (inG11 w h)) hK hW hO rfl 5 (by decide) (List.mem_cons_of_mem _ wfl_X11_173) (fun _ h9 => h9) rfl dX11_models_30 ?_
  refine j_callV (k := 9) (ci := 4) (q := (RX5, TX5, 3)) (As := [.int (nI (nAnd lv (touchN cs lv nc (nAnd (2 ^ n - 1) sd)))), .int (nI se)]) (rest := []) S hK hA hW (c_X5_areMet l D cy ad nc lv tf cp ca cs (nAnd lv (touchN cs lv nc (nAnd (2 ^ n - 1) sd))) se hC hT hcon  (nAnd_lt hlv) (hse)) (jgo wm_X11_188) yk_X5_areMet hC rfl rfl ⟨⟨rfl, rfl⟩, by decide, by decide⟩ rfl hl.1 rfl (Nat.le_of_ble_eq_true rfl) dX11_models_33 ⟨Nat.le_of_ble_eq_true rfl, Nat.le_of_ble_eq_true rfl⟩ (fun v u H locs hp hW => ?_)
  obtain ⟨rfl, rfl⟩ := hp
  refine W.eq (g2 := F0 m 36 ls [.int (bI (metN cs nc (nAnd lv (touchN cs lv nc (nAnd (2 ^ n - 1) sd))) se))]) rfl ?_
  refine jb_if_ne (tgt := 41) S dX11_models_36 (by decide) (fun c_36 => ?_) (fun c_36 => ?_)
  · refine lv_lconst (v := lN 1) S.1 S.2.1 dX11_models_41 (by decide) ?_
    refine lv_lstore_n (lv' := [(3, .long (lN 1)), (2, .int (nI (nAnd lv (touchN cs lv nc (nAnd (2 ^ n - 1) sd))))), (1, .int (nI (nAnd (2 ^ n - 1) sd))), (0, .ref (ad 0))]) S.1 S.2.1 dX11_models_42 rfl hl (by decide) rfl (fun ls hl => ?_)
    refine lv_iconst (v := nI 0) S.1 S.2.1 dX11_models_43 (by decide) ?_
    refine lv_istore (lv' := [(5, .int (nI 0)), (3, .long (lN 1)), (2, .int (nI (nAnd lv (touchN cs lv nc (nAnd (2 ^ n - 1) sd))))), (1, .int (nI (nAnd (2 ^ n - 1) sd))), (0, .ref (ad 0))]) S.1 S.2.1 dX11_models_44 hl (by decide) rfl (fun ls hl => ?_)
    refine lv_iconst (v := nI 0) S.1 S.2.1 dX11_models_46 (by decide) ?_
    refine lv_istore (lv' := [(6, .int (nI 0)), (5, .int (nI 0)), (3, .long (lN 1)), (2, .int (nI (nAnd lv (touchN cs lv nc (nAnd (2 ^ n - 1) sd))))), (1, .int (nI (nAnd (2 ^ n - 1) sd))), (0, .ref (ad 0))]) S.1 S.2.1 dX11_models_47 hl (by decide) rfl (fun ls hl => ?_)
    have L49 : ∀ (k : Nat) (i : Nat) (ps1 : Nat → Nat) (pk1 : Nat → Nat) (pv1 : Nat → Nat) (pn1 : Nat → Nat), n - i = k → (i ≤ n) → (pmI nc cs ps1 pk1 pv1 pn1) → ∀ (w_ : va_W), jU w w_ [13, 15, 17, 19] → (w_[13]? = some (ad 13, .inl (cy 0, 10, .inl (nf ps1)))) → (w_[15]? = some (ad 15, .inl (cy 0, 10, .inl (nf pk1)))) → (w_[17]? = some (ad 17, .inl (cy 0, 10, .inl (nf pv1)))) → (w_[19]? = some (ad 19, .inl (cy 1, 10, .inr (.inl (lf pn1))))) → ∀ (H : Heap) (locs : List Loc) (ls : Array Slot), jW D A s.heap w_ H locs → lv_has ls 8 [(0, .ref (ad 0)), (1, .int (nI (nAnd (2 ^ n - 1) sd))), (2, .int (nI (nAnd lv (touchN cs lv nc (nAnd (2 ^ n - 1) sd))))), (3, .long (lN ((mprN nc cs lv se (nAnd (2 ^ n - 1) sd) i).1))), (5, .int (nI ((mprN nc cs lv se (nAnd (2 ^ n - 1) sd) i).2))), (6, .int (nI i))] → W p l e (jR 5 0 0) s m args below meth c H locs 0 0 Q (F0 m 49 ls []) := by
      intro k
      induction k using Nat.strongRecOn with
      | ind k ih49 =>
      intro i ps1 pk1 pv1 pn1 hk hi hpI w_ hU hP1a_ hP2a_ hP3a_ hP4a_ H locs ls hW hl
      subst hk
      refine lv_iload S.1 S.2.1 dX11_models_49 (lv_at hl 5 rfl) ?_
      refine lv_aload_n S.1 S.2.1 dX11_models_51 rfl (lv_at hl 0 rfl) ?_
      refine j_get (ci := 10) (C := RX11) (T := TX11) (N := 15) (v := .int (nI n)) S (fun w h => List.mem_cons_of_mem _ (inG11 w h)) hK hW (hU.get hO (by decide)) rfl 0 (by decide) (List.mem_cons_of_mem _ wfl_X11_77) (fun _ h9 => h9) rfl dX11_models_52 ?_
      refine jn_cmp_ge (tgt := 102) S (by omega) (by omega) dX11_models_55 (by decide) (fun c_55 => ?_) (fun c_55 => ?_)
      · refine lv_lload_n S.1 S.2.1 dX11_models_102 rfl (lv_at hl 3 rfl) ?_
        subst hQ
        refine j_lret (u := w_) S hr hK hW dX11_models_103 ⟨by decide, by decide⟩ ?_
        have ei : i = n := by omega
        exact ⟨_, _, _, _, by rw [c_36, ei]; rfl, hpI, hU, hP1a_, hP2a_, hP3a_, hP4a_⟩
      · refine lv_iload_n S.1 S.2.1 dX11_models_58 rfl (lv_at hl 1 rfl) ?_
        refine lv_iload S.1 S.2.1 dX11_models_59 (lv_at hl 4 rfl) ?_
        refine lv_iconst (v := (-1)) S.1 S.2.1 dX11_models_61 (by decide) ?_
        refine lv_ixor S.1 S.2.1 dX11_models_62 ?_
        refine jn_andn S dX11_models_63 ?_
        refine lv_iconst (v := nI 1) S.1 S.2.1 dX11_models_64 (by decide) ?_
        refine lv_iload S.1 S.2.1 dX11_models_65 (lv_at hl 5 rfl) ?_
        refine jn_shl1 S (by omega) dX11_models_67 ?_
        refine jn_and S dX11_models_68 ?_
        have h69 : nAnd (nAnd (2 ^ n - 1) sd) (mprN nc cs lv se (nAnd (2 ^ n - 1) sd) i).2 &&& 2 ^ i < 2 ^ 32 := Nat.lt_of_le_of_lt Nat.and_le_left (by have := nAnd_le (nAnd (2 ^ n - 1) sd) (mprN nc cs lv se (nAnd (2 ^ n - 1) sd) i).2; omega)
        refine jn_if_eq (tgt := 96) S (by omega) dX11_models_69 (by decide) (fun c_69 => ?_) (fun c_69 => ?_)
        · have e0 := mprN_f (nc := nc) (cs := cs) (lv := lv) (se := se) (op := nAnd (2 ^ n - 1) sd) (k := i) ((and_pow0 _ _).mp c_69)
          have hl : lv_has ls 8 [(0, .ref (ad 0)), (1, .int (nI (nAnd (2 ^ n - 1) sd))), (2, .int (nI (nAnd lv (touchN cs lv nc (nAnd (2 ^ n - 1) sd))))), (3, .long (lN (mprN nc cs lv se (nAnd (2 ^ n - 1) sd) (i + 1)).1)), (5, .int (nI (mprN nc cs lv se (nAnd (2 ^ n - 1) sd) (i + 1)).2)), (6, .int (nI i))] := by rw [e0]; exact lv_sub hl [0, 1, 2, 3, 4, 5] rfl
          refine lv_iinc (v := nI (i + 1)) (lv' := [(6, .int (nI (i + 1))), (0, .ref (ad 0)), (1, .int (nI (nAnd (2 ^ n - 1) sd))), (2, .int (nI (nAnd lv (touchN cs lv nc (nAnd (2 ^ n - 1) sd))))), (3, .long (lN ((mprN nc cs lv se (nAnd (2 ^ n - 1) sd) (i + 1)).1))), (5, .int (nI ((mprN nc cs lv se (nAnd (2 ^ n - 1) sd) (i + 1)).2)))]) S.1 S.2.1 dX11_models_96 hl (k := 5) rfl (nI_add _ 1) (by decide) rfl (fun ls hl => ?_)
          refine lv_goto (tgt := 49) S.1 S.2.1 dX11_models_99 (by decide) ?_
          exact ih49 _ (by omega) (i + 1) ps1 pk1 pv1 pn1 rfl (by omega) (hpI) w_ hU hP1a_ hP2a_ hP3a_ hP4a_ H locs ls hW (lv_sub hl [1, 2, 3, 4, 5, 0] rfl)
        · refine lv_aload_n S.1 S.2.1 dX11_models_72 rfl (lv_at hl 0 rfl) ?_
          refine lv_iload S.1 S.2.1 dX11_models_73 (lv_at hl 5 rfl) ?_
          refine j_callV (k := 0) (ci := 10) (q := (RX11, TX11, 15)) (As := [.int (nI i)]) (rest := []) S hK hA hW (c_X11_partWith l D cy ad n sd se fr nc lv tf cp ca cs i (hU.get hO (by decide)) (hU.get hC (by decide)) (hU.get hT (by decide)) (hcon.kept hU (by decide))  (by omega) (by omega) (by omega) (by omega) (by omega)) (jgo wm_X11_192) yk_X11_partWith (hU.get hO (by decide)) rfl rfl ⟨⟨rfl, rfl⟩, by decide, by decide⟩ rfl hl.1 rfl (Nat.le_of_ble_eq_true rfl) dX11_models_75 ⟨Nat.le_of_ble_eq_true rfl, Nat.le_of_ble_eq_true rfl⟩ (fun v u H locs hp hW => ?_)
          obtain ⟨rfl, rfl⟩ := hp
          refine W.eq (g2 := F0 m 78 ls [.int (nI (itP nc cs lv (nAnd (2 ^ n - 1) sd) i 10))]) rfl ?_
          refine lv_istore (lv' := [(7, .int (nI (itP nc cs lv (nAnd (2 ^ n - 1) sd) i 10))), (0, .ref (ad 0)), (1, .int (nI (nAnd (2 ^ n - 1) sd))), (2, .int (nI (nAnd lv (touchN cs lv nc (nAnd (2 ^ n - 1) sd))))), (3, .long (lN ((mprN nc cs lv se (nAnd (2 ^ n - 1) sd) i).1))), (5, .int (nI ((mprN nc cs lv se (nAnd (2 ^ n - 1) sd) i).2))), (6, .int (nI i))]) S.1 S.2.1 dX11_models_78 hl (by decide) rfl (fun ls hl => ?_)
          refine lv_lload_n S.1 S.2.1 dX11_models_80 rfl (lv_at hl 4 rfl) ?_
          refine lv_aload_n S.1 S.2.1 dX11_models_81 rfl (lv_at hl 1 rfl) ?_
          refine lv_iload S.1 S.2.1 dX11_models_82 (lv_at hl 0 rfl) ?_
          refine j_callV (k := 0) (ci := 10) (q := (RX11, TX11, 15)) (As := [.int (nI (itP nc cs lv (nAnd (2 ^ n - 1) sd) i 10))]) (rest := [.long (lN ((mprN nc cs lv se (nAnd (2 ^ n - 1) sd) i).1))]) S hK hA hW (c_X11_countPart l D cy ad n sd se fr nc lv tf cp ca cs ps1 pk1 pv1 pn1 (itP nc cs lv (nAnd (2 ^ n - 1) sd) i 10) (hU.get hO (by decide)) (hU.get hC (by decide)) (hU.get hT (by decide)) (hU.get hP (by decide)) (hU.get hP1o (by decide)) hP1a_ (hU.get hP2o (by decide)) hP2a_ (hU.get hP3o (by decide)) hP3a_ (hU.get hP4o (by decide)) hP4a_ (hcon.kept hU (by decide))  (by omega) (by omega) (by omega) (by omega) (itP_lt hop (by omega) 10) (⟨i, by omega, itP_ne0⟩) (hpI)) (jgo wm_X11_195) yk_X11_countPart (hU.get hO (by decide)) rfl rfl ⟨⟨rfl, rfl⟩, by decide, by decide⟩ rfl hl.1 rfl (Nat.le_of_ble_eq_true rfl) dX11_models_84 ⟨Nat.le_of_ble_eq_true rfl, Nat.le_of_ble_eq_true rfl⟩ (fun v w_ H locs hp hW => ?_)
          obtain ⟨ps1_84, pk1_84, pv1_84, pn1_84, rfl, hp84_0, hU1, hN1, hN2, hN3, hN4⟩ := hp
          have hU := hU.then hU1 (by decide)
          have hP1a_ : w_[13]? = some (ad 13, .inl (cy 0, 10, .inl (nf ps1_84))) := hN1
          have hP2a_ : w_[15]? = some (ad 15, .inl (cy 0, 10, .inl (nf pk1_84))) := hN2
          have hP3a_ : w_[17]? = some (ad 17, .inl (cy 0, 10, .inl (nf pv1_84))) := hN3
          have hP4a_ : w_[19]? = some (ad 19, .inl (cy 1, 10, .inr (.inl (lf pn1_84)))) := hN4
          clear hU1 hN1 hN2 hN3 hN4
          refine W.eq (g2 := F0 m 87 ls [.long (lN (cntP nc cs lv se (itP nc cs lv (nAnd (2 ^ n - 1) sd) i 10))), .long (lN ((mprN nc cs lv se (nAnd (2 ^ n - 1) sd) i).1))]) rfl ?_
          refine jnl_mul S dX11_models_87 ?_
          refine lv_lstore_n (lv' := [(3, .long (lN (((mprN nc cs lv se (nAnd (2 ^ n - 1) sd) i).1) * (cntP nc cs lv se (itP nc cs lv (nAnd (2 ^ n - 1) sd) i 10))))), (7, .int (nI (itP nc cs lv (nAnd (2 ^ n - 1) sd) i 10))), (0, .ref (ad 0)), (1, .int (nI (nAnd (2 ^ n - 1) sd))), (2, .int (nI (nAnd lv (touchN cs lv nc (nAnd (2 ^ n - 1) sd))))), (5, .int (nI ((mprN nc cs lv se (nAnd (2 ^ n - 1) sd) i).2))), (6, .int (nI i))]) S.1 S.2.1 dX11_models_88 rfl hl (by decide) rfl (fun ls hl => ?_)
          refine lv_iload S.1 S.2.1 dX11_models_89 (lv_at hl 5 rfl) ?_
          refine lv_iload S.1 S.2.1 dX11_models_91 (lv_at hl 1 rfl) ?_
          refine jn_or S dX11_models_93 ?_
          refine lv_istore (lv' := [(5, .int (nI (((mprN nc cs lv se (nAnd (2 ^ n - 1) sd) i).2) ||| (itP nc cs lv (nAnd (2 ^ n - 1) sd) i 10)))), (3, .long (lN (((mprN nc cs lv se (nAnd (2 ^ n - 1) sd) i).1) * (cntP nc cs lv se (itP nc cs lv (nAnd (2 ^ n - 1) sd) i 10))))), (7, .int (nI (itP nc cs lv (nAnd (2 ^ n - 1) sd) i 10))), (0, .ref (ad 0)), (1, .int (nI (nAnd (2 ^ n - 1) sd))), (2, .int (nI (nAnd lv (touchN cs lv nc (nAnd (2 ^ n - 1) sd))))), (6, .int (nI i))]) S.1 S.2.1 dX11_models_94 hl (by decide) rfl (fun ls hl => ?_)
          have e0 := mprN_t (nc := nc) (cs := cs) (lv := lv) (se := se) (op := nAnd (2 ^ n - 1) sd) (k := i) (and_pow_t c_69)
          have hl : lv_has ls 8 [(0, .ref (ad 0)), (1, .int (nI (nAnd (2 ^ n - 1) sd))), (2, .int (nI (nAnd lv (touchN cs lv nc (nAnd (2 ^ n - 1) sd))))), (3, .long (lN (mprN nc cs lv se (nAnd (2 ^ n - 1) sd) (i + 1)).1)), (5, .int (nI (mprN nc cs lv se (nAnd (2 ^ n - 1) sd) (i + 1)).2)), (6, .int (nI i))] := by rw [e0]; exact lv_sub hl [3, 4, 5, 1, 0, 6] rfl
          refine lv_iinc (v := nI (i + 1)) (lv' := [(6, .int (nI (i + 1))), (0, .ref (ad 0)), (1, .int (nI (nAnd (2 ^ n - 1) sd))), (2, .int (nI (nAnd lv (touchN cs lv nc (nAnd (2 ^ n - 1) sd))))), (3, .long (lN ((mprN nc cs lv se (nAnd (2 ^ n - 1) sd) (i + 1)).1))), (5, .int (nI ((mprN nc cs lv se (nAnd (2 ^ n - 1) sd) (i + 1)).2)))]) S.1 S.2.1 dX11_models_96 hl (k := 5) rfl (nI_add _ 1) (by decide) rfl (fun ls hl => ?_)
          refine lv_goto (tgt := 49) S.1 S.2.1 dX11_models_99 (by decide) ?_
          exact ih49 _ (by omega) (i + 1) ps1_84 pk1_84 pv1_84 pn1_84 rfl (by omega) (hp84_0) w_ hU hP1a_ hP2a_ hP3a_ hP4a_ H locs ls hW (lv_sub hl [1, 2, 3, 4, 5, 0] rfl)
    exact L49 _ 0 ps pk pv pn rfl (Nat.zero_le _) (hpm) w jU.rf hP1a hP2a hP3a hP4a H locs ls hW (lv_sub hl [5, 4, 3, 2, 1, 0] rfl)
  · refine lv_lconst (v := lN 0) S.1 S.2.1 dX11_models_39 (by decide) ?_
    subst hQ
    exact j_lret (u := w) S hr hK hW dX11_models_40 ⟨by decide, by decide⟩ (⟨ps, pk, pv, pn, by rw [c_36]; rfl, hpm, jU.rf, hP1a, hP2a, hP3a, hP4a⟩)
/-- modelsByAll -/
theorem c_X11_modelsByAll (l : Launch) (D : va_G) (cy : Nat → ClassId) {w : va_W} (ad : Nat → Nat) (n sd se : Nat) (fr : Bool) (nc lv : Nat) (tf : Nat → Option Nat) (cp ca : Nat → Nat) (cs : Nat → CN) (mv : Int32) (MX : Nat → Bool) (hO : w[0]? = some (ad 0, .inr (10, [.int (nI n), .ref (ad 1), .ref (ad 3), .ref (ad 5), .int (nI sd), .int (nI se), .ref (ad 7), .ref (ad 9), .ref (ad 11), .ref (ad 20), .int (bI fr), .ref (ad 23), .ref (ad 26), .ref (ad 31), .ref (ad 42)]))) (hMo : w[20]? = some (ad 20, .inr (0, [.ref (ad 21), .int mv]))) (hMl : w[21]? = some (ad 21, .inr (6, [.ref (ad 22)]))) (hMa : w[22]? = some (ad 22, .inl (cy 1, 16, .inr (.inl (wd MX))))) (hC : w[9]? = some (ad 9, .inr (4, [.ref (ad 10), .int (nI nc), .int (nI lv)]))) (hT : w[10]? = some (ad 10, .inl (cy 5, 20, .inr (.inr (.inr (.inr tf)))))) (hcon : conOK w nc tf cp ca cs) (hn : n ≤ 10) (hsd : sd < 1024) (hse : se < 1024) (hlv : lv < 2 ^ 20) (hfr : fr = true → mv = nI n ∧ MX = mdl n sd se nc cs lv) : jM l yX11_modelsByAll (jws yX11_modelsByAll cX11_modelsByAll 1 (some .long)) (jR 5 0 0) D cy w [.ref (ad 0)] 0 0 (fun vv uu => vv = some (.long (lN (cnt (mdl n sd se nc cs lv) 1024))) ∧ jU w uu [0, 20, 22] ∧ uu[0]? = some (ad 0, .inr (10, [.int (nI n), .ref (ad 1), .ref (ad 3), .ref (ad 5), .int (nI sd), .int (nI se), .ref (ad 7), .ref (ad 9), .ref (ad 11), .ref (ad 20), .int (bI true), .ref (ad 23), .ref (ad 26), .ref (ad 31), .ref (ad 42)])) ∧ uu[20]? = some (ad 20, .inr (0, [.ref (ad 21), .int (nI n)])) ∧ uu[22]? = some (ad 22, .inl (cy 1, 16, .inr (.inl (wd (mdl n sd se nc cs lv)))))) := by
  refine j_of (by decide) rfl (Nat.le_of_ble_eq_true rfl) ?_
  intro p e s m args below meth c A ls Q hQ S hr hK hA H locs hW hl
  have hl : lv_has ls 1 [(0, .ref (ad 0))] := hl
  refine lv_aload_n S.1 S.2.1 dX11_modelsByAll_0 rfl (lv_at hl 0 rfl) ?_
  refine j_callV (k := 0) (ci := 10) (q := (RX11, TX11, 15)) (As := []) (rest := []) S hK hA hW (c_X11_freshModels l D cy ad n sd se fr nc lv tf cp ca cs mv MX hO hMo hMl hMa hC hT hcon  (by omega) (by omega) (by omega) (by omega) (by first | omega | exact fun _ => ⟨rfl, rfl⟩)) (jgo wm_X11_199) yk_X11_freshModels hO rfl rfl ⟨⟨rfl, rfl⟩, by decide, by decide⟩ rfl hl.1 rfl (Nat.le_of_ble_eq_true rfl) dX11_modelsByAll_1 ⟨Nat.le_of_ble_eq_true rfl, Nat.le_of_ble_eq_true rfl⟩ (fun v w_ H locs hp hW => ?_)
  obtain ⟨rfl, hU1, hN1, hN2, hN3⟩ := hp
  have hU : jU w w_ [0, 20, 22] := jU.mono hU1 (by decide)
  have hO_ : w_[0]? = some (ad 0, .inr (10, [.int (nI n), .ref (ad 1), .ref (ad 3), .ref (ad 5), .int (nI sd), .int (nI se), .ref (ad 7), .ref (ad 9), .ref (ad 11), .ref (ad 20), .int (bI true), .ref (ad 23), .ref (ad 26), .ref (ad 31), .ref (ad 42)])) := hN1
  have hMo_ : w_[20]? = some (ad 20, .inr (0, [.ref (ad 21), .int (nI n)])) := hN2
  have hMa_ : w_[22]? = some (ad 22, .inl (cy 1, 16, .inr (.inl (wd (mdl n sd se nc cs lv))))) := hN3
  clear hU1 hN1 hN2 hN3
  refine W.eq (g2 := F0 m 4 ls [.ref (ad 20)]) rfl ?_
  refine j_callV (k := 20) (ci := 0) (q := (RX0, TX0, 2)) (As := []) (rest := []) S hK hA hW (c_X0_size l D cy 20 21 22 (ad 20) (ad 21) (ad 22) (nI n) (mdl n sd se nc cs lv) hMo_ (hU.get hMl (by decide)) hMa_   ) (jgo wm_X11_203) yk_X0_size hMo_ rfl rfl ⟨⟨rfl, rfl⟩, by decide, by decide⟩ rfl hl.1 rfl (Nat.le_of_ble_eq_true rfl) dX11_modelsByAll_4 ⟨Nat.le_of_ble_eq_true rfl, Nat.le_of_ble_eq_true rfl⟩ (fun v u H locs hp hW => ?_)
  obtain ⟨rfl, rfl⟩ := hp
  refine W.eq (g2 := F0 m 7 ls [.int (nI (cnt (mdl n sd se nc cs lv) 1024))]) rfl ?_
  have hcm := cnt_le (mdl n sd se nc cs lv) 1024
  refine lv_i2l (v := lN (cnt (mdl n sd se nc cs lv) 1024)) S.1 S.2.1 dX11_modelsByAll_7 (nI_l (by omega)) ?_
  subst hQ
  exact j_lret (u := w_) S hr hK hW dX11_modelsByAll_8 ⟨by decide, by decide⟩ (⟨rfl, hU, hO_, hMo_, hMa_⟩)
/-- weight -/
theorem c_X11_weight (l : Launch) (D : va_G) (cy : Nat → ClassId) {w : va_W} (ad : Nat → Nat) (n sd se : Nat) (fr : Bool) (nc lv : Nat) (tf : Nat → Option Nat) (cp ca : Nat → Nat) (cs : Nat → CN) (mv : Int32) (MX : Nat → Bool) (pr : Nat → Nat) (hO : w[0]? = some (ad 0, .inr (10, [.int (nI n), .ref (ad 1), .ref (ad 3), .ref (ad 5), .int (nI sd), .int (nI se), .ref (ad 7), .ref (ad 9), .ref (ad 11), .ref (ad 20), .int (bI fr), .ref (ad 23), .ref (ad 26), .ref (ad 31), .ref (ad 42)]))) (hMo : w[20]? = some (ad 20, .inr (0, [.ref (ad 21), .int mv]))) (hMl : w[21]? = some (ad 21, .inr (6, [.ref (ad 22)]))) (hMa : w[22]? = some (ad 22, .inl (cy 1, 16, .inr (.inl (wd MX))))) (hC : w[9]? = some (ad 9, .inr (4, [.ref (ad 10), .int (nI nc), .int (nI lv)]))) (hT : w[10]? = some (ad 10, .inl (cy 5, 20, .inr (.inr (.inr (.inr tf)))))) (hDo : w[5]? = some (ad 5, .inr (6, [.ref (ad 6)]))) (hDa : w[6]? = some (ad 6, .inl (cy 1, 1024, .inr (.inl (lf pr))))) (hcon : conOK w nc tf cp ca cs) (hn : n ≤ 10) (hsd : sd < 1024) (hse : se < 1024) (hlv : lv < 2 ^ 20) (hfr : fr = true → mv = nI n ∧ MX = mdl n sd se nc cs lv) : jM l yX11_weight (jws yX11_weight cX11_weight 1 (some .long)) (jR 6 0 0) D cy w [.ref (ad 0)] 0 0 (fun vv uu => vv = some (.long (lN (sumI (mdl n sd se nc cs lv) pr (2 ^ n)))) ∧ jU w uu [0, 20, 22] ∧ uu[0]? = some (ad 0, .inr (10, [.int (nI n), .ref (ad 1), .ref (ad 3), .ref (ad 5), .int (nI sd), .int (nI se), .ref (ad 7), .ref (ad 9), .ref (ad 11), .ref (ad 20), .int (bI true), .ref (ad 23), .ref (ad 26), .ref (ad 31), .ref (ad 42)])) ∧ uu[20]? = some (ad 20, .inr (0, [.ref (ad 21), .int (nI n)])) ∧ uu[22]? = some (ad 22, .inl (cy 1, 16, .inr (.inl (wd (mdl n sd se nc cs lv)))))) := by
  refine j_of (by decide) rfl (Nat.le_of_ble_eq_true rfl) ?_
  intro p e s m args below meth c A ls Q hQ S hr hK hA H locs hW hl
  have hl : lv_has ls 1 [(0, .ref (ad 0))] := hl
  refine lv_aload_n S.1 S.2.1 dX11_weight_0 rfl (lv_at hl 0 rfl) ?_
  refine lv_iconst (v := nI 0) S.1 S.2.1 dX11_weight_1 (by decide) ?_
  refine lv_iconst (v := nI 0) S.1 S.2.1 dX11_weight_2 (by decide) ?_
  refine j_callV (k := 0) (ci := 10) (q := (RX11, TX11, 15)) (As := [.int (nI 0), .int (nI 0)]) (rest := []) S hK hA hW (c_X11_weightWhere l D cy ad n sd se fr nc lv tf cp ca cs mv MX pr 0 0 hO hMo hMl hMa hC hT hDo hDa hcon  (by omega) (by omega) (by omega) (by omega) (by first | omega | exact fun _ => ⟨rfl, rfl⟩) (by decide)) (jgo wm_X11_206) yk_X11_weightWhere hO rfl rfl ⟨⟨rfl, rfl⟩, by decide, by decide⟩ rfl hl.1 rfl (Nat.le_of_ble_eq_true rfl) dX11_weight_3 ⟨Nat.le_of_ble_eq_true rfl, Nat.le_of_ble_eq_true rfl⟩ (fun v w_ H locs hp hW => ?_)
  obtain ⟨rfl, hU1, hN1, hN2, hN3⟩ := hp
  have hU : jU w w_ [0, 20, 22] := jU.mono hU1 (by decide)
  have hO_ : w_[0]? = some (ad 0, .inr (10, [.int (nI n), .ref (ad 1), .ref (ad 3), .ref (ad 5), .int (nI sd), .int (nI se), .ref (ad 7), .ref (ad 9), .ref (ad 11), .ref (ad 20), .int (bI true), .ref (ad 23), .ref (ad 26), .ref (ad 31), .ref (ad 42)])) := hN1
  have hMo_ : w_[20]? = some (ad 20, .inr (0, [.ref (ad 21), .int (nI n)])) := hN2
  have hMa_ : w_[22]? = some (ad 22, .inl (cy 1, 16, .inr (.inl (wd (mdl n sd se nc cs lv))))) := hN3
  clear hU1 hN1 hN2 hN3
  refine W.eq (g2 := F0 m 6 ls [.long (lN (sumI (fun d => decide (d &&& 0 = 0) && mdl n sd se nc cs lv d) pr (2 ^ n)))]) rfl ?_
  refine lv_topl_to (y := lN (sumI (mdl n sd se nc cs lv) pr (2 ^ n))) (congrArg lN (sumI_congr (fun j _ => ⟨by rw [Nat.and_zero]; rfl, fun _ => rfl⟩))) ?_
  subst hQ
  exact j_lret (u := w_) S hr hK hW dX11_weight_6 ⟨by decide, by decide⟩ (⟨rfl, hU, hO_, hMo_, hMa_⟩)
/-- weightWith -/
theorem c_X11_weightWith (l : Launch) (htr : l.stackTraces = false) (D : va_G) (cy : Nat → ClassId) {w : va_W} (ad : Nat → Nat) (n sd se : Nat) (fr : Bool) (nc lv : Nat) (tf : Nat → Option Nat) (cp ca : Nat → Nat) (cs : Nat → CN) (mv : Int32) (MX : Nat → Bool) (pr : Nat → Nat) (v y : Int32) (hO : w[0]? = some (ad 0, .inr (10, [.int (nI n), .ref (ad 1), .ref (ad 3), .ref (ad 5), .int (nI sd), .int (nI se), .ref (ad 7), .ref (ad 9), .ref (ad 11), .ref (ad 20), .int (bI fr), .ref (ad 23), .ref (ad 26), .ref (ad 31), .ref (ad 42)]))) (hMo : w[20]? = some (ad 20, .inr (0, [.ref (ad 21), .int mv]))) (hMl : w[21]? = some (ad 21, .inr (6, [.ref (ad 22)]))) (hMa : w[22]? = some (ad 22, .inl (cy 1, 16, .inr (.inl (wd MX))))) (hC : w[9]? = some (ad 9, .inr (4, [.ref (ad 10), .int (nI nc), .int (nI lv)]))) (hT : w[10]? = some (ad 10, .inl (cy 5, 20, .inr (.inr (.inr (.inr tf)))))) (hDo : w[5]? = some (ad 5, .inr (6, [.ref (ad 6)]))) (hDa : w[6]? = some (ad 6, .inl (cy 1, 1024, .inr (.inl (lf pr))))) (hcon : conOK w nc tf cp ca cs) (hn : n ≤ 10) (hsd : sd < 1024) (hse : se < 1024) (hlv : lv < 2 ^ 20) (hfr : fr = true → mv = nI n ∧ MX = mdl n sd se nc cs lv) : jMx jTexts l yX11_weightWith (jws yX11_weightWith cX11_weightWith 3 (some .long)) (jR 9 2 12) D cy w [.ref (ad 0), .int v, .int y] 2 12 (fun vv uu => ∃ (x : Nat), ∃ (z : Nat), vv = some (.long (lN (sumI (fun d => decide (d &&& 2 ^ x = (z <<< x)) && mdl n sd se nc cs lv d) pr (2 ^ n)))) ∧ x < n ∧ v = nI x ∧ z < 2 ∧ y = nI z ∧ jU w uu [0, 20, 22] ∧ uu[0]? = some (ad 0, .inr (10, [.int (nI n), .ref (ad 1), .ref (ad 3), .ref (ad 5), .int (nI sd), .int (nI se), .ref (ad 7), .ref (ad 9), .ref (ad 11), .ref (ad 20), .int (bI true), .ref (ad 23), .ref (ad 26), .ref (ad 31), .ref (ad 42)])) ∧ uu[20]? = some (ad 20, .inr (0, [.ref (ad 21), .int (nI n)])) ∧ uu[22]? = some (ad 22, .inl (cy 1, 16, .inr (.inl (wd (mdl n sd se nc cs lv)))))) (fun EE uu => ((EE = "java/lang/IndexOutOfBoundsException" ∧ (vB v n = false)) ∨ (EE = "java/lang/IllegalArgumentException" ∧ ((∃ x, x < n ∧ v = nI x) ∧ vB y 2 = false))) ∧ w = uu) := by
  refine jx_of (by decide) rfl (Nat.le_of_ble_eq_true rfl) ?_
  intro p e s m args below meth c A ls Q hQ S hr hK hA H locs hW hl htab hx
  have hl : lv_has ls 3 [(0, .ref (ad 0)), (1, .int v), (2, .int y)] := hl
  refine lv_aload_n S.1 S.2.1 dX11_weightWith_0 rfl (lv_at hl 0 rfl) ?_
  refine lv_iload_n S.1 S.2.1 dX11_weightWith_1 rfl (lv_at hl 1 rfl) ?_
  refine jx_callq (k := 0) (ci := 10) (q := (RX11, TX11, 15)) (As := [.int v]) (rest := []) S hK hA hW hQ htab hr hx (c_X11_checkVariable l htr D cy ad n sd se fr v hO   (by omega)) (jgo wm_X11_98) yk_X11_checkVariable hO rfl rfl ⟨⟨rfl, rfl⟩, by decide, by decide⟩ rfl hl.1 rfl (Nat.le_of_ble_eq_true rfl) dX11_weightWith_2 ⟨Nat.le_of_ble_eq_true rfl, Nat.le_of_ble_eq_true rfl⟩ ⟨by decide, by decide⟩ (fun E u h => by obtain ⟨⟨e1, h⟩, e⟩ := h; exact ⟨Or.inl ⟨e1, by first | exact h | exact Or.inl h | exact Or.inr h | exact Or.inr (Or.inl h) | exact Or.inr (Or.inr h) | omega | (simp at h ⊢; omega)⟩, e⟩) (fun v u H locs hp hW => ?_)
  obtain ⟨xN_2, rfl, hp2_0, hp2_1, rfl⟩ := hp
  refine W.eq (g2 := F0 m 5 ls []) rfl ?_
  subst hp2_1
  refine lv_aload_n S.1 S.2.1 dX11_weightWith_5 rfl (lv_at hl 0 rfl) ?_
  refine lv_iload_n S.1 S.2.1 dX11_weightWith_6 rfl (lv_at hl 2 rfl) ?_
  refine jx_callq (k := 0) (ci := 10) (q := (RX11, TX11, 15)) (As := [.int y]) (rest := []) S hK hA hW hQ htab hr hx (c_X11_checkValue l htr D cy ad y    ) (jgo wm_X11_127) yk_X11_checkValue hO rfl rfl ⟨⟨rfl, rfl⟩, by decide, by decide⟩ rfl hl.1 rfl (Nat.le_of_ble_eq_true rfl) dX11_weightWith_7 ⟨Nat.le_of_ble_eq_true rfl, Nat.le_of_ble_eq_true rfl⟩ ⟨by decide, by decide⟩ (fun E u h => by obtain ⟨⟨e1, h⟩, e⟩ := h; exact ⟨Or.inr (⟨e1, ⟨⟨xN_2, hp2_0, rfl⟩, h⟩⟩), e⟩) (fun v u H locs hp hW => ?_)
  obtain ⟨xN_7, rfl, hp7_0, hp7_1, rfl⟩ := hp
  refine W.eq (g2 := F0 m 10 ls []) rfl ?_
  subst hp7_1
  refine lv_aload_n S.1 S.2.1 dX11_weightWith_10 rfl (lv_at hl 0 rfl) ?_
  refine lv_iconst (v := nI 1) S.1 S.2.1 dX11_weightWith_11 (by decide) ?_
  refine lv_iload_n S.1 S.2.1 dX11_weightWith_12 rfl (lv_at hl 1 rfl) ?_
  refine jn_shl1 S (by omega) dX11_weightWith_13 ?_
  refine lv_iload_n S.1 S.2.1 dX11_weightWith_14 rfl (lv_at hl 2 rfl) ?_
  refine lv_iload_n S.1 S.2.1 dX11_weightWith_15 rfl (lv_at hl 1 rfl) ?_
  refine jn_shl S (by omega) dX11_weightWith_16 ?_
  refine j_callV (k := 0) (ci := 10) (q := (RX11, TX11, 15)) (As := [.int (nI (2 ^ xN_2)), .int (nI (xN_7 <<< xN_2))]) (rest := []) S hK hA hW (c_X11_weightWhere l D cy ad n sd se fr nc lv tf cp ca cs mv MX pr (2 ^ xN_2) (xN_7 <<< xN_2) hO hMo hMl hMa hC hT hDo hDa hcon  (by omega) (by omega) (by omega) (by omega) (by first | omega | exact fun _ => ⟨rfl, rfl⟩) (⟨Nat.lt_of_lt_of_le (pow_lt2 hp2_0) (two_pow10 hn), Nat.lt_of_lt_of_le (shl01_lt (by omega) hp2_0) (two_pow10 hn)⟩)) (jgo wm_X11_206) yk_X11_weightWhere hO rfl rfl ⟨⟨rfl, rfl⟩, by decide, by decide⟩ rfl hl.1 rfl (Nat.le_of_ble_eq_true rfl) dX11_weightWith_17 ⟨Nat.le_of_ble_eq_true rfl, Nat.le_of_ble_eq_true rfl⟩ (fun v w_ H locs hp hW => ?_)
  obtain ⟨rfl, hU1, hN1, hN2, hN3⟩ := hp
  have hU : jU w w_ [0, 20, 22] := jU.mono hU1 (by decide)
  have hO_ : w_[0]? = some (ad 0, .inr (10, [.int (nI n), .ref (ad 1), .ref (ad 3), .ref (ad 5), .int (nI sd), .int (nI se), .ref (ad 7), .ref (ad 9), .ref (ad 11), .ref (ad 20), .int (bI true), .ref (ad 23), .ref (ad 26), .ref (ad 31), .ref (ad 42)])) := hN1
  have hMo_ : w_[20]? = some (ad 20, .inr (0, [.ref (ad 21), .int (nI n)])) := hN2
  have hMa_ : w_[22]? = some (ad 22, .inl (cy 1, 16, .inr (.inl (wd (mdl n sd se nc cs lv))))) := hN3
  clear hU1 hN1 hN2 hN3
  refine W.eq (g2 := F0 m 20 ls [.long (lN (sumI (fun d => decide (d &&& (2 ^ xN_2) = (xN_7 <<< xN_2)) && mdl n sd se nc cs lv d) pr (2 ^ n)))]) rfl ?_
  subst hQ
  refine vx_ret ?_
  exact j_lret (u := w_) S hr hK hW dX11_weightWith_20 ⟨by decide, by decide⟩ (⟨xN_2, xN_7, rfl, hp2_0, rfl, hp7_0, rfl, hU, hO_, hMo_, hMa_⟩)
/-- chance: X11_chanceTop -/
theorem c_X11_chanceTop (l : Launch) (htr : l.stackTraces = false) (D : va_G) (cy : Nat → ClassId) {w : va_W} (ad : Nat → Nat) (n sd se : Nat) (fr : Bool) (nc lv : Nat) (tf : Nat → Option Nat) (cp ca : Nat → Nat) (cs : Nat → CN) (mv : Int32) (MX : Nat → Bool) (pr : Nat → Nat) (v : Int32) (hO : w[0]? = some (ad 0, .inr (10, [.int (nI n), .ref (ad 1), .ref (ad 3), .ref (ad 5), .int (nI sd), .int (nI se), .ref (ad 7), .ref (ad 9), .ref (ad 11), .ref (ad 20), .int (bI fr), .ref (ad 23), .ref (ad 26), .ref (ad 31), .ref (ad 42)]))) (hMo : w[20]? = some (ad 20, .inr (0, [.ref (ad 21), .int mv]))) (hMl : w[21]? = some (ad 21, .inr (6, [.ref (ad 22)]))) (hMa : w[22]? = some (ad 22, .inl (cy 1, 16, .inr (.inl (wd MX))))) (hC : w[9]? = some (ad 9, .inr (4, [.ref (ad 10), .int (nI nc), .int (nI lv)]))) (hT : w[10]? = some (ad 10, .inl (cy 5, 20, .inr (.inr (.inr (.inr tf)))))) (hDo : w[5]? = some (ad 5, .inr (6, [.ref (ad 6)]))) (hDa : w[6]? = some (ad 6, .inl (cy 1, 1024, .inr (.inl (lf pr))))) (hcon : conOK w nc tf cp ca cs) (hn : n ≤ 10) (hsd : sd < 1024) (hse : se < 1024) (hlv : lv < 2 ^ 20) (hfr : fr = true → mv = nI n ∧ MX = mdl n sd se nc cs lv) (hpr : ∀ j, pr j ≤ 3486784401) : jMx jTexts l yX11_chanceTop (jws yX11_chanceTop cX11_chanceTop 6 (some .long)) (jR 10 2 12) D cy w [.ref (ad 0), .int v] 2 12 (fun vv uu => ∃ (x : Nat), vv = some (.long (lN ((sumI (fun d => decide (d &&& 2 ^ x = 2 ^ x) && mdl n sd se nc cs lv d) pr (2 ^ n)) / Nat.gcd (sumI (fun d => decide (d &&& 2 ^ x = 2 ^ x) && mdl n sd se nc cs lv d) pr (2 ^ n)) (sumI (mdl n sd se nc cs lv) pr (2 ^ n))))) ∧ x < n ∧ v = nI x ∧ sumI (mdl n sd se nc cs lv) pr (2 ^ n) ≠ 0 ∧ jU w uu [0, 20, 22] ∧ uu[0]? = some (ad 0, .inr (10, [.int (nI n), .ref (ad 1), .ref (ad 3), .ref (ad 5), .int (nI sd), .int (nI se), .ref (ad 7), .ref (ad 9), .ref (ad 11), .ref (ad 20), .int (bI true), .ref (ad 23), .ref (ad 26), .ref (ad 31), .ref (ad 42)])) ∧ uu[20]? = some (ad 20, .inr (0, [.ref (ad 21), .int (nI n)])) ∧ uu[22]? = some (ad 22, .inl (cy 1, 16, .inr (.inl (wd (mdl n sd se nc cs lv)))))) (fun EE uu => (EE = "java/lang/IndexOutOfBoundsException" ∧ (vB v n = false) ∧ (w = uu)) ∨ (EE = "java/util/NoSuchElementException" ∧ ((∃ x, x < n ∧ v = nI x) ∧ sumI (mdl n sd se nc cs lv) pr (2 ^ n) = 0) ∧ (jU w uu [0, 20, 22] ∧ uu[0]? = some (ad 0, .inr (10, [.int (nI n), .ref (ad 1), .ref (ad 3), .ref (ad 5), .int (nI sd), .int (nI se), .ref (ad 7), .ref (ad 9), .ref (ad 11), .ref (ad 20), .int (bI true), .ref (ad 23), .ref (ad 26), .ref (ad 31), .ref (ad 42)])) ∧ uu[20]? = some (ad 20, .inr (0, [.ref (ad 21), .int (nI n)])) ∧ uu[22]? = some (ad 22, .inl (cy 1, 16, .inr (.inl (wd (mdl n sd se nc cs lv)))))))) := by
  refine jx_of (by decide) rfl (Nat.le_of_ble_eq_true rfl) ?_
  intro p e s m args below meth c A ls Q hQ S hr hK hA H locs hW hl htab hx
  have hl : lv_has ls 6 [(0, .ref (ad 0)), (1, .int v)] := hl
  refine lv_aload_n S.1 S.2.1 dX11_chanceTop_0 rfl (lv_at hl 0 rfl) ?_
  refine lv_iload_n S.1 S.2.1 dX11_chanceTop_1 rfl (lv_at hl 1 rfl) ?_
  refine jx_callq (k := 0) (ci := 10) (q := (RX11, TX11, 15)) (As := [.int v]) (rest := []) S hK hA hW hQ htab hr hx (c_X11_checkVariable l htr D cy ad n sd se fr v hO   (by omega)) (jgo wm_X11_98) yk_X11_checkVariable hO rfl rfl ⟨⟨rfl, rfl⟩, by decide, by decide⟩ rfl hl.1 rfl (Nat.le_of_ble_eq_true rfl) dX11_chanceTop_2 ⟨Nat.le_of_ble_eq_true rfl, Nat.le_of_ble_eq_true rfl⟩ ⟨by decide, by decide⟩ (fun E u h => by obtain ⟨⟨e1, h⟩, e⟩ := h; exact Or.inl ⟨e1, by first | exact h | exact Or.inl h | exact Or.inr h | exact Or.inr (Or.inl h) | exact Or.inr (Or.inr h) | omega | (simp at h ⊢; omega), e⟩) (fun v u H locs hp hW => ?_)
  obtain ⟨xN_2, rfl, hp2_0, hp2_1, rfl⟩ := hp
  refine W.eq (g2 := F0 m 5 ls []) rfl ?_
  subst hp2_1
  refine lv_aload_n S.1 S.2.1 dX11_chanceTop_5 rfl (lv_at hl 0 rfl) ?_
  refine jx_callq (k := 0) (ci := 10) (q := (RX11, TX11, 15)) (As := []) (rest := []) S hK hA hW hQ htab hr hx (c_X11_positiveWeight l htr D cy ad n sd se fr nc lv tf cp ca cs mv MX pr hO hMo hMl hMa hC hT hDo hDa hcon  (by omega) (by omega) (by omega) (by omega) (by first | omega | exact fun _ => ⟨rfl, rfl⟩) (hpr)) (jgo wm_X11_210) yk_X11_positiveWeight hO rfl rfl ⟨⟨rfl, rfl⟩, by decide, by decide⟩ rfl hl.1 rfl (Nat.le_of_ble_eq_true rfl) dX11_chanceTop_6 ⟨Nat.le_of_ble_eq_true rfl, Nat.le_of_ble_eq_true rfl⟩ ⟨by decide, by decide⟩ (fun E u h => by obtain ⟨e1, h, e⟩ := h; exact Or.inr (⟨e1, ⟨⟨xN_2, hp2_0, rfl⟩, h⟩, e⟩)) (fun v w_ H locs hp hW => ?_)
  obtain ⟨rfl, hp6_0, hU1, hN1, hN2, hN3⟩ := hp
  have hU : jU w w_ [0, 20, 22] := jU.mono hU1 (by decide)
  have hO_ : w_[0]? = some (ad 0, .inr (10, [.int (nI n), .ref (ad 1), .ref (ad 3), .ref (ad 5), .int (nI sd), .int (nI se), .ref (ad 7), .ref (ad 9), .ref (ad 11), .ref (ad 20), .int (bI true), .ref (ad 23), .ref (ad 26), .ref (ad 31), .ref (ad 42)])) := hN1
  have hMo_ : w_[20]? = some (ad 20, .inr (0, [.ref (ad 21), .int (nI n)])) := hN2
  have hMa_ : w_[22]? = some (ad 22, .inl (cy 1, 16, .inr (.inl (wd (mdl n sd se nc cs lv))))) := hN3
  clear hU1 hN1 hN2 hN3
  refine W.eq (g2 := F0 m 9 ls [.long (lN (sumI (mdl n sd se nc cs lv) pr (2 ^ n)))]) rfl ?_
  refine lv_lstore_n (lv' := [(2, .long (lN (sumI (mdl n sd se nc cs lv) pr (2 ^ n)))), (0, .ref (ad 0)), (1, .int (nI xN_2))]) S.1 S.2.1 dX11_chanceTop_9 rfl hl (by decide) rfl (fun ls hl => ?_)
  refine lv_aload_n S.1 S.2.1 dX11_chanceTop_10 rfl (lv_at hl 1 rfl) ?_
  refine lv_iconst (v := nI 1) S.1 S.2.1 dX11_chanceTop_11 (by decide) ?_
  refine lv_iload_n S.1 S.2.1 dX11_chanceTop_12 rfl (lv_at hl 2 rfl) ?_
  refine jn_shl1 S (by omega) dX11_chanceTop_13 ?_
  refine lv_iconst (v := nI 1) S.1 S.2.1 dX11_chanceTop_14 (by decide) ?_
  refine lv_iload_n S.1 S.2.1 dX11_chanceTop_15 rfl (lv_at hl 2 rfl) ?_
  refine jn_shl1 S (by omega) dX11_chanceTop_16 ?_
  refine j_callV (k := 0) (ci := 10) (q := (RX11, TX11, 15)) (As := [.int (nI (2 ^ xN_2)), .int (nI (2 ^ xN_2))]) (rest := []) S hK hA hW (c_X11_weightWhere l D cy ad n sd se true nc lv tf cp ca cs (nI n) (mdl n sd se nc cs lv) pr (2 ^ xN_2) (2 ^ xN_2) hO_ hMo_ (hU.get hMl (by decide)) hMa_ (hU.get hC (by decide)) (hU.get hT (by decide)) (hU.get hDo (by decide)) (hU.get hDa (by decide)) (hcon.kept hU (by decide))  (by omega) (by omega) (by omega) (by omega) (by first | omega | exact fun _ => ⟨rfl, rfl⟩) (⟨Nat.lt_of_lt_of_le (pow_lt2 hp2_0) (two_pow10 hn), Nat.lt_of_lt_of_le (pow_lt2 hp2_0) (two_pow10 hn)⟩)) (jgo wm_X11_206) yk_X11_weightWhere hO_ rfl rfl ⟨⟨rfl, rfl⟩, by decide, by decide⟩ rfl hl.1 rfl (Nat.le_of_ble_eq_true rfl) dX11_chanceTop_17 ⟨Nat.le_of_ble_eq_true rfl, Nat.le_of_ble_eq_true rfl⟩ (fun v w_ H locs hp hW => ?_)
  obtain ⟨rfl, hU1, hN1, hN2, hN3⟩ := hp
  have hU := hU.then hU1 (by decide)
  have hO_ : w_[0]? = some (ad 0, .inr (10, [.int (nI n), .ref (ad 1), .ref (ad 3), .ref (ad 5), .int (nI sd), .int (nI se), .ref (ad 7), .ref (ad 9), .ref (ad 11), .ref (ad 20), .int (bI true), .ref (ad 23), .ref (ad 26), .ref (ad 31), .ref (ad 42)])) := hN1
  have hMo_ : w_[20]? = some (ad 20, .inr (0, [.ref (ad 21), .int (nI n)])) := hN2
  have hMa_ : w_[22]? = some (ad 22, .inl (cy 1, 16, .inr (.inl (wd (mdl n sd se nc cs lv))))) := hN3
  clear hU1 hN1 hN2 hN3
  refine W.eq (g2 := F0 m 20 ls [.long (lN (sumI (fun d => decide (d &&& (2 ^ xN_2) = (2 ^ xN_2)) && mdl n sd se nc cs lv d) pr (2 ^ n)))]) rfl ?_
  have hp2 := two_pow10 hn
  have hsl : sumI (mdl n sd se nc cs lv) pr (2 ^ n) ≤ 2 ^ n * 3486784401 := sumI_le (fun j _ => hpr j)
  have hsb : 2 ^ n * 3486784401 ≤ 1024 * 3486784401 := Nat.mul_le_mul_right _ hp2
  have htl : sumI (fun d => decide (d &&& 2 ^ xN_2 = 2 ^ xN_2) && mdl n sd se nc cs lv d) pr (2 ^ n) ≤ sumI (mdl n sd se nc cs lv) pr (2 ^ n) := sumI_mono (fun j _ q => (Bool.and_eq_true _ _ ▸ q).2)
  refine lv_lstore (lv' := [(4, .long (lN (sumI (fun d => decide (d &&& (2 ^ xN_2) = (2 ^ xN_2)) && mdl n sd se nc cs lv d) pr (2 ^ n)))), (2, .long (lN (sumI (mdl n sd se nc cs lv) pr (2 ^ n)))), (0, .ref (ad 0)), (1, .int (nI xN_2))]) S.1 S.2.1 dX11_chanceTop_20 hl (by decide) rfl (fun ls hl => ?_)
  refine lv_lload S.1 S.2.1 dX11_chanceTop_22 (lv_at hl 0 rfl) ?_
  refine lv_lload S.1 S.2.1 dX11_chanceTop_24 (lv_at hl 0 rfl) ?_
  refine lv_lload_n S.1 S.2.1 dX11_chanceTop_26 rfl (lv_at hl 1 rfl) ?_
  refine j_callS (As := [.long (lN (sumI (fun d => decide (d &&& (2 ^ xN_2) = (2 ^ xN_2)) && mdl n sd se nc cs lv d) pr (2 ^ n))), .long (lN (sumI (fun d => decide (d &&& (2 ^ xN_2) = (2 ^ xN_2)) && mdl n sd se nc cs lv d) pr (2 ^ n))), .long (lN (sumI (mdl n sd se nc cs lv) pr (2 ^ n)))]) (rest := []) S hK hA hW (c_X11_lowered l D cy (sumI (fun d => decide (d &&& (2 ^ xN_2) = (2 ^ xN_2)) && mdl n sd se nc cs lv d) pr (2 ^ n)) (sumI (fun d => decide (d &&& (2 ^ xN_2) = (2 ^ xN_2)) && mdl n sd se nc cs lv d) pr (2 ^ n)) (sumI (mdl n sd se nc cs lv) pr (2 ^ n))    (by omega) (htl) (by omega)) (jgo wm_X11_214) yk_X11_lowered ⟨⟨rfl, rfl⟩, by decide, by decide⟩ rfl hl.1 rfl (Nat.le_of_ble_eq_true rfl) dX11_chanceTop_27 ⟨Nat.le_of_ble_eq_true rfl, Nat.le_of_ble_eq_true rfl⟩ (fun v u H locs hp hW => ?_)
  obtain ⟨rfl, rfl⟩ := hp
  refine W.eq (g2 := F0 m 30 ls [.long (lN ((sumI (fun d => decide (d &&& (2 ^ xN_2) = (2 ^ xN_2)) && mdl n sd se nc cs lv d) pr (2 ^ n)) / Nat.gcd (sumI (fun d => decide (d &&& (2 ^ xN_2) = (2 ^ xN_2)) && mdl n sd se nc cs lv d) pr (2 ^ n)) (sumI (mdl n sd se nc cs lv) pr (2 ^ n))))]) rfl ?_
  subst hQ
  refine vx_ret ?_
  exact j_lret (u := w_) S hr hK hW dX11_chanceTop_30 ⟨by decide, by decide⟩ (⟨xN_2, rfl, hp2_0, rfl, hp6_0, hU, hO_, hMo_, hMa_⟩)
/-- chance: X11_chanceBottom -/
theorem c_X11_chanceBottom (l : Launch) (htr : l.stackTraces = false) (D : va_G) (cy : Nat → ClassId) {w : va_W} (ad : Nat → Nat) (n sd se : Nat) (fr : Bool) (nc lv : Nat) (tf : Nat → Option Nat) (cp ca : Nat → Nat) (cs : Nat → CN) (mv : Int32) (MX : Nat → Bool) (pr : Nat → Nat) (v : Int32) (hO : w[0]? = some (ad 0, .inr (10, [.int (nI n), .ref (ad 1), .ref (ad 3), .ref (ad 5), .int (nI sd), .int (nI se), .ref (ad 7), .ref (ad 9), .ref (ad 11), .ref (ad 20), .int (bI fr), .ref (ad 23), .ref (ad 26), .ref (ad 31), .ref (ad 42)]))) (hMo : w[20]? = some (ad 20, .inr (0, [.ref (ad 21), .int mv]))) (hMl : w[21]? = some (ad 21, .inr (6, [.ref (ad 22)]))) (hMa : w[22]? = some (ad 22, .inl (cy 1, 16, .inr (.inl (wd MX))))) (hC : w[9]? = some (ad 9, .inr (4, [.ref (ad 10), .int (nI nc), .int (nI lv)]))) (hT : w[10]? = some (ad 10, .inl (cy 5, 20, .inr (.inr (.inr (.inr tf)))))) (hDo : w[5]? = some (ad 5, .inr (6, [.ref (ad 6)]))) (hDa : w[6]? = some (ad 6, .inl (cy 1, 1024, .inr (.inl (lf pr))))) (hcon : conOK w nc tf cp ca cs) (hn : n ≤ 10) (hsd : sd < 1024) (hse : se < 1024) (hlv : lv < 2 ^ 20) (hfr : fr = true → mv = nI n ∧ MX = mdl n sd se nc cs lv) (hpr : ∀ j, pr j ≤ 3486784401) : jMx jTexts l yX11_chanceBottom (jws yX11_chanceBottom cX11_chanceBottom 4 (some .long)) (jR 10 2 12) D cy w [.ref (ad 0), .int v] 2 12 (fun vv uu => ∃ (x : Nat), vv = some (.long (lN ((sumI (mdl n sd se nc cs lv) pr (2 ^ n)) / Nat.gcd (sumI (fun d => decide (d &&& 2 ^ x = 2 ^ x) && mdl n sd se nc cs lv d) pr (2 ^ n)) (sumI (mdl n sd se nc cs lv) pr (2 ^ n))))) ∧ x < n ∧ v = nI x ∧ sumI (mdl n sd se nc cs lv) pr (2 ^ n) ≠ 0 ∧ jU w uu [0, 20, 22] ∧ uu[0]? = some (ad 0, .inr (10, [.int (nI n), .ref (ad 1), .ref (ad 3), .ref (ad 5), .int (nI sd), .int (nI se), .ref (ad 7), .ref (ad 9), .ref (ad 11), .ref (ad 20), .int (bI true), .ref (ad 23), .ref (ad 26), .ref (ad 31), .ref (ad 42)])) ∧ uu[20]? = some (ad 20, .inr (0, [.ref (ad 21), .int (nI n)])) ∧ uu[22]? = some (ad 22, .inl (cy 1, 16, .inr (.inl (wd (mdl n sd se nc cs lv)))))) (fun EE uu => (EE = "java/lang/IndexOutOfBoundsException" ∧ (vB v n = false) ∧ (w = uu)) ∨ (EE = "java/util/NoSuchElementException" ∧ ((∃ x, x < n ∧ v = nI x) ∧ sumI (mdl n sd se nc cs lv) pr (2 ^ n) = 0) ∧ (jU w uu [0, 20, 22] ∧ uu[0]? = some (ad 0, .inr (10, [.int (nI n), .ref (ad 1), .ref (ad 3), .ref (ad 5), .int (nI sd), .int (nI se), .ref (ad 7), .ref (ad 9), .ref (ad 11), .ref (ad 20), .int (bI true), .ref (ad 23), .ref (ad 26), .ref (ad 31), .ref (ad 42)])) ∧ uu[20]? = some (ad 20, .inr (0, [.ref (ad 21), .int (nI n)])) ∧ uu[22]? = some (ad 22, .inl (cy 1, 16, .inr (.inl (wd (mdl n sd se nc cs lv)))))))) := by
  refine jx_of (by decide) rfl (Nat.le_of_ble_eq_true rfl) ?_
  intro p e s m args below meth c A ls Q hQ S hr hK hA H locs hW hl htab hx
  have hl : lv_has ls 4 [(0, .ref (ad 0)), (1, .int v)] := hl
  refine lv_aload_n S.1 S.2.1 dX11_chanceBottom_0 rfl (lv_at hl 0 rfl) ?_
  refine lv_iload_n S.1 S.2.1 dX11_chanceBottom_1 rfl (lv_at hl 1 rfl) ?_
  refine jx_callq (k := 0) (ci := 10) (q := (RX11, TX11, 15)) (As := [.int v]) (rest := []) S hK hA hW hQ htab hr hx (c_X11_checkVariable l htr D cy ad n sd se fr v hO   (by omega)) (jgo wm_X11_98) yk_X11_checkVariable hO rfl rfl ⟨⟨rfl, rfl⟩, by decide, by decide⟩ rfl hl.1 rfl (Nat.le_of_ble_eq_true rfl) dX11_chanceBottom_2 ⟨Nat.le_of_ble_eq_true rfl, Nat.le_of_ble_eq_true rfl⟩ ⟨by decide, by decide⟩ (fun E u h => by obtain ⟨⟨e1, h⟩, e⟩ := h; exact Or.inl ⟨e1, by first | exact h | exact Or.inl h | exact Or.inr h | exact Or.inr (Or.inl h) | exact Or.inr (Or.inr h) | omega | (simp at h ⊢; omega), e⟩) (fun v u H locs hp hW => ?_)
  obtain ⟨xN_2, rfl, hp2_0, hp2_1, rfl⟩ := hp
  refine W.eq (g2 := F0 m 5 ls []) rfl ?_
  subst hp2_1
  refine lv_aload_n S.1 S.2.1 dX11_chanceBottom_5 rfl (lv_at hl 0 rfl) ?_
  refine jx_callq (k := 0) (ci := 10) (q := (RX11, TX11, 15)) (As := []) (rest := []) S hK hA hW hQ htab hr hx (c_X11_positiveWeight l htr D cy ad n sd se fr nc lv tf cp ca cs mv MX pr hO hMo hMl hMa hC hT hDo hDa hcon  (by omega) (by omega) (by omega) (by omega) (by first | omega | exact fun _ => ⟨rfl, rfl⟩) (hpr)) (jgo wm_X11_210) yk_X11_positiveWeight hO rfl rfl ⟨⟨rfl, rfl⟩, by decide, by decide⟩ rfl hl.1 rfl (Nat.le_of_ble_eq_true rfl) dX11_chanceBottom_6 ⟨Nat.le_of_ble_eq_true rfl, Nat.le_of_ble_eq_true rfl⟩ ⟨by decide, by decide⟩ (fun E u h => by obtain ⟨e1, h, e⟩ := h; exact Or.inr (⟨e1, ⟨⟨xN_2, hp2_0, rfl⟩, h⟩, e⟩)) (fun v w_ H locs hp hW => ?_)
  obtain ⟨rfl, hp6_0, hU1, hN1, hN2, hN3⟩ := hp
  have hU : jU w w_ [0, 20, 22] := jU.mono hU1 (by decide)
  have hO_ : w_[0]? = some (ad 0, .inr (10, [.int (nI n), .ref (ad 1), .ref (ad 3), .ref (ad 5), .int (nI sd), .int (nI se), .ref (ad 7), .ref (ad 9), .ref (ad 11), .ref (ad 20), .int (bI true), .ref (ad 23), .ref (ad 26), .ref (ad 31), .ref (ad 42)])) := hN1
  have hMo_ : w_[20]? = some (ad 20, .inr (0, [.ref (ad 21), .int (nI n)])) := hN2
  have hMa_ : w_[22]? = some (ad 22, .inl (cy 1, 16, .inr (.inl (wd (mdl n sd se nc cs lv))))) := hN3
  clear hU1 hN1 hN2 hN3
  refine W.eq (g2 := F0 m 9 ls [.long (lN (sumI (mdl n sd se nc cs lv) pr (2 ^ n)))]) rfl ?_
  refine lv_lstore_n (lv' := [(2, .long (lN (sumI (mdl n sd se nc cs lv) pr (2 ^ n)))), (0, .ref (ad 0)), (1, .int (nI xN_2))]) S.1 S.2.1 dX11_chanceBottom_9 rfl hl (by decide) rfl (fun ls hl => ?_)
  refine lv_lload_n S.1 S.2.1 dX11_chanceBottom_10 rfl (lv_at hl 0 rfl) ?_
  refine lv_aload_n S.1 S.2.1 dX11_chanceBottom_11 rfl (lv_at hl 1 rfl) ?_
  refine lv_iconst (v := nI 1) S.1 S.2.1 dX11_chanceBottom_12 (by decide) ?_
  refine lv_iload_n S.1 S.2.1 dX11_chanceBottom_13 rfl (lv_at hl 2 rfl) ?_
  refine jn_shl1 S (by omega) dX11_chanceBottom_14 ?_
  refine lv_iconst (v := nI 1) S.1 S.2.1 dX11_chanceBottom_15 (by decide) ?_
  refine lv_iload_n S.1 S.2.1 dX11_chanceBottom_16 rfl (lv_at hl 2 rfl) ?_
  refine jn_shl1 S (by omega) dX11_chanceBottom_17 ?_
  refine j_callV (k := 0) (ci := 10) (q := (RX11, TX11, 15)) (As := [.int (nI (2 ^ xN_2)), .int (nI (2 ^ xN_2))]) (rest := [.long (lN (sumI (mdl n sd se nc cs lv) pr (2 ^ n)))]) S hK hA hW (c_X11_weightWhere l D cy ad n sd se true nc lv tf cp ca cs (nI n) (mdl n sd se nc cs lv) pr (2 ^ xN_2) (2 ^ xN_2) hO_ hMo_ (hU.get hMl (by decide)) hMa_ (hU.get hC (by decide)) (hU.get hT (by decide)) (hU.get hDo (by decide)) (hU.get hDa (by decide)) (hcon.kept hU (by decide))  (by omega) (by omega) (by omega) (by omega) (by first | omega | exact fun _ => ⟨rfl, rfl⟩) (⟨Nat.lt_of_lt_of_le (pow_lt2 hp2_0) (two_pow10 hn), Nat.lt_of_lt_of_le (pow_lt2 hp2_0) (two_pow10 hn)⟩)) (jgo wm_X11_206) yk_X11_weightWhere hO_ rfl rfl ⟨⟨rfl, rfl⟩, by decide, by decide⟩ rfl hl.1 rfl (Nat.le_of_ble_eq_true rfl) dX11_chanceBottom_18 ⟨Nat.le_of_ble_eq_true rfl, Nat.le_of_ble_eq_true rfl⟩ (fun v w_ H locs hp hW => ?_)
  obtain ⟨rfl, hU1, hN1, hN2, hN3⟩ := hp
  have hU := hU.then hU1 (by decide)
  have hO_ : w_[0]? = some (ad 0, .inr (10, [.int (nI n), .ref (ad 1), .ref (ad 3), .ref (ad 5), .int (nI sd), .int (nI se), .ref (ad 7), .ref (ad 9), .ref (ad 11), .ref (ad 20), .int (bI true), .ref (ad 23), .ref (ad 26), .ref (ad 31), .ref (ad 42)])) := hN1
  have hMo_ : w_[20]? = some (ad 20, .inr (0, [.ref (ad 21), .int (nI n)])) := hN2
  have hMa_ : w_[22]? = some (ad 22, .inl (cy 1, 16, .inr (.inl (wd (mdl n sd se nc cs lv))))) := hN3
  clear hU1 hN1 hN2 hN3
  refine W.eq (g2 := F0 m 21 ls [.long (lN (sumI (fun d => decide (d &&& (2 ^ xN_2) = (2 ^ xN_2)) && mdl n sd se nc cs lv d) pr (2 ^ n))), .long (lN (sumI (mdl n sd se nc cs lv) pr (2 ^ n)))]) rfl ?_
  have hp2 := two_pow10 hn
  have hsl : sumI (mdl n sd se nc cs lv) pr (2 ^ n) ≤ 2 ^ n * 3486784401 := sumI_le (fun j _ => hpr j)
  have hsb : 2 ^ n * 3486784401 ≤ 1024 * 3486784401 := Nat.mul_le_mul_right _ hp2
  have htl : sumI (fun d => decide (d &&& 2 ^ xN_2 = 2 ^ xN_2) && mdl n sd se nc cs lv d) pr (2 ^ n) ≤ sumI (mdl n sd se nc cs lv) pr (2 ^ n) := sumI_mono (fun j _ q => (Bool.and_eq_true _ _ ▸ q).2)
  refine lv_lload_n S.1 S.2.1 dX11_chanceBottom_21 rfl (lv_at hl 0 rfl) ?_
  refine j_callS (As := [.long (lN (sumI (mdl n sd se nc cs lv) pr (2 ^ n))), .long (lN (sumI (fun d => decide (d &&& (2 ^ xN_2) = (2 ^ xN_2)) && mdl n sd se nc cs lv d) pr (2 ^ n))), .long (lN (sumI (mdl n sd se nc cs lv) pr (2 ^ n)))]) (rest := []) S hK hA hW (c_X11_lowered l D cy (sumI (mdl n sd se nc cs lv) pr (2 ^ n)) (sumI (fun d => decide (d &&& (2 ^ xN_2) = (2 ^ xN_2)) && mdl n sd se nc cs lv d) pr (2 ^ n)) (sumI (mdl n sd se nc cs lv) pr (2 ^ n))    (by omega) (htl) (by omega)) (jgo wm_X11_214) yk_X11_lowered ⟨⟨rfl, rfl⟩, by decide, by decide⟩ rfl hl.1 rfl (Nat.le_of_ble_eq_true rfl) dX11_chanceBottom_22 ⟨Nat.le_of_ble_eq_true rfl, Nat.le_of_ble_eq_true rfl⟩ (fun v u H locs hp hW => ?_)
  obtain ⟨rfl, rfl⟩ := hp
  refine W.eq (g2 := F0 m 25 ls [.long (lN ((sumI (mdl n sd se nc cs lv) pr (2 ^ n)) / Nat.gcd (sumI (fun d => decide (d &&& (2 ^ xN_2) = (2 ^ xN_2)) && mdl n sd se nc cs lv d) pr (2 ^ n)) (sumI (mdl n sd se nc cs lv) pr (2 ^ n))))]) rfl ?_
  subst hQ
  refine vx_ret ?_
  exact j_lret (u := w_) S hr hK hW dX11_chanceBottom_25 ⟨by decide, by decide⟩ (⟨xN_2, rfl, hp2_0, rfl, hp6_0, hU, hO_, hMo_, hMa_⟩)
