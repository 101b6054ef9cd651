/-! COUNTFALL: join (laid by wip/whole/tools, from the specs there) -/
theorem join_cases (j i o : Nat) : (j = i ∧ i = o) ∨ (j = o ∧ i ≠ o) ∨ (j ≠ o ∧ i = o) ∨ (j ≠ o ∧ i ≠ o) := by omega
/-- join -/
theorem c_X11_join (l : Launch) (htr : l.stackTraces = false) (D : va_G) (cy : Nat → ClassId) {w : va_W} (ad : Nat → Nat) (n sd se : Nat) (fr : Bool) (sz : Nat) (tp fw tw yw pcn od : Nat → Nat) (kv : Nat → Int32) (kx : Nat → Nat → Bool) (v u1 u2 : Int32) (hw : Nat) (hO : w[0]? = some (ad 0, .inr (10, [.int (nI n), .ref (ad 1), .ref (ad 3), .ref (ad 5), .int (nI sd), .int (nI se), .ref (ad 7), .ref (ad 9), .ref (ad 11), .ref (ad 20), .int (bI fr), .ref (ad 23), .ref (ad 26), .ref (ad 31), .ref (ad 42)]))) (hX : w[31]? = some (ad 31, .inr (2, [.ref (ad 32), .ref (ad 34), .ref (ad 36), .ref (ad 38), .ref (ad 40), .int (nI sz)]))) (hXto : w[32]? = some (ad 32, .inr (5, [.ref (ad 33)]))) (hXta : w[33]? = some (ad 33, .inl (cy 0, 1024, .inl (nf tp)))) (hXfo : w[34]? = some (ad 34, .inr (5, [.ref (ad 35)]))) (hXfa : w[35]? = some (ad 35, .inl (cy 0, 272, .inl (nf fw)))) (hXwo : w[36]? = some (ad 36, .inr (5, [.ref (ad 37)]))) (hXwa : w[37]? = some (ad 37, .inl (cy 0, 272, .inl (nf tw)))) (hXyo : w[38]? = some (ad 38, .inr (5, [.ref (ad 39)]))) (hXya : w[39]? = some (ad 39, .inl (cy 0, 272, .inl (nf yw)))) (hXpo : w[40]? = some (ad 40, .inr (5, [.ref (ad 41)]))) (hXpa : w[41]? = some (ad 41, .inl (cy 0, 10, .inl (nf pcn)))) (hOo : w[7]? = some (ad 7, .inr (5, [.ref (ad 8)]))) (hOa : w[8]? = some (ad 8, .inl (cy 0, 10, .inl (nf od)))) (hS : w[42]? = some (ad 42, .inl (cy 4, 4, .inr (.inr (.inr (.inr (slF ad))))))) (hslo : slOK w ad cy kv kx) (hn : n ≤ 10) (hod : ∀ j, od j < 10) (hf : ∀ a, fw a < 272) (ht : ∀ a, tw a < 272) (hhw : hw < 65536) : jMx jTexts l yX11_join (jws yX11_join cX11_join 8 (some .int)) (jR 10 7 42) D cy w [.ref (ad 0), .int v, .int u1, .int (nI hw), .int u2] 7 42 (fun vv uu => ∃ (sz1 : Nat), ∃ (tp1 : Nat → Nat), ∃ (fw1 : Nat → Nat), ∃ (tw1 : Nat → Nat), ∃ (yw1 : Nat → Nat), ∃ (pcn1 : Nat → Nat), ∃ (j : Nat), ∃ (i : Nat), ∃ (o : Nat), vv = some (.int (nI (sumN (nodesB (fun d => (fun a => cmb hw (kx j a) (kx i a)) (layP n od d n)) n) n))) ∧ ((∀ a, fw1 a < 272) ∧ (∀ a, tw1 a < 272)) ∧ j < 4 ∧ v = nI j ∧ i < 4 ∧ u1 = nI i ∧ o < 4 ∧ u2 = nI o ∧ howB hw ∧ kv j = nI n ∧ kv i = nI n ∧ jU w uu [31, 33, 35, 37, 39, 41, 43 + 3 * o, 45 + 3 * o] ∧ uu[31]? = some (ad 31, .inr (2, [.ref (ad 32), .ref (ad 34), .ref (ad 36), .ref (ad 38), .ref (ad 40), .int (nI sz1)])) ∧ uu[33]? = some (ad 33, .inl (cy 0, 1024, .inl (nf tp1))) ∧ uu[35]? = some (ad 35, .inl (cy 0, 272, .inl (nf fw1))) ∧ uu[37]? = some (ad 37, .inl (cy 0, 272, .inl (nf tw1))) ∧ uu[39]? = some (ad 39, .inl (cy 0, 272, .inl (nf yw1))) ∧ uu[41]? = some (ad 41, .inl (cy 0, 10, .inl (nf pcn1))) ∧ uu[43 + 3 * o]? = some (ad (43 + 3 * o), .inr (0, [.ref (ad (44 + 3 * o)), .int (nI n)])) ∧ uu[45 + 3 * o]? = some (ad (45 + 3 * o), .inl (cy 1, 16, .inr (.inl (wd (fun a => cmb hw (kx j a) (kx i a))))))) (fun EE uu => ((EE = "java/lang/IllegalArgumentException" ∧ (vB v 4 = false ∨ vB u1 4 = false ∨ vB u2 4 = false ∨ ¬ howB hw)) ∨ (EE = "java/util/NoSuchElementException" ∧ (∃ j i o, j < 4 ∧ v = nI j ∧ i < 4 ∧ u1 = nI i ∧ o < 4 ∧ u2 = nI o ∧ howB hw ∧ (kv j = -1 ∨ kv i = -1))) ∨ (EE = "java/lang/UnsupportedOperationException" ∧ (∃ j i o, j < 4 ∧ v = nI j ∧ i < 4 ∧ u1 = nI i ∧ o < 4 ∧ u2 = nI o ∧ howB hw ∧ kv j ≠ -1 ∧ kv i ≠ -1 ∧ (kv j ≠ nI n ∨ kv i ≠ nI n)))) ∧ w = uu) := by
  refine jx_of (by decide) rfl (Nat.le_of_ble_eq_true rfl) ?_
  intro p e s m args below meth c A ls Q hQ S hr hK hA H locs hW hl htab hx
  have hl : lv_has ls 8 [(0, .ref (ad 0)), (1, .int v), (2, .int u1), (3, .int (nI hw)), (4, .int u2)] := hl
  rcases i_cases v 4 (by decide) with ⟨j, hsj, rfl⟩ | hvj
  · obtain ⟨hso, hsl, hsa⟩ := hslo j hsj
    refine lv_aload_n S.1 S.2.1 dX11_join_0 rfl (lv_at hl 0 rfl) ?_
    refine lv_iload_n S.1 S.2.1 dX11_join_1 rfl (lv_at hl 1 rfl) ?_
    refine j_callV (k := 0) (ci := 10) (q := (RX11, TX11, 15)) (As := [.int (nI j)]) (rest := []) S hK hA hW (c_X11_slotAtY l D cy ad n sd se fr j hO hS   (hsj)) (jgo wm_X11_277) yk_X11_slotAt hO rfl rfl ⟨⟨rfl, rfl⟩, by decide, by decide⟩ rfl hl.1 rfl (Nat.le_of_ble_eq_true rfl) dX11_join_2 ⟨Nat.le_of_ble_eq_true rfl, Nat.le_of_ble_eq_true rfl⟩ (fun v u H locs hp hW => ?_)
    obtain ⟨rfl, rfl⟩ := hp
    refine W.eq (g2 := F0 m 5 ls [.ref (ad (43 + 3 * j))]) rfl ?_
    refine lv_astore (lv' := [(5, .ref (ad (43 + 3 * j))), (0, .ref (ad 0)), (1, .int (nI j)), (2, .int u1), (3, .int (nI hw)), (4, .int u2)]) S.1 S.2.1 dX11_join_5 hl (by decide) rfl (fun ls hl => ?_)
    rcases i_cases u1 4 (by decide) with ⟨i, hti, rfl⟩ | hvi
    · obtain ⟨hto, htl, hta⟩ := hslo i hti
      refine lv_aload_n S.1 S.2.1 dX11_join_7 rfl (lv_at hl 1 rfl) ?_
      refine lv_iload_n S.1 S.2.1 dX11_join_8 rfl (lv_at hl 3 rfl) ?_
      refine j_callV (k := 0) (ci := 10) (q := (RX11, TX11, 15)) (As := [.int (nI i)]) (rest := []) S hK hA hW (c_X11_slotAtY l D cy ad n sd se fr i hO hS   (hti)) (jgo wm_X11_277) yk_X11_slotAt hO rfl rfl ⟨⟨rfl, rfl⟩, by decide, by decide⟩ rfl hl.1 rfl (Nat.le_of_ble_eq_true rfl) dX11_join_9 ⟨Nat.le_of_ble_eq_true rfl, Nat.le_of_ble_eq_true rfl⟩ (fun v u H locs hp hW => ?_)
      obtain ⟨rfl, rfl⟩ := hp
      refine W.eq (g2 := F0 m 12 ls [.ref (ad (43 + 3 * i))]) rfl ?_
      refine lv_astore (lv' := [(6, .ref (ad (43 + 3 * i))), (5, .ref (ad (43 + 3 * j))), (0, .ref (ad 0)), (1, .int (nI j)), (2, .int (nI i)), (3, .int (nI hw)), (4, .int u2)]) S.1 S.2.1 dX11_join_12 hl (by decide) rfl (fun ls hl => ?_)
      rcases i_cases u2 4 (by decide) with ⟨o, hoo1, rfl⟩ | hvo
      · obtain ⟨hoo, hol, hoa⟩ := hslo o hoo1
        refine lv_aload_n S.1 S.2.1 dX11_join_14 rfl (lv_at hl 2 rfl) ?_
        refine lv_iload S.1 S.2.1 dX11_join_15 (lv_at hl 6 rfl) ?_
        refine j_callV (k := 0) (ci := 10) (q := (RX11, TX11, 15)) (As := [.int (nI o)]) (rest := []) S hK hA hW (c_X11_slotAtY l D cy ad n sd se fr o hO hS   (hoo1)) (jgo wm_X11_277) yk_X11_slotAt hO rfl rfl ⟨⟨rfl, rfl⟩, by decide, by decide⟩ rfl hl.1 rfl (Nat.le_of_ble_eq_true rfl) dX11_join_17 ⟨Nat.le_of_ble_eq_true rfl, Nat.le_of_ble_eq_true rfl⟩ (fun v u H locs hp hW => ?_)
        obtain ⟨rfl, rfl⟩ := hp
        refine W.eq (g2 := F0 m 20 ls [.ref (ad (43 + 3 * o))]) rfl ?_
        refine lv_astore (lv' := [(7, .ref (ad (43 + 3 * o))), (6, .ref (ad (43 + 3 * i))), (5, .ref (ad (43 + 3 * j))), (0, .ref (ad 0)), (1, .int (nI j)), (2, .int (nI i)), (3, .int (nI hw)), (4, .int (nI o))]) S.1 S.2.1 dX11_join_20 hl (by decide) rfl (fun ls hl => ?_)
        refine lv_iload_n S.1 S.2.1 dX11_join_22 rfl (lv_at hl 6 rfl) ?_
        refine lv_bipush (v := nI 97) S.1 S.2.1 dX11_join_23 (by decide) ?_
        refine jn_cmp_eq (tgt := 51) S (by omega) (by omega) dX11_join_25 (by decide) (fun c_25 => ?_) (fun c_25 => ?_)
        · have hhow : howB hw := by first | exact Or.inl c_25 | exact Or.inr (Or.inl c_31) | exact Or.inr (Or.inr c_37)
          refine lv_aload_n S.1 S.2.1 dX11_join_51 rfl (lv_at hl 3 rfl) ?_
          refine lv_aload S.1 S.2.1 dX11_join_52 (lv_at hl 2 rfl) ?_
          refine jx_callq (k := 0) (ci := 10) (q := (RX11, TX11, 15)) (As := [.ref (ad (43 + 3 * j))]) (rest := []) S hK hA hW hQ htab hr hx (c_X11_checkKept l htr D cy (43 + 3 * j) (44 + 3 * j) (45 + 3 * j) (ad (43 + 3 * j)) (ad (44 + 3 * j)) (ad (45 + 3 * j)) (kv j) ad (kx j) hso hsl hsa   ) (jgo wm_X11_287) yk_X11_checkKept hO rfl rfl ⟨⟨rfl, rfl⟩, by decide, by decide⟩ rfl hl.1 rfl (Nat.le_of_ble_eq_true rfl) dX11_join_54 ⟨Nat.le_of_ble_eq_true rfl, Nat.le_of_ble_eq_true rfl⟩ ⟨by decide, by decide⟩ (fun E u h => by obtain ⟨⟨e1, h⟩, e⟩ := h; exact ⟨Or.inr (Or.inl ⟨e1, ⟨j, i, o, hsj, rfl, hti, rfl, hoo1, rfl, hhow, Or.inl h⟩⟩), e⟩) (fun v u H locs hp hW => ?_)
          obtain ⟨rfl, hp54_0, rfl⟩ := hp
          refine W.eq (g2 := F0 m 57 ls []) rfl ?_
          refine lv_aload_n S.1 S.2.1 dX11_join_57 rfl (lv_at hl 3 rfl) ?_
          refine lv_aload S.1 S.2.1 dX11_join_58 (lv_at hl 1 rfl) ?_
          refine jx_callq (k := 0) (ci := 10) (q := (RX11, TX11, 15)) (As := [.ref (ad (43 + 3 * i))]) (rest := []) S hK hA hW hQ htab hr hx (c_X11_checkKept l htr D cy (43 + 3 * i) (44 + 3 * i) (45 + 3 * i) (ad (43 + 3 * i)) (ad (44 + 3 * i)) (ad (45 + 3 * i)) (kv i) ad (kx i) hto htl hta   ) (jgo wm_X11_287) yk_X11_checkKept hO rfl rfl ⟨⟨rfl, rfl⟩, by decide, by decide⟩ rfl hl.1 rfl (Nat.le_of_ble_eq_true rfl) dX11_join_60 ⟨Nat.le_of_ble_eq_true rfl, Nat.le_of_ble_eq_true rfl⟩ ⟨by decide, by decide⟩ (fun E u h => by obtain ⟨⟨e1, h⟩, e⟩ := h; exact ⟨Or.inr (Or.inl ⟨e1, ⟨j, i, o, hsj, rfl, hti, rfl, hoo1, rfl, hhow, Or.inr h⟩⟩), e⟩) (fun v u H locs hp hW => ?_)
          obtain ⟨rfl, hp60_0, rfl⟩ := hp
          refine W.eq (g2 := F0 m 63 ls []) rfl ?_
          refine lv_aload_n S.1 S.2.1 dX11_join_63 rfl (lv_at hl 3 rfl) ?_
          refine lv_aload S.1 S.2.1 dX11_join_64 (lv_at hl 2 rfl) ?_
          refine jx_callq (k := 0) (ci := 10) (q := (RX11, TX11, 15)) (As := [.ref (ad (43 + 3 * j))]) (rest := []) S hK hA hW hQ htab hr hx (c_X11_checkAsManyAsNow l htr D cy (43 + 3 * j) (44 + 3 * j) (45 + 3 * j) (ad (43 + 3 * j)) (ad (44 + 3 * j)) (ad (45 + 3 * j)) (kv j) (kx j) ad n sd se fr hso hsl hsa hO   ) (jgo wm_X11_290) yk_X11_checkAsManyAsNow hO rfl rfl ⟨⟨rfl, rfl⟩, by decide, by decide⟩ rfl hl.1 rfl (Nat.le_of_ble_eq_true rfl) dX11_join_66 ⟨Nat.le_of_ble_eq_true rfl, Nat.le_of_ble_eq_true rfl⟩ ⟨by decide, by decide⟩ (fun E u h => by obtain ⟨⟨e1, h⟩, e⟩ := h; exact ⟨Or.inr (Or.inr (⟨e1, ⟨j, i, o, hsj, rfl, hti, rfl, hoo1, rfl, hhow, hp54_0, hp60_0, Or.inl h⟩⟩)), e⟩) (fun v u H locs hp hW => ?_)
          obtain ⟨rfl, hp66_0, rfl⟩ := hp
          refine W.eq (g2 := F0 m 69 ls []) rfl ?_
          refine lv_aload_n S.1 S.2.1 dX11_join_69 rfl (lv_at hl 3 rfl) ?_
          refine lv_aload S.1 S.2.1 dX11_join_70 (lv_at hl 1 rfl) ?_
          refine jx_callq (k := 0) (ci := 10) (q := (RX11, TX11, 15)) (As := [.ref (ad (43 + 3 * i))]) (rest := []) S hK hA hW hQ htab hr hx (c_X11_checkAsManyAsNow l htr D cy (43 + 3 * i) (44 + 3 * i) (45 + 3 * i) (ad (43 + 3 * i)) (ad (44 + 3 * i)) (ad (45 + 3 * i)) (kv i) (kx i) ad n sd se fr hto htl hta hO   ) (jgo wm_X11_290) yk_X11_checkAsManyAsNow hO rfl rfl ⟨⟨rfl, rfl⟩, by decide, by decide⟩ rfl hl.1 rfl (Nat.le_of_ble_eq_true rfl) dX11_join_72 ⟨Nat.le_of_ble_eq_true rfl, Nat.le_of_ble_eq_true rfl⟩ ⟨by decide, by decide⟩ (fun E u h => by obtain ⟨⟨e1, h⟩, e⟩ := h; exact ⟨Or.inr (Or.inr (⟨e1, ⟨j, i, o, hsj, rfl, hti, rfl, hoo1, rfl, hhow, hp54_0, hp60_0, Or.inr h⟩⟩)), e⟩) (fun v u H locs hp hW => ?_)
          obtain ⟨rfl, hp72_0, rfl⟩ := hp
          refine W.eq (g2 := F0 m 75 ls []) rfl ?_
          rcases join_cases j i o with ⟨e1, e2⟩ | ⟨e1, e2⟩ | ⟨e1, e2⟩ | ⟨e1, e2⟩
          · have e2 := e2.symm
            subst e2
            have e1 := e1.symm
            subst e1
            refine lv_aload S.1 S.2.1 dX11_join_75 (lv_at hl 0 rfl) ?_
            refine lv_aload S.1 S.2.1 dX11_join_77 (lv_at hl 2 rfl) ?_
            refine lv_aload S.1 S.2.1 dX11_join_79 (lv_at hl 1 rfl) ?_
            refine lv_iload_n S.1 S.2.1 dX11_join_81 rfl (lv_at hl 6 rfl) ?_
            refine j_callV (k := 43 + 3 * o) (ci := 0) (q := (RX0, TX0, 2)) (As := [.ref (ad (43 + 3 * o)), .ref (ad (43 + 3 * o)), .int (nI hw)]) (rest := []) S hK hA hW (c_X0_combineB l D cy (43 + 3 * o) (44 + 3 * o) (45 + 3 * o) (ad (43 + 3 * o)) (ad (44 + 3 * o)) (ad (45 + 3 * o)) (kv o) (kx o) hw hoo hol hoa   (hhw)) (jgo wm_X11_293) yk_X0_combine hoo rfl rfl ⟨⟨rfl, rfl⟩, by decide, by decide⟩ rfl hl.1 rfl (Nat.le_of_ble_eq_true rfl) dX11_join_82 ⟨Nat.le_of_ble_eq_true rfl, Nat.le_of_ble_eq_true rfl⟩ (fun v w_ H locs hp hW => ?_)
            obtain ⟨rfl, hU1, hN1, hN2⟩ := hp
            have hU : jU w w_ [31, 33, 35, 37, 39, 41, 43 + 3 * o, 45 + 3 * o] := jU.mono hU1 (by first | decide | (simp; done) | (simp; omega))
            have hX_ := hU1.get hX (by first | decide | (simp; done) | (simp; omega))
            have hXta_ := hU1.get hXta (by first | decide | (simp; done) | (simp; omega))
            have hXfa_ := hU1.get hXfa (by first | decide | (simp; done) | (simp; omega))
            have hXwa_ := hU1.get hXwa (by first | decide | (simp; done) | (simp; omega))
            have hXya_ := hU1.get hXya (by first | decide | (simp; done) | (simp; omega))
            have hXpa_ := hU1.get hXpa (by first | decide | (simp; done) | (simp; omega))
            have hoo_ : w_[(43 + 3 * o)]? = some (ad (43 + 3 * o), .inr (0, [.ref (ad (44 + 3 * o)), .int (kv o)])) := hN1
            have hoa_ : w_[(45 + 3 * o)]? = some (ad (45 + 3 * o), .inl (cy 1, 16, .inr (.inl (wd (fun a => cmb hw ((kx o) a) ((kx o) a)))))) := hN2
            clear hU1 hN1 hN2
            refine W.eq (g2 := F0 m 85 ls []) rfl ?_
            rw [hp66_0] at hoo_
            refine lv_aload_n S.1 S.2.1 dX11_join_85 rfl (lv_at hl 3 rfl) ?_
            refine lv_aload S.1 S.2.1 dX11_join_86 (lv_at hl 0 rfl) ?_
            refine j_callV (k := 0) (ci := 10) (q := (RX11, TX11, 15)) (As := [.ref (ad (43 + 3 * o))]) (rest := []) S hK hA hW (c_X11_countNodes l D cy (43 + 3 * o) (44 + 3 * o) (45 + 3 * o) (ad (43 + 3 * o)) (ad (44 + 3 * o)) (ad (45 + 3 * o)) n (fun a => cmb hw ((kx o) a) ((kx o) a)) ad sd se fr sz tp fw tw yw pcn od hoo_ (hU.get hol (by first | decide | (simp; done) | (simp; omega))) hoa_ (hU.get hO (by first | decide | (simp; done) | (simp; omega))) hX_ (hU.get hXto (by first | decide | (simp; done) | (simp; omega))) hXta_ (hU.get hXfo (by first | decide | (simp; done) | (simp; omega))) hXfa_ (hU.get hXwo (by first | decide | (simp; done) | (simp; omega))) hXwa_ (hU.get hXyo (by first | decide | (simp; done) | (simp; omega))) hXya_ (hU.get hXpo (by first | decide | (simp; done) | (simp; omega))) hXpa_ (hU.get hOo (by first | decide | (simp; done) | (simp; omega))) (hU.get hOa (by first | decide | (simp; done) | (simp; omega)))   (by omega) (hod) (hf) (ht) (by omega)) (jgo wm_X11_260) yk_X11_countNodes (hU.get hO (by first | decide | (simp; done) | (simp; omega))) rfl rfl ⟨⟨rfl, rfl⟩, by decide, by decide⟩ rfl hl.1 rfl (Nat.le_of_ble_eq_true rfl) dX11_join_88 ⟨Nat.le_of_ble_eq_true rfl, Nat.le_of_ble_eq_true rfl⟩ (fun v w_ H locs hp hW => ?_)
            obtain ⟨sz1_88, tp1_88, fw1_88, tw1_88, yw1_88, pcn1_88, rfl, hp88_0, hU1, hN1, hN2, hN3, hN4, hN5, hN6⟩ := hp
            have hU := hU.then hU1 (by first | decide | (simp; done) | (simp; omega))
            have hoo_ := hU1.get hoo_ (by first | decide | (simp; done) | (simp; omega))
            have hoa_ := hU1.get hoa_ (by first | decide | (simp; done) | (simp; omega))
            have hX_ : w_[31]? = some (ad 31, .inr (2, [.ref (ad 32), .ref (ad 34), .ref (ad 36), .ref (ad 38), .ref (ad 40), .int (nI sz1_88)])) := hN1
            have hXta_ : w_[33]? = some (ad 33, .inl (cy 0, 1024, .inl (nf tp1_88))) := hN2
            have hXfa_ : w_[35]? = some (ad 35, .inl (cy 0, 272, .inl (nf fw1_88))) := hN3
            have hXwa_ : w_[37]? = some (ad 37, .inl (cy 0, 272, .inl (nf tw1_88))) := hN4
            have hXya_ : w_[39]? = some (ad 39, .inl (cy 0, 272, .inl (nf yw1_88))) := hN5
            have hXpa_ : w_[41]? = some (ad 41, .inl (cy 0, 10, .inl (nf pcn1_88))) := hN6
            clear hU1 hN1 hN2 hN3 hN4 hN5 hN6
            refine W.eq (g2 := F0 m 91 ls [.int (nI (sumN (nodesB (fun d => (fun a => cmb hw ((kx o) a) ((kx o) a)) (layP n od d n)) n) n))]) rfl ?_
            subst hQ
            refine vx_ret ?_
            exact j_iret (u := w_) S hr (rfl) hK hW dX11_join_91 ⟨by decide, by decide⟩ (⟨_, _, _, _, _, _, o, o, o, rfl, hp88_0, hsj, rfl, hti, rfl, hoo1, rfl, hhow, hp66_0, hp72_0, hU, hX_, hXta_, hXfa_, hXwa_, hXya_, hXpa_, hoo_, hoa_⟩)
          · have e1 := e1.symm
            subst e1
            refine lv_aload S.1 S.2.1 dX11_join_75 (lv_at hl 0 rfl) ?_
            refine lv_aload S.1 S.2.1 dX11_join_77 (lv_at hl 2 rfl) ?_
            refine lv_aload S.1 S.2.1 dX11_join_79 (lv_at hl 1 rfl) ?_
            refine lv_iload_n S.1 S.2.1 dX11_join_81 rfl (lv_at hl 6 rfl) ?_
            refine j_callV (k := 43 + 3 * o) (ci := 0) (q := (RX0, TX0, 2)) (As := [.ref (ad (43 + 3 * o)), .ref (ad (43 + 3 * i)), .int (nI hw)]) (rest := []) S hK hA hW (c_X0_combineL l D cy (43 + 3 * o) (44 + 3 * o) (45 + 3 * o) (ad (43 + 3 * o)) (ad (44 + 3 * o)) (ad (45 + 3 * o)) (kv o) (kx o) (43 + 3 * i) (44 + 3 * i) (45 + 3 * i) (ad (43 + 3 * i)) (ad (44 + 3 * i)) (ad (45 + 3 * i)) (kv i) (kx i) hw hoo hol hoa hto htl hta   (hhw) (by omega) (by omega)) (jgo wm_X11_293) yk_X0_combine hoo rfl rfl ⟨⟨rfl, rfl⟩, by decide, by decide⟩ rfl hl.1 rfl (Nat.le_of_ble_eq_true rfl) dX11_join_82 ⟨Nat.le_of_ble_eq_true rfl, Nat.le_of_ble_eq_true rfl⟩ (fun v w_ H locs hp hW => ?_)
            obtain ⟨rfl, hU1, hN1, hN2⟩ := hp
            have hU : jU w w_ [31, 33, 35, 37, 39, 41, 43 + 3 * o, 45 + 3 * o] := jU.mono hU1 (by first | decide | (simp; done) | (simp; omega))
            have hX_ := hU1.get hX (by first | decide | (simp; done) | (simp; omega))
            have hXta_ := hU1.get hXta (by first | decide | (simp; done) | (simp; omega))
            have hXfa_ := hU1.get hXfa (by first | decide | (simp; done) | (simp; omega))
            have hXwa_ := hU1.get hXwa (by first | decide | (simp; done) | (simp; omega))
            have hXya_ := hU1.get hXya (by first | decide | (simp; done) | (simp; omega))
            have hXpa_ := hU1.get hXpa (by first | decide | (simp; done) | (simp; omega))
            have hoo_ : w_[(43 + 3 * o)]? = some (ad (43 + 3 * o), .inr (0, [.ref (ad (44 + 3 * o)), .int (kv o)])) := hN1
            have hoa_ : w_[(45 + 3 * o)]? = some (ad (45 + 3 * o), .inl (cy 1, 16, .inr (.inl (wd (fun a => cmb hw ((kx o) a) ((kx i) a)))))) := hN2
            clear hU1 hN1 hN2
            refine W.eq (g2 := F0 m 85 ls []) rfl ?_
            rw [hp66_0] at hoo_
            refine lv_aload_n S.1 S.2.1 dX11_join_85 rfl (lv_at hl 3 rfl) ?_
            refine lv_aload S.1 S.2.1 dX11_join_86 (lv_at hl 0 rfl) ?_
            refine j_callV (k := 0) (ci := 10) (q := (RX11, TX11, 15)) (As := [.ref (ad (43 + 3 * o))]) (rest := []) S hK hA hW (c_X11_countNodes l D cy (43 + 3 * o) (44 + 3 * o) (45 + 3 * o) (ad (43 + 3 * o)) (ad (44 + 3 * o)) (ad (45 + 3 * o)) n (fun a => cmb hw ((kx o) a) ((kx i) a)) ad sd se fr sz tp fw tw yw pcn od hoo_ (hU.get hol (by first | decide | (simp; done) | (simp; omega))) hoa_ (hU.get hO (by first | decide | (simp; done) | (simp; omega))) hX_ (hU.get hXto (by first | decide | (simp; done) | (simp; omega))) hXta_ (hU.get hXfo (by first | decide | (simp; done) | (simp; omega))) hXfa_ (hU.get hXwo (by first | decide | (simp; done) | (simp; omega))) hXwa_ (hU.get hXyo (by first | decide | (simp; done) | (simp; omega))) hXya_ (hU.get hXpo (by first | decide | (simp; done) | (simp; omega))) hXpa_ (hU.get hOo (by first | decide | (simp; done) | (simp; omega))) (hU.get hOa (by first | decide | (simp; done) | (simp; omega)))   (by omega) (hod) (hf) (ht) (by omega)) (jgo wm_X11_260) yk_X11_countNodes (hU.get hO (by first | decide | (simp; done) | (simp; omega))) rfl rfl ⟨⟨rfl, rfl⟩, by decide, by decide⟩ rfl hl.1 rfl (Nat.le_of_ble_eq_true rfl) dX11_join_88 ⟨Nat.le_of_ble_eq_true rfl, Nat.le_of_ble_eq_true rfl⟩ (fun v w_ H locs hp hW => ?_)
            obtain ⟨sz1_88, tp1_88, fw1_88, tw1_88, yw1_88, pcn1_88, rfl, hp88_0, hU1, hN1, hN2, hN3, hN4, hN5, hN6⟩ := hp
            have hU := hU.then hU1 (by first | decide | (simp; done) | (simp; omega))
            have hoo_ := hU1.get hoo_ (by first | decide | (simp; done) | (simp; omega))
            have hoa_ := hU1.get hoa_ (by first | decide | (simp; done) | (simp; omega))
            have hX_ : w_[31]? = some (ad 31, .inr (2, [.ref (ad 32), .ref (ad 34), .ref (ad 36), .ref (ad 38), .ref (ad 40), .int (nI sz1_88)])) := hN1
            have hXta_ : w_[33]? = some (ad 33, .inl (cy 0, 1024, .inl (nf tp1_88))) := hN2
            have hXfa_ : w_[35]? = some (ad 35, .inl (cy 0, 272, .inl (nf fw1_88))) := hN3
            have hXwa_ : w_[37]? = some (ad 37, .inl (cy 0, 272, .inl (nf tw1_88))) := hN4
            have hXya_ : w_[39]? = some (ad 39, .inl (cy 0, 272, .inl (nf yw1_88))) := hN5
            have hXpa_ : w_[41]? = some (ad 41, .inl (cy 0, 10, .inl (nf pcn1_88))) := hN6
            clear hU1 hN1 hN2 hN3 hN4 hN5 hN6
            refine W.eq (g2 := F0 m 91 ls [.int (nI (sumN (nodesB (fun d => (fun a => cmb hw ((kx o) a) ((kx i) a)) (layP n od d n)) n) n))]) rfl ?_
            subst hQ
            refine vx_ret ?_
            exact j_iret (u := w_) S hr (rfl) hK hW dX11_join_91 ⟨by decide, by decide⟩ (⟨_, _, _, _, _, _, o, i, o, rfl, hp88_0, hsj, rfl, hti, rfl, hoo1, rfl, hhow, hp66_0, hp72_0, hU, hX_, hXta_, hXfa_, hXwa_, hXya_, hXpa_, hoo_, hoa_⟩)
          · have e2 := e2.symm
            subst e2
            refine lv_aload S.1 S.2.1 dX11_join_75 (lv_at hl 0 rfl) ?_
            refine lv_aload S.1 S.2.1 dX11_join_77 (lv_at hl 2 rfl) ?_
            refine lv_aload S.1 S.2.1 dX11_join_79 (lv_at hl 1 rfl) ?_
            refine lv_iload_n S.1 S.2.1 dX11_join_81 rfl (lv_at hl 6 rfl) ?_
            refine j_callV (k := 43 + 3 * o) (ci := 0) (q := (RX0, TX0, 2)) (As := [.ref (ad (43 + 3 * j)), .ref (ad (43 + 3 * o)), .int (nI hw)]) (rest := []) S hK hA hW (c_X0_combineR l D cy (43 + 3 * o) (44 + 3 * o) (45 + 3 * o) (ad (43 + 3 * o)) (ad (44 + 3 * o)) (ad (45 + 3 * o)) (kv o) (kx o) (43 + 3 * j) (44 + 3 * j) (45 + 3 * j) (ad (43 + 3 * j)) (ad (44 + 3 * j)) (ad (45 + 3 * j)) (kv j) (kx j) hw hoo hol hoa hso hsl hsa   (hhw) (by omega) (by omega)) (jgo wm_X11_293) yk_X0_combine hoo rfl rfl ⟨⟨rfl, rfl⟩, by decide, by decide⟩ rfl hl.1 rfl (Nat.le_of_ble_eq_true rfl) dX11_join_82 ⟨Nat.le_of_ble_eq_true rfl, Nat.le_of_ble_eq_true rfl⟩ (fun v w_ H locs hp hW => ?_)
            obtain ⟨rfl, hU1, hN1, hN2⟩ := hp
            have hU : jU w w_ [31, 33, 35, 37, 39, 41, 43 + 3 * o, 45 + 3 * o] := jU.mono hU1 (by first | decide | (simp; done) | (simp; omega))
            have hX_ := hU1.get hX (by first | decide | (simp; done) | (simp; omega))
            have hXta_ := hU1.get hXta (by first | decide | (simp; done) | (simp; omega))
            have hXfa_ := hU1.get hXfa (by first | decide | (simp; done) | (simp; omega))
            have hXwa_ := hU1.get hXwa (by first | decide | (simp; done) | (simp; omega))
            have hXya_ := hU1.get hXya (by first | decide | (simp; done) | (simp; omega))
            have hXpa_ := hU1.get hXpa (by first | decide | (simp; done) | (simp; omega))
            have hoo_ : w_[(43 + 3 * o)]? = some (ad (43 + 3 * o), .inr (0, [.ref (ad (44 + 3 * o)), .int (kv j)])) := hN1
            have hoa_ : w_[(45 + 3 * o)]? = some (ad (45 + 3 * o), .inl (cy 1, 16, .inr (.inl (wd (fun a => cmb hw ((kx j) a) ((kx o) a)))))) := hN2
            clear hU1 hN1 hN2
            refine W.eq (g2 := F0 m 85 ls []) rfl ?_
            rw [hp66_0] at hoo_
            refine lv_aload_n S.1 S.2.1 dX11_join_85 rfl (lv_at hl 3 rfl) ?_
            refine lv_aload S.1 S.2.1 dX11_join_86 (lv_at hl 0 rfl) ?_
            refine j_callV (k := 0) (ci := 10) (q := (RX11, TX11, 15)) (As := [.ref (ad (43 + 3 * o))]) (rest := []) S hK hA hW (c_X11_countNodes l D cy (43 + 3 * o) (44 + 3 * o) (45 + 3 * o) (ad (43 + 3 * o)) (ad (44 + 3 * o)) (ad (45 + 3 * o)) n (fun a => cmb hw ((kx j) a) ((kx o) a)) ad sd se fr sz tp fw tw yw pcn od hoo_ (hU.get hol (by first | decide | (simp; done) | (simp; omega))) hoa_ (hU.get hO (by first | decide | (simp; done) | (simp; omega))) hX_ (hU.get hXto (by first | decide | (simp; done) | (simp; omega))) hXta_ (hU.get hXfo (by first | decide | (simp; done) | (simp; omega))) hXfa_ (hU.get hXwo (by first | decide | (simp; done) | (simp; omega))) hXwa_ (hU.get hXyo (by first | decide | (simp; done) | (simp; omega))) hXya_ (hU.get hXpo (by first | decide | (simp; done) | (simp; omega))) hXpa_ (hU.get hOo (by first | decide | (simp; done) | (simp; omega))) (hU.get hOa (by first | decide | (simp; done) | (simp; omega)))   (by omega) (hod) (hf) (ht) (by omega)) (jgo wm_X11_260) yk_X11_countNodes (hU.get hO (by first | decide | (simp; done) | (simp; omega))) rfl rfl ⟨⟨rfl, rfl⟩, by decide, by decide⟩ rfl hl.1 rfl (Nat.le_of_ble_eq_true rfl) dX11_join_88 ⟨Nat.le_of_ble_eq_true rfl, Nat.le_of_ble_eq_true rfl⟩ (fun v w_ H locs hp hW => ?_)
            obtain ⟨sz1_88, tp1_88, fw1_88, tw1_88, yw1_88, pcn1_88, rfl, hp88_0, hU1, hN1, hN2, hN3, hN4, hN5, hN6⟩ := hp
            have hU := hU.then hU1 (by first | decide | (simp; done) | (simp; omega))
            have hoo_ := hU1.get hoo_ (by first | decide | (simp; done) | (simp; omega))
            have hoa_ := hU1.get hoa_ (by first | decide | (simp; done) | (simp; omega))
            have hX_ : w_[31]? = some (ad 31, .inr (2, [.ref (ad 32), .ref (ad 34), .ref (ad 36), .ref (ad 38), .ref (ad 40), .int (nI sz1_88)])) := hN1
            have hXta_ : w_[33]? = some (ad 33, .inl (cy 0, 1024, .inl (nf tp1_88))) := hN2
            have hXfa_ : w_[35]? = some (ad 35, .inl (cy 0, 272, .inl (nf fw1_88))) := hN3
            have hXwa_ : w_[37]? = some (ad 37, .inl (cy 0, 272, .inl (nf tw1_88))) := hN4
            have hXya_ : w_[39]? = some (ad 39, .inl (cy 0, 272, .inl (nf yw1_88))) := hN5
            have hXpa_ : w_[41]? = some (ad 41, .inl (cy 0, 10, .inl (nf pcn1_88))) := hN6
            clear hU1 hN1 hN2 hN3 hN4 hN5 hN6
            refine W.eq (g2 := F0 m 91 ls [.int (nI (sumN (nodesB (fun d => (fun a => cmb hw ((kx j) a) ((kx o) a)) (layP n od d n)) n) n))]) rfl ?_
            subst hQ
            refine vx_ret ?_
            exact j_iret (u := w_) S hr (rfl) hK hW dX11_join_91 ⟨by decide, by decide⟩ (⟨_, _, _, _, _, _, j, o, o, rfl, hp88_0, hsj, rfl, hti, rfl, hoo1, rfl, hhow, hp66_0, hp72_0, hU, hX_, hXta_, hXfa_, hXwa_, hXya_, hXpa_, hoo_, hoa_⟩)
          · refine lv_aload S.1 S.2.1 dX11_join_75 (lv_at hl 0 rfl) ?_
            refine lv_aload S.1 S.2.1 dX11_join_77 (lv_at hl 2 rfl) ?_
            refine lv_aload S.1 S.2.1 dX11_join_79 (lv_at hl 1 rfl) ?_
            refine lv_iload_n S.1 S.2.1 dX11_join_81 rfl (lv_at hl 6 rfl) ?_
            refine j_callV (k := 43 + 3 * o) (ci := 0) (q := (RX0, TX0, 2)) (As := [.ref (ad (43 + 3 * j)), .ref (ad (43 + 3 * i)), .int (nI hw)]) (rest := []) S hK hA hW (c_X0_combine l D cy (43 + 3 * o) (44 + 3 * o) (45 + 3 * o) (ad (43 + 3 * o)) (ad (44 + 3 * o)) (ad (45 + 3 * o)) (kv o) (kx o) (43 + 3 * j) (44 + 3 * j) (45 + 3 * j) (ad (43 + 3 * j)) (ad (44 + 3 * j)) (ad (45 + 3 * j)) (kv j) (kx j) (43 + 3 * i) (44 + 3 * i) (45 + 3 * i) (ad (43 + 3 * i)) (ad (44 + 3 * i)) (ad (45 + 3 * i)) (kv i) (kx i) hw hoo hol hoa hso hsl hsa hto htl hta   (hhw) (by omega) (by omega) (by omega) (by omega)) (jgo wm_X11_293) yk_X0_combine hoo rfl rfl ⟨⟨rfl, rfl⟩, by decide, by decide⟩ rfl hl.1 rfl (Nat.le_of_ble_eq_true rfl) dX11_join_82 ⟨Nat.le_of_ble_eq_true rfl, Nat.le_of_ble_eq_true rfl⟩ (fun v w_ H locs hp hW => ?_)
            obtain ⟨rfl, hU1, hN1, hN2⟩ := hp
            have hU : jU w w_ [31, 33, 35, 37, 39, 41, 43 + 3 * o, 45 + 3 * o] := jU.mono hU1 (by first | decide | (simp; done) | (simp; omega))
            have hX_ := hU1.get hX (by first | decide | (simp; done) | (simp; omega))
            have hXta_ := hU1.get hXta (by first | decide | (simp; done) | (simp; omega))
            have hXfa_ := hU1.get hXfa (by first | decide | (simp; done) | (simp; omega))
            have hXwa_ := hU1.get hXwa (by first | decide | (simp; done) | (simp; omega))
            have hXya_ := hU1.get hXya (by first | decide | (simp; done) | (simp; omega))
            have hXpa_ := hU1.get hXpa (by first | decide | (simp; done) | (simp; omega))
            have hoo_ : w_[(43 + 3 * o)]? = some (ad (43 + 3 * o), .inr (0, [.ref (ad (44 + 3 * o)), .int (kv j)])) := hN1
            have hoa_ : w_[(45 + 3 * o)]? = some (ad (45 + 3 * o), .inl (cy 1, 16, .inr (.inl (wd (fun a => cmb hw ((kx j) a) ((kx i) a)))))) := hN2
            clear hU1 hN1 hN2
            refine W.eq (g2 := F0 m 85 ls []) rfl ?_
            rw [hp66_0] at hoo_
            refine lv_aload_n S.1 S.2.1 dX11_join_85 rfl (lv_at hl 3 rfl) ?_
            refine lv_aload S.1 S.2.1 dX11_join_86 (lv_at hl 0 rfl) ?_
            refine j_callV (k := 0) (ci := 10) (q := (RX11, TX11, 15)) (As := [.ref (ad (43 + 3 * o))]) (rest := []) S hK hA hW (c_X11_countNodes l D cy (43 + 3 * o) (44 + 3 * o) (45 + 3 * o) (ad (43 + 3 * o)) (ad (44 + 3 * o)) (ad (45 + 3 * o)) n (fun a => cmb hw ((kx j) a) ((kx i) a)) ad sd se fr sz tp fw tw yw pcn od hoo_ (hU.get hol (by first | decide | (simp; done) | (simp; omega))) hoa_ (hU.get hO (by first | decide | (simp; done) | (simp; omega))) hX_ (hU.get hXto (by first | decide | (simp; done) | (simp; omega))) hXta_ (hU.get hXfo (by first | decide | (simp; done) | (simp; omega))) hXfa_ (hU.get hXwo (by first | decide | (simp; done) | (simp; omega))) hXwa_ (hU.get hXyo (by first | decide | (simp; done) | (simp; omega))) hXya_ (hU.get hXpo (by first | decide | (simp; done) | (simp; omega))) hXpa_ (hU.get hOo (by first | decide | (simp; done) | (simp; omega))) (hU.get hOa (by first | decide | (simp; done) | (simp; omega)))   (by omega) (hod) (hf) (ht) (by omega)) (jgo wm_X11_260) yk_X11_countNodes (hU.get hO (by first | decide | (simp; done) | (simp; omega))) rfl rfl ⟨⟨rfl, rfl⟩, by decide, by decide⟩ rfl hl.1 rfl (Nat.le_of_ble_eq_true rfl) dX11_join_88 ⟨Nat.le_of_ble_eq_true rfl, Nat.le_of_ble_eq_true rfl⟩ (fun v w_ H locs hp hW => ?_)
            obtain ⟨sz1_88, tp1_88, fw1_88, tw1_88, yw1_88, pcn1_88, rfl, hp88_0, hU1, hN1, hN2, hN3, hN4, hN5, hN6⟩ := hp
            have hU := hU.then hU1 (by first | decide | (simp; done) | (simp; omega))
            have hoo_ := hU1.get hoo_ (by first | decide | (simp; done) | (simp; omega))
            have hoa_ := hU1.get hoa_ (by first | decide | (simp; done) | (simp; omega))
            have hX_ : w_[31]? = some (ad 31, .inr (2, [.ref (ad 32), .ref (ad 34), .ref (ad 36), .ref (ad 38), .ref (ad 40), .int (nI sz1_88)])) := hN1
            have hXta_ : w_[33]? = some (ad 33, .inl (cy 0, 1024, .inl (nf tp1_88))) := hN2
            have hXfa_ : w_[35]? = some (ad 35, .inl (cy 0, 272, .inl (nf fw1_88))) := hN3
            have hXwa_ : w_[37]? = some (ad 37, .inl (cy 0, 272, .inl (nf tw1_88))) := hN4
            have hXya_ : w_[39]? = some (ad 39, .inl (cy 0, 272, .inl (nf yw1_88))) := hN5
            have hXpa_ : w_[41]? = some (ad 41, .inl (cy 0, 10, .inl (nf pcn1_88))) := hN6
            clear hU1 hN1 hN2 hN3 hN4 hN5 hN6
            refine W.eq (g2 := F0 m 91 ls [.int (nI (sumN (nodesB (fun d => (fun a => cmb hw ((kx j) a) ((kx i) a)) (layP n od d n)) n) n))]) rfl ?_
            subst hQ
            refine vx_ret ?_
            exact j_iret (u := w_) S hr (rfl) hK hW dX11_join_91 ⟨by decide, by decide⟩ (⟨_, _, _, _, _, _, j, i, o, rfl, hp88_0, hsj, rfl, hti, rfl, hoo1, rfl, hhow, hp66_0, hp72_0, hU, hX_, hXta_, hXfa_, hXwa_, hXya_, hXpa_, hoo_, hoa_⟩)
        · refine lv_iload_n S.1 S.2.1 dX11_join_28 rfl (lv_at hl 6 rfl) ?_
          refine lv_bipush (v := nI 111) S.1 S.2.1 dX11_join_29 (by decide) ?_
          refine jn_cmp_eq (tgt := 51) S (by omega) (by omega) dX11_join_31 (by decide) (fun c_31 => ?_) (fun c_31 => ?_)
          · have hhow : howB hw := by first | exact Or.inl c_25 | exact Or.inr (Or.inl c_31) | exact Or.inr (Or.inr c_37)
            refine lv_aload_n S.1 S.2.1 dX11_join_51 rfl (lv_at hl 3 rfl) ?_
            refine lv_aload S.1 S.2.1 dX11_join_52 (lv_at hl 2 rfl) ?_
            refine jx_callq (k := 0) (ci := 10) (q := (RX11, TX11, 15)) (As := [.ref (ad (43 + 3 * j))]) (rest := []) S hK hA hW hQ htab hr hx (c_X11_checkKept l htr D cy (43 + 3 * j) (44 + 3 * j) (45 + 3 * j) (ad (43 + 3 * j)) (ad (44 + 3 * j)) (ad (45 + 3 * j)) (kv j) ad (kx j) hso hsl hsa   ) (jgo wm_X11_287) yk_X11_checkKept hO rfl rfl ⟨⟨rfl, rfl⟩, by decide, by decide⟩ rfl hl.1 rfl (Nat.le_of_ble_eq_true rfl) dX11_join_54 ⟨Nat.le_of_ble_eq_true rfl, Nat.le_of_ble_eq_true rfl⟩ ⟨by decide, by decide⟩ (fun E u h => by obtain ⟨⟨e1, h⟩, e⟩ := h; exact ⟨Or.inr (Or.inl ⟨e1, ⟨j, i, o, hsj, rfl, hti, rfl, hoo1, rfl, hhow, Or.inl h⟩⟩), e⟩) (fun v u H locs hp hW => ?_)
            obtain ⟨rfl, hp54_0, rfl⟩ := hp
            refine W.eq (g2 := F0 m 57 ls []) rfl ?_
            refine lv_aload_n S.1 S.2.1 dX11_join_57 rfl (lv_at hl 3 rfl) ?_
            refine lv_aload S.1 S.2.1 dX11_join_58 (lv_at hl 1 rfl) ?_
            refine jx_callq (k := 0) (ci := 10) (q := (RX11, TX11, 15)) (As := [.ref (ad (43 + 3 * i))]) (rest := []) S hK hA hW hQ htab hr hx (c_X11_checkKept l htr D cy (43 + 3 * i) (44 + 3 * i) (45 + 3 * i) (ad (43 + 3 * i)) (ad (44 + 3 * i)) (ad (45 + 3 * i)) (kv i) ad (kx i) hto htl hta   ) (jgo wm_X11_287) yk_X11_checkKept hO rfl rfl ⟨⟨rfl, rfl⟩, by decide, by decide⟩ rfl hl.1 rfl (Nat.le_of_ble_eq_true rfl) dX11_join_60 ⟨Nat.le_of_ble_eq_true rfl, Nat.le_of_ble_eq_true rfl⟩ ⟨by decide, by decide⟩ (fun E u h => by obtain ⟨⟨e1, h⟩, e⟩ := h; exact ⟨Or.inr (Or.inl ⟨e1, ⟨j, i, o, hsj, rfl, hti, rfl, hoo1, rfl, hhow, Or.inr h⟩⟩), e⟩) (fun v u H locs hp hW => ?_)
            obtain ⟨rfl, hp60_0, rfl⟩ := hp
            refine W.eq (g2 := F0 m 63 ls []) rfl ?_
            refine lv_aload_n S.1 S.2.1 dX11_join_63 rfl (lv_at hl 3 rfl) ?_
            refine lv_aload S.1 S.2.1 dX11_join_64 (lv_at hl 2 rfl) ?_
            refine jx_callq (k := 0) (ci := 10) (q := (RX11, TX11, 15)) (As := [.ref (ad (43 + 3 * j))]) (rest := []) S hK hA hW hQ htab hr hx (c_X11_checkAsManyAsNow l htr D cy (43 + 3 * j) (44 + 3 * j) (45 + 3 * j) (ad (43 + 3 * j)) (ad (44 + 3 * j)) (ad (45 + 3 * j)) (kv j) (kx j) ad n sd se fr hso hsl hsa hO   ) (jgo wm_X11_290) yk_X11_checkAsManyAsNow hO rfl rfl ⟨⟨rfl, rfl⟩, by decide, by decide⟩ rfl hl.1 rfl (Nat.le_of_ble_eq_true rfl) dX11_join_66 ⟨Nat.le_of_ble_eq_true rfl, Nat.le_of_ble_eq_true rfl⟩ ⟨by decide, by decide⟩ (fun E u h => by obtain ⟨⟨e1, h⟩, e⟩ := h; exact ⟨Or.inr (Or.inr (⟨e1, ⟨j, i, o, hsj, rfl, hti, rfl, hoo1, rfl, hhow, hp54_0, hp60_0, Or.inl h⟩⟩)), e⟩) (fun v u H locs hp hW => ?_)
            obtain ⟨rfl, hp66_0, rfl⟩ := hp
            refine W.eq (g2 := F0 m 69 ls []) rfl ?_
            refine lv_aload_n S.1 S.2.1 dX11_join_69 rfl (lv_at hl 3 rfl) ?_
            refine lv_aload S.1 S.2.1 dX11_join_70 (lv_at hl 1 rfl) ?_
            refine jx_callq (k := 0) (ci := 10) (q := (RX11, TX11, 15)) (As := [.ref (ad (43 + 3 * i))]) (rest := []) S hK hA hW hQ htab hr hx (c_X11_checkAsManyAsNow l htr D cy (43 + 3 * i) (44 + 3 * i) (45 + 3 * i) (ad (43 + 3 * i)) (ad (44 + 3 * i)) (ad (45 + 3 * i)) (kv i) (kx i) ad n sd se fr hto htl hta hO   ) (jgo wm_X11_290) yk_X11_checkAsManyAsNow hO rfl rfl ⟨⟨rfl, rfl⟩, by decide, by decide⟩ rfl hl.1 rfl (Nat.le_of_ble_eq_true rfl) dX11_join_72 ⟨Nat.le_of_ble_eq_true rfl, Nat.le_of_ble_eq_true rfl⟩ ⟨by decide, by decide⟩ (fun E u h => by obtain ⟨⟨e1, h⟩, e⟩ := h; exact ⟨Or.inr (Or.inr (⟨e1, ⟨j, i, o, hsj, rfl, hti, rfl, hoo1, rfl, hhow, hp54_0, hp60_0, Or.inr h⟩⟩)), e⟩) (fun v u H locs hp hW => ?_)
            obtain ⟨rfl, hp72_0, rfl⟩ := hp
            refine W.eq (g2 := F0 m 75 ls []) rfl ?_
            rcases join_cases j i o with ⟨e1, e2⟩ | ⟨e1, e2⟩ | ⟨e1, e2⟩ | ⟨e1, e2⟩
            · have e2 := e2.symm
              subst e2
              have e1 := e1.symm
              subst e1
              refine lv_aload S.1 S.2.1 dX11_join_75 (lv_at hl 0 rfl) ?_
              refine lv_aload S.1 S.2.1 dX11_join_77 (lv_at hl 2 rfl) ?_
              refine lv_aload S.1 S.2.1 dX11_join_79 (lv_at hl 1 rfl) ?_
              refine lv_iload_n S.1 S.2.1 dX11_join_81 rfl (lv_at hl 6 rfl) ?_
              refine j_callV (k := 43 + 3 * o) (ci := 0) (q := (RX0, TX0, 2)) (As := [.ref (ad (43 + 3 * o)), .ref (ad (43 + 3 * o)), .int (nI hw)]) (rest := []) S hK hA hW (c_X0_combineB l D cy (43 + 3 * o) (44 + 3 * o) (45 + 3 * o) (ad (43 + 3 * o)) (ad (44 + 3 * o)) (ad (45 + 3 * o)) (kv o) (kx o) hw hoo hol hoa   (hhw)) (jgo wm_X11_293) yk_X0_combine hoo rfl rfl ⟨⟨rfl, rfl⟩, by decide, by decide⟩ rfl hl.1 rfl (Nat.le_of_ble_eq_true rfl) dX11_join_82 ⟨Nat.le_of_ble_eq_true rfl, Nat.le_of_ble_eq_true rfl⟩ (fun v w_ H locs hp hW => ?_)
              obtain ⟨rfl, hU1, hN1, hN2⟩ := hp
              have hU : jU w w_ [31, 33, 35, 37, 39, 41, 43 + 3 * o, 45 + 3 * o] := jU.mono hU1 (by first | decide | (simp; done) | (simp; omega))
              have hX_ := hU1.get hX (by first | decide | (simp; done) | (simp; omega))
              have hXta_ := hU1.get hXta (by first | decide | (simp; done) | (simp; omega))
              have hXfa_ := hU1.get hXfa (by first | decide | (simp; done) | (simp; omega))
              have hXwa_ := hU1.get hXwa (by first | decide | (simp; done) | (simp; omega))
              have hXya_ := hU1.get hXya (by first | decide | (simp; done) | (simp; omega))
              have hXpa_ := hU1.get hXpa (by first | decide | (simp; done) | (simp; omega))
              have hoo_ : w_[(43 + 3 * o)]? = some (ad (43 + 3 * o), .inr (0, [.ref (ad (44 + 3 * o)), .int (kv o)])) := hN1
              have hoa_ : w_[(45 + 3 * o)]? = some (ad (45 + 3 * o), .inl (cy 1, 16, .inr (.inl (wd (fun a => cmb hw ((kx o) a) ((kx o) a)))))) := hN2
              clear hU1 hN1 hN2
              refine W.eq (g2 := F0 m 85 ls []) rfl ?_
              rw [hp66_0] at hoo_
              refine lv_aload_n S.1 S.2.1 dX11_join_85 rfl (lv_at hl 3 rfl) ?_
              refine lv_aload S.1 S.2.1 dX11_join_86 (lv_at hl 0 rfl) ?_
              refine j_callV (k := 0) (ci := 10) (q := (RX11, TX11, 15)) (As := [.ref (ad (43 + 3 * o))]) (rest := []) S hK hA hW (c_X11_countNodes l D cy (43 + 3 * o) (44 + 3 * o) (45 + 3 * o) (ad (43 + 3 * o)) (ad (44 + 3 * o)) (ad (45 + 3 * o)) n (fun a => cmb hw ((kx o) a) ((kx o) a)) ad sd se fr sz tp fw tw yw pcn od hoo_ (hU.get hol (by first | decide | (simp; done) | (simp; omega))) hoa_ (hU.get hO (by first | decide | (simp; done) | (simp; omega))) hX_ (hU.get hXto (by first | decide | (simp; done) | (simp; omega))) hXta_ (hU.get hXfo (by first | decide | (simp; done) | (simp; omega))) hXfa_ (hU.get hXwo (by first | decide | (simp; done) | (simp; omega))) hXwa_ (hU.get hXyo (by first | decide | (simp; done) | (simp; omega))) hXya_ (hU.get hXpo (by first | decide | (simp; done) | (simp; omega))) hXpa_ (hU.get hOo (by first | decide | (simp; done) | (simp; omega))) (hU.get hOa (by first | decide | (simp; done) | (simp; omega)))   (by omega) (hod) (hf) (ht) (by omega)) (jgo wm_X11_260) yk_X11_countNodes (hU.get hO (by first | decide | (simp; done) | (simp; omega))) rfl rfl ⟨⟨rfl, rfl⟩, by decide, by decide⟩ rfl hl.1 rfl (Nat.le_of_ble_eq_true rfl) dX11_join_88 ⟨Nat.le_of_ble_eq_true rfl, Nat.le_of_ble_eq_true rfl⟩ (fun v w_ H locs hp hW => ?_)
              obtain ⟨sz1_88, tp1_88, fw1_88, tw1_88, yw1_88, pcn1_88, rfl, hp88_0, hU1, hN1, hN2, hN3, hN4, hN5, hN6⟩ := hp
              have hU := hU.then hU1 (by first | decide | (simp; done) | (simp; omega))
              have hoo_ := hU1.get hoo_ (by first | decide | (simp; done) | (simp; omega))
              have hoa_ := hU1.get hoa_ (by first | decide | (simp; done) | (simp; omega))
              have hX_ : w_[31]? = some (ad 31, .inr (2, [.ref (ad 32), .ref (ad 34), .ref (ad 36), .ref (ad 38), .ref (ad 40), .int (nI sz1_88)])) := hN1
              have hXta_ : w_[33]? = some (ad 33, .inl (cy 0, 1024, .inl (nf tp1_88))) := hN2
              have hXfa_ : w_[35]? = some (ad 35, .inl (cy 0, 272, .inl (nf fw1_88))) := hN3
              have hXwa_ : w_[37]? = some (ad 37, .inl (cy 0, 272, .inl (nf tw1_88))) := hN4
              have hXya_ : w_[39]? = some (ad 39, .inl (cy 0, 272, .inl (nf yw1_88))) := hN5
              have hXpa_ : w_[41]? = some (ad 41, .inl (cy 0, 10, .inl (nf pcn1_88))) := hN6
              clear hU1 hN1 hN2 hN3 hN4 hN5 hN6
              refine W.eq (g2 := F0 m 91 ls [.int (nI (sumN (nodesB (fun d => (fun a => cmb hw ((kx o) a) ((kx o) a)) (layP n od d n)) n) n))]) rfl ?_
              subst hQ
              refine vx_ret ?_
              exact j_iret (u := w_) S hr (rfl) hK hW dX11_join_91 ⟨by decide, by decide⟩ (⟨_, _, _, _, _, _, o, o, o, rfl, hp88_0, hsj, rfl, hti, rfl, hoo1, rfl, hhow, hp66_0, hp72_0, hU, hX_, hXta_, hXfa_, hXwa_, hXya_, hXpa_, hoo_, hoa_⟩)
            · have e1 := e1.symm
              subst e1
              refine lv_aload S.1 S.2.1 dX11_join_75 (lv_at hl 0 rfl) ?_
              refine lv_aload S.1 S.2.1 dX11_join_77 (lv_at hl 2 rfl) ?_
              refine lv_aload S.1 S.2.1 dX11_join_79 (lv_at hl 1 rfl) ?_
              refine lv_iload_n S.1 S.2.1 dX11_join_81 rfl (lv_at hl 6 rfl) ?_
              refine j_callV (k := 43 + 3 * o) (ci := 0) (q := (RX0, TX0, 2)) (As := [.ref (ad (43 + 3 * o)), .ref (ad (43 + 3 * i)), .int (nI hw)]) (rest := []) S hK hA hW (c_X0_combineL l D cy (43 + 3 * o) (44 + 3 * o) (45 + 3 * o) (ad (43 + 3 * o)) (ad (44 + 3 * o)) (ad (45 + 3 * o)) (kv o) (kx o) (43 + 3 * i) (44 + 3 * i) (45 + 3 * i) (ad (43 + 3 * i)) (ad (44 + 3 * i)) (ad (45 + 3 * i)) (kv i) (kx i) hw hoo hol hoa hto htl hta   (hhw) (by omega) (by omega)) (jgo wm_X11_293) yk_X0_combine hoo rfl rfl ⟨⟨rfl, rfl⟩, by decide, by decide⟩ rfl hl.1 rfl (Nat.le_of_ble_eq_true rfl) dX11_join_82 ⟨Nat.le_of_ble_eq_true rfl, Nat.le_of_ble_eq_true rfl⟩ (fun v w_ H locs hp hW => ?_)
              obtain ⟨rfl, hU1, hN1, hN2⟩ := hp
              have hU : jU w w_ [31, 33, 35, 37, 39, 41, 43 + 3 * o, 45 + 3 * o] := jU.mono hU1 (by first | decide | (simp; done) | (simp; omega))
              have hX_ := hU1.get hX (by first | decide | (simp; done) | (simp; omega))
              have hXta_ := hU1.get hXta (by first | decide | (simp; done) | (simp; omega))
              have hXfa_ := hU1.get hXfa (by first | decide | (simp; done) | (simp; omega))
              have hXwa_ := hU1.get hXwa (by first | decide | (simp; done) | (simp; omega))
              have hXya_ := hU1.get hXya (by first | decide | (simp; done) | (simp; omega))
              have hXpa_ := hU1.get hXpa (by first | decide | (simp; done) | (simp; omega))
              have hoo_ : w_[(43 + 3 * o)]? = some (ad (43 + 3 * o), .inr (0, [.ref (ad (44 + 3 * o)), .int (kv o)])) := hN1
              have hoa_ : w_[(45 + 3 * o)]? = some (ad (45 + 3 * o), .inl (cy 1, 16, .inr (.inl (wd (fun a => cmb hw ((kx o) a) ((kx i) a)))))) := hN2
              clear hU1 hN1 hN2
              refine W.eq (g2 := F0 m 85 ls []) rfl ?_
              rw [hp66_0] at hoo_
              refine lv_aload_n S.1 S.2.1 dX11_join_85 rfl (lv_at hl 3 rfl) ?_
              refine lv_aload S.1 S.2.1 dX11_join_86 (lv_at hl 0 rfl) ?_
              refine j_callV (k := 0) (ci := 10) (q := (RX11, TX11, 15)) (As := [.ref (ad (43 + 3 * o))]) (rest := []) S hK hA hW (c_X11_countNodes l D cy (43 + 3 * o) (44 + 3 * o) (45 + 3 * o) (ad (43 + 3 * o)) (ad (44 + 3 * o)) (ad (45 + 3 * o)) n (fun a => cmb hw ((kx o) a) ((kx i) a)) ad sd se fr sz tp fw tw yw pcn od hoo_ (hU.get hol (by first | decide | (simp; done) | (simp; omega))) hoa_ (hU.get hO (by first | decide | (simp; done) | (simp; omega))) hX_ (hU.get hXto (by first | decide | (simp; done) | (simp; omega))) hXta_ (hU.get hXfo (by first | decide | (simp; done) | (simp; omega))) hXfa_ (hU.get hXwo (by first | decide | (simp; done) | (simp; omega))) hXwa_ (hU.get hXyo (by first | decide | (simp; done) | (simp; omega))) hXya_ (hU.get hXpo (by first | decide | (simp; done) | (simp; omega))) hXpa_ (hU.get hOo (by first | decide | (simp; done) | (simp; omega))) (hU.get hOa (by first | decide | (simp; done) | (simp; omega)))   (by omega) (hod) (hf) (ht) (by omega)) (jgo wm_X11_260) yk_X11_countNodes (hU.get hO (by first | decide | (simp; done) | (simp; omega))) rfl rfl ⟨⟨rfl, rfl⟩, by decide, by decide⟩ rfl hl.1 rfl (Nat.le_of_ble_eq_true rfl) dX11_join_88 ⟨Nat.le_of_ble_eq_true rfl, Nat.le_of_ble_eq_true rfl⟩ (fun v w_ H locs hp hW => ?_)
              obtain ⟨sz1_88, tp1_88, fw1_88, tw1_88, yw1_88, pcn1_88, rfl, hp88_0, hU1, hN1, hN2, hN3, hN4, hN5, hN6⟩ := hp
              have hU := hU.then hU1 (by first | decide | (simp; done) | (simp; omega))
              have hoo_ := hU1.get hoo_ (by first | decide | (simp; done) | (simp; omega))
              have hoa_ := hU1.get hoa_ (by first | decide | (simp; done) | (simp; omega))
              have hX_ : w_[31]? = some (ad 31, .inr (2, [.ref (ad 32), .ref (ad 34), .ref (ad 36), .ref (ad 38), .ref (ad 40), .int (nI sz1_88)])) := hN1
              have hXta_ : w_[33]? = some (ad 33, .inl (cy 0, 1024, .inl (nf tp1_88))) := hN2
              have hXfa_ : w_[35]? = some (ad 35, .inl (cy 0, 272, .inl (nf fw1_88))) := hN3
              have hXwa_ : w_[37]? = some (ad 37, .inl (cy 0, 272, .inl (nf tw1_88))) := hN4
              have hXya_ : w_[39]? = some (ad 39, .inl (cy 0, 272, .inl (nf yw1_88))) := hN5
              have hXpa_ : w_[41]? = some (ad 41, .inl (cy 0, 10, .inl (nf pcn1_88))) := hN6
              clear hU1 hN1 hN2 hN3 hN4 hN5 hN6
              refine W.eq (g2 := F0 m 91 ls [.int (nI (sumN (nodesB (fun d => (fun a => cmb hw ((kx o) a) ((kx i) a)) (layP n od d n)) n) n))]) rfl ?_
              subst hQ
              refine vx_ret ?_
              exact j_iret (u := w_) S hr (rfl) hK hW dX11_join_91 ⟨by decide, by decide⟩ (⟨_, _, _, _, _, _, o, i, o, rfl, hp88_0, hsj, rfl, hti, rfl, hoo1, rfl, hhow, hp66_0, hp72_0, hU, hX_, hXta_, hXfa_, hXwa_, hXya_, hXpa_, hoo_, hoa_⟩)
            · have e2 := e2.symm
              subst e2
              refine lv_aload S.1 S.2.1 dX11_join_75 (lv_at hl 0 rfl) ?_
              refine lv_aload S.1 S.2.1 dX11_join_77 (lv_at hl 2 rfl) ?_
              refine lv_aload S.1 S.2.1 dX11_join_79 (lv_at hl 1 rfl) ?_
              refine lv_iload_n S.1 S.2.1 dX11_join_81 rfl (lv_at hl 6 rfl) ?_
              refine j_callV (k := 43 + 3 * o) (ci := 0) (q := (RX0, TX0, 2)) (As := [.ref (ad (43 + 3 * j)), .ref (ad (43 + 3 * o)), .int (nI hw)]) (rest := []) S hK hA hW (c_X0_combineR l D cy (43 + 3 * o) (44 + 3 * o) (45 + 3 * o) (ad (43 + 3 * o)) (ad (44 + 3 * o)) (ad (45 + 3 * o)) (kv o) (kx o) (43 + 3 * j) (44 + 3 * j) (45 + 3 * j) (ad (43 + 3 * j)) (ad (44 + 3 * j)) (ad (45 + 3 * j)) (kv j) (kx j) hw hoo hol hoa hso hsl hsa   (hhw) (by omega) (by omega)) (jgo wm_X11_293) yk_X0_combine hoo rfl rfl ⟨⟨rfl, rfl⟩, by decide, by decide⟩ rfl hl.1 rfl (Nat.le_of_ble_eq_true rfl) dX11_join_82 ⟨Nat.le_of_ble_eq_true rfl, Nat.le_of_ble_eq_true rfl⟩ (fun v w_ H locs hp hW => ?_)
              obtain ⟨rfl, hU1, hN1, hN2⟩ := hp
              have hU : jU w w_ [31, 33, 35, 37, 39, 41, 43 + 3 * o, 45 + 3 * o] := jU.mono hU1 (by first | decide | (simp; done) | (simp; omega))
              have hX_ := hU1.get hX (by first | decide | (simp; done) | (simp; omega))
              have hXta_ := hU1.get hXta (by first | decide | (simp; done) | (simp; omega))
              have hXfa_ := hU1.get hXfa (by first | decide | (simp; done) | (simp; omega))
              have hXwa_ := hU1.get hXwa (by first | decide | (simp; done) | (simp; omega))
              have hXya_ := hU1.get hXya (by first | decide | (simp; done) | (simp; omega))
              have hXpa_ := hU1.get hXpa (by first | decide | (simp; done) | (simp; omega))
              have hoo_ : w_[(43 + 3 * o)]? = some (ad (43 + 3 * o), .inr (0, [.ref (ad (44 + 3 * o)), .int (kv j)])) := hN1
              have hoa_ : w_[(45 + 3 * o)]? = some (ad (45 + 3 * o), .inl (cy 1, 16, .inr (.inl (wd (fun a => cmb hw ((kx j) a) ((kx o) a)))))) := hN2
              clear hU1 hN1 hN2
              refine W.eq (g2 := F0 m 85 ls []) rfl ?_
              rw [hp66_0] at hoo_
              refine lv_aload_n S.1 S.2.1 dX11_join_85 rfl (lv_at hl 3 rfl) ?_
              refine lv_aload S.1 S.2.1 dX11_join_86 (lv_at hl 0 rfl) ?_
              refine j_callV (k := 0) (ci := 10) (q := (RX11, TX11, 15)) (As := [.ref (ad (43 + 3 * o))]) (rest := []) S hK hA hW (c_X11_countNodes l D cy (43 + 3 * o) (44 + 3 * o) (45 + 3 * o) (ad (43 + 3 * o)) (ad (44 + 3 * o)) (ad (45 + 3 * o)) n (fun a => cmb hw ((kx j) a) ((kx o) a)) ad sd se fr sz tp fw tw yw pcn od hoo_ (hU.get hol (by first | decide | (simp; done) | (simp; omega))) hoa_ (hU.get hO (by first | decide | (simp; done) | (simp; omega))) hX_ (hU.get hXto (by first | decide | (simp; done) | (simp; omega))) hXta_ (hU.get hXfo (by first | decide | (simp; done) | (simp; omega))) hXfa_ (hU.get hXwo (by first | decide | (simp; done) | (simp; omega))) hXwa_ (hU.get hXyo (by first | decide | (simp; done) | (simp; omega))) hXya_ (hU.get hXpo (by first | decide | (simp; done) | (simp; omega))) hXpa_ (hU.get hOo (by first | decide | (simp; done) | (simp; omega))) (hU.get hOa (by first | decide | (simp; done) | (simp; omega)))   (by omega) (hod) (hf) (ht) (by omega)) (jgo wm_X11_260) yk_X11_countNodes (hU.get hO (by first | decide | (simp; done) | (simp; omega))) rfl rfl ⟨⟨rfl, rfl⟩, by decide, by decide⟩ rfl hl.1 rfl (Nat.le_of_ble_eq_true rfl) dX11_join_88 ⟨Nat.le_of_ble_eq_true rfl, Nat.le_of_ble_eq_true rfl⟩ (fun v w_ H locs hp hW => ?_)
              obtain ⟨sz1_88, tp1_88, fw1_88, tw1_88, yw1_88, pcn1_88, rfl, hp88_0, hU1, hN1, hN2, hN3, hN4, hN5, hN6⟩ := hp
              have hU := hU.then hU1 (by first | decide | (simp; done) | (simp; omega))
              have hoo_ := hU1.get hoo_ (by first | decide | (simp; done) | (simp; omega))
              have hoa_ := hU1.get hoa_ (by first | decide | (simp; done) | (simp; omega))
              have hX_ : w_[31]? = some (ad 31, .inr (2, [.ref (ad 32), .ref (ad 34), .ref (ad 36), .ref (ad 38), .ref (ad 40), .int (nI sz1_88)])) := hN1
              have hXta_ : w_[33]? = some (ad 33, .inl (cy 0, 1024, .inl (nf tp1_88))) := hN2
              have hXfa_ : w_[35]? = some (ad 35, .inl (cy 0, 272, .inl (nf fw1_88))) := hN3
              have hXwa_ : w_[37]? = some (ad 37, .inl (cy 0, 272, .inl (nf tw1_88))) := hN4
              have hXya_ : w_[39]? = some (ad 39, .inl (cy 0, 272, .inl (nf yw1_88))) := hN5
              have hXpa_ : w_[41]? = some (ad 41, .inl (cy 0, 10, .inl (nf pcn1_88))) := hN6
              clear hU1 hN1 hN2 hN3 hN4 hN5 hN6
              refine W.eq (g2 := F0 m 91 ls [.int (nI (sumN (nodesB (fun d => (fun a => cmb hw ((kx j) a) ((kx o) a)) (layP n od d n)) n) n))]) rfl ?_
              subst hQ
              refine vx_ret ?_
              exact j_iret (u := w_) S hr (rfl) hK hW dX11_join_91 ⟨by decide, by decide⟩ (⟨_, _, _, _, _, _, j, o, o, rfl, hp88_0, hsj, rfl, hti, rfl, hoo1, rfl, hhow, hp66_0, hp72_0, hU, hX_, hXta_, hXfa_, hXwa_, hXya_, hXpa_, hoo_, hoa_⟩)
            · refine lv_aload S.1 S.2.1 dX11_join_75 (lv_at hl 0 rfl) ?_
              refine lv_aload S.1 S.2.1 dX11_join_77 (lv_at hl 2 rfl) ?_
              refine lv_aload S.1 S.2.1 dX11_join_79 (lv_at hl 1 rfl) ?_
              refine lv_iload_n S.1 S.2.1 dX11_join_81 rfl (lv_at hl 6 rfl) ?_
              refine j_callV (k := 43 + 3 * o) (ci := 0) (q := (RX0, TX0, 2)) (As := [.ref (ad (43 + 3 * j)), .ref (ad (43 + 3 * i)), .int (nI hw)]) (rest := []) S hK hA hW (c_X0_combine l D cy (43 + 3 * o) (44 + 3 * o) (45 + 3 * o) (ad (43 + 3 * o)) (ad (44 + 3 * o)) (ad (45 + 3 * o)) (kv o) (kx o) (43 + 3 * j) (44 + 3 * j) (45 + 3 * j) (ad (43 + 3 * j)) (ad (44 + 3 * j)) (ad (45 + 3 * j)) (kv j) (kx j) (43 + 3 * i) (44 + 3 * i) (45 + 3 * i) (ad (43 + 3 * i)) (ad (44 + 3 * i)) (ad (45 + 3 * i)) (kv i) (kx i) hw hoo hol hoa hso hsl hsa hto htl hta   (hhw) (by omega) (by omega) (by omega) (by omega)) (jgo wm_X11_293) yk_X0_combine hoo rfl rfl ⟨⟨rfl, rfl⟩, by decide, by decide⟩ rfl hl.1 rfl (Nat.le_of_ble_eq_true rfl) dX11_join_82 ⟨Nat.le_of_ble_eq_true rfl, Nat.le_of_ble_eq_true rfl⟩ (fun v w_ H locs hp hW => ?_)
              obtain ⟨rfl, hU1, hN1, hN2⟩ := hp
              have hU : jU w w_ [31, 33, 35, 37, 39, 41, 43 + 3 * o, 45 + 3 * o] := jU.mono hU1 (by first | decide | (simp; done) | (simp; omega))
              have hX_ := hU1.get hX (by first | decide | (simp; done) | (simp; omega))
              have hXta_ := hU1.get hXta (by first | decide | (simp; done) | (simp; omega))
              have hXfa_ := hU1.get hXfa (by first | decide | (simp; done) | (simp; omega))
              have hXwa_ := hU1.get hXwa (by first | decide | (simp; done) | (simp; omega))
              have hXya_ := hU1.get hXya (by first | decide | (simp; done) | (simp; omega))
              have hXpa_ := hU1.get hXpa (by first | decide | (simp; done) | (simp; omega))
              have hoo_ : w_[(43 + 3 * o)]? = some (ad (43 + 3 * o), .inr (0, [.ref (ad (44 + 3 * o)), .int (kv j)])) := hN1
              have hoa_ : w_[(45 + 3 * o)]? = some (ad (45 + 3 * o), .inl (cy 1, 16, .inr (.inl (wd (fun a => cmb hw ((kx j) a) ((kx i) a)))))) := hN2
              clear hU1 hN1 hN2
              refine W.eq (g2 := F0 m 85 ls []) rfl ?_
              rw [hp66_0] at hoo_
              refine lv_aload_n S.1 S.2.1 dX11_join_85 rfl (lv_at hl 3 rfl) ?_
              refine lv_aload S.1 S.2.1 dX11_join_86 (lv_at hl 0 rfl) ?_
              refine j_callV (k := 0) (ci := 10) (q := (RX11, TX11, 15)) (As := [.ref (ad (43 + 3 * o))]) (rest := []) S hK hA hW (c_X11_countNodes l D cy (43 + 3 * o) (44 + 3 * o) (45 + 3 * o) (ad (43 + 3 * o)) (ad (44 + 3 * o)) (ad (45 + 3 * o)) n (fun a => cmb hw ((kx j) a) ((kx i) a)) ad sd se fr sz tp fw tw yw pcn od hoo_ (hU.get hol (by first | decide | (simp; done) | (simp; omega))) hoa_ (hU.get hO (by first | decide | (simp; done) | (simp; omega))) hX_ (hU.get hXto (by first | decide | (simp; done) | (simp; omega))) hXta_ (hU.get hXfo (by first | decide | (simp; done) | (simp; omega))) hXfa_ (hU.get hXwo (by first | decide | (simp; done) | (simp; omega))) hXwa_ (hU.get hXyo (by first | decide | (simp; done) | (simp; omega))) hXya_ (hU.get hXpo (by first | decide | (simp; done) | (simp; omega))) hXpa_ (hU.get hOo (by first | decide | (simp; done) | (simp; omega))) (hU.get hOa (by first | decide | (simp; done) | (simp; omega)))   (by omega) (hod) (hf) (ht) (by omega)) (jgo wm_X11_260) yk_X11_countNodes (hU.get hO (by first | decide | (simp; done) | (simp; omega))) rfl rfl ⟨⟨rfl, rfl⟩, by decide, by decide⟩ rfl hl.1 rfl (Nat.le_of_ble_eq_true rfl) dX11_join_88 ⟨Nat.le_of_ble_eq_true rfl, Nat.le_of_ble_eq_true rfl⟩ (fun v w_ H locs hp hW => ?_)
              obtain ⟨sz1_88, tp1_88, fw1_88, tw1_88, yw1_88, pcn1_88, rfl, hp88_0, hU1, hN1, hN2, hN3, hN4, hN5, hN6⟩ := hp
              have hU := hU.then hU1 (by first | decide | (simp; done) | (simp; omega))
              have hoo_ := hU1.get hoo_ (by first | decide | (simp; done) | (simp; omega))
              have hoa_ := hU1.get hoa_ (by first | decide | (simp; done) | (simp; omega))
              have hX_ : w_[31]? = some (ad 31, .inr (2, [.ref (ad 32), .ref (ad 34), .ref (ad 36), .ref (ad 38), .ref (ad 40), .int (nI sz1_88)])) := hN1
              have hXta_ : w_[33]? = some (ad 33, .inl (cy 0, 1024, .inl (nf tp1_88))) := hN2
              have hXfa_ : w_[35]? = some (ad 35, .inl (cy 0, 272, .inl (nf fw1_88))) := hN3
              have hXwa_ : w_[37]? = some (ad 37, .inl (cy 0, 272, .inl (nf tw1_88))) := hN4
              have hXya_ : w_[39]? = some (ad 39, .inl (cy 0, 272, .inl (nf yw1_88))) := hN5
              have hXpa_ : w_[41]? = some (ad 41, .inl (cy 0, 10, .inl (nf pcn1_88))) := hN6
              clear hU1 hN1 hN2 hN3 hN4 hN5 hN6
              refine W.eq (g2 := F0 m 91 ls [.int (nI (sumN (nodesB (fun d => (fun a => cmb hw ((kx j) a) ((kx i) a)) (layP n od d n)) n) n))]) rfl ?_
              subst hQ
              refine vx_ret ?_
              exact j_iret (u := w_) S hr (rfl) hK hW dX11_join_91 ⟨by decide, by decide⟩ (⟨_, _, _, _, _, _, j, i, o, rfl, hp88_0, hsj, rfl, hti, rfl, hoo1, rfl, hhow, hp66_0, hp72_0, hU, hX_, hXta_, hXfa_, hXwa_, hXya_, hXpa_, hoo_, hoa_⟩)
          · refine lv_iload_n S.1 S.2.1 dX11_join_34 rfl (lv_at hl 6 rfl) ?_
            refine lv_bipush (v := nI 120) S.1 S.2.1 dX11_join_35 (by decide) ?_
            refine jn_cmp_eq (tgt := 51) S (by omega) (by omega) dX11_join_37 (by decide) (fun c_37 => ?_) (fun c_37 => ?_)
            · have hhow : howB hw := by first | exact Or.inl c_25 | exact Or.inr (Or.inl c_31) | exact Or.inr (Or.inr c_37)
              refine lv_aload_n S.1 S.2.1 dX11_join_51 rfl (lv_at hl 3 rfl) ?_
              refine lv_aload S.1 S.2.1 dX11_join_52 (lv_at hl 2 rfl) ?_
              refine jx_callq (k := 0) (ci := 10) (q := (RX11, TX11, 15)) (As := [.ref (ad (43 + 3 * j))]) (rest := []) S hK hA hW hQ htab hr hx (c_X11_checkKept l htr D cy (43 + 3 * j) (44 + 3 * j) (45 + 3 * j) (ad (43 + 3 * j)) (ad (44 + 3 * j)) (ad (45 + 3 * j)) (kv j) ad (kx j) hso hsl hsa   ) (jgo wm_X11_287) yk_X11_checkKept hO rfl rfl ⟨⟨rfl, rfl⟩, by decide, by decide⟩ rfl hl.1 rfl (Nat.le_of_ble_eq_true rfl) dX11_join_54 ⟨Nat.le_of_ble_eq_true rfl, Nat.le_of_ble_eq_true rfl⟩ ⟨by decide, by decide⟩ (fun E u h => by obtain ⟨⟨e1, h⟩, e⟩ := h; exact ⟨Or.inr (Or.inl ⟨e1, ⟨j, i, o, hsj, rfl, hti, rfl, hoo1, rfl, hhow, Or.inl h⟩⟩), e⟩) (fun v u H locs hp hW => ?_)
              obtain ⟨rfl, hp54_0, rfl⟩ := hp
              refine W.eq (g2 := F0 m 57 ls []) rfl ?_
              refine lv_aload_n S.1 S.2.1 dX11_join_57 rfl (lv_at hl 3 rfl) ?_
              refine lv_aload S.1 S.2.1 dX11_join_58 (lv_at hl 1 rfl) ?_
              refine jx_callq (k := 0) (ci := 10) (q := (RX11, TX11, 15)) (As := [.ref (ad (43 + 3 * i))]) (rest := []) S hK hA hW hQ htab hr hx (c_X11_checkKept l htr D cy (43 + 3 * i) (44 + 3 * i) (45 + 3 * i) (ad (43 + 3 * i)) (ad (44 + 3 * i)) (ad (45 + 3 * i)) (kv i) ad (kx i) hto htl hta   ) (jgo wm_X11_287) yk_X11_checkKept hO rfl rfl ⟨⟨rfl, rfl⟩, by decide, by decide⟩ rfl hl.1 rfl (Nat.le_of_ble_eq_true rfl) dX11_join_60 ⟨Nat.le_of_ble_eq_true rfl, Nat.le_of_ble_eq_true rfl⟩ ⟨by decide, by decide⟩ (fun E u h => by obtain ⟨⟨e1, h⟩, e⟩ := h; exact ⟨Or.inr (Or.inl ⟨e1, ⟨j, i, o, hsj, rfl, hti, rfl, hoo1, rfl, hhow, Or.inr h⟩⟩), e⟩) (fun v u H locs hp hW => ?_)
              obtain ⟨rfl, hp60_0, rfl⟩ := hp
              refine W.eq (g2 := F0 m 63 ls []) rfl ?_
              refine lv_aload_n S.1 S.2.1 dX11_join_63 rfl (lv_at hl 3 rfl) ?_
              refine lv_aload S.1 S.2.1 dX11_join_64 (lv_at hl 2 rfl) ?_
              refine jx_callq (k := 0) (ci := 10) (q := (RX11, TX11, 15)) (As := [.ref (ad (43 + 3 * j))]) (rest := []) S hK hA hW hQ htab hr hx (c_X11_checkAsManyAsNow l htr D cy (43 + 3 * j) (44 + 3 * j) (45 + 3 * j) (ad (43 + 3 * j)) (ad (44 + 3 * j)) (ad (45 + 3 * j)) (kv j) (kx j) ad n sd se fr hso hsl hsa hO   ) (jgo wm_X11_290) yk_X11_checkAsManyAsNow hO rfl rfl ⟨⟨rfl, rfl⟩, by decide, by decide⟩ rfl hl.1 rfl (Nat.le_of_ble_eq_true rfl) dX11_join_66 ⟨Nat.le_of_ble_eq_true rfl, Nat.le_of_ble_eq_true rfl⟩ ⟨by decide, by decide⟩ (fun E u h => by obtain ⟨⟨e1, h⟩, e⟩ := h; exact ⟨Or.inr (Or.inr (⟨e1, ⟨j, i, o, hsj, rfl, hti, rfl, hoo1, rfl, hhow, hp54_0, hp60_0, Or.inl h⟩⟩)), e⟩) (fun v u H locs hp hW => ?_)
              obtain ⟨rfl, hp66_0, rfl⟩ := hp
              refine W.eq (g2 := F0 m 69 ls []) rfl ?_
              refine lv_aload_n S.1 S.2.1 dX11_join_69 rfl (lv_at hl 3 rfl) ?_
              refine lv_aload S.1 S.2.1 dX11_join_70 (lv_at hl 1 rfl) ?_
              refine jx_callq (k := 0) (ci := 10) (q := (RX11, TX11, 15)) (As := [.ref (ad (43 + 3 * i))]) (rest := []) S hK hA hW hQ htab hr hx (c_X11_checkAsManyAsNow l htr D cy (43 + 3 * i) (44 + 3 * i) (45 + 3 * i) (ad (43 + 3 * i)) (ad (44 + 3 * i)) (ad (45 + 3 * i)) (kv i) (kx i) ad n sd se fr hto htl hta hO   ) (jgo wm_X11_290) yk_X11_checkAsManyAsNow hO rfl rfl ⟨⟨rfl, rfl⟩, by decide, by decide⟩ rfl hl.1 rfl (Nat.le_of_ble_eq_true rfl) dX11_join_72 ⟨Nat.le_of_ble_eq_true rfl, Nat.le_of_ble_eq_true rfl⟩ ⟨by decide, by decide⟩ (fun E u h => by obtain ⟨⟨e1, h⟩, e⟩ := h; exact ⟨Or.inr (Or.inr (⟨e1, ⟨j, i, o, hsj, rfl, hti, rfl, hoo1, rfl, hhow, hp54_0, hp60_0, Or.inr h⟩⟩)), e⟩) (fun v u H locs hp hW => ?_)
              obtain ⟨rfl, hp72_0, rfl⟩ := hp
              refine W.eq (g2 := F0 m 75 ls []) rfl ?_
              rcases join_cases j i o with ⟨e1, e2⟩ | ⟨e1, e2⟩ | ⟨e1, e2⟩ | ⟨e1, e2⟩
              · have e2 := e2.symm
                subst e2
                have e1 := e1.symm
                subst e1
                refine lv_aload S.1 S.2.1 dX11_join_75 (lv_at hl 0 rfl) ?_
                refine lv_aload S.1 S.2.1 dX11_join_77 (lv_at hl 2 rfl) ?_
                refine lv_aload S.1 S.2.1 dX11_join_79 (lv_at hl 1 rfl) ?_
                refine lv_iload_n S.1 S.2.1 dX11_join_81 rfl (lv_at hl 6 rfl) ?_
                refine j_callV (k := 43 + 3 * o) (ci := 0) (q := (RX0, TX0, 2)) (As := [.ref (ad (43 + 3 * o)), .ref (ad (43 + 3 * o)), .int (nI hw)]) (rest := []) S hK hA hW (c_X0_combineB l D cy (43 + 3 * o) (44 + 3 * o) (45 + 3 * o) (ad (43 + 3 * o)) (ad (44 + 3 * o)) (ad (45 + 3 * o)) (kv o) (kx o) hw hoo hol hoa   (hhw)) (jgo wm_X11_293) yk_X0_combine hoo rfl rfl ⟨⟨rfl, rfl⟩, by decide, by decide⟩ rfl hl.1 rfl (Nat.le_of_ble_eq_true rfl) dX11_join_82 ⟨Nat.le_of_ble_eq_true rfl, Nat.le_of_ble_eq_true rfl⟩ (fun v w_ H locs hp hW => ?_)
                obtain ⟨rfl, hU1, hN1, hN2⟩ := hp
                have hU : jU w w_ [31, 33, 35, 37, 39, 41, 43 + 3 * o, 45 + 3 * o] := jU.mono hU1 (by first | decide | (simp; done) | (simp; omega))
                have hX_ := hU1.get hX (by first | decide | (simp; done) | (simp; omega))
                have hXta_ := hU1.get hXta (by first | decide | (simp; done) | (simp; omega))
                have hXfa_ := hU1.get hXfa (by first | decide | (simp; done) | (simp; omega))
                have hXwa_ := hU1.get hXwa (by first | decide | (simp; done) | (simp; omega))
                have hXya_ := hU1.get hXya (by first | decide | (simp; done) | (simp; omega))
                have hXpa_ := hU1.get hXpa (by first | decide | (simp; done) | (simp; omega))
                have hoo_ : w_[(43 + 3 * o)]? = some (ad (43 + 3 * o), .inr (0, [.ref (ad (44 + 3 * o)), .int (kv o)])) := hN1
                have hoa_ : w_[(45 + 3 * o)]? = some (ad (45 + 3 * o), .inl (cy 1, 16, .inr (.inl (wd (fun a => cmb hw ((kx o) a) ((kx o) a)))))) := hN2
                clear hU1 hN1 hN2
                refine W.eq (g2 := F0 m 85 ls []) rfl ?_
                rw [hp66_0] at hoo_
                refine lv_aload_n S.1 S.2.1 dX11_join_85 rfl (lv_at hl 3 rfl) ?_
                refine lv_aload S.1 S.2.1 dX11_join_86 (lv_at hl 0 rfl) ?_
                refine j_callV (k := 0) (ci := 10) (q := (RX11, TX11, 15)) (As := [.ref (ad (43 + 3 * o))]) (rest := []) S hK hA hW (c_X11_countNodes l D cy (43 + 3 * o) (44 + 3 * o) (45 + 3 * o) (ad (43 + 3 * o)) (ad (44 + 3 * o)) (ad (45 + 3 * o)) n (fun a => cmb hw ((kx o) a) ((kx o) a)) ad sd se fr sz tp fw tw yw pcn od hoo_ (hU.get hol (by first | decide | (simp; done) | (simp; omega))) hoa_ (hU.get hO (by first | decide | (simp; done) | (simp; omega))) hX_ (hU.get hXto (by first | decide | (simp; done) | (simp; omega))) hXta_ (hU.get hXfo (by first | decide | (simp; done) | (simp; omega))) hXfa_ (hU.get hXwo (by first | decide | (simp; done) | (simp; omega))) hXwa_ (hU.get hXyo (by first | decide | (simp; done) | (simp; omega))) hXya_ (hU.get hXpo (by first | decide | (simp; done) | (simp; omega))) hXpa_ (hU.get hOo (by first | decide | (simp; done) | (simp; omega))) (hU.get hOa (by first | decide | (simp; done) | (simp; omega)))   (by omega) (hod) (hf) (ht) (by omega)) (jgo wm_X11_260) yk_X11_countNodes (hU.get hO (by first | decide | (simp; done) | (simp; omega))) rfl rfl ⟨⟨rfl, rfl⟩, by decide, by decide⟩ rfl hl.1 rfl (Nat.le_of_ble_eq_true rfl) dX11_join_88 ⟨Nat.le_of_ble_eq_true rfl, Nat.le_of_ble_eq_true rfl⟩ (fun v w_ H locs hp hW => ?_)
                obtain ⟨sz1_88, tp1_88, fw1_88, tw1_88, yw1_88, pcn1_88, rfl, hp88_0, hU1, hN1, hN2, hN3, hN4, hN5, hN6⟩ := hp
                have hU := hU.then hU1 (by first | decide | (simp; done) | (simp; omega))
                have hoo_ := hU1.get hoo_ (by first | decide | (simp; done) | (simp; omega))
                have hoa_ := hU1.get hoa_ (by first | decide | (simp; done) | (simp; omega))
                have hX_ : w_[31]? = some (ad 31, .inr (2, [.ref (ad 32), .ref (ad 34), .ref (ad 36), .ref (ad 38), .ref (ad 40), .int (nI sz1_88)])) := hN1
                have hXta_ : w_[33]? = some (ad 33, .inl (cy 0, 1024, .inl (nf tp1_88))) := hN2
                have hXfa_ : w_[35]? = some (ad 35, .inl (cy 0, 272, .inl (nf fw1_88))) := hN3
                have hXwa_ : w_[37]? = some (ad 37, .inl (cy 0, 272, .inl (nf tw1_88))) := hN4
                have hXya_ : w_[39]? = some (ad 39, .inl (cy 0, 272, .inl (nf yw1_88))) := hN5
                have hXpa_ : w_[41]? = some (ad 41, .inl (cy 0, 10, .inl (nf pcn1_88))) := hN6
                clear hU1 hN1 hN2 hN3 hN4 hN5 hN6
                refine W.eq (g2 := F0 m 91 ls [.int (nI (sumN (nodesB (fun d => (fun a => cmb hw ((kx o) a) ((kx o) a)) (layP n od d n)) n) n))]) rfl ?_
                subst hQ
                refine vx_ret ?_
                exact j_iret (u := w_) S hr (rfl) hK hW dX11_join_91 ⟨by decide, by decide⟩ (⟨_, _, _, _, _, _, o, o, o, rfl, hp88_0, hsj, rfl, hti, rfl, hoo1, rfl, hhow, hp66_0, hp72_0, hU, hX_, hXta_, hXfa_, hXwa_, hXya_, hXpa_, hoo_, hoa_⟩)
              · have e1 := e1.symm
                subst e1
                refine lv_aload S.1 S.2.1 dX11_join_75 (lv_at hl 0 rfl) ?_
                refine lv_aload S.1 S.2.1 dX11_join_77 (lv_at hl 2 rfl) ?_
                refine lv_aload S.1 S.2.1 dX11_join_79 (lv_at hl 1 rfl) ?_
                refine lv_iload_n S.1 S.2.1 dX11_join_81 rfl (lv_at hl 6 rfl) ?_
                refine j_callV (k := 43 + 3 * o) (ci := 0) (q := (RX0, TX0, 2)) (As := [.ref (ad (43 + 3 * o)), .ref (ad (43 + 3 * i)), .int (nI hw)]) (rest := []) S hK hA hW (c_X0_combineL l D cy (43 + 3 * o) (44 + 3 * o) (45 + 3 * o) (ad (43 + 3 * o)) (ad (44 + 3 * o)) (ad (45 + 3 * o)) (kv o) (kx o) (43 + 3 * i) (44 + 3 * i) (45 + 3 * i) (ad (43 + 3 * i)) (ad (44 + 3 * i)) (ad (45 + 3 * i)) (kv i) (kx i) hw hoo hol hoa hto htl hta   (hhw) (by omega) (by omega)) (jgo wm_X11_293) yk_X0_combine hoo rfl rfl ⟨⟨rfl, rfl⟩, by decide, by decide⟩ rfl hl.1 rfl (Nat.le_of_ble_eq_true rfl) dX11_join_82 ⟨Nat.le_of_ble_eq_true rfl, Nat.le_of_ble_eq_true rfl⟩ (fun v w_ H locs hp hW => ?_)
                obtain ⟨rfl, hU1, hN1, hN2⟩ := hp
                have hU : jU w w_ [31, 33, 35, 37, 39, 41, 43 + 3 * o, 45 + 3 * o] := jU.mono hU1 (by first | decide | (simp; done) | (simp; omega))
                have hX_ := hU1.get hX (by first | decide | (simp; done) | (simp; omega))
                have hXta_ := hU1.get hXta (by first | decide | (simp; done) | (simp; omega))
                have hXfa_ := hU1.get hXfa (by first | decide | (simp; done) | (simp; omega))
                have hXwa_ := hU1.get hXwa (by first | decide | (simp; done) | (simp; omega))
                have hXya_ := hU1.get hXya (by first | decide | (simp; done) | (simp; omega))
                have hXpa_ := hU1.get hXpa (by first | decide | (simp; done) | (simp; omega))
                have hoo_ : w_[(43 + 3 * o)]? = some (ad (43 + 3 * o), .inr (0, [.ref (ad (44 + 3 * o)), .int (kv o)])) := hN1
                have hoa_ : w_[(45 + 3 * o)]? = some (ad (45 + 3 * o), .inl (cy 1, 16, .inr (.inl (wd (fun a => cmb hw ((kx o) a) ((kx i) a)))))) := hN2
                clear hU1 hN1 hN2
                refine W.eq (g2 := F0 m 85 ls []) rfl ?_
                rw [hp66_0] at hoo_
                refine lv_aload_n S.1 S.2.1 dX11_join_85 rfl (lv_at hl 3 rfl) ?_
                refine lv_aload S.1 S.2.1 dX11_join_86 (lv_at hl 0 rfl) ?_
                refine j_callV (k := 0) (ci := 10) (q := (RX11, TX11, 15)) (As := [.ref (ad (43 + 3 * o))]) (rest := []) S hK hA hW (c_X11_countNodes l D cy (43 + 3 * o) (44 + 3 * o) (45 + 3 * o) (ad (43 + 3 * o)) (ad (44 + 3 * o)) (ad (45 + 3 * o)) n (fun a => cmb hw ((kx o) a) ((kx i) a)) ad sd se fr sz tp fw tw yw pcn od hoo_ (hU.get hol (by first | decide | (simp; done) | (simp; omega))) hoa_ (hU.get hO (by first | decide | (simp; done) | (simp; omega))) hX_ (hU.get hXto (by first | decide | (simp; done) | (simp; omega))) hXta_ (hU.get hXfo (by first | decide | (simp; done) | (simp; omega))) hXfa_ (hU.get hXwo (by first | decide | (simp; done) | (simp; omega))) hXwa_ (hU.get hXyo (by first | decide | (simp; done) | (simp; omega))) hXya_ (hU.get hXpo (by first | decide | (simp; done) | (simp; omega))) hXpa_ (hU.get hOo (by first | decide | (simp; done) | (simp; omega))) (hU.get hOa (by first | decide | (simp; done) | (simp; omega)))   (by omega) (hod) (hf) (ht) (by omega)) (jgo wm_X11_260) yk_X11_countNodes (hU.get hO (by first | decide | (simp; done) | (simp; omega))) rfl rfl ⟨⟨rfl, rfl⟩, by decide, by decide⟩ rfl hl.1 rfl (Nat.le_of_ble_eq_true rfl) dX11_join_88 ⟨Nat.le_of_ble_eq_true rfl, Nat.le_of_ble_eq_true rfl⟩ (fun v w_ H locs hp hW => ?_)
                obtain ⟨sz1_88, tp1_88, fw1_88, tw1_88, yw1_88, pcn1_88, rfl, hp88_0, hU1, hN1, hN2, hN3, hN4, hN5, hN6⟩ := hp
                have hU := hU.then hU1 (by first | decide | (simp; done) | (simp; omega))
                have hoo_ := hU1.get hoo_ (by first | decide | (simp; done) | (simp; omega))
                have hoa_ := hU1.get hoa_ (by first | decide | (simp; done) | (simp; omega))
                have hX_ : w_[31]? = some (ad 31, .inr (2, [.ref (ad 32), .ref (ad 34), .ref (ad 36), .ref (ad 38), .ref (ad 40), .int (nI sz1_88)])) := hN1
                have hXta_ : w_[33]? = some (ad 33, .inl (cy 0, 1024, .inl (nf tp1_88))) := hN2
                have hXfa_ : w_[35]? = some (ad 35, .inl (cy 0, 272, .inl (nf fw1_88))) := hN3
                have hXwa_ : w_[37]? = some (ad 37, .inl (cy 0, 272, .inl (nf tw1_88))) := hN4
                have hXya_ : w_[39]? = some (ad 39, .inl (cy 0, 272, .inl (nf yw1_88))) := hN5
                have hXpa_ : w_[41]? = some (ad 41, .inl (cy 0, 10, .inl (nf pcn1_88))) := hN6
                clear hU1 hN1 hN2 hN3 hN4 hN5 hN6
                refine W.eq (g2 := F0 m 91 ls [.int (nI (sumN (nodesB (fun d => (fun a => cmb hw ((kx o) a) ((kx i) a)) (layP n od d n)) n) n))]) rfl ?_
                subst hQ
                refine vx_ret ?_
                exact j_iret (u := w_) S hr (rfl) hK hW dX11_join_91 ⟨by decide, by decide⟩ (⟨_, _, _, _, _, _, o, i, o, rfl, hp88_0, hsj, rfl, hti, rfl, hoo1, rfl, hhow, hp66_0, hp72_0, hU, hX_, hXta_, hXfa_, hXwa_, hXya_, hXpa_, hoo_, hoa_⟩)
              · have e2 := e2.symm
                subst e2
                refine lv_aload S.1 S.2.1 dX11_join_75 (lv_at hl 0 rfl) ?_
                refine lv_aload S.1 S.2.1 dX11_join_77 (lv_at hl 2 rfl) ?_
                refine lv_aload S.1 S.2.1 dX11_join_79 (lv_at hl 1 rfl) ?_
                refine lv_iload_n S.1 S.2.1 dX11_join_81 rfl (lv_at hl 6 rfl) ?_
                refine j_callV (k := 43 + 3 * o) (ci := 0) (q := (RX0, TX0, 2)) (As := [.ref (ad (43 + 3 * j)), .ref (ad (43 + 3 * o)), .int (nI hw)]) (rest := []) S hK hA hW (c_X0_combineR l D cy (43 + 3 * o) (44 + 3 * o) (45 + 3 * o) (ad (43 + 3 * o)) (ad (44 + 3 * o)) (ad (45 + 3 * o)) (kv o) (kx o) (43 + 3 * j) (44 + 3 * j) (45 + 3 * j) (ad (43 + 3 * j)) (ad (44 + 3 * j)) (ad (45 + 3 * j)) (kv j) (kx j) hw hoo hol hoa hso hsl hsa   (hhw) (by omega) (by omega)) (jgo wm_X11_293) yk_X0_combine hoo rfl rfl ⟨⟨rfl, rfl⟩, by decide, by decide⟩ rfl hl.1 rfl (Nat.le_of_ble_eq_true rfl) dX11_join_82 ⟨Nat.le_of_ble_eq_true rfl, Nat.le_of_ble_eq_true rfl⟩ (fun v w_ H locs hp hW => ?_)
                obtain ⟨rfl, hU1, hN1, hN2⟩ := hp
                have hU : jU w w_ [31, 33, 35, 37, 39, 41, 43 + 3 * o, 45 + 3 * o] := jU.mono hU1 (by first | decide | (simp; done) | (simp; omega))
                have hX_ := hU1.get hX (by first | decide | (simp; done) | (simp; omega))
                have hXta_ := hU1.get hXta (by first | decide | (simp; done) | (simp; omega))
                have hXfa_ := hU1.get hXfa (by first | decide | (simp; done) | (simp; omega))
                have hXwa_ := hU1.get hXwa (by first | decide | (simp; done) | (simp; omega))
                have hXya_ := hU1.get hXya (by first | decide | (simp; done) | (simp; omega))
                have hXpa_ := hU1.get hXpa (by first | decide | (simp; done) | (simp; omega))
                have hoo_ : w_[(43 + 3 * o)]? = some (ad (43 + 3 * o), .inr (0, [.ref (ad (44 + 3 * o)), .int (kv j)])) := hN1
                have hoa_ : w_[(45 + 3 * o)]? = some (ad (45 + 3 * o), .inl (cy 1, 16, .inr (.inl (wd (fun a => cmb hw ((kx j) a) ((kx o) a)))))) := hN2
                clear hU1 hN1 hN2
                refine W.eq (g2 := F0 m 85 ls []) rfl ?_
                rw [hp66_0] at hoo_
                refine lv_aload_n S.1 S.2.1 dX11_join_85 rfl (lv_at hl 3 rfl) ?_
                refine lv_aload S.1 S.2.1 dX11_join_86 (lv_at hl 0 rfl) ?_
                refine j_callV (k := 0) (ci := 10) (q := (RX11, TX11, 15)) (As := [.ref (ad (43 + 3 * o))]) (rest := []) S hK hA hW (c_X11_countNodes l D cy (43 + 3 * o) (44 + 3 * o) (45 + 3 * o) (ad (43 + 3 * o)) (ad (44 + 3 * o)) (ad (45 + 3 * o)) n (fun a => cmb hw ((kx j) a) ((kx o) a)) ad sd se fr sz tp fw tw yw pcn od hoo_ (hU.get hol (by first | decide | (simp; done) | (simp; omega))) hoa_ (hU.get hO (by first | decide | (simp; done) | (simp; omega))) hX_ (hU.get hXto (by first | decide | (simp; done) | (simp; omega))) hXta_ (hU.get hXfo (by first | decide | (simp; done) | (simp; omega))) hXfa_ (hU.get hXwo (by first | decide | (simp; done) | (simp; omega))) hXwa_ (hU.get hXyo (by first | decide | (simp; done) | (simp; omega))) hXya_ (hU.get hXpo (by first | decide | (simp; done) | (simp; omega))) hXpa_ (hU.get hOo (by first | decide | (simp; done) | (simp; omega))) (hU.get hOa (by first | decide | (simp; done) | (simp; omega)))   (by omega) (hod) (hf) (ht) (by omega)) (jgo wm_X11_260) yk_X11_countNodes (hU.get hO (by first | decide | (simp; done) | (simp; omega))) rfl rfl ⟨⟨rfl, rfl⟩, by decide, by decide⟩ rfl hl.1 rfl (Nat.le_of_ble_eq_true rfl) dX11_join_88 ⟨Nat.le_of_ble_eq_true rfl, Nat.le_of_ble_eq_true rfl⟩ (fun v w_ H locs hp hW => ?_)
                obtain ⟨sz1_88, tp1_88, fw1_88, tw1_88, yw1_88, pcn1_88, rfl, hp88_0, hU1, hN1, hN2, hN3, hN4, hN5, hN6⟩ := hp
                have hU := hU.then hU1 (by first | decide | (simp; done) | (simp; omega))
                have hoo_ := hU1.get hoo_ (by first | decide | (simp; done) | (simp; omega))
                have hoa_ := hU1.get hoa_ (by first | decide | (simp; done) | (simp; omega))
                have hX_ : w_[31]? = some (ad 31, .inr (2, [.ref (ad 32), .ref (ad 34), .ref (ad 36), .ref (ad 38), .ref (ad 40), .int (nI sz1_88)])) := hN1
                have hXta_ : w_[33]? = some (ad 33, .inl (cy 0, 1024, .inl (nf tp1_88))) := hN2
                have hXfa_ : w_[35]? = some (ad 35, .inl (cy 0, 272, .inl (nf fw1_88))) := hN3
                have hXwa_ : w_[37]? = some (ad 37, .inl (cy 0, 272, .inl (nf tw1_88))) := hN4
                have hXya_ : w_[39]? = some (ad 39, .inl (cy 0, 272, .inl (nf yw1_88))) := hN5
                have hXpa_ : w_[41]? = some (ad 41, .inl (cy 0, 10, .inl (nf pcn1_88))) := hN6
                clear hU1 hN1 hN2 hN3 hN4 hN5 hN6
                refine W.eq (g2 := F0 m 91 ls [.int (nI (sumN (nodesB (fun d => (fun a => cmb hw ((kx j) a) ((kx o) a)) (layP n od d n)) n) n))]) rfl ?_
                subst hQ
                refine vx_ret ?_
                exact j_iret (u := w_) S hr (rfl) hK hW dX11_join_91 ⟨by decide, by decide⟩ (⟨_, _, _, _, _, _, j, o, o, rfl, hp88_0, hsj, rfl, hti, rfl, hoo1, rfl, hhow, hp66_0, hp72_0, hU, hX_, hXta_, hXfa_, hXwa_, hXya_, hXpa_, hoo_, hoa_⟩)
              · refine lv_aload S.1 S.2.1 dX11_join_75 (lv_at hl 0 rfl) ?_
                refine lv_aload S.1 S.2.1 dX11_join_77 (lv_at hl 2 rfl) ?_
                refine lv_aload S.1 S.2.1 dX11_join_79 (lv_at hl 1 rfl) ?_
                refine lv_iload_n S.1 S.2.1 dX11_join_81 rfl (lv_at hl 6 rfl) ?_
                refine j_callV (k := 43 + 3 * o) (ci := 0) (q := (RX0, TX0, 2)) (As := [.ref (ad (43 + 3 * j)), .ref (ad (43 + 3 * i)), .int (nI hw)]) (rest := []) S hK hA hW (c_X0_combine l D cy (43 + 3 * o) (44 + 3 * o) (45 + 3 * o) (ad (43 + 3 * o)) (ad (44 + 3 * o)) (ad (45 + 3 * o)) (kv o) (kx o) (43 + 3 * j) (44 + 3 * j) (45 + 3 * j) (ad (43 + 3 * j)) (ad (44 + 3 * j)) (ad (45 + 3 * j)) (kv j) (kx j) (43 + 3 * i) (44 + 3 * i) (45 + 3 * i) (ad (43 + 3 * i)) (ad (44 + 3 * i)) (ad (45 + 3 * i)) (kv i) (kx i) hw hoo hol hoa hso hsl hsa hto htl hta   (hhw) (by omega) (by omega) (by omega) (by omega)) (jgo wm_X11_293) yk_X0_combine hoo rfl rfl ⟨⟨rfl, rfl⟩, by decide, by decide⟩ rfl hl.1 rfl (Nat.le_of_ble_eq_true rfl) dX11_join_82 ⟨Nat.le_of_ble_eq_true rfl, Nat.le_of_ble_eq_true rfl⟩ (fun v w_ H locs hp hW => ?_)
                obtain ⟨rfl, hU1, hN1, hN2⟩ := hp
                have hU : jU w w_ [31, 33, 35, 37, 39, 41, 43 + 3 * o, 45 + 3 * o] := jU.mono hU1 (by first | decide | (simp; done) | (simp; omega))
                have hX_ := hU1.get hX (by first | decide | (simp; done) | (simp; omega))
                have hXta_ := hU1.get hXta (by first | decide | (simp; done) | (simp; omega))
                have hXfa_ := hU1.get hXfa (by first | decide | (simp; done) | (simp; omega))
                have hXwa_ := hU1.get hXwa (by first | decide | (simp; done) | (simp; omega))
                have hXya_ := hU1.get hXya (by first | decide | (simp; done) | (simp; omega))
                have hXpa_ := hU1.get hXpa (by first | decide | (simp; done) | (simp; omega))
                have hoo_ : w_[(43 + 3 * o)]? = some (ad (43 + 3 * o), .inr (0, [.ref (ad (44 + 3 * o)), .int (kv j)])) := hN1
                have hoa_ : w_[(45 + 3 * o)]? = some (ad (45 + 3 * o), .inl (cy 1, 16, .inr (.inl (wd (fun a => cmb hw ((kx j) a) ((kx i) a)))))) := hN2
                clear hU1 hN1 hN2
                refine W.eq (g2 := F0 m 85 ls []) rfl ?_
                rw [hp66_0] at hoo_
                refine lv_aload_n S.1 S.2.1 dX11_join_85 rfl (lv_at hl 3 rfl) ?_
                refine lv_aload S.1 S.2.1 dX11_join_86 (lv_at hl 0 rfl) ?_
                refine j_callV (k := 0) (ci := 10) (q := (RX11, TX11, 15)) (As := [.ref (ad (43 + 3 * o))]) (rest := []) S hK hA hW (c_X11_countNodes l D cy (43 + 3 * o) (44 + 3 * o) (45 + 3 * o) (ad (43 + 3 * o)) (ad (44 + 3 * o)) (ad (45 + 3 * o)) n (fun a => cmb hw ((kx j) a) ((kx i) a)) ad sd se fr sz tp fw tw yw pcn od hoo_ (hU.get hol (by first | decide | (simp; done) | (simp; omega))) hoa_ (hU.get hO (by first | decide | (simp; done) | (simp; omega))) hX_ (hU.get hXto (by first | decide | (simp; done) | (simp; omega))) hXta_ (hU.get hXfo (by first | decide | (simp; done) | (simp; omega))) hXfa_ (hU.get hXwo (by first | decide | (simp; done) | (simp; omega))) hXwa_ (hU.get hXyo (by first | decide | (simp; done) | (simp; omega))) hXya_ (hU.get hXpo (by first | decide | (simp; done) | (simp; omega))) hXpa_ (hU.get hOo (by first | decide | (simp; done) | (simp; omega))) (hU.get hOa (by first | decide | (simp; done) | (simp; omega)))   (by omega) (hod) (hf) (ht) (by omega)) (jgo wm_X11_260) yk_X11_countNodes (hU.get hO (by first | decide | (simp; done) | (simp; omega))) rfl rfl ⟨⟨rfl, rfl⟩, by decide, by decide⟩ rfl hl.1 rfl (Nat.le_of_ble_eq_true rfl) dX11_join_88 ⟨Nat.le_of_ble_eq_true rfl, Nat.le_of_ble_eq_true rfl⟩ (fun v w_ H locs hp hW => ?_)
                obtain ⟨sz1_88, tp1_88, fw1_88, tw1_88, yw1_88, pcn1_88, rfl, hp88_0, hU1, hN1, hN2, hN3, hN4, hN5, hN6⟩ := hp
                have hU := hU.then hU1 (by first | decide | (simp; done) | (simp; omega))
                have hoo_ := hU1.get hoo_ (by first | decide | (simp; done) | (simp; omega))
                have hoa_ := hU1.get hoa_ (by first | decide | (simp; done) | (simp; omega))
                have hX_ : w_[31]? = some (ad 31, .inr (2, [.ref (ad 32), .ref (ad 34), .ref (ad 36), .ref (ad 38), .ref (ad 40), .int (nI sz1_88)])) := hN1
                have hXta_ : w_[33]? = some (ad 33, .inl (cy 0, 1024, .inl (nf tp1_88))) := hN2
                have hXfa_ : w_[35]? = some (ad 35, .inl (cy 0, 272, .inl (nf fw1_88))) := hN3
                have hXwa_ : w_[37]? = some (ad 37, .inl (cy 0, 272, .inl (nf tw1_88))) := hN4
                have hXya_ : w_[39]? = some (ad 39, .inl (cy 0, 272, .inl (nf yw1_88))) := hN5
                have hXpa_ : w_[41]? = some (ad 41, .inl (cy 0, 10, .inl (nf pcn1_88))) := hN6
                clear hU1 hN1 hN2 hN3 hN4 hN5 hN6
                refine W.eq (g2 := F0 m 91 ls [.int (nI (sumN (nodesB (fun d => (fun a => cmb hw ((kx j) a) ((kx i) a)) (layP n od d n)) n) n))]) rfl ?_
                subst hQ
                refine vx_ret ?_
                exact j_iret (u := w_) S hr (rfl) hK hW dX11_join_91 ⟨by decide, by decide⟩ (⟨_, _, _, _, _, _, j, i, o, rfl, hp88_0, hsj, rfl, hti, rfl, hoo1, rfl, hhow, hp66_0, hp72_0, hU, hX_, hXta_, hXfa_, hXwa_, hXya_, hXpa_, hoo_, hoa_⟩)
            · subst hQ
              obtain ⟨sa, hsa⟩ := hx.2.1 (285, "no such way to join") (by decide)
              exact jx_throwW (text := "no such way to join") (names := jNm) (sa := sa) S htr jfit_105 jfit_n wcl_X11_101 wini_java_lang_IllegalArgumentException vxg_105 vxn_105 vxh_105 (by decide) hsa hx hK hW hl.1 htab hr.2.1 ⟨by decide, by decide, by decide, by decide⟩ ⟨by decide, by decide⟩ dX11_join_40 dX11_join_43 dX11_join_44 dX11_join_47 dX11_join_50 (⟨Or.inl ⟨rfl, Or.inr (Or.inr (Or.inr (by rintro (q | q | q) <;> omega)))⟩, rfl⟩)
      · have hvo := vB_f hvo
        refine lv_aload_n S.1 S.2.1 dX11_join_14 rfl (lv_at hl 2 rfl) ?_
        refine lv_iload S.1 S.2.1 dX11_join_15 (lv_at hl 6 rfl) ?_
        refine jx_callq (k := 0) (ci := 10) (q := (RX11, TX11, 15)) (As := [.int u2]) (rest := []) S hK hA hW hQ htab hr hx (c_X11_slotAtN l htr D cy ad n sd se fr u2 hO hS   (hvo)) (jgo wm_X11_277) yk_X11_slotAt hO rfl rfl ⟨⟨rfl, rfl⟩, by decide, by decide⟩ rfl hl.1 rfl (Nat.le_of_ble_eq_true rfl) dX11_join_17 ⟨Nat.le_of_ble_eq_true rfl, Nat.le_of_ble_eq_true rfl⟩ ⟨by decide, by decide⟩ (fun E u h => by obtain ⟨⟨e1, h⟩, e⟩ := h; exact ⟨Or.inl ⟨e1, Or.inr (Or.inr (Or.inl h))⟩, e⟩) (fun v u H locs hp hW => ?_)
        obtain ⟨rfl, hp17_0, rfl⟩ := hp
        refine W.eq (g2 := F0 m 20 ls []) rfl ?_
        exact hp17_0.elim
    · have hvi := vB_f hvi
      refine lv_aload_n S.1 S.2.1 dX11_join_7 rfl (lv_at hl 1 rfl) ?_
      refine lv_iload_n S.1 S.2.1 dX11_join_8 rfl (lv_at hl 3 rfl) ?_
      refine jx_callq (k := 0) (ci := 10) (q := (RX11, TX11, 15)) (As := [.int u1]) (rest := []) S hK hA hW hQ htab hr hx (c_X11_slotAtN l htr D cy ad n sd se fr u1 hO hS   (hvi)) (jgo wm_X11_277) yk_X11_slotAt hO rfl rfl ⟨⟨rfl, rfl⟩, by decide, by decide⟩ rfl hl.1 rfl (Nat.le_of_ble_eq_true rfl) dX11_join_9 ⟨Nat.le_of_ble_eq_true rfl, Nat.le_of_ble_eq_true rfl⟩ ⟨by decide, by decide⟩ (fun E u h => by obtain ⟨⟨e1, h⟩, e⟩ := h; exact ⟨Or.inl ⟨e1, Or.inr (Or.inl h)⟩, e⟩) (fun v u H locs hp hW => ?_)
      obtain ⟨rfl, hp9_0, rfl⟩ := hp
      refine W.eq (g2 := F0 m 12 ls []) rfl ?_
      exact hp9_0.elim
  · have hvj := vB_f hvj
    refine lv_aload_n S.1 S.2.1 dX11_join_0 rfl (lv_at hl 0 rfl) ?_
    refine lv_iload_n S.1 S.2.1 dX11_join_1 rfl (lv_at hl 1 rfl) ?_
    refine jx_callq (k := 0) (ci := 10) (q := (RX11, TX11, 15)) (As := [.int v]) (rest := []) S hK hA hW hQ htab hr hx (c_X11_slotAtN l htr D cy ad n sd se fr v hO hS   (hvj)) (jgo wm_X11_277) yk_X11_slotAt hO rfl rfl ⟨⟨rfl, rfl⟩, by decide, by decide⟩ rfl hl.1 rfl (Nat.le_of_ble_eq_true rfl) dX11_join_2 ⟨Nat.le_of_ble_eq_true rfl, Nat.le_of_ble_eq_true rfl⟩ ⟨by decide, by decide⟩ (fun E u h => by obtain ⟨⟨e1, h⟩, e⟩ := h; exact ⟨Or.inl ⟨e1, Or.inl h⟩, e⟩) (fun v u H locs hp hW => ?_)
    obtain ⟨rfl, hp2_0, rfl⟩ := hp
    refine W.eq (g2 := F0 m 5 ls []) rfl ?_
    exact hp2_0.elim
