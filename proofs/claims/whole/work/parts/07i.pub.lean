/-! COUNTFALL: best, lucky, first (laid by wip/whole/tools, from the specs there) -/
/-- best -/
theorem c_X11_best (l : Launch) (htr : l.stackTraces = false) (D : va_G) (cy : Nat → ClassId) {w : va_W} (ad : Nat → Nat) (n sd se : Nat) (fr : Bool) (nc lv : Nat) (tf : Nat → Option Nat) (cp ca : Nat → Nat) (cs : Nat → CN) (mv : Int32) (MX : Nat → Bool) (pr : Nat → Nat) (ct : Nat) (ra rw_ : Nat → Nat) (v : Int32) (hO : w[0]? = some (ad 0, .inr (10, [.int (nI n), .ref (ad 1), .ref (ad 3), .ref (ad 5), .int (nI sd), .int (nI se), .ref (ad 7), .ref (ad 9), .ref (ad 11), .ref (ad 20), .int (bI fr), .ref (ad 23), .ref (ad 26), .ref (ad 31), .ref (ad 42)]))) (hMo : w[20]? = some (ad 20, .inr (0, [.ref (ad 21), .int mv]))) (hMl : w[21]? = some (ad 21, .inr (6, [.ref (ad 22)]))) (hMa : w[22]? = some (ad 22, .inl (cy 1, 16, .inr (.inl (wd MX))))) (hC : w[9]? = some (ad 9, .inr (4, [.ref (ad 10), .int (nI nc), .int (nI lv)]))) (hT : w[10]? = some (ad 10, .inl (cy 5, 20, .inr (.inr (.inr (.inr tf)))))) (hDo : w[5]? = some (ad 5, .inr (6, [.ref (ad 6)]))) (hDa : w[6]? = some (ad 6, .inl (cy 1, 1024, .inr (.inl (lf pr))))) (hR : w[26]? = some (ad 26, .inr (9, [.ref (ad 27), .ref (ad 29), .int (nI ct)]))) (hRao : w[27]? = some (ad 27, .inr (5, [.ref (ad 28)]))) (hRaa : w[28]? = some (ad 28, .inl (cy 0, 21, .inl (nf ra)))) (hRwo : w[29]? = some (ad 29, .inr (6, [.ref (ad 30)]))) (hRwa : w[30]? = some (ad 30, .inl (cy 1, 21, .inr (.inl (lf rw_))))) (hcon : conOK w nc tf cp ca cs) (hn : n ≤ 10) (hsd : sd < 1024) (hse : se < 1024) (hlv : lv < 2 ^ 20) (hfr : fr = true → mv = nI n ∧ MX = mdl n sd se nc cs lv) (hpr : ∀ j, pr j ≤ 3486784401) (hrb : ∀ j, rw_ j < 2 ^ 62) : jMx jTexts l yX11_best (jws yX11_best cX11_best 5 (some .int)) (jR 9 2 12) D cy w [.ref (ad 0), .int v] 2 12 (fun vv uu => ∃ (x : Nat), ∃ (len : Nat), ∃ (f : Nat → Nat), ∃ (ct1 : Nat), ∃ (ra1 : Nat → Nat), ∃ (rw1 : Nat → Nat), vv = some (.int (nI (revN n (f x)))) ∧ x < 21 ∧ v = nI x ∧ x < len ∧ srtI (fun d => mdl n sd se nc cs lv (revN n d)) (fun d => pr (revN n d)) (2 ^ n) len f ∧ (∀ j, rw1 j < 2 ^ 62) ∧ jU w uu [0, 20, 22, 26, 28, 30] ∧ uu[0]? = some (ad 0, .inr (10, [.int (nI n), .ref (ad 1), .ref (ad 3), .ref (ad 5), .int (nI sd), .int (nI se), .ref (ad 7), .ref (ad 9), .ref (ad 11), .ref (ad 20), .int (bI true), .ref (ad 23), .ref (ad 26), .ref (ad 31), .ref (ad 42)])) ∧ uu[20]? = some (ad 20, .inr (0, [.ref (ad 21), .int (nI n)])) ∧ uu[22]? = some (ad 22, .inl (cy 1, 16, .inr (.inl (wd (mdl n sd se nc cs lv))))) ∧ uu[26]? = some (ad 26, .inr (9, [.ref (ad 27), .ref (ad 29), .int (nI ct1)])) ∧ uu[28]? = some (ad 28, .inl (cy 0, 21, .inl (nf ra1))) ∧ uu[30]? = some (ad 30, .inl (cy 1, 21, .inr (.inl (lf rw1))))) (fun EE uu => (EE = "java/lang/IllegalArgumentException" ∧ (vB v 21 = false) ∧ (w = uu)) ∨ (EE = "java/util/NoSuchElementException" ∧ (∃ x, x < 21 ∧ v = nI x ∧ cnt (fun d => mdl n sd se nc cs lv (revN n d)) (2 ^ n) ≤ x) ∧ (jU w uu [0, 20, 22] ∧ uu[0]? = some (ad 0, .inr (10, [.int (nI n), .ref (ad 1), .ref (ad 3), .ref (ad 5), .int (nI sd), .int (nI se), .ref (ad 7), .ref (ad 9), .ref (ad 11), .ref (ad 20), .int (bI true), .ref (ad 23), .ref (ad 26), .ref (ad 31), .ref (ad 42)])) ∧ uu[20]? = some (ad 20, .inr (0, [.ref (ad 21), .int (nI n)])) ∧ uu[22]? = some (ad 22, .inl (cy 1, 16, .inr (.inl (wd (mdl n sd se nc cs lv)))))))) := by
  have hp2 := two_pow10 hn
  refine jx_of (by decide) rfl (Nat.le_of_ble_eq_true rfl) ?_
  intro p e s m args below meth c A ls Q hQ S hr hK hA H locs hW hl htab hx
  have hl : lv_has ls 5 [(0, .ref (ad 0)), (1, .int v)] := hl
  refine lv_iload_n S.1 S.2.1 dX11_best_0 rfl (lv_at hl 1 rfl) ?_
  refine lv_if_lt (tgt := 10) S.1 S.2.1 dX11_best_1 (by decide) (fun c_1 => ?_) (fun c_1 => ?_)
  · subst hQ
    obtain ⟨sa, hsa⟩ := hx.2.1 (236, "the rank is not from 0 to 20") (by decide)
    exact jx_throw (text := "the rank is not from 0 to 20") (names := jNm) (sa := sa) S htr jfit_105 jfit_n wcl_X11_101 wini_java_lang_IllegalArgumentException vxg_105 vxn_105 vxh_105 (by decide) hsa hx hK hW hl.1 htab hr.2.1 ⟨by decide, by decide, by decide, by decide⟩ ⟨by decide, by decide⟩ dX11_best_10 dX11_best_13 dX11_best_14 dX11_best_16 dX11_best_19 (Or.inl ⟨rfl, by first | exact vB_neg c_1 | exact vB_gt (N := 20) (by first | exact c_7 | exact Classical.not_not.mp (fun q => c_7 (i32_le.mpr q))) (by decide), rfl⟩)
  · refine lv_iload_n S.1 S.2.1 dX11_best_4 rfl (lv_at hl 1 rfl) ?_
    refine lv_bipush (v := nI 20) S.1 S.2.1 dX11_best_5 (by decide) ?_
    refine lv_icmp_le (tgt := 20) S.1 S.2.1 dX11_best_7 (by decide) (fun c_7 => ?_) (fun c_7 => ?_)
    · obtain ⟨x, hx21, rfl⟩ := vB_t (by decide) (vB_le (N := 20) c_1 (by first | exact c_7 | exact i32_le.mp c_7) (by decide))
      refine lv_aload_n S.1 S.2.1 dX11_best_20 rfl (lv_at hl 0 rfl) ?_
      refine j_callV (k := 0) (ci := 10) (q := (RX11, TX11, 15)) (As := []) (rest := []) S hK hA hW (c_X11_freshModels l D cy ad n sd se fr nc lv tf cp ca cs mv MX hO hMo hMl hMa hC hT hcon  (by omega) (by omega) (by omega) (by omega) (by first | omega | exact fun _ => ⟨rfl, rfl⟩)) (jgo wm_X11_199) yk_X11_freshModels hO rfl rfl ⟨⟨rfl, rfl⟩, by decide, by decide⟩ rfl hl.1 rfl (Nat.le_of_ble_eq_true rfl) dX11_best_21 ⟨Nat.le_of_ble_eq_true rfl, Nat.le_of_ble_eq_true rfl⟩ (fun v w_ H locs hp hW => ?_)
      obtain ⟨rfl, hU1, hN1, hN2, hN3⟩ := hp
      have hU : jU w w_ [0, 20, 22, 26, 28, 30] := jU.mono hU1 (by decide)
      have hUx : jU w w_ [0, 20, 22] := jU.mono hU1 (by decide)
      have hR_ := hU1.get hR (by decide)
      have hRaa_ := hU1.get hRaa (by decide)
      have hRwa_ := hU1.get hRwa (by decide)
      have hO_ : w_[0]? = some (ad 0, .inr (10, [.int (nI n), .ref (ad 1), .ref (ad 3), .ref (ad 5), .int (nI sd), .int (nI se), .ref (ad 7), .ref (ad 9), .ref (ad 11), .ref (ad 20), .int (bI true), .ref (ad 23), .ref (ad 26), .ref (ad 31), .ref (ad 42)])) := hN1
      have hMo_ : w_[20]? = some (ad 20, .inr (0, [.ref (ad 21), .int (nI n)])) := hN2
      have hMa_ : w_[22]? = some (ad 22, .inl (cy 1, 16, .inr (.inl (wd (mdl n sd se nc cs lv))))) := hN3
      clear hU1 hN1 hN2 hN3
      refine W.eq (g2 := F0 m 24 ls [.ref (ad 20)]) rfl ?_
      refine lv_astore_n (lv' := [(2, .ref (ad 20)), (0, .ref (ad 0)), (1, .int (nI x))]) S.1 S.2.1 dX11_best_24 rfl hl (by decide) rfl (fun ls hl => ?_)
      refine lv_iload_n S.1 S.2.1 dX11_best_25 rfl (lv_at hl 2 rfl) ?_
      refine lv_aload_n S.1 S.2.1 dX11_best_26 rfl (lv_at hl 0 rfl) ?_
      refine j_callV (k := 20) (ci := 0) (q := (RX0, TX0, 2)) (As := []) (rest := [.int (nI x)]) S hK hA hW (c_X0_size l D cy 20 21 22 (ad 20) (ad 21) (ad 22) (nI n) (mdl n sd se nc cs lv) hMo_ (hU.get hMl (by decide)) hMa_   ) (jgo wm_X11_203) yk_X0_size hMo_ rfl rfl ⟨⟨rfl, rfl⟩, by decide, by decide⟩ rfl hl.1 rfl (Nat.le_of_ble_eq_true rfl) dX11_best_27 ⟨Nat.le_of_ble_eq_true rfl, Nat.le_of_ble_eq_true rfl⟩ (fun v u H locs hp hW => ?_)
      obtain ⟨rfl, rfl⟩ := hp
      refine W.eq (g2 := F0 m 30 ls [.int (nI (cnt (mdl n sd se nc cs lv) 1024)), .int (nI x)]) rfl ?_
      have hcm := cnt_le (mdl n sd se nc cs lv) 1024
      refine jn_cmp_lt (tgt := 43) S (by omega) (by omega) dX11_best_30 (by decide) (fun c_30 => ?_) (fun c_30 => ?_)
      · refine lv_aload_n S.1 S.2.1 dX11_best_43 rfl (lv_at hl 1 rfl) ?_
        refine j_get (ci := 10) (C := RX11) (T := TX11) (N := 15) (v := .ref (ad 26)) S (fun w h => List.mem_cons_of_mem _ (inG11 w h)) hK hW hO_ rfl 12 (by decide) (List.mem_cons_of_mem _ wfl_X11_58) (fun _ h9 => h9) rfl dX11_best_44 ?_
        refine j_callV (k := 26) (ci := 9) (q := (RX10, TX10, 3)) (As := []) (rest := []) S hK hA hW (c_X10_restart l D cy ad ct ra rw_ hR_ (hU.get hRao (by decide)) hRaa_ (hU.get hRwo (by decide)) hRwa_   ) (jgo wm_X11_243) yk_X10_restart hR_ rfl rfl ⟨⟨rfl, rfl⟩, by decide, by decide⟩ rfl hl.1 rfl (Nat.le_of_ble_eq_true rfl) dX11_best_47 ⟨Nat.le_of_ble_eq_true rfl, Nat.le_of_ble_eq_true rfl⟩ (fun v w_ H locs hp hW => ?_)
        obtain ⟨rfl, hU1, hN1⟩ := hp
        have hU := hU.then hU1 (by decide)
        have hRaa_ := hU1.get hRaa_ (by decide)
        have hRwa_ := hU1.get hRwa_ (by decide)
        have hO_ := hU1.get hO_ (by decide)
        have hMo_ := hU1.get hMo_ (by decide)
        have hMa_ := hU1.get hMa_ (by decide)
        have hR_ : w_[26]? = some (ad 26, .inr (9, [.ref (ad 27), .ref (ad 29), .int (nI 0)])) := hN1
        clear hU1 hN1
        refine W.eq (g2 := F0 m 50 ls []) rfl ?_
        refine lv_iconst (v := nI 0) S.1 S.2.1 dX11_best_50 (by decide) ?_
        refine lv_istore_n (lv' := [(3, .int (nI 0)), (2, .ref (ad 20)), (0, .ref (ad 0)), (1, .int (nI x))]) S.1 S.2.1 dX11_best_51 rfl hl (by decide) rfl (fun ls hl => ?_)
        refine lv_iconst (v := nI 0) S.1 S.2.1 dX11_best_52 (by decide) ?_
        refine lv_istore (lv' := [(4, .int (nI 0)), (3, .int (nI 0)), (2, .ref (ad 20)), (0, .ref (ad 0)), (1, .int (nI x))]) S.1 S.2.1 dX11_best_53 hl (by decide) rfl (fun ls hl => ?_)
        have L55 : ∀ (k : Nat) (t : Nat) (a : Nat) (ct1 : Nat) (ra1 : Nat → Nat) (rw1 : Nat → Nat), 2 ^ n - t = k → (t ≤ 2 ^ n) → (a < 1024 ∧ (t < 2 ^ n → a = revN n t)) → (tabI (fun d => mdl n sd se nc cs lv (revN n d)) (fun d => pr (revN n d)) t ct1 ra1 rw1 (revN n)) → ∀ (w_ : va_W), jU w w_ [0, 20, 22, 26, 28, 30] → (w_[0]? = some (ad 0, .inr (10, [.int (nI n), .ref (ad 1), .ref (ad 3), .ref (ad 5), .int (nI sd), .int (nI se), .ref (ad 7), .ref (ad 9), .ref (ad 11), .ref (ad 20), .int (bI true), .ref (ad 23), .ref (ad 26), .ref (ad 31), .ref (ad 42)]))) → (w_[20]? = some (ad 20, .inr (0, [.ref (ad 21), .int (nI n)]))) → (w_[22]? = some (ad 22, .inl (cy 1, 16, .inr (.inl (wd (mdl n sd se nc cs lv)))))) → (w_[26]? = some (ad 26, .inr (9, [.ref (ad 27), .ref (ad 29), .int (nI ct1)]))) → (w_[28]? = some (ad 28, .inl (cy 0, 21, .inl (nf ra1)))) → (w_[30]? = some (ad 30, .inl (cy 1, 21, .inr (.inl (lf rw1))))) → ∀ (H : Heap) (locs : List Loc) (ls : Array Slot), jW D A s.heap w_ H locs → lv_has ls 5 [(0, .ref (ad 0)), (1, .int (nI x)), (2, .ref (ad 20)), (3, .int (nI a)), (4, .int (nI t))] → W p l e (jR 9 2 12) s m args below meth c H locs 0 0 Q (F0 m 55 ls []) := by
          intro k
          induction k using Nat.strongRecOn with
          | ind k ih55 =>
          intro t a ct1 ra1 rw1 hk hi ha htab1 w_ hU hO_ hMo_ hMa_ hR_ hRaa_ hRwa_ H locs ls hW hl
          subst hk
          refine lv_iload S.1 S.2.1 dX11_best_55 (lv_at hl 4 rfl) ?_
          refine lv_aload_n S.1 S.2.1 dX11_best_57 rfl (lv_at hl 0 rfl) ?_
          refine j_callV (k := 0) (ci := 10) (q := (RX11, TX11, 15)) (As := []) (rest := [.int (nI t)]) S hK hA hW (c_X11_countAssignments l D cy ad n sd se true hO_   (by omega)) (jgo wm_X11_221) yk_X11_countAssignments hO_ rfl rfl ⟨⟨rfl, rfl⟩, by decide, by decide⟩ rfl hl.1 rfl (Nat.le_of_ble_eq_true rfl) dX11_best_58 ⟨Nat.le_of_ble_eq_true rfl, Nat.le_of_ble_eq_true rfl⟩ (fun v u H locs hp hW => ?_)
          obtain ⟨rfl, rfl⟩ := hp
          refine W.eq (g2 := F0 m 61 ls [.int (nI (2 ^ n)), .int (nI t)]) rfl ?_
          refine jn_cmp_ge (tgt := 100) S (by omega) (by omega) dX11_best_61 (by decide) (fun c_61 => ?_) (fun c_61 => ?_)
          · have et : t = 2 ^ n := by omega
            obtain ⟨len, f, z1, z2, z3, z4⟩ := htab1
            rw [et] at z1
            have hxl : x < len := by have h1 := z1.1; rw [← mdl_cnt hn] at h1; omega
            have hxc : x < ct1 := by split at z2 <;> omega
            refine lv_aload_n S.1 S.2.1 dX11_best_100 rfl (lv_at hl 0 rfl) ?_
            refine j_get (ci := 10) (C := RX11) (T := TX11) (N := 15) (v := .ref (ad 26)) S (fun w h => List.mem_cons_of_mem _ (inG11 w h)) hK hW hO_ rfl 12 (by decide) (List.mem_cons_of_mem _ wfl_X11_58) (fun _ h9 => h9) rfl dX11_best_101 ?_
            refine lv_iload_n S.1 S.2.1 dX11_best_104 rfl (lv_at hl 1 rfl) ?_
            refine j_callV (k := 26) (ci := 9) (q := (RX10, TX10, 3)) (As := [.int (nI x)]) (rest := []) S hK hA hW (c_X10_assignmentAt l D cy ad ct1 ra1 rw1 x hR_ (hU.get hRao (by decide)) hRaa_ (hU.get hRwo (by decide)) hRwa_   (by omega)) (jgo wm_X11_253) yk_X10_assignmentAt hR_ rfl rfl ⟨⟨rfl, rfl⟩, by decide, by decide⟩ rfl hl.1 rfl (Nat.le_of_ble_eq_true rfl) dX11_best_105 ⟨Nat.le_of_ble_eq_true rfl, Nat.le_of_ble_eq_true rfl⟩ (fun v u H locs hp hW => ?_)
            obtain ⟨rfl, rfl⟩ := hp
            refine W.eq (g2 := F0 m 108 ls [.int (nI (ra1 x))]) rfl ?_
            subst hQ
            refine vx_ret ?_
            exact j_iret (u := w_) S hr (rfl) hK hW dX11_best_108 ⟨by decide, by decide⟩ (⟨x, len, f, _, _, _, by rw [(z3 x hxc).1], hx21, rfl, hxl, z1, z4, hU, hO_, hMo_, hMa_, hR_, hRaa_, hRwa_⟩)
          · have hae := ha.2 (by omega)
            have hfa : ∀ t1, t1 = t + 1 → folN n a < 1024 ∧ (t1 < 2 ^ n → folN n a = revN n t1) := fun t1 e => by subst e; exact ⟨folN_lt hn ha.1, fun q => by rw [ha.2 (by omega), fol_rev q]⟩
            have hct1 : ct1 ≤ 21 := by obtain ⟨len, f, z1, z2, z3⟩ := htab1; split at z2 <;> omega
            have hwb1 : ∀ j, rw1 j < 2 ^ 62 := by obtain ⟨len, f, z1, z2, z3, z4⟩ := htab1; exact z4
            refine lv_aload_n S.1 S.2.1 dX11_best_64 rfl (lv_at hl 2 rfl) ?_
            refine lv_iload_n S.1 S.2.1 dX11_best_65 rfl (lv_at hl 3 rfl) ?_
            refine j_callV (k := 20) (ci := 0) (q := (RX0, TX0, 2)) (As := [.int (nI a)]) (rest := []) S hK hA hW (c_X0_has l D cy 20 21 22 (ad 20) (ad 21) (ad 22) (nI n) (mdl n sd se nc cs lv) a hMo_ (hU.get hMl (by decide)) hMa_   (ha.1)) (jgo wm_X11_224) yk_X0_has hMo_ rfl rfl ⟨⟨rfl, rfl⟩, by decide, by decide⟩ rfl hl.1 rfl (Nat.le_of_ble_eq_true rfl) dX11_best_66 ⟨Nat.le_of_ble_eq_true rfl, Nat.le_of_ble_eq_true rfl⟩ (fun v u H locs hp hW => ?_)
            obtain ⟨rfl, rfl⟩ := hp
            refine W.eq (g2 := F0 m 69 ls [.int (bI ((mdl n sd se nc cs lv) a))]) rfl ?_
            refine jb_if_eq (tgt := 88) S dX11_best_69 (by decide) (fun c_69 => ?_) (fun c_69 => ?_)
            · refine lv_aload_n S.1 S.2.1 dX11_best_88 rfl (lv_at hl 0 rfl) ?_
              refine lv_iload_n S.1 S.2.1 dX11_best_89 rfl (lv_at hl 3 rfl) ?_
              refine j_callV (k := 0) (ci := 10) (q := (RX11, TX11, 15)) (As := [.int (nI a)]) (rest := []) S hK hA hW (c_X11_following l D cy ad n sd se true a hO_   (by omega) (ha.1)) (jgo wm_X11_250) yk_X11_following hO_ rfl rfl ⟨⟨rfl, rfl⟩, by decide, by decide⟩ rfl hl.1 rfl (Nat.le_of_ble_eq_true rfl) dX11_best_90 ⟨Nat.le_of_ble_eq_true rfl, Nat.le_of_ble_eq_true rfl⟩ (fun v u H locs hp hW => ?_)
              obtain ⟨rfl, rfl⟩ := hp
              refine W.eq (g2 := F0 m 93 ls [.int (nI (folN n a))]) rfl ?_
              refine lv_istore_n (lv' := [(3, .int (nI (folN n a))), (0, .ref (ad 0)), (1, .int (nI x)), (2, .ref (ad 20)), (4, .int (nI t))]) S.1 S.2.1 dX11_best_93 rfl hl (by decide) rfl (fun ls hl => ?_)
              refine lv_iinc (v := nI (t + 1)) (lv' := [(4, .int (nI (t + 1))), (3, .int (nI (folN n a))), (0, .ref (ad 0)), (1, .int (nI x)), (2, .ref (ad 20))]) S.1 S.2.1 dX11_best_94 hl (k := 4) rfl (nI_add _ 1) (by decide) rfl (fun ls hl => ?_)
              refine lv_goto (tgt := 55) S.1 S.2.1 dX11_best_97 (by decide) ?_
              exact ih55 _ (by omega) (t + 1) (folN n a) ct1 ra1 rw1 rfl (by omega) (hfa _ rfl) (tabI_f htab1 (by rw [← hae]; exact c_69)) w_ hU hO_ hMo_ hMa_ hR_ hRaa_ hRwa_ H locs ls hW (lv_sub hl [2, 3, 4, 1, 0] rfl)
            · refine lv_aload_n S.1 S.2.1 dX11_best_72 rfl (lv_at hl 0 rfl) ?_
              refine j_get (ci := 10) (C := RX11) (T := TX11) (N := 15) (v := .ref (ad 26)) S (fun w h => List.mem_cons_of_mem _ (inG11 w h)) hK hW hO_ rfl 12 (by decide) (List.mem_cons_of_mem _ wfl_X11_58) (fun _ h9 => h9) rfl dX11_best_73 ?_
              refine lv_iload_n S.1 S.2.1 dX11_best_76 rfl (lv_at hl 3 rfl) ?_
              refine lv_aload_n S.1 S.2.1 dX11_best_77 rfl (lv_at hl 0 rfl) ?_
              refine j_get (ci := 10) (C := RX11) (T := TX11) (N := 15) (v := .ref (ad 5)) S (fun w h => List.mem_cons_of_mem _ (inG11 w h)) hK hW hO_ rfl 3 (by decide) (List.mem_cons_of_mem _ wfl_X11_24) (fun _ h9 => h9) rfl dX11_best_78 ?_
              refine lv_iload_n S.1 S.2.1 dX11_best_81 rfl (lv_at hl 3 rfl) ?_
              refine j_callV (k := 5) (ci := 6) (q := (RX7, TX7, 1)) (As := [.int (nI a)]) (rest := [.int (nI a), .ref (ad 26)]) S hK hA hW (c_X7_atN l D cy 5 6 (ad 5) (ad 6) 1024 a pr (hU.get hDo (by decide)) (hU.get hDa (by decide))   (by omega) (by decide)) (jgo wm_X11_245) yk_X7_at (hU.get hDo (by decide)) rfl rfl ⟨⟨rfl, rfl⟩, by decide, by decide⟩ rfl hl.1 rfl (Nat.le_of_ble_eq_true rfl) dX11_best_82 ⟨Nat.le_of_ble_eq_true rfl, Nat.le_of_ble_eq_true rfl⟩ (fun v u H locs hp hW => ?_)
              obtain ⟨rfl, rfl⟩ := hp
              refine W.eq (g2 := F0 m 85 ls [.long (lN (pr a)), .int (nI a), .ref (ad 26)]) rfl ?_
              refine j_callV (k := 26) (ci := 9) (q := (RX10, TX10, 3)) (As := [.int (nI a), .long (lN (pr a))]) (rest := []) S hK hA hW (c_X10_enter l D cy ad ct1 ra1 rw1 a (pr a) hR_ (hU.get hRao (by decide)) hRaa_ (hU.get hRwo (by decide)) hRwa_   (hct1) (hwb1) (by have := hpr a; omega)) (jgo wm_X11_247) yk_X10_enter hR_ rfl rfl ⟨⟨rfl, rfl⟩, by decide, by decide⟩ rfl hl.1 rfl (Nat.le_of_ble_eq_true rfl) dX11_best_85 ⟨Nat.le_of_ble_eq_true rfl, Nat.le_of_ble_eq_true rfl⟩ (fun v w_ H locs hp hW => ?_)
              obtain ⟨r_85, rfl, hp85_0, hU1, hN1, hN2, hN3⟩ := hp
              have hU := hU.then hU1 (by decide)
              have hO_ := hU1.get hO_ (by decide)
              have hMo_ := hU1.get hMo_ (by decide)
              have hMa_ := hU1.get hMa_ (by decide)
              have hR_ : w_[26]? = some (ad 26, .inr (9, [.ref (ad 27), .ref (ad 29), .int (nI (if ct1 < 21 then ct1 + 1 else 21))])) := hN1
              have hRaa_ : w_[28]? = some (ad 28, .inl (cy 0, 21, .inl (nf (insF r_85 ct1 a ra1)))) := hN2
              have hRwa_ : w_[30]? = some (ad 30, .inl (cy 1, 21, .inr (.inl (lf (insF r_85 ct1 (pr a) rw1))))) := hN3
              clear hU1 hN1 hN2 hN3
              refine W.eq (g2 := F0 m 88 ls []) rfl ?_
              refine lv_aload_n S.1 S.2.1 dX11_best_88 rfl (lv_at hl 0 rfl) ?_
              refine lv_iload_n S.1 S.2.1 dX11_best_89 rfl (lv_at hl 3 rfl) ?_
              refine j_callV (k := 0) (ci := 10) (q := (RX11, TX11, 15)) (As := [.int (nI a)]) (rest := []) S hK hA hW (c_X11_following l D cy ad n sd se true a hO_   (by omega) (ha.1)) (jgo wm_X11_250) yk_X11_following hO_ rfl rfl ⟨⟨rfl, rfl⟩, by decide, by decide⟩ rfl hl.1 rfl (Nat.le_of_ble_eq_true rfl) dX11_best_90 ⟨Nat.le_of_ble_eq_true rfl, Nat.le_of_ble_eq_true rfl⟩ (fun v u H locs hp hW => ?_)
              obtain ⟨rfl, rfl⟩ := hp
              refine W.eq (g2 := F0 m 93 ls [.int (nI (folN n a))]) rfl ?_
              refine lv_istore_n (lv' := [(3, .int (nI (folN n a))), (0, .ref (ad 0)), (1, .int (nI x)), (2, .ref (ad 20)), (4, .int (nI t))]) S.1 S.2.1 dX11_best_93 rfl hl (by decide) rfl (fun ls hl => ?_)
              refine lv_iinc (v := nI (t + 1)) (lv' := [(4, .int (nI (t + 1))), (3, .int (nI (folN n a))), (0, .ref (ad 0)), (1, .int (nI x)), (2, .ref (ad 20))]) S.1 S.2.1 dX11_best_94 hl (k := 4) rfl (nI_add _ 1) (by decide) rfl (fun ls hl => ?_)
              refine lv_goto (tgt := 55) S.1 S.2.1 dX11_best_97 (by decide) ?_
              exact ih55 _ (by omega) (t + 1) (folN n a) (if ct1 < 21 then ct1 + 1 else 21) (insF r_85 ct1 a ra1) (insF r_85 ct1 (pr a) rw1) rfl (by omega) (hfa _ rfl) (by have z := tabI_t (r := r_85) htab1 (by rw [← hae]; exact c_69) (by have := hpr (revN n t); omega) hp85_0.1 (by rw [← hae]; exact hp85_0.2.1) (by rw [← hae]; exact hp85_0.2.2); rw [← hae] at z; exact z) w_ hU hO_ hMo_ hMa_ hR_ hRaa_ hRwa_ H locs ls hW (lv_sub hl [2, 3, 4, 1, 0] rfl)
        exact L55 _ 0 0 0 ra rw_ rfl (Nat.zero_le _) (⟨by decide, fun _ => (revN_0 n).symm⟩) (⟨0, fun _ => 0, srtI_0 _ _ _, rfl, fun j h => absurd h (by omega), hrb⟩) w_ hU hO_ hMo_ hMa_ hR_ hRaa_ hRwa_ H locs ls hW (lv_sub hl [3, 4, 2, 1, 0] rfl)
      · subst hQ
        obtain ⟨sa, hsa⟩ := hx.2.1 (240, "there are not so many models") (by decide)
        exact jx_throwN (text := "there are not so many models") (sa := sa) S htr jfit_242 (by decide +kernel) (by decide +kernel) jB13_0 jB13_1 jB13_2 jB13_5 wcl_X11_238 wini_java_util_NoSuchElementException vxg_242 vxn_242 vxh_242 (by decide) hsa hx hK hW hl.1 htab hr.2.1 ⟨by decide, by decide, by decide, by decide⟩ ⟨by decide, by decide⟩ dX11_best_33 dX11_best_36 (Or.inl ⟨dX11_best_37, rfl⟩) dX11_best_39 dX11_best_42 (Or.inr (⟨rfl, ⟨x, hx21, rfl, by rw [← mdl_cnt hn]; omega⟩, ⟨hUx, hO_, hMo_, hMa_⟩⟩))
    · subst hQ
      obtain ⟨sa, hsa⟩ := hx.2.1 (236, "the rank is not from 0 to 20") (by decide)
      exact jx_throw (text := "the rank is not from 0 to 20") (names := jNm) (sa := sa) S htr jfit_105 jfit_n wcl_X11_101 wini_java_lang_IllegalArgumentException vxg_105 vxn_105 vxh_105 (by decide) hsa hx hK hW hl.1 htab hr.2.1 ⟨by decide, by decide, by decide, by decide⟩ ⟨by decide, by decide⟩ dX11_best_10 dX11_best_13 dX11_best_14 dX11_best_16 dX11_best_19 (Or.inl ⟨rfl, by first | exact vB_neg c_1 | exact vB_gt (N := 20) (by first | exact c_7 | exact Classical.not_not.mp (fun q => c_7 (i32_le.mpr q))) (by decide), rfl⟩)
/-- weightOf -/
theorem c_X11_weightOf (l : Launch) (htr : l.stackTraces = false) (D : va_G) (cy : Nat → ClassId) {w : va_W} (ad : Nat → Nat) (n sd se : Nat) (fr : Bool) (pr : Nat → Nat) (x : Int32) (hO : w[0]? = some (ad 0, .inr (10, [.int (nI n), .ref (ad 1), .ref (ad 3), .ref (ad 5), .int (nI sd), .int (nI se), .ref (ad 7), .ref (ad 9), .ref (ad 11), .ref (ad 20), .int (bI fr), .ref (ad 23), .ref (ad 26), .ref (ad 31), .ref (ad 42)]))) (hDo : w[5]? = some (ad 5, .inr (6, [.ref (ad 6)]))) (hDa : w[6]? = some (ad 6, .inl (cy 1, 1024, .inr (.inl (lf pr))))) (hn : n ≤ 10) : jMx jTexts l yX11_weightOf (jws yX11_weightOf cX11_weightOf 2 (some .long)) (jR 9 1 6) D cy w [.ref (ad 0), .int x] 1 6 (fun vv uu => ∃ (y : Nat), vv = some (.long (lN (pr y))) ∧ y < 2 ^ n ∧ x = nI y ∧ w = uu) (fun EE uu => ((EE = "java/lang/IllegalArgumentException" ∧ (vB x (2 ^ n) = false))) ∧ w = uu) := by
  have hp2 := two_pow10 hn
  refine jx_of (by decide) rfl (Nat.le_of_ble_eq_true rfl) ?_
  intro p e s m args below meth c A ls Q hQ S hr hK hA H locs hW hl htab hx
  have hl : lv_has ls 2 [(0, .ref (ad 0)), (1, .int x)] := hl
  refine lv_aload_n S.1 S.2.1 dX11_weightOf_0 rfl (lv_at hl 0 rfl) ?_
  refine lv_iload_n S.1 S.2.1 dX11_weightOf_1 rfl (lv_at hl 1 rfl) ?_
  refine jx_callq (k := 0) (ci := 10) (q := (RX11, TX11, 15)) (As := [.int x]) (rest := []) S hK hA hW hQ htab hr hx (c_X11_checkSet l htr D cy ad n sd se fr x hO   (by omega)) (jgo wm_X11_110) yk_X11_checkSet hO rfl rfl ⟨⟨rfl, rfl⟩, by decide, by decide⟩ rfl hl.1 rfl (Nat.le_of_ble_eq_true rfl) dX11_weightOf_2 ⟨Nat.le_of_ble_eq_true rfl, Nat.le_of_ble_eq_true rfl⟩ ⟨by decide, by decide⟩ (fun E u h => by obtain ⟨⟨e1, h⟩, e⟩ := h; exact ⟨⟨e1, by first | exact h | exact Or.inl h | exact Or.inr h | exact Or.inr (Or.inl h) | exact Or.inr (Or.inr h) | omega | (simp at h ⊢; omega)⟩, e⟩) (fun v u H locs hp hW => ?_)
  obtain ⟨xN_2, rfl, hp2_0, hp2_1, rfl⟩ := hp
  refine W.eq (g2 := F0 m 5 ls []) rfl ?_
  subst hp2_1
  refine lv_aload_n S.1 S.2.1 dX11_weightOf_5 rfl (lv_at hl 0 rfl) ?_
  refine j_get (ci := 10) (C := RX11) (T := TX11) (N := 15) (v := .ref (ad 5)) S (fun w h => List.mem_cons_of_mem _ (inG11 w h)) hK hW hO rfl 3 (by decide) (List.mem_cons_of_mem _ wfl_X11_24) (fun _ h9 => h9) rfl dX11_weightOf_6 ?_
  refine lv_iload_n S.1 S.2.1 dX11_weightOf_9 rfl (lv_at hl 1 rfl) ?_
  refine j_callV (k := 5) (ci := 6) (q := (RX7, TX7, 1)) (As := [.int (nI xN_2)]) (rest := []) S hK hA hW (c_X7_atN l D cy 5 6 (ad 5) (ad 6) 1024 xN_2 pr hDo hDa   (by omega) (by decide)) (jgo wm_X11_245) yk_X7_at hDo rfl rfl ⟨⟨rfl, rfl⟩, by decide, by decide⟩ rfl hl.1 rfl (Nat.le_of_ble_eq_true rfl) dX11_weightOf_10 ⟨Nat.le_of_ble_eq_true rfl, Nat.le_of_ble_eq_true rfl⟩ (fun v u H locs hp hW => ?_)
  obtain ⟨rfl, rfl⟩ := hp
  refine W.eq (g2 := F0 m 13 ls [.long (lN (pr xN_2))]) rfl ?_
  subst hQ
  refine vx_ret ?_
  exact j_lret (u := w) S hr hK hW dX11_weightOf_13 ⟨by decide, by decide⟩ (⟨xN_2, rfl, hp2_0, rfl, rfl⟩)
theorem c_X11_lucky (l : Launch) (htr : l.stackTraces = false) (D : va_G) (cy : Nat → ClassId) {w : va_W} (ad : Nat → Nat) (n sd se : Nat) (fr : Bool) (nc lv : Nat) (tf : Nat → Option Nat) (cp ca : Nat → Nat) (cs : Nat → CN) (mv : Int32) (MX : Nat → Bool) (pr : Nat → Nat) (lk : Int64) (hO : w[0]? = some (ad 0, .inr (10, [.int (nI n), .ref (ad 1), .ref (ad 3), .ref (ad 5), .int (nI sd), .int (nI se), .ref (ad 7), .ref (ad 9), .ref (ad 11), .ref (ad 20), .int (bI fr), .ref (ad 23), .ref (ad 26), .ref (ad 31), .ref (ad 42)]))) (hMo : w[20]? = some (ad 20, .inr (0, [.ref (ad 21), .int mv]))) (hMl : w[21]? = some (ad 21, .inr (6, [.ref (ad 22)]))) (hMa : w[22]? = some (ad 22, .inl (cy 1, 16, .inr (.inl (wd MX))))) (hC : w[9]? = some (ad 9, .inr (4, [.ref (ad 10), .int (nI nc), .int (nI lv)]))) (hT : w[10]? = some (ad 10, .inl (cy 5, 20, .inr (.inr (.inr (.inr tf)))))) (hDo : w[5]? = some (ad 5, .inr (6, [.ref (ad 6)]))) (hDa : w[6]? = some (ad 6, .inl (cy 1, 1024, .inr (.inl (lf pr))))) (hcon : conOK w nc tf cp ca cs) (hn : n ≤ 10) (hsd : sd < 1024) (hse : se < 1024) (hlv : lv < 2 ^ 20) (hfr : fr = true → mv = nI n ∧ MX = mdl n sd se nc cs lv) (hpr : ∀ j, pr j ≤ 3486784401) : jMx jTexts l yX11_lucky (jws yX11_lucky cX11_lucky 9 (some .int)) (jR 9 1 6) D cy w [.ref (ad 0), .long lk] 1 6 (fun vv uu => ∃ (t : Nat), ∃ (L : Nat), vv = some (.int (nI (revN n t))) ∧ t < 2 ^ n ∧ lk = lN L ∧ L < 2 ^ 62 ∧ L < sumI (fun d => mdl n sd se nc cs lv (revN n d)) (fun d => pr (revN n d)) (t + 1) ∧ sumI (fun d => mdl n sd se nc cs lv (revN n d)) (fun d => pr (revN n d)) t ≤ L ∧ jU w uu [0, 20, 22] ∧ uu[0]? = some (ad 0, .inr (10, [.int (nI n), .ref (ad 1), .ref (ad 3), .ref (ad 5), .int (nI sd), .int (nI se), .ref (ad 7), .ref (ad 9), .ref (ad 11), .ref (ad 20), .int (bI true), .ref (ad 23), .ref (ad 26), .ref (ad 31), .ref (ad 42)])) ∧ uu[20]? = some (ad 20, .inr (0, [.ref (ad 21), .int (nI n)])) ∧ uu[22]? = some (ad 22, .inl (cy 1, 16, .inr (.inl (wd (mdl n sd se nc cs lv)))))) (fun EE uu => (EE = "java/lang/IllegalArgumentException" ∧ (lk < 0) ∧ (w = uu)) ∨ (EE = "java/lang/IllegalArgumentException" ∧ (∃ L, L < 2 ^ 63 ∧ lk = lN L ∧ sumI (fun d => mdl n sd se nc cs lv (revN n d)) (fun d => pr (revN n d)) (2 ^ n) ≤ L) ∧ (jU w uu [0, 20, 22] ∧ uu[0]? = some (ad 0, .inr (10, [.int (nI n), .ref (ad 1), .ref (ad 3), .ref (ad 5), .int (nI sd), .int (nI se), .ref (ad 7), .ref (ad 9), .ref (ad 11), .ref (ad 20), .int (bI true), .ref (ad 23), .ref (ad 26), .ref (ad 31), .ref (ad 42)])) ∧ uu[20]? = some (ad 20, .inr (0, [.ref (ad 21), .int (nI n)])) ∧ uu[22]? = some (ad 22, .inl (cy 1, 16, .inr (.inl (wd (mdl n sd se nc cs lv)))))))) := by
  have hp2 := two_pow10 hn
  have hsl : sumI (mdl n sd se nc cs lv) pr (2 ^ n) ≤ 2 ^ n * 3486784401 := sumI_le (fun j _ => hpr j)
  have hsb : 2 ^ n * 3486784401 ≤ 1024 * 3486784401 := Nat.mul_le_mul_right _ hp2
  have hrv : sumI (fun d => mdl n sd se nc cs lv (revN n d)) (fun d => pr (revN n d)) (2 ^ n) = sumI (mdl n sd se nc cs lv) pr (2 ^ n) := sumI_rev n (mdl n sd se nc cs lv) pr
  refine jx_of (by decide) rfl (Nat.le_of_ble_eq_true rfl) ?_
  intro p e s m args below meth c A ls Q hQ S hr hK hA H locs hW hl htab hx
  have hl : lv_has ls 9 [(0, .ref (ad 0)), (1, .long lk)] := hl
  refine lv_lload_n S.1 S.2.1 dX11_lucky_0 rfl (lv_at hl 1 rfl) ?_
  refine lv_lconst (v := lN 0) S.1 S.2.1 dX11_lucky_1 (by decide) ?_
  refine jl_lt (tgt := 17) S dX11_lucky_2 dX11_lucky_3 (by decide) (fun c_3 => ?_) (fun c_3 => ?_)
  · subst hQ
    obtain ⟨sa, hsa⟩ := hx.2.1 (256, "the number is not from 0 to under the weight of all models") (by decide)
    exact jx_throwW (text := "the number is not from 0 to under the weight of all models") (names := jNm) (sa := sa) S htr jfit_105 jfit_n wcl_X11_101 wini_java_lang_IllegalArgumentException vxg_105 vxn_105 vxh_105 (by decide) hsa hx hK hW hl.1 htab hr.2.1 ⟨by decide, by decide, by decide, by decide⟩ ⟨by decide, by decide⟩ dX11_lucky_17 dX11_lucky_20 dX11_lucky_21 dX11_lucky_24 dX11_lucky_27 (Or.inl ⟨rfl, c_3, rfl⟩)
  · obtain ⟨L, hL63, rfl⟩ := pk_lOf (i64_le.mp c_3)
    · refine lv_lload_n S.1 S.2.1 dX11_lucky_6 rfl (lv_at hl 1 rfl) ?_
      refine lv_aload_n S.1 S.2.1 dX11_lucky_7 rfl (lv_at hl 0 rfl) ?_
      refine lv_iconst (v := nI 0) S.1 S.2.1 dX11_lucky_8 (by decide) ?_
      refine lv_iconst (v := nI 0) S.1 S.2.1 dX11_lucky_9 (by decide) ?_
      refine j_callV (k := 0) (ci := 10) (q := (RX11, TX11, 15)) (As := [.int (nI 0), .int (nI 0)]) (rest := [.long (lN L)]) S hK hA hW (c_X11_weightWhere l D cy ad n sd se fr nc lv tf cp ca cs mv MX pr 0 0 hO hMo hMl hMa hC hT hDo hDa hcon  (by omega) (by omega) (by omega) (by omega) (by first | omega | exact fun _ => ⟨rfl, rfl⟩) (by decide)) (jgo wm_X11_206) yk_X11_weightWhere hO rfl rfl ⟨⟨rfl, rfl⟩, by decide, by decide⟩ rfl hl.1 rfl (Nat.le_of_ble_eq_true rfl) dX11_lucky_10 ⟨Nat.le_of_ble_eq_true rfl, Nat.le_of_ble_eq_true rfl⟩ (fun v w_ H locs hp hW => ?_)
      obtain ⟨rfl, hU1, hN1, hN2, hN3⟩ := hp
      have hU : jU w w_ [0, 20, 22] := jU.mono hU1 (by decide)
      have hO_ : w_[0]? = some (ad 0, .inr (10, [.int (nI n), .ref (ad 1), .ref (ad 3), .ref (ad 5), .int (nI sd), .int (nI se), .ref (ad 7), .ref (ad 9), .ref (ad 11), .ref (ad 20), .int (bI true), .ref (ad 23), .ref (ad 26), .ref (ad 31), .ref (ad 42)])) := hN1
      have hMo_ : w_[20]? = some (ad 20, .inr (0, [.ref (ad 21), .int (nI n)])) := hN2
      have hMa_ : w_[22]? = some (ad 22, .inl (cy 1, 16, .inr (.inl (wd (mdl n sd se nc cs lv))))) := hN3
      clear hU1 hN1 hN2 hN3
      refine W.eq (g2 := F0 m 13 ls [.long (lN (sumI (fun d => decide (d &&& 0 = 0) && mdl n sd se nc cs lv d) pr (2 ^ n))), .long (lN L)]) rfl ?_
      refine lv_topl_to (y := lN (sumI (mdl n sd se nc cs lv) pr (2 ^ n))) (congrArg lN (sumI_congr (fun j _ => ⟨by rw [Nat.and_zero]; rfl, fun _ => rfl⟩))) ?_
      refine jnl_lt (tgt := 28) S (by omega) (by omega) dX11_lucky_13 dX11_lucky_14 (by decide) (fun c_14 => ?_) (fun c_14 => ?_)
      · refine lv_aload_n S.1 S.2.1 dX11_lucky_28 rfl (lv_at hl 0 rfl) ?_
        refine j_callV (k := 0) (ci := 10) (q := (RX11, TX11, 15)) (As := []) (rest := []) S hK hA hW (c_X11_freshModels l D cy ad n sd se true nc lv tf cp ca cs (nI n) (mdl n sd se nc cs lv) hO_ hMo_ (hU.get hMl (by decide)) hMa_ (hU.get hC (by decide)) (hU.get hT (by decide)) (hcon.kept hU (by decide))  (by omega) (by omega) (by omega) (by omega) (by first | omega | exact fun _ => ⟨rfl, rfl⟩)) (jgo wm_X11_199) yk_X11_freshModels hO_ rfl rfl ⟨⟨rfl, rfl⟩, by decide, by decide⟩ rfl hl.1 rfl (Nat.le_of_ble_eq_true rfl) dX11_lucky_29 ⟨Nat.le_of_ble_eq_true rfl, Nat.le_of_ble_eq_true rfl⟩ (fun v w_ H locs hp hW => ?_)
        obtain ⟨rfl, hU1, hN1, hN2, hN3⟩ := hp
        have hU := hU.then hU1 (by decide)
        have hO_ : w_[0]? = some (ad 0, .inr (10, [.int (nI n), .ref (ad 1), .ref (ad 3), .ref (ad 5), .int (nI sd), .int (nI se), .ref (ad 7), .ref (ad 9), .ref (ad 11), .ref (ad 20), .int (bI true), .ref (ad 23), .ref (ad 26), .ref (ad 31), .ref (ad 42)])) := hN1
        have hMo_ : w_[20]? = some (ad 20, .inr (0, [.ref (ad 21), .int (nI n)])) := hN2
        have hMa_ : w_[22]? = some (ad 22, .inl (cy 1, 16, .inr (.inl (wd (mdl n sd se nc cs lv))))) := hN3
        clear hU1 hN1 hN2 hN3
        refine W.eq (g2 := F0 m 32 ls [.ref (ad 20)]) rfl ?_
        refine lv_astore_n (lv' := [(3, .ref (ad 20)), (0, .ref (ad 0)), (1, .long (lN L))]) S.1 S.2.1 dX11_lucky_32 rfl hl (by decide) rfl (fun ls hl => ?_)
        refine lv_lconst (v := lN 0) S.1 S.2.1 dX11_lucky_33 (by decide) ?_
        refine lv_lstore (lv' := [(4, .long (lN 0)), (3, .ref (ad 20)), (0, .ref (ad 0)), (1, .long (lN L))]) S.1 S.2.1 dX11_lucky_34 hl (by decide) rfl (fun ls hl => ?_)
        refine lv_iconst (v := nI 0) S.1 S.2.1 dX11_lucky_36 (by decide) ?_
        refine lv_istore (lv' := [(6, .int (nI 0)), (4, .long (lN 0)), (3, .ref (ad 20)), (0, .ref (ad 0)), (1, .long (lN L))]) S.1 S.2.1 dX11_lucky_37 hl (by decide) rfl (fun ls hl => ?_)
        refine lv_iconst (v := nI 0) S.1 S.2.1 dX11_lucky_39 (by decide) ?_
        refine lv_istore (lv' := [(7, .int (nI 0)), (6, .int (nI 0)), (4, .long (lN 0)), (3, .ref (ad 20)), (0, .ref (ad 0)), (1, .long (lN L))]) S.1 S.2.1 dX11_lucky_40 hl (by decide) rfl (fun ls hl => ?_)
        refine lv_iconst (v := nI 0) S.1 S.2.1 dX11_lucky_42 (by decide) ?_
        refine lv_istore (lv' := [(8, .int (nI 0)), (7, .int (nI 0)), (6, .int (nI 0)), (4, .long (lN 0)), (3, .ref (ad 20)), (0, .ref (ad 0)), (1, .long (lN L))]) S.1 S.2.1 dX11_lucky_43 hl (by decide) rfl (fun ls hl => ?_)
        have L45 : ∀ (k : Nat) (t : Nat) (a : Nat) (la : Nat), 2 ^ n - t = k → (t ≤ 2 ^ n) → (a < 1024 ∧ (t < 2 ^ n → a = revN n t)) → ((sumI (fun d => mdl n sd se nc cs lv (revN n d)) (fun d => pr (revN n d)) t ≤ L ∧ True) ∨ (0 < t ∧ la = revN n (t - 1) ∧ L < sumI (fun d => mdl n sd se nc cs lv (revN n d)) (fun d => pr (revN n d)) t ∧ sumI (fun d => mdl n sd se nc cs lv (revN n d)) (fun d => pr (revN n d)) (t - 1) ≤ L)) → ∀ (w_ : va_W), jU w w_ [0, 20, 22] → (w_[0]? = some (ad 0, .inr (10, [.int (nI n), .ref (ad 1), .ref (ad 3), .ref (ad 5), .int (nI sd), .int (nI se), .ref (ad 7), .ref (ad 9), .ref (ad 11), .ref (ad 20), .int (bI true), .ref (ad 23), .ref (ad 26), .ref (ad 31), .ref (ad 42)]))) → (w_[20]? = some (ad 20, .inr (0, [.ref (ad 21), .int (nI n)]))) → (w_[22]? = some (ad 22, .inl (cy 1, 16, .inr (.inl (wd (mdl n sd se nc cs lv)))))) → ∀ (H : Heap) (locs : List Loc) (ls : Array Slot), jW D A s.heap w_ H locs → lv_has ls 9 [(0, .ref (ad 0)), (1, .long (lN L)), (3, .ref (ad 20)), (4, .long (lN (sumI (fun d => mdl n sd se nc cs lv (revN n d)) (fun d => pr (revN n d)) t))), (6, .int (nI la)), (7, .int (nI a)), (8, .int (nI t))] → W p l e (jR 9 1 6) s m args below meth c H locs 0 0 Q (F0 m 45 ls []) := by
          intro k
          induction k using Nat.strongRecOn with
          | ind k ih45 =>
          intro t a la hk hi ha hla w_ hU hO_ hMo_ hMa_ H locs ls hW hl
          subst hk
          refine lv_iload S.1 S.2.1 dX11_lucky_45 (lv_at hl 6 rfl) ?_
          refine lv_aload_n S.1 S.2.1 dX11_lucky_47 rfl (lv_at hl 0 rfl) ?_
          refine j_callV (k := 0) (ci := 10) (q := (RX11, TX11, 15)) (As := []) (rest := [.int (nI t)]) S hK hA hW (c_X11_countAssignments l D cy ad n sd se true hO_   (by omega)) (jgo wm_X11_221) yk_X11_countAssignments hO_ rfl rfl ⟨⟨rfl, rfl⟩, by decide, by decide⟩ rfl hl.1 rfl (Nat.le_of_ble_eq_true rfl) dX11_lucky_48 ⟨Nat.le_of_ble_eq_true rfl, Nat.le_of_ble_eq_true rfl⟩ (fun v u H locs hp hW => ?_)
          obtain ⟨rfl, rfl⟩ := hp
          refine W.eq (g2 := F0 m 51 ls [.int (nI (2 ^ n)), .int (nI t)]) rfl ?_
          have hsm : sumI (fun d => mdl n sd se nc cs lv (revN n d)) (fun d => pr (revN n d)) t ≤ sumI (fun d => mdl n sd se nc cs lv (revN n d)) (fun d => pr (revN n d)) (2 ^ n) := sumI_up hi
          refine jn_cmp_ge (tgt := 102) S (by omega) (by omega) dX11_lucky_51 (by decide) (fun c_51 => ?_) (fun c_51 => ?_)
          · refine lv_iload S.1 S.2.1 dX11_lucky_102 (lv_at hl 4 rfl) ?_
            subst hQ
            refine vx_ret ?_
            refine j_iret (u := w_) S hr (rfl) hK hW dX11_lucky_104 ⟨by decide, by decide⟩ ?_
            have hdone : 0 < t ∧ la = revN n (t - 1) ∧ L < sumI (fun d => mdl n sd se nc cs lv (revN n d)) (fun d => pr (revN n d)) t ∧ sumI (fun d => mdl n sd se nc cs lv (revN n d)) (fun d => pr (revN n d)) (t - 1) ≤ L := by
              rcases hla with z | z
              · exfalso
                first
                | omega
                | (have et : t = 2 ^ n := by omega
                   rw [et, hrv] at z
                   omega)
              · exact z
            obtain ⟨d1, d2, d3, d4⟩ := hdone
            exact ⟨t - 1, L, by rw [d2], by omega, rfl, by omega, by rw [show t - 1 + 1 = t by omega]; exact d3, d4, hU, hO_, hMo_, hMa_⟩
          · refine lv_lload S.1 S.2.1 dX11_lucky_54 (lv_at hl 3 rfl) ?_
            refine lv_lload_n S.1 S.2.1 dX11_lucky_56 rfl (lv_at hl 1 rfl) ?_
            refine jnl_gt (tgt := 102) S (by omega) (by omega) dX11_lucky_57 dX11_lucky_58 (by decide) (fun c_58 => ?_) (fun c_58 => ?_)
            · refine lv_iload S.1 S.2.1 dX11_lucky_102 (lv_at hl 4 rfl) ?_
              subst hQ
              refine vx_ret ?_
              refine j_iret (u := w_) S hr (rfl) hK hW dX11_lucky_104 ⟨by decide, by decide⟩ ?_
              have hdone : 0 < t ∧ la = revN n (t - 1) ∧ L < sumI (fun d => mdl n sd se nc cs lv (revN n d)) (fun d => pr (revN n d)) t ∧ sumI (fun d => mdl n sd se nc cs lv (revN n d)) (fun d => pr (revN n d)) (t - 1) ≤ L := by
                rcases hla with z | z
                · exfalso
                  first
                  | omega
                  | (have et : t = 2 ^ n := by omega
                     rw [et, hrv] at z
                     omega)
                · exact z
              obtain ⟨d1, d2, d3, d4⟩ := hdone
              exact ⟨t - 1, L, by rw [d2], by omega, rfl, by omega, by rw [show t - 1 + 1 = t by omega]; exact d3, d4, hU, hO_, hMo_, hMa_⟩
            · have hae := ha.2 (by omega)
              · have hfa : ∀ t1, t1 = t + 1 → folN n a < 1024 ∧ (t1 < 2 ^ n → folN n a = revN n t1) := fun t1 e => by subst e; exact ⟨folN_lt hn ha.1, fun q => by rw [ha.2 (by omega), fol_rev q]⟩
                refine lv_aload_n S.1 S.2.1 dX11_lucky_61 rfl (lv_at hl 2 rfl) ?_
                refine lv_iload S.1 S.2.1 dX11_lucky_62 (lv_at hl 5 rfl) ?_
                refine j_callV (k := 20) (ci := 0) (q := (RX0, TX0, 2)) (As := [.int (nI a)]) (rest := []) S hK hA hW (c_X0_has l D cy 20 21 22 (ad 20) (ad 21) (ad 22) (nI n) (mdl n sd se nc cs lv) a hMo_ (hU.get hMl (by decide)) hMa_   (ha.1)) (jgo wm_X11_224) yk_X0_has hMo_ rfl rfl ⟨⟨rfl, rfl⟩, by decide, by decide⟩ rfl hl.1 rfl (Nat.le_of_ble_eq_true rfl) dX11_lucky_64 ⟨Nat.le_of_ble_eq_true rfl, Nat.le_of_ble_eq_true rfl⟩ (fun v u H locs hp hW => ?_)
                obtain ⟨rfl, rfl⟩ := hp
                refine W.eq (g2 := F0 m 67 ls [.int (bI ((mdl n sd se nc cs lv) a))]) rfl ?_
                refine jb_if_eq (tgt := 88) S dX11_lucky_67 (by decide) (fun c_67 => ?_) (fun c_67 => ?_)
                · have e0 : sumI (fun d => mdl n sd se nc cs lv (revN n d)) (fun d => pr (revN n d)) (t + 1) = sumI (fun d => mdl n sd se nc cs lv (revN n d)) (fun d => pr (revN n d)) t := sumI_f (by rw [← hae]; exact c_67)
                  have hla2 : (sumI (fun d => mdl n sd se nc cs lv (revN n d)) (fun d => pr (revN n d)) (t + 1) ≤ L ∧ True) ∨ (0 < t + 1 ∧ la = revN n (t + 1 - 1) ∧ L < sumI (fun d => mdl n sd se nc cs lv (revN n d)) (fun d => pr (revN n d)) (t + 1) ∧ sumI (fun d => mdl n sd se nc cs lv (revN n d)) (fun d => pr (revN n d)) (t + 1 - 1) ≤ L) := Or.inl ⟨by rw [e0]; exact c_58, trivial⟩
                  have hl : lv_has ls 9 [(0, .ref (ad 0)), (1, .long (lN L)), (3, .ref (ad 20)), (4, .long (lN (sumI (fun d => mdl n sd se nc cs lv (revN n d)) (fun d => pr (revN n d)) (t + 1)))), (6, .int (nI la)), (7, .int (nI a)), (8, .int (nI t))] := by rw [e0]; exact lv_sub hl [0, 1, 2, 3, 4, 5, 6] rfl
                  refine lv_aload_n S.1 S.2.1 dX11_lucky_88 rfl (lv_at hl 0 rfl) ?_
                  refine lv_iload S.1 S.2.1 dX11_lucky_89 (lv_at hl 5 rfl) ?_
                  refine j_callV (k := 0) (ci := 10) (q := (RX11, TX11, 15)) (As := [.int (nI a)]) (rest := []) S hK hA hW (c_X11_following l D cy ad n sd se true a hO_   (by omega) (ha.1)) (jgo wm_X11_250) yk_X11_following hO_ rfl rfl ⟨⟨rfl, rfl⟩, by decide, by decide⟩ rfl hl.1 rfl (Nat.le_of_ble_eq_true rfl) dX11_lucky_91 ⟨Nat.le_of_ble_eq_true rfl, Nat.le_of_ble_eq_true rfl⟩ (fun v u H locs hp hW => ?_)
                  obtain ⟨rfl, rfl⟩ := hp
                  refine W.eq (g2 := F0 m 94 ls [.int (nI (folN n a))]) rfl ?_
                  refine lv_istore (lv' := [(7, .int (nI (folN n a))), (0, .ref (ad 0)), (1, .long (lN L)), (3, .ref (ad 20)), (4, .long (lN (sumI (fun d => mdl n sd se nc cs lv (revN n d)) (fun d => pr (revN n d)) (t + 1)))), (6, .int (nI la)), (8, .int (nI t))]) S.1 S.2.1 dX11_lucky_94 hl (by decide) rfl (fun ls hl => ?_)
                  refine lv_iinc (v := nI (t + 1)) (lv' := [(8, .int (nI (t + 1))), (7, .int (nI (folN n a))), (0, .ref (ad 0)), (1, .long (lN L)), (3, .ref (ad 20)), (4, .long (lN (sumI (fun d => mdl n sd se nc cs lv (revN n d)) (fun d => pr (revN n d)) (t + 1)))), (6, .int (nI la))]) S.1 S.2.1 dX11_lucky_96 hl (k := 6) rfl (nI_add _ 1) (by decide) rfl (fun ls hl => ?_)
                  refine lv_goto (tgt := 45) S.1 S.2.1 dX11_lucky_99 (by decide) ?_
                  exact ih45 _ (by omega) (t + 1) (folN n a) la rfl (by omega) (hfa _ rfl) (hla2) w_ hU hO_ hMo_ hMa_ H locs ls hW (lv_sub hl [2, 3, 4, 5, 6, 1, 0] rfl)
                · refine lv_lload S.1 S.2.1 dX11_lucky_70 (lv_at hl 3 rfl) ?_
                  refine lv_aload_n S.1 S.2.1 dX11_lucky_72 rfl (lv_at hl 0 rfl) ?_
                  refine j_get (ci := 10) (C := RX11) (T := TX11) (N := 15) (v := .ref (ad 5)) S (fun w h => List.mem_cons_of_mem _ (inG11 w h)) hK hW hO_ rfl 3 (by decide) (List.mem_cons_of_mem _ wfl_X11_24) (fun _ h9 => h9) rfl dX11_lucky_73 ?_
                  refine lv_iload S.1 S.2.1 dX11_lucky_76 (lv_at hl 5 rfl) ?_
                  refine j_callV (k := 5) (ci := 6) (q := (RX7, TX7, 1)) (As := [.int (nI a)]) (rest := [.long (lN (sumI (fun d => mdl n sd se nc cs lv (revN n d)) (fun d => pr (revN n d)) t))]) S hK hA hW (c_X7_atN l D cy 5 6 (ad 5) (ad 6) 1024 a pr (hU.get hDo (by decide)) (hU.get hDa (by decide))   (by omega) (by decide)) (jgo wm_X11_245) yk_X7_at (hU.get hDo (by decide)) rfl rfl ⟨⟨rfl, rfl⟩, by decide, by decide⟩ rfl hl.1 rfl (Nat.le_of_ble_eq_true rfl) dX11_lucky_78 ⟨Nat.le_of_ble_eq_true rfl, Nat.le_of_ble_eq_true rfl⟩ (fun v u H locs hp hW => ?_)
                  obtain ⟨rfl, rfl⟩ := hp
                  refine W.eq (g2 := F0 m 81 ls [.long (lN (pr a)), .long (lN (sumI (fun d => mdl n sd se nc cs lv (revN n d)) (fun d => pr (revN n d)) t))]) rfl ?_
                  refine jnl_add S dX11_lucky_81 ?_
                  refine lv_lstore (lv' := [(4, .long (lN ((sumI (fun d => mdl n sd se nc cs lv (revN n d)) (fun d => pr (revN n d)) t) + (pr a)))), (0, .ref (ad 0)), (1, .long (lN L)), (3, .ref (ad 20)), (6, .int (nI la)), (7, .int (nI a)), (8, .int (nI t))]) S.1 S.2.1 dX11_lucky_82 hl (by decide) rfl (fun ls hl => ?_)
                  refine lv_iload S.1 S.2.1 dX11_lucky_84 (lv_at hl 5 rfl) ?_
                  refine lv_istore (lv' := [(6, .int (nI a)), (4, .long (lN ((sumI (fun d => mdl n sd se nc cs lv (revN n d)) (fun d => pr (revN n d)) t) + (pr a)))), (0, .ref (ad 0)), (1, .long (lN L)), (3, .ref (ad 20)), (7, .int (nI a)), (8, .int (nI t))]) S.1 S.2.1 dX11_lucky_86 hl (by decide) rfl (fun ls hl => ?_)
                  have e0 : sumI (fun d => mdl n sd se nc cs lv (revN n d)) (fun d => pr (revN n d)) (t + 1) = sumI (fun d => mdl n sd se nc cs lv (revN n d)) (fun d => pr (revN n d)) t + pr a := by rw [hae]; exact sumI_t (by rw [← hae]; exact c_67)
                  have hla2 : (sumI (fun d => mdl n sd se nc cs lv (revN n d)) (fun d => pr (revN n d)) (t + 1) ≤ L ∧ True) ∨ (0 < t + 1 ∧ a = revN n (t + 1 - 1) ∧ L < sumI (fun d => mdl n sd se nc cs lv (revN n d)) (fun d => pr (revN n d)) (t + 1) ∧ sumI (fun d => mdl n sd se nc cs lv (revN n d)) (fun d => pr (revN n d)) (t + 1 - 1) ≤ L) := by
                    rcases Nat.lt_or_ge L (sumI (fun d => mdl n sd se nc cs lv (revN n d)) (fun d => pr (revN n d)) (t + 1)) with z | z
                    · exact Or.inr ⟨by omega, hae, z, by rw [Nat.add_sub_cancel]; exact c_58⟩
                    · exact Or.inl ⟨z, trivial⟩
                  have hl : lv_has ls 9 [(0, .ref (ad 0)), (1, .long (lN L)), (3, .ref (ad 20)), (4, .long (lN (sumI (fun d => mdl n sd se nc cs lv (revN n d)) (fun d => pr (revN n d)) (t + 1)))), (6, .int (nI a)), (7, .int (nI a)), (8, .int (nI t))] := by rw [e0]; exact lv_sub hl [2, 3, 4, 1, 0, 5, 6] rfl
                  refine lv_aload_n S.1 S.2.1 dX11_lucky_88 rfl (lv_at hl 0 rfl) ?_
                  refine lv_iload S.1 S.2.1 dX11_lucky_89 (lv_at hl 5 rfl) ?_
                  refine j_callV (k := 0) (ci := 10) (q := (RX11, TX11, 15)) (As := [.int (nI a)]) (rest := []) S hK hA hW (c_X11_following l D cy ad n sd se true a hO_   (by omega) (ha.1)) (jgo wm_X11_250) yk_X11_following hO_ rfl rfl ⟨⟨rfl, rfl⟩, by decide, by decide⟩ rfl hl.1 rfl (Nat.le_of_ble_eq_true rfl) dX11_lucky_91 ⟨Nat.le_of_ble_eq_true rfl, Nat.le_of_ble_eq_true rfl⟩ (fun v u H locs hp hW => ?_)
                  obtain ⟨rfl, rfl⟩ := hp
                  refine W.eq (g2 := F0 m 94 ls [.int (nI (folN n a))]) rfl ?_
                  refine lv_istore (lv' := [(7, .int (nI (folN n a))), (0, .ref (ad 0)), (1, .long (lN L)), (3, .ref (ad 20)), (4, .long (lN (sumI (fun d => mdl n sd se nc cs lv (revN n d)) (fun d => pr (revN n d)) (t + 1)))), (6, .int (nI a)), (8, .int (nI t))]) S.1 S.2.1 dX11_lucky_94 hl (by decide) rfl (fun ls hl => ?_)
                  refine lv_iinc (v := nI (t + 1)) (lv' := [(8, .int (nI (t + 1))), (7, .int (nI (folN n a))), (0, .ref (ad 0)), (1, .long (lN L)), (3, .ref (ad 20)), (4, .long (lN (sumI (fun d => mdl n sd se nc cs lv (revN n d)) (fun d => pr (revN n d)) (t + 1)))), (6, .int (nI a))]) S.1 S.2.1 dX11_lucky_96 hl (k := 6) rfl (nI_add _ 1) (by decide) rfl (fun ls hl => ?_)
                  refine lv_goto (tgt := 45) S.1 S.2.1 dX11_lucky_99 (by decide) ?_
                  exact ih45 _ (by omega) (t + 1) (folN n a) a rfl (by omega) (hfa _ rfl) (hla2) w_ hU hO_ hMo_ hMa_ H locs ls hW (lv_sub hl [2, 3, 4, 5, 6, 1, 0] rfl)
        exact L45 _ 0 0 0 rfl (Nat.zero_le _) (⟨by decide, fun _ => (revN_0 n).symm⟩) (Or.inl ⟨Nat.zero_le _, trivial⟩) w_ hU hO_ hMo_ hMa_ H locs ls hW (lv_sub hl [5, 6, 4, 3, 2, 1, 0] rfl)
      · subst hQ
        obtain ⟨sa, hsa⟩ := hx.2.1 (256, "the number is not from 0 to under the weight of all models") (by decide)
        exact jx_throwW (text := "the number is not from 0 to under the weight of all models") (names := jNm) (sa := sa) S htr jfit_105 jfit_n wcl_X11_101 wini_java_lang_IllegalArgumentException vxg_105 vxn_105 vxh_105 (by decide) hsa hx hK hW hl.1 htab hr.2.1 ⟨by decide, by decide, by decide, by decide⟩ ⟨by decide, by decide⟩ dX11_lucky_17 dX11_lucky_20 dX11_lucky_21 dX11_lucky_24 dX11_lucky_27 (Or.inr (⟨rfl, ⟨L, hL63, rfl, by rw [hrv]; exact c_14⟩, ⟨hU, hO_, hMo_, hMa_⟩⟩))
/-- first -/
theorem c_X11_first (l : Launch) (htr : l.stackTraces = false) (D : va_G) (cy : Nat → ClassId) {w : va_W} (ad : Nat → Nat) (n sd se : Nat) (fr : Bool) (nc lv : Nat) (tf : Nat → Option Nat) (cp ca : Nat → Nat) (cs : Nat → CN) (mv : Int32) (MX : Nat → Bool) (hO : w[0]? = some (ad 0, .inr (10, [.int (nI n), .ref (ad 1), .ref (ad 3), .ref (ad 5), .int (nI sd), .int (nI se), .ref (ad 7), .ref (ad 9), .ref (ad 11), .ref (ad 20), .int (bI fr), .ref (ad 23), .ref (ad 26), .ref (ad 31), .ref (ad 42)]))) (hMo : w[20]? = some (ad 20, .inr (0, [.ref (ad 21), .int mv]))) (hMl : w[21]? = some (ad 21, .inr (6, [.ref (ad 22)]))) (hMa : w[22]? = some (ad 22, .inl (cy 1, 16, .inr (.inl (wd MX))))) (hC : w[9]? = some (ad 9, .inr (4, [.ref (ad 10), .int (nI nc), .int (nI lv)]))) (hT : w[10]? = some (ad 10, .inl (cy 5, 20, .inr (.inr (.inr (.inr tf)))))) (hcon : conOK w nc tf cp ca cs) (hn : n ≤ 10) (hsd : sd < 1024) (hse : se < 1024) (hlv : lv < 2 ^ 20) (hfr : fr = true → mv = nI n ∧ MX = mdl n sd se nc cs lv) : jMx jTexts l yX11_first (jws yX11_first cX11_first 4 (some .int)) (jR 9 1 6) D cy w [.ref (ad 0)] 1 6 (fun vv uu => ∃ (t : Nat), vv = some (.int (nI (revN n t))) ∧ t < 2 ^ n ∧ (fun d => mdl n sd se nc cs lv (revN n d)) t = true ∧ (∀ j, j < t → (fun d => mdl n sd se nc cs lv (revN n d)) j = false) ∧ jU w uu [0, 20, 22] ∧ uu[0]? = some (ad 0, .inr (10, [.int (nI n), .ref (ad 1), .ref (ad 3), .ref (ad 5), .int (nI sd), .int (nI se), .ref (ad 7), .ref (ad 9), .ref (ad 11), .ref (ad 20), .int (bI true), .ref (ad 23), .ref (ad 26), .ref (ad 31), .ref (ad 42)])) ∧ uu[20]? = some (ad 20, .inr (0, [.ref (ad 21), .int (nI n)])) ∧ uu[22]? = some (ad 22, .inl (cy 1, 16, .inr (.inl (wd (mdl n sd se nc cs lv)))))) (fun EE uu => (EE = "java/util/NoSuchElementException" ∧ (cnt (fun d => mdl n sd se nc cs lv (revN n d)) (2 ^ n) = 0) ∧ (jU w uu [0, 20, 22] ∧ uu[0]? = some (ad 0, .inr (10, [.int (nI n), .ref (ad 1), .ref (ad 3), .ref (ad 5), .int (nI sd), .int (nI se), .ref (ad 7), .ref (ad 9), .ref (ad 11), .ref (ad 20), .int (bI true), .ref (ad 23), .ref (ad 26), .ref (ad 31), .ref (ad 42)])) ∧ uu[20]? = some (ad 20, .inr (0, [.ref (ad 21), .int (nI n)])) ∧ uu[22]? = some (ad 22, .inl (cy 1, 16, .inr (.inl (wd (mdl n sd se nc cs lv)))))))) := by
  have hp2 := two_pow10 hn
  have hcm := cnt_le (mdl n sd se nc cs lv) 1024
  have hpt := Nat.two_pow_pos n
  refine jx_of (by decide) rfl (Nat.le_of_ble_eq_true rfl) ?_
  intro p e s m args below meth c A ls Q hQ S hr hK hA H locs hW hl htab hx
  have hl : lv_has ls 4 [(0, .ref (ad 0))] := hl
  refine lv_aload_n S.1 S.2.1 dX11_first_0 rfl (lv_at hl 0 rfl) ?_
  refine j_callV (k := 0) (ci := 10) (q := (RX11, TX11, 15)) (As := []) (rest := []) S hK hA hW (c_X11_freshModels l D cy ad n sd se fr nc lv tf cp ca cs mv MX hO hMo hMl hMa hC hT hcon  (by omega) (by omega) (by omega) (by omega) (by first | omega | exact fun _ => ⟨rfl, rfl⟩)) (jgo wm_X11_199) yk_X11_freshModels hO rfl rfl ⟨⟨rfl, rfl⟩, by decide, by decide⟩ rfl hl.1 rfl (Nat.le_of_ble_eq_true rfl) dX11_first_1 ⟨Nat.le_of_ble_eq_true rfl, Nat.le_of_ble_eq_true rfl⟩ (fun v w_ H locs hp hW => ?_)
  obtain ⟨rfl, hU1, hN1, hN2, hN3⟩ := hp
  have hU : jU w w_ [0, 20, 22] := jU.mono hU1 (by decide)
  have hO_ : w_[0]? = some (ad 0, .inr (10, [.int (nI n), .ref (ad 1), .ref (ad 3), .ref (ad 5), .int (nI sd), .int (nI se), .ref (ad 7), .ref (ad 9), .ref (ad 11), .ref (ad 20), .int (bI true), .ref (ad 23), .ref (ad 26), .ref (ad 31), .ref (ad 42)])) := hN1
  have hMo_ : w_[20]? = some (ad 20, .inr (0, [.ref (ad 21), .int (nI n)])) := hN2
  have hMa_ : w_[22]? = some (ad 22, .inl (cy 1, 16, .inr (.inl (wd (mdl n sd se nc cs lv))))) := hN3
  clear hU1 hN1 hN2 hN3
  refine W.eq (g2 := F0 m 4 ls [.ref (ad 20)]) rfl ?_
  refine lv_astore_n (lv' := [(1, .ref (ad 20)), (0, .ref (ad 0))]) S.1 S.2.1 dX11_first_4 rfl hl (by decide) rfl (fun ls hl => ?_)
  refine lv_aload_n S.1 S.2.1 dX11_first_5 rfl (lv_at hl 0 rfl) ?_
  refine j_callV (k := 20) (ci := 0) (q := (RX0, TX0, 2)) (As := []) (rest := []) S hK hA hW (c_X0_size l D cy 20 21 22 (ad 20) (ad 21) (ad 22) (nI n) (mdl n sd se nc cs lv) hMo_ (hU.get hMl (by decide)) hMa_   ) (jgo wm_X11_203) yk_X0_size hMo_ rfl rfl ⟨⟨rfl, rfl⟩, by decide, by decide⟩ rfl hl.1 rfl (Nat.le_of_ble_eq_true rfl) dX11_first_6 ⟨Nat.le_of_ble_eq_true rfl, Nat.le_of_ble_eq_true rfl⟩ (fun v u H locs hp hW => ?_)
  obtain ⟨rfl, rfl⟩ := hp
  refine W.eq (g2 := F0 m 9 ls [.int (nI (cnt (mdl n sd se nc cs lv) 1024))]) rfl ?_
  refine jn_if_ne (tgt := 23) S (by omega) dX11_first_9 (by decide) (fun c_9 => ?_) (fun c_9 => ?_)
  · refine lv_iconst (v := nI 0) S.1 S.2.1 dX11_first_23 (by decide) ?_
    refine lv_istore_n (lv' := [(2, .int (nI 0)), (1, .ref (ad 20)), (0, .ref (ad 0))]) S.1 S.2.1 dX11_first_24 rfl hl (by decide) rfl (fun ls hl => ?_)
    refine lv_iconst (v := nI 1) S.1 S.2.1 dX11_first_25 (by decide) ?_
    refine lv_istore_n (lv' := [(3, .int (nI 1)), (2, .int (nI 0)), (1, .ref (ad 20)), (0, .ref (ad 0))]) S.1 S.2.1 dX11_first_26 rfl hl (by decide) rfl (fun ls hl => ?_)
    have L27 : ∀ (k : Nat) (t : Nat) (a : Nat), 2 ^ n - t = k → (t < 2 ^ n) → (a < 1024 ∧ a = revN n t) → (∀ j, j < t → (fun d => mdl n sd se nc cs lv (revN n d)) j = false) → ∀ (w_ : va_W), jU w w_ [0, 20, 22] → (w_[0]? = some (ad 0, .inr (10, [.int (nI n), .ref (ad 1), .ref (ad 3), .ref (ad 5), .int (nI sd), .int (nI se), .ref (ad 7), .ref (ad 9), .ref (ad 11), .ref (ad 20), .int (bI true), .ref (ad 23), .ref (ad 26), .ref (ad 31), .ref (ad 42)]))) → (w_[20]? = some (ad 20, .inr (0, [.ref (ad 21), .int (nI n)]))) → (w_[22]? = some (ad 22, .inl (cy 1, 16, .inr (.inl (wd (mdl n sd se nc cs lv)))))) → ∀ (H : Heap) (locs : List Loc) (ls : Array Slot), jW D A s.heap w_ H locs → lv_has ls 4 [(0, .ref (ad 0)), (1, .ref (ad 20)), (2, .int (nI a)), (3, .int (nI (t + 1)))] → W p l e (jR 9 1 6) s m args below meth c H locs 0 0 Q (F0 m 27 ls []) := by
      intro k
      induction k using Nat.strongRecOn with
      | ind k ih27 =>
      intro t a hk hi ha hz w_ hU hO_ hMo_ hMa_ H locs ls hW hl
      subst hk
      refine lv_iload_n S.1 S.2.1 dX11_first_27 rfl (lv_at hl 3 rfl) ?_
      refine lv_aload_n S.1 S.2.1 dX11_first_28 rfl (lv_at hl 0 rfl) ?_
      refine j_callV (k := 0) (ci := 10) (q := (RX11, TX11, 15)) (As := []) (rest := [.int (nI (t + 1))]) S hK hA hW (c_X11_countAssignments l D cy ad n sd se true hO_   (by omega)) (jgo wm_X11_221) yk_X11_countAssignments hO_ rfl rfl ⟨⟨rfl, rfl⟩, by decide, by decide⟩ rfl hl.1 rfl (Nat.le_of_ble_eq_true rfl) dX11_first_29 ⟨Nat.le_of_ble_eq_true rfl, Nat.le_of_ble_eq_true rfl⟩ (fun v u H locs hp hW => ?_)
      obtain ⟨rfl, rfl⟩ := hp
      refine W.eq (g2 := F0 m 32 ls [.int (nI (2 ^ n)), .int (nI (t + 1))]) rfl ?_
      refine jn_cmp_ge (tgt := 55) S (by omega) (by omega) dX11_first_32 (by decide) (fun c_32 => ?_) (fun c_32 => ?_)
      · refine lv_iload_n S.1 S.2.1 dX11_first_55 rfl (lv_at hl 2 rfl) ?_
        subst hQ
        refine vx_ret ?_
        refine j_iret (u := w_) S hr (rfl) hK hW dX11_first_56 ⟨by decide, by decide⟩ ?_
        have hM : (fun d => mdl n sd se nc cs lv (revN n d)) t = true := by
          show mdl n sd se nc cs lv (revN n t) = true
          rw [← ha.2]
          first
          | exact c_40
          | (cases zz : mdl n sd se nc cs lv a
             · exfalso
               rw [ha.2] at zz
               have h0 : cnt (fun d => mdl n sd se nc cs lv (revN n d)) (2 ^ n) = 0 := cnt_zero.mpr (fun j hj => by
                 rcases Nat.lt_or_ge j t with q | q
                 · exact hz j q
                 · rw [show j = t by omega]; exact zz)
               rw [← mdl_cnt hn] at h0
               exact c_9 h0
             · rfl)
        exact ⟨t, by rw [ha.2], hi, hM, hz, hU, hO_, hMo_, hMa_⟩
      · have hae := ha.2
        · have hfa : ∀ t1, t1 = t + 1 → folN n a < 1024 ∧ (t1 < 2 ^ n → folN n a = revN n t1) := fun t1 e => by subst e; exact ⟨folN_lt hn ha.1, fun q => by rw [ha.2, fol_rev q]⟩
          refine lv_aload_n S.1 S.2.1 dX11_first_35 rfl (lv_at hl 1 rfl) ?_
          refine lv_iload_n S.1 S.2.1 dX11_first_36 rfl (lv_at hl 2 rfl) ?_
          refine j_callV (k := 20) (ci := 0) (q := (RX0, TX0, 2)) (As := [.int (nI a)]) (rest := []) S hK hA hW (c_X0_has l D cy 20 21 22 (ad 20) (ad 21) (ad 22) (nI n) (mdl n sd se nc cs lv) a hMo_ (hU.get hMl (by decide)) hMa_   (ha.1)) (jgo wm_X11_224) yk_X0_has hMo_ rfl rfl ⟨⟨rfl, rfl⟩, by decide, by decide⟩ rfl hl.1 rfl (Nat.le_of_ble_eq_true rfl) dX11_first_37 ⟨Nat.le_of_ble_eq_true rfl, Nat.le_of_ble_eq_true rfl⟩ (fun v u H locs hp hW => ?_)
          obtain ⟨rfl, rfl⟩ := hp
          refine W.eq (g2 := F0 m 40 ls [.int (bI ((mdl n sd se nc cs lv) a))]) rfl ?_
          refine jb_if_ne (tgt := 55) S dX11_first_40 (by decide) (fun c_40 => ?_) (fun c_40 => ?_)
          · refine lv_iload_n S.1 S.2.1 dX11_first_55 rfl (lv_at hl 2 rfl) ?_
            subst hQ
            refine vx_ret ?_
            refine j_iret (u := w_) S hr (rfl) hK hW dX11_first_56 ⟨by decide, by decide⟩ ?_
            have hM : (fun d => mdl n sd se nc cs lv (revN n d)) t = true := by
              show mdl n sd se nc cs lv (revN n t) = true
              rw [← ha.2]
              first
              | exact c_40
              | (cases zz : mdl n sd se nc cs lv a
                 · exfalso
                   rw [ha.2] at zz
                   have h0 : cnt (fun d => mdl n sd se nc cs lv (revN n d)) (2 ^ n) = 0 := cnt_zero.mpr (fun j hj => by
                     rcases Nat.lt_or_ge j t with q | q
                     · exact hz j q
                     · rw [show j = t by omega]; exact zz)
                   rw [← mdl_cnt hn] at h0
                   exact c_9 h0
                 · rfl)
            exact ⟨t, by rw [ha.2], hi, hM, hz, hU, hO_, hMo_, hMa_⟩
          · refine lv_aload_n S.1 S.2.1 dX11_first_43 rfl (lv_at hl 0 rfl) ?_
            refine lv_iload_n S.1 S.2.1 dX11_first_44 rfl (lv_at hl 2 rfl) ?_
            refine j_callV (k := 0) (ci := 10) (q := (RX11, TX11, 15)) (As := [.int (nI a)]) (rest := []) S hK hA hW (c_X11_following l D cy ad n sd se true a hO_   (by omega) (ha.1)) (jgo wm_X11_250) yk_X11_following hO_ rfl rfl ⟨⟨rfl, rfl⟩, by decide, by decide⟩ rfl hl.1 rfl (Nat.le_of_ble_eq_true rfl) dX11_first_45 ⟨Nat.le_of_ble_eq_true rfl, Nat.le_of_ble_eq_true rfl⟩ (fun v u H locs hp hW => ?_)
            obtain ⟨rfl, rfl⟩ := hp
            refine W.eq (g2 := F0 m 48 ls [.int (nI (folN n a))]) rfl ?_
            refine lv_istore_n (lv' := [(2, .int (nI (folN n a))), (0, .ref (ad 0)), (1, .ref (ad 20)), (3, .int (nI (t + 1)))]) S.1 S.2.1 dX11_first_48 rfl hl (by decide) rfl (fun ls hl => ?_)
            refine lv_iinc (v := nI (t + 1 + 1)) (lv' := [(3, .int (nI (t + 1 + 1))), (2, .int (nI (folN n a))), (0, .ref (ad 0)), (1, .ref (ad 20))]) S.1 S.2.1 dX11_first_49 hl (k := 3) rfl (nI_add _ 1) (by decide) rfl (fun ls hl => ?_)
            refine lv_goto (tgt := 27) S.1 S.2.1 dX11_first_52 (by decide) ?_
            exact ih27 _ (by omega) (t + 1) (folN n a) rfl (by omega) (⟨(hfa _ rfl).1, (hfa _ rfl).2 (by omega)⟩) (fun j h => by
          rcases Nat.lt_or_ge j t with q | q
          · exact hz j q
          · rw [show j = t by omega]; show mdl n sd se nc cs lv (revN n t) = false; rw [← hae]; exact c_40) w_ hU hO_ hMo_ hMa_ H locs ls hW (lv_sub hl [2, 3, 1, 0] rfl)
    exact L27 _ 0 0 rfl (hpt) (⟨by decide, (revN_0 n).symm⟩) (fun j h => absurd h (by omega)) w_ hU hO_ hMo_ hMa_ H locs ls hW (lv_sub hl [3, 2, 1, 0] rfl)
  · subst hQ
    obtain ⟨sa, hsa⟩ := hx.2.1 (258, "there are no models") (by decide)
    exact jx_throwN (text := "there are no models") (sa := sa) S htr jfit_242 (by decide +kernel) (by decide +kernel) jB13_0 jB13_1 jB13_2 jB13_5 wcl_X11_238 wini_java_util_NoSuchElementException vxg_242 vxn_242 vxh_242 (by decide) hsa hx hK hW hl.1 htab hr.2.1 ⟨by decide, by decide, by decide, by decide⟩ ⟨by decide, by decide⟩ dX11_first_12 dX11_first_15 (Or.inr ⟨dX11_first_16, rfl⟩) dX11_first_19 dX11_first_22 (⟨rfl, by rw [← mdl_cnt hn]; exact c_9, ⟨hU, hO_, hMo_, hMa_⟩⟩)
