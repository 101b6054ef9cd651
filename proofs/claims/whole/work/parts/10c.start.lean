/-! THE START: from the law's entry to its loop (laid by wip/whole/tools, from the specs there) -/
theorem wd0 : wd (fun _ => false) = fun _ => lN 0 := by
  funext i
  show lN (wdN (fun _ => false) i) = lN 0
  have : wdN (fun _ => false) i = 0 := Nat.eq_of_testBit_eq (fun j => by rw [wdN, bsum_bit, Bool.and_false, Nat.zero_testBit])
  rw [this]
theorem evA0 : evA 0 0 0 = fun _ => nI 0 := by funext v; exact if_neg (by omega)
theorem dpB0 : bf (dpB 0 0) = fun _ => nI 0 := by funext c; unfold bf dpB; rw [decide_eq_false (by omega)]; rfl
theorem slF_congr {f g : Nat → Nat} (h : ∀ j, j < 55 → f j = g j) : slF f = slF g := by
  funext j; unfold slF; split
  · rw [h _ (by omega)]
  · rfl
theorem kpF_congr {f g : Nat → Nat} (h : ∀ j, 55 ≤ j → j < 74 → f j = g j) : kpF f = kpF g := by
  funext j; unfold kpF; split
  · rw [h _ (by omega) (by omega)]
  · rfl
theorem whole_start {p : Program} {e : Env} {s : State} {m : MethodId} {below : List Frame} {meth : Method} {c : Code} (l : Launch) (hflags : l.flags = flags0) {b L : Nat} {xs : Nat → Int32} (hL : L ≤ 2560) (C0 : lw_At p s m meth c b L xs) : W p l e room_1 s m #[Value.ref b] below meth c s.heap [] 0 0 (lw_Z below #[Value.ref b] s) (entryFrame m ([Value.ref b] : List Value).toArray 10) := by
  have htr : l.stackTraces = false := by unfold Launch.stackTraces; rw [hflags]; decide +kernel
  obtain ⟨hexec, hcode, hret, hml, hown, hts, hX, hbl, hlocks, hgv⟩ := C0
  have hflat := flat_of_before _ hgv
  have S : CallFix p m c cL_law 10 s #[Value.ref b] (Cond.initialized RL :: lw_good) RL := ⟨hexec, hcode, hml, hown, List.forall_mem_cons.mpr ⟨hts _ (t1 (List.mem_of_getElem? (i := 0) rfl)), fun w h => hts w (jg_tbl w h)⟩⟩
  obtain ⟨D, cy, hK⟩ := st_jK hts
  generalize hAd : (fun q : Nat => s.heap.size ≤ q) = A
  have hA : ∀ q, s.heap.size ≤ q → A q := fun q h => by rw [← hAd]; exact h
  have hA2 : ∀ q, A q → s.heap.size ≤ q := fun q h => by rw [← hAd] at h; exact h
  have hbA : ¬ A b := fun h => absurd hbl (Nat.not_lt.mpr (hA2 b h))
  have hx : jX A s s.heap ∧ jXS jTexts s := ⟨⟨vx_Zqof (hts _ (t2 (List.mem_of_getElem? (i := 196) rfl))) (hts _ (t1 (List.mem_of_getElem? (i := 10) rfl))) (hflat _ (by decide +kernel)) (fun a h q => absurd h (Nat.not_lt.mpr (hA2 a q))), vx_Zqof (hts _ (t2 (List.mem_of_getElem? (i := 198) rfl))) (hts _ (t1 (List.mem_of_getElem? (i := 10) rfl))) (hflat _ (by decide +kernel)) (fun a h q => absurd h (Nat.not_lt.mpr (hA2 a q)))⟩, st_jXS hts⟩
  have hnx : jNC s := st_nc (by decide +kernel) hflat
  have hW : jW D A s.heap [] s.heap [] := ⟨fun k q h => by simp at h, ⟨fun i j p q h => by simp at h, fun k q h => by simp at h⟩, va_S.rf⟩
  have hl := lv_entry [Value.ref b] (n := 10) (Nat.le_of_ble_eq_true rfl)
  rw [lg_entry_eq]
  generalize (lg_sl [Value.ref b] ++ List.replicate (10 - (lg_sl [Value.ref b]).length) Slot.unset).toArray = ls at hl ⊢
  have hl : lv_has ls 10 [(0, .ref b)] := hl
  generalize hw0 : ([] : va_W) = w at hW
  have hlen : w.length = 0 := by rw [← hw0]; rfl
  refine j_newL (C := RX11) (T := TX11) (N := 15) (ci := 10) (fs := [.int 0, .null, .null, .null, .int 0, .int 0, .null, .null, .null, .null, .int 0, .null, .null, .null, .null]) S (fun w h => List.mem_cons_of_mem _ (inG11 w h)) tyX11 tyX11_ok (List.mem_cons_of_mem _ wcl_L_8) (List.mem_cons_of_mem _ wmk_X11) (List.mem_cons_of_mem _ wini_X11) hK hA hW hlen rfl (by decide +kernel) (Nat.le_of_ble_eq_true rfl) (Nat.le_of_ble_eq_true rfl) dL_law_0 (fun q_1 H w_ hU1 hN1 hlen hW => ?_)
  have hU : jU w w_ [0, 1, 2, 3, 4, 5, 6, 7, 8, 9, 10, 11, 12, 13, 14, 15, 16, 17, 18, 19, 20, 21, 22, 23, 24, 25, 26, 27, 28, 29, 30, 31, 32, 33, 34, 35, 36, 37, 38, 39, 40, 41, 42, 43, 44, 45, 46, 47, 48, 49, 50, 51, 52, 53, 54, 55, 56, 57, 58, 59, 60, 61, 62, 63, 64, 65, 66, 67, 68, 69, 70, 71, 72, 73, 74, 75] := jU.mono hU1 (by first | decide | (simp; done) | (simp; omega))
  have hO2_ : w_[0]? = some (q_1, .inr (10, [.int (nI 0), .null, .null, .null, .int (nI 0), .int (nI 0), .null, .null, .null, .null, .int (bI false), .null, .null, .null, .null])) := hN1
  clear hU1 hN1
  refine lv_dup S.1 S.2.1 dL_law_3 rfl ?_
  refine j_callI (As := []) (rest := [.ref q_1]) S hK hA hW (c_X11_init l D cy q_1 hO2_  hlen ) wm_L_126 yk_X11_init ⟨⟨rfl, rfl⟩, by decide, by decide⟩ rfl hl.1 rfl (Nat.le_of_ble_eq_true rfl) dL_law_4 ⟨Nat.le_of_ble_eq_true rfl, Nat.le_of_ble_eq_true rfl⟩ (fun v w_ H locs hp hW => ?_)
  obtain ⟨al__4, rfl, hp4_0, hp4_1, hU1, hN1, hN2, hN3, hN4, hN5, hN6, hN7, hN8, hN9, hN10, hN11, hN12, hN13, hN14, hN15, hN16, hN17, hN18, hN19, hN20, hN21, hN22, hN23, hN24, hN25, hN26, hN27, hN28, hN29, hN30, hN31, hN32, hN33, hN34, hN35, hN36, hN37, hN38, hN39, hN40, hN41, hN42, hN43, hN44, hN45, hN46, hN47, hN48, hN49, hN50, hN51, hN52, hN53, hN54, hN55⟩ := hp
  have hlen : w_.length = 55 := hp4_0
  have hU := hU.then hU1 (by first | decide | (simp; done) | (simp; omega))
  have h0n3_ : w_[0]? = some (adL al__4 0, .inr (10, [.int (nI 0), .ref (adL al__4 1), .ref (adL al__4 3), .ref (adL al__4 5), .int (nI 0), .int (nI 0), .ref (adL al__4 7), .ref (adL al__4 9), .ref (adL al__4 11), .ref (adL al__4 20), .int (bI false), .ref (adL al__4 23), .ref (adL al__4 26), .ref (adL al__4 31), .ref (adL al__4 42)])) := hN1
  have h1n4_ : w_[1]? = some (adL al__4 1, .inr (5, [.ref (adL al__4 2)])) := hN2
  have h2n5_ : w_[2]? = some (adL al__4 2, .inl (cy 0, 10, .inl (fun _ => nI 0))) := hN3
  have h3n6_ : w_[3]? = some (adL al__4 3, .inr (5, [.ref (adL al__4 4)])) := hN4
  have h4n7_ : w_[4]? = some (adL al__4 4, .inl (cy 0, 10, .inl (fun _ => nI 0))) := hN5
  have h5n8_ : w_[5]? = some (adL al__4 5, .inr (6, [.ref (adL al__4 6)])) := hN6
  have h6n9_ : w_[6]? = some (adL al__4 6, .inl (cy 1, 1024, .inr (.inl (lf (upB (fun _ => 0) 0 1))))) := hN7
  have h7n10_ : w_[7]? = some (adL al__4 7, .inr (5, [.ref (adL al__4 8)])) := hN8
  have h8n11_ : w_[8]? = some (adL al__4 8, .inl (cy 0, 10, .inl (fun _ => nI 0))) := hN9
  have h9n12_ : w_[9]? = some (adL al__4 9, .inr (4, [.ref (adL al__4 10), .int (nI 0), .int (nI 0)])) := hN10
  have h10n13_ : w_[10]? = some (adL al__4 10, .inl (cy 5, 20, .inr (.inr (.inr (.inr (fun _ => none)))))) := hN11
  have h11n14_ : w_[11]? = some (adL al__4 11, .inr (8, [.ref (adL al__4 12), .ref (adL al__4 14), .ref (adL al__4 16), .ref (adL al__4 18)])) := hN12
  have h12n15_ : w_[12]? = some (adL al__4 12, .inr (5, [.ref (adL al__4 13)])) := hN13
  have h13n16_ : w_[13]? = some (adL al__4 13, .inl (cy 0, 10, .inl (fun _ => nI 0))) := hN14
  have h14n17_ : w_[14]? = some (adL al__4 14, .inr (5, [.ref (adL al__4 15)])) := hN15
  have h15n18_ : w_[15]? = some (adL al__4 15, .inl (cy 0, 10, .inl (fun _ => nI 0))) := hN16
  have h16n19_ : w_[16]? = some (adL al__4 16, .inr (5, [.ref (adL al__4 17)])) := hN17
  have h17n20_ : w_[17]? = some (adL al__4 17, .inl (cy 0, 10, .inl (fun _ => nI 0))) := hN18
  have h18n21_ : w_[18]? = some (adL al__4 18, .inr (6, [.ref (adL al__4 19)])) := hN19
  have h19n22_ : w_[19]? = some (adL al__4 19, .inl (cy 1, 10, .inr (.inl (fun _ => lN 0)))) := hN20
  have h20n23_ : w_[20]? = some (adL al__4 20, .inr (0, [.ref (adL al__4 21), .int (-1)])) := hN21
  have h21n24_ : w_[21]? = some (adL al__4 21, .inr (6, [.ref (adL al__4 22)])) := hN22
  have h22n25_ : w_[22]? = some (adL al__4 22, .inl (cy 1, 16, .inr (.inl (fun _ => lN 0)))) := hN23
  have h23n26_ : w_[23]? = some (adL al__4 23, .inr (0, [.ref (adL al__4 24), .int (-1)])) := hN24
  have h24n27_ : w_[24]? = some (adL al__4 24, .inr (6, [.ref (adL al__4 25)])) := hN25
  have h25n28_ : w_[25]? = some (adL al__4 25, .inl (cy 1, 16, .inr (.inl (fun _ => lN 0)))) := hN26
  have h26n29_ : w_[26]? = some (adL al__4 26, .inr (9, [.ref (adL al__4 27), .ref (adL al__4 29), .int (nI 0)])) := hN27
  have h27n30_ : w_[27]? = some (adL al__4 27, .inr (5, [.ref (adL al__4 28)])) := hN28
  have h28n31_ : w_[28]? = some (adL al__4 28, .inl (cy 0, 21, .inl (fun _ => nI 0))) := hN29
  have h29n32_ : w_[29]? = some (adL al__4 29, .inr (6, [.ref (adL al__4 30)])) := hN30
  have h30n33_ : w_[30]? = some (adL al__4 30, .inl (cy 1, 21, .inr (.inl (fun _ => lN 0)))) := hN31
  have h31n34_ : w_[31]? = some (adL al__4 31, .inr (2, [.ref (adL al__4 32), .ref (adL al__4 34), .ref (adL al__4 36), .ref (adL al__4 38), .ref (adL al__4 40), .int (nI 0)])) := hN32
  have h32n35_ : w_[32]? = some (adL al__4 32, .inr (5, [.ref (adL al__4 33)])) := hN33
  have h33n36_ : w_[33]? = some (adL al__4 33, .inl (cy 0, 1024, .inl (fun _ => nI 0))) := hN34
  have h34n37_ : w_[34]? = some (adL al__4 34, .inr (5, [.ref (adL al__4 35)])) := hN35
  have h35n38_ : w_[35]? = some (adL al__4 35, .inl (cy 0, 272, .inl (fun _ => nI 0))) := hN36
  have h36n39_ : w_[36]? = some (adL al__4 36, .inr (5, [.ref (adL al__4 37)])) := hN37
  have h37n40_ : w_[37]? = some (adL al__4 37, .inl (cy 0, 272, .inl (fun _ => nI 0))) := hN38
  have h38n41_ : w_[38]? = some (adL al__4 38, .inr (5, [.ref (adL al__4 39)])) := hN39
  have h39n42_ : w_[39]? = some (adL al__4 39, .inl (cy 0, 272, .inl (fun _ => nI 0))) := hN40
  have h40n43_ : w_[40]? = some (adL al__4 40, .inr (5, [.ref (adL al__4 41)])) := hN41
  have h41n44_ : w_[41]? = some (adL al__4 41, .inl (cy 0, 10, .inl (fun _ => nI 0))) := hN42
  have h42n45_ : w_[42]? = some (adL al__4 42, .inl (cy 4, 4, .inr (.inr (.inr (.inr (slF (adL al__4))))))) := hN43
  have h43n46_ : w_[43]? = some (adL al__4 43, .inr (0, [.ref (adL al__4 44), .int (-1)])) := hN44
  have h44n47_ : w_[44]? = some (adL al__4 44, .inr (6, [.ref (adL al__4 45)])) := hN45
  have h45n48_ : w_[45]? = some (adL al__4 45, .inl (cy 1, 16, .inr (.inl (fun _ => lN 0)))) := hN46
  have h46n49_ : w_[46]? = some (adL al__4 46, .inr (0, [.ref (adL al__4 47), .int (-1)])) := hN47
  have h47n50_ : w_[47]? = some (adL al__4 47, .inr (6, [.ref (adL al__4 48)])) := hN48
  have h48n51_ : w_[48]? = some (adL al__4 48, .inl (cy 1, 16, .inr (.inl (fun _ => lN 0)))) := hN49
  have h49n52_ : w_[49]? = some (adL al__4 49, .inr (0, [.ref (adL al__4 50), .int (-1)])) := hN50
  have h50n53_ : w_[50]? = some (adL al__4 50, .inr (6, [.ref (adL al__4 51)])) := hN51
  have h51n54_ : w_[51]? = some (adL al__4 51, .inl (cy 1, 16, .inr (.inl (fun _ => lN 0)))) := hN52
  have h52n55_ : w_[52]? = some (adL al__4 52, .inr (0, [.ref (adL al__4 53), .int (-1)])) := hN53
  have h53n56_ : w_[53]? = some (adL al__4 53, .inr (6, [.ref (adL al__4 54)])) := hN54
  have h54n57_ : w_[54]? = some (adL al__4 54, .inl (cy 1, 16, .inr (.inl (fun _ => lN 0)))) := hN55
  clear hU1 hN1 hN2 hN3 hN4 hN5 hN6 hN7 hN8 hN9 hN10 hN11 hN12 hN13 hN14 hN15 hN16 hN17 hN18 hN19 hN20 hN21 hN22 hN23 hN24 hN25 hN26 hN27 hN28 hN29 hN30 hN31 hN32 hN33 hN34 hN35 hN36 hN37 hN38 hN39 hN40 hN41 hN42 hN43 hN44 hN45 hN46 hN47 hN48 hN49 hN50 hN51 hN52 hN53 hN54 hN55
  refine W.eq (g2 := F0 m 7 ls [.ref q_1]) rfl ?_
  refine lv_astore_n (lv' := [(1, .ref q_1), (0, .ref b)]) S.1 S.2.1 dL_law_7 rfl hl (by decide) rfl (fun ls hl => ?_)
  refine j_newL (C := RX12) (T := TX12) (N := 17) (ci := 11) (fs := [.int 0, .null, .null, .null, .null, .null, .null, .null, .null, .null, .null, .int 0, .int 0, .null, .null, .null, .null]) S (fun w h => List.mem_cons_of_mem _ (inG12 w h)) tyX12 tyX12_ok (List.mem_cons_of_mem _ wcl_L_127) (List.mem_cons_of_mem _ wmk_X12) (List.mem_cons_of_mem _ wini_X12) hK hA hW hlen rfl (by decide +kernel) (Nat.le_of_ble_eq_true rfl) (Nat.le_of_ble_eq_true rfl) dL_law_8 (fun q_58 H w_ hU1 hN1 hlen hW => ?_)
  have hU := hU.then hU1 (by first | decide | (simp; done) | (simp; omega))
  have h0n3_ := hU1.get h0n3_ (by first | decide | (simp; done) | (simp; omega))
  have h1n4_ := hU1.get h1n4_ (by first | decide | (simp; done) | (simp; omega))
  have h2n5_ := hU1.get h2n5_ (by first | decide | (simp; done) | (simp; omega))
  have h3n6_ := hU1.get h3n6_ (by first | decide | (simp; done) | (simp; omega))
  have h4n7_ := hU1.get h4n7_ (by first | decide | (simp; done) | (simp; omega))
  have h5n8_ := hU1.get h5n8_ (by first | decide | (simp; done) | (simp; omega))
  have h6n9_ := hU1.get h6n9_ (by first | decide | (simp; done) | (simp; omega))
  have h7n10_ := hU1.get h7n10_ (by first | decide | (simp; done) | (simp; omega))
  have h8n11_ := hU1.get h8n11_ (by first | decide | (simp; done) | (simp; omega))
  have h9n12_ := hU1.get h9n12_ (by first | decide | (simp; done) | (simp; omega))
  have h10n13_ := hU1.get h10n13_ (by first | decide | (simp; done) | (simp; omega))
  have h11n14_ := hU1.get h11n14_ (by first | decide | (simp; done) | (simp; omega))
  have h12n15_ := hU1.get h12n15_ (by first | decide | (simp; done) | (simp; omega))
  have h13n16_ := hU1.get h13n16_ (by first | decide | (simp; done) | (simp; omega))
  have h14n17_ := hU1.get h14n17_ (by first | decide | (simp; done) | (simp; omega))
  have h15n18_ := hU1.get h15n18_ (by first | decide | (simp; done) | (simp; omega))
  have h16n19_ := hU1.get h16n19_ (by first | decide | (simp; done) | (simp; omega))
  have h17n20_ := hU1.get h17n20_ (by first | decide | (simp; done) | (simp; omega))
  have h18n21_ := hU1.get h18n21_ (by first | decide | (simp; done) | (simp; omega))
  have h19n22_ := hU1.get h19n22_ (by first | decide | (simp; done) | (simp; omega))
  have h20n23_ := hU1.get h20n23_ (by first | decide | (simp; done) | (simp; omega))
  have h21n24_ := hU1.get h21n24_ (by first | decide | (simp; done) | (simp; omega))
  have h22n25_ := hU1.get h22n25_ (by first | decide | (simp; done) | (simp; omega))
  have h23n26_ := hU1.get h23n26_ (by first | decide | (simp; done) | (simp; omega))
  have h24n27_ := hU1.get h24n27_ (by first | decide | (simp; done) | (simp; omega))
  have h25n28_ := hU1.get h25n28_ (by first | decide | (simp; done) | (simp; omega))
  have h26n29_ := hU1.get h26n29_ (by first | decide | (simp; done) | (simp; omega))
  have h27n30_ := hU1.get h27n30_ (by first | decide | (simp; done) | (simp; omega))
  have h28n31_ := hU1.get h28n31_ (by first | decide | (simp; done) | (simp; omega))
  have h29n32_ := hU1.get h29n32_ (by first | decide | (simp; done) | (simp; omega))
  have h30n33_ := hU1.get h30n33_ (by first | decide | (simp; done) | (simp; omega))
  have h31n34_ := hU1.get h31n34_ (by first | decide | (simp; done) | (simp; omega))
  have h32n35_ := hU1.get h32n35_ (by first | decide | (simp; done) | (simp; omega))
  have h33n36_ := hU1.get h33n36_ (by first | decide | (simp; done) | (simp; omega))
  have h34n37_ := hU1.get h34n37_ (by first | decide | (simp; done) | (simp; omega))
  have h35n38_ := hU1.get h35n38_ (by first | decide | (simp; done) | (simp; omega))
  have h36n39_ := hU1.get h36n39_ (by first | decide | (simp; done) | (simp; omega))
  have h37n40_ := hU1.get h37n40_ (by first | decide | (simp; done) | (simp; omega))
  have h38n41_ := hU1.get h38n41_ (by first | decide | (simp; done) | (simp; omega))
  have h39n42_ := hU1.get h39n42_ (by first | decide | (simp; done) | (simp; omega))
  have h40n43_ := hU1.get h40n43_ (by first | decide | (simp; done) | (simp; omega))
  have h41n44_ := hU1.get h41n44_ (by first | decide | (simp; done) | (simp; omega))
  have h42n45_ := hU1.get h42n45_ (by first | decide | (simp; done) | (simp; omega))
  have h43n46_ := hU1.get h43n46_ (by first | decide | (simp; done) | (simp; omega))
  have h44n47_ := hU1.get h44n47_ (by first | decide | (simp; done) | (simp; omega))
  have h45n48_ := hU1.get h45n48_ (by first | decide | (simp; done) | (simp; omega))
  have h46n49_ := hU1.get h46n49_ (by first | decide | (simp; done) | (simp; omega))
  have h47n50_ := hU1.get h47n50_ (by first | decide | (simp; done) | (simp; omega))
  have h48n51_ := hU1.get h48n51_ (by first | decide | (simp; done) | (simp; omega))
  have h49n52_ := hU1.get h49n52_ (by first | decide | (simp; done) | (simp; omega))
  have h50n53_ := hU1.get h50n53_ (by first | decide | (simp; done) | (simp; omega))
  have h51n54_ := hU1.get h51n54_ (by first | decide | (simp; done) | (simp; omega))
  have h52n55_ := hU1.get h52n55_ (by first | decide | (simp; done) | (simp; omega))
  have h53n56_ := hU1.get h53n56_ (by first | decide | (simp; done) | (simp; omega))
  have h54n57_ := hU1.get h54n57_ (by first | decide | (simp; done) | (simp; omega))
  have hO59_ : w_[55]? = some (q_58, .inr (11, [.int (nI 0), .null, .null, .null, .null, .null, .null, .null, .null, .null, .null, .int (nI 0), .int (nI 0), .null, .null, .null, .null])) := hN1
  clear hU1 hN1
  refine lv_dup S.1 S.2.1 dL_law_11 rfl ?_
  refine j_callI (As := []) (rest := [.ref q_58]) S hK hA hW (c_X12_init l D cy q_58 hO59_  hlen ) wm_L_129 yk_X12_init ⟨⟨rfl, rfl⟩, by decide, by decide⟩ rfl hl.1 rfl (Nat.le_of_ble_eq_true rfl) dL_law_12 ⟨Nat.le_of_ble_eq_true rfl, Nat.le_of_ble_eq_true rfl⟩ (fun v w_ H locs hp hW => ?_)
  obtain ⟨bl__12, rfl, hp12_0, hp12_1, hU1, hN1, hN2, hN3, hN4, hN5, hN6, hN7, hN8, hN9, hN10, hN11, hN12, hN13, hN14, hN15, hN16, hN17, hN18, hN19⟩ := hp
  have hlen : w_.length = 74 := hp12_0
  have hU := hU.then hU1 (by first | decide | (simp; done) | (simp; omega))
  have h0n3_ := hU1.get h0n3_ (by first | decide | (simp; done) | (simp; omega))
  have h1n4_ := hU1.get h1n4_ (by first | decide | (simp; done) | (simp; omega))
  have h2n5_ := hU1.get h2n5_ (by first | decide | (simp; done) | (simp; omega))
  have h3n6_ := hU1.get h3n6_ (by first | decide | (simp; done) | (simp; omega))
  have h4n7_ := hU1.get h4n7_ (by first | decide | (simp; done) | (simp; omega))
  have h5n8_ := hU1.get h5n8_ (by first | decide | (simp; done) | (simp; omega))
  have h6n9_ := hU1.get h6n9_ (by first | decide | (simp; done) | (simp; omega))
  have h7n10_ := hU1.get h7n10_ (by first | decide | (simp; done) | (simp; omega))
  have h8n11_ := hU1.get h8n11_ (by first | decide | (simp; done) | (simp; omega))
  have h9n12_ := hU1.get h9n12_ (by first | decide | (simp; done) | (simp; omega))
  have h10n13_ := hU1.get h10n13_ (by first | decide | (simp; done) | (simp; omega))
  have h11n14_ := hU1.get h11n14_ (by first | decide | (simp; done) | (simp; omega))
  have h12n15_ := hU1.get h12n15_ (by first | decide | (simp; done) | (simp; omega))
  have h13n16_ := hU1.get h13n16_ (by first | decide | (simp; done) | (simp; omega))
  have h14n17_ := hU1.get h14n17_ (by first | decide | (simp; done) | (simp; omega))
  have h15n18_ := hU1.get h15n18_ (by first | decide | (simp; done) | (simp; omega))
  have h16n19_ := hU1.get h16n19_ (by first | decide | (simp; done) | (simp; omega))
  have h17n20_ := hU1.get h17n20_ (by first | decide | (simp; done) | (simp; omega))
  have h18n21_ := hU1.get h18n21_ (by first | decide | (simp; done) | (simp; omega))
  have h19n22_ := hU1.get h19n22_ (by first | decide | (simp; done) | (simp; omega))
  have h20n23_ := hU1.get h20n23_ (by first | decide | (simp; done) | (simp; omega))
  have h21n24_ := hU1.get h21n24_ (by first | decide | (simp; done) | (simp; omega))
  have h22n25_ := hU1.get h22n25_ (by first | decide | (simp; done) | (simp; omega))
  have h23n26_ := hU1.get h23n26_ (by first | decide | (simp; done) | (simp; omega))
  have h24n27_ := hU1.get h24n27_ (by first | decide | (simp; done) | (simp; omega))
  have h25n28_ := hU1.get h25n28_ (by first | decide | (simp; done) | (simp; omega))
  have h26n29_ := hU1.get h26n29_ (by first | decide | (simp; done) | (simp; omega))
  have h27n30_ := hU1.get h27n30_ (by first | decide | (simp; done) | (simp; omega))
  have h28n31_ := hU1.get h28n31_ (by first | decide | (simp; done) | (simp; omega))
  have h29n32_ := hU1.get h29n32_ (by first | decide | (simp; done) | (simp; omega))
  have h30n33_ := hU1.get h30n33_ (by first | decide | (simp; done) | (simp; omega))
  have h31n34_ := hU1.get h31n34_ (by first | decide | (simp; done) | (simp; omega))
  have h32n35_ := hU1.get h32n35_ (by first | decide | (simp; done) | (simp; omega))
  have h33n36_ := hU1.get h33n36_ (by first | decide | (simp; done) | (simp; omega))
  have h34n37_ := hU1.get h34n37_ (by first | decide | (simp; done) | (simp; omega))
  have h35n38_ := hU1.get h35n38_ (by first | decide | (simp; done) | (simp; omega))
  have h36n39_ := hU1.get h36n39_ (by first | decide | (simp; done) | (simp; omega))
  have h37n40_ := hU1.get h37n40_ (by first | decide | (simp; done) | (simp; omega))
  have h38n41_ := hU1.get h38n41_ (by first | decide | (simp; done) | (simp; omega))
  have h39n42_ := hU1.get h39n42_ (by first | decide | (simp; done) | (simp; omega))
  have h40n43_ := hU1.get h40n43_ (by first | decide | (simp; done) | (simp; omega))
  have h41n44_ := hU1.get h41n44_ (by first | decide | (simp; done) | (simp; omega))
  have h42n45_ := hU1.get h42n45_ (by first | decide | (simp; done) | (simp; omega))
  have h43n46_ := hU1.get h43n46_ (by first | decide | (simp; done) | (simp; omega))
  have h44n47_ := hU1.get h44n47_ (by first | decide | (simp; done) | (simp; omega))
  have h45n48_ := hU1.get h45n48_ (by first | decide | (simp; done) | (simp; omega))
  have h46n49_ := hU1.get h46n49_ (by first | decide | (simp; done) | (simp; omega))
  have h47n50_ := hU1.get h47n50_ (by first | decide | (simp; done) | (simp; omega))
  have h48n51_ := hU1.get h48n51_ (by first | decide | (simp; done) | (simp; omega))
  have h49n52_ := hU1.get h49n52_ (by first | decide | (simp; done) | (simp; omega))
  have h50n53_ := hU1.get h50n53_ (by first | decide | (simp; done) | (simp; omega))
  have h51n54_ := hU1.get h51n54_ (by first | decide | (simp; done) | (simp; omega))
  have h52n55_ := hU1.get h52n55_ (by first | decide | (simp; done) | (simp; omega))
  have h53n56_ := hU1.get h53n56_ (by first | decide | (simp; done) | (simp; omega))
  have h54n57_ := hU1.get h54n57_ (by first | decide | (simp; done) | (simp; omega))
  have i55n60_ : w_[55]? = some (adM bl__12 55, .inr (11, [.int (nI 0), .ref (adM bl__12 56), .ref (adM bl__12 57), .ref (adM bl__12 58), .ref (adM bl__12 59), .ref (adM bl__12 60), .ref (adM bl__12 61), .ref (adM bl__12 62), .ref (adM bl__12 63), .ref (adM bl__12 64), .ref (adM bl__12 65), .int (nI 0), .int (nI 0), .ref (adM bl__12 66), .ref (adM bl__12 71), .ref (adM bl__12 72), .ref (adM bl__12 73)])) := hN1
  have i56n61_ : w_[56]? = some (adM bl__12 56, .inl (cy 0, 10, .inl (fun _ => nI 0))) := hN2
  have i57n62_ : w_[57]? = some (adM bl__12 57, .inl (cy 0, 10, .inl (fun _ => nI 0))) := hN3
  have i58n63_ : w_[58]? = some (adM bl__12 58, .inl (cy 0, 10, .inl (fun _ => nI 0))) := hN4
  have i59n64_ : w_[59]? = some (adM bl__12 59, .inl (cy 0, 10, .inl (fun _ => nI 0))) := hN5
  have i60n65_ : w_[60]? = some (adM bl__12 60, .inl (cy 2, 20, .inl (fun _ => nI 0))) := hN6
  have i61n66_ : w_[61]? = some (adM bl__12 61, .inl (cy 0, 20, .inl (fun _ => nI 0))) := hN7
  have i62n67_ : w_[62]? = some (adM bl__12 62, .inl (cy 0, 20, .inl (fun _ => nI 0))) := hN8
  have i63n68_ : w_[63]? = some (adM bl__12 63, .inl (cy 0, 20, .inl (fun _ => nI 0))) := hN9
  have i64n69_ : w_[64]? = some (adM bl__12 64, .inl (cy 0, 20, .inl (fun _ => nI 0))) := hN10
  have i65n70_ : w_[65]? = some (adM bl__12 65, .inl (cy 3, 20, .inl (fun _ => nI 0))) := hN11
  have i66n71_ : w_[66]? = some (adM bl__12 66, .inl (cy 6, 4, .inr (.inr (.inr (.inr (kpF (adM bl__12))))))) := hN12
  have i67n72_ : w_[67]? = some (adM bl__12 67, .inl (cy 3, 1024, .inl (fun _ => nI 0))) := hN13
  have i68n73_ : w_[68]? = some (adM bl__12 68, .inl (cy 3, 1024, .inl (fun _ => nI 0))) := hN14
  have i69n74_ : w_[69]? = some (adM bl__12 69, .inl (cy 3, 1024, .inl (fun _ => nI 0))) := hN15
  have i70n75_ : w_[70]? = some (adM bl__12 70, .inl (cy 3, 1024, .inl (fun _ => nI 0))) := hN16
  have i71n76_ : w_[71]? = some (adM bl__12 71, .inl (cy 0, 4, .inl (upd (upd (upd (upd (fun _ => nI 0) 0 (-1)) 1 (-1)) 2 (-1)) 3 (-1)))) := hN17
  have i72n77_ : w_[72]? = some (adM bl__12 72, .inl (cy 3, 1024, .inl (fun _ => nI 0))) := hN18
  have i73n78_ : w_[73]? = some (adM bl__12 73, .inl (cy 3, 1024, .inl (fun _ => nI 0))) := hN19
  clear hU1 hN1 hN2 hN3 hN4 hN5 hN6 hN7 hN8 hN9 hN10 hN11 hN12 hN13 hN14 hN15 hN16 hN17 hN18 hN19
  refine W.eq (g2 := F0 m 15 ls [.ref q_58]) rfl ?_
  refine lv_astore_n (lv' := [(2, .ref q_58), (1, .ref q_1), (0, .ref b)]) S.1 S.2.1 dL_law_15 rfl hl (by decide) rfl (fun ls hl => ?_)
  refine lv_iconst (v := nI 1) S.1 S.2.1 dL_law_16 (by decide) ?_
  refine j_newaL (t0 := 1) (N' := 1) (ty := .long) (a0 := (1, .inr (.inl (fun _ => lN 0)))) S (List.mem_cons_of_mem _ war_long) rfl hK hA hW hlen rfl (fun _ => rfl) (nI_pos (by omega)) (nI_clamp (by omega)) (by show 1 * 8 ≤ 536870912; omega) (Nat.le_of_ble_eq_true rfl) (Nat.le_of_ble_eq_true rfl) dL_law_17 (fun q_79 H w_ hU1 hN1 hlen hW => ?_)
  have hU := hU.then hU1 (by first | decide | (simp; done) | (simp; omega))
  have h0n3_ := hU1.get h0n3_ (by first | decide | (simp; done) | (simp; omega))
  have h1n4_ := hU1.get h1n4_ (by first | decide | (simp; done) | (simp; omega))
  have h2n5_ := hU1.get h2n5_ (by first | decide | (simp; done) | (simp; omega))
  have h3n6_ := hU1.get h3n6_ (by first | decide | (simp; done) | (simp; omega))
  have h4n7_ := hU1.get h4n7_ (by first | decide | (simp; done) | (simp; omega))
  have h5n8_ := hU1.get h5n8_ (by first | decide | (simp; done) | (simp; omega))
  have h6n9_ := hU1.get h6n9_ (by first | decide | (simp; done) | (simp; omega))
  have h7n10_ := hU1.get h7n10_ (by first | decide | (simp; done) | (simp; omega))
  have h8n11_ := hU1.get h8n11_ (by first | decide | (simp; done) | (simp; omega))
  have h9n12_ := hU1.get h9n12_ (by first | decide | (simp; done) | (simp; omega))
  have h10n13_ := hU1.get h10n13_ (by first | decide | (simp; done) | (simp; omega))
  have h11n14_ := hU1.get h11n14_ (by first | decide | (simp; done) | (simp; omega))
  have h12n15_ := hU1.get h12n15_ (by first | decide | (simp; done) | (simp; omega))
  have h13n16_ := hU1.get h13n16_ (by first | decide | (simp; done) | (simp; omega))
  have h14n17_ := hU1.get h14n17_ (by first | decide | (simp; done) | (simp; omega))
  have h15n18_ := hU1.get h15n18_ (by first | decide | (simp; done) | (simp; omega))
  have h16n19_ := hU1.get h16n19_ (by first | decide | (simp; done) | (simp; omega))
  have h17n20_ := hU1.get h17n20_ (by first | decide | (simp; done) | (simp; omega))
  have h18n21_ := hU1.get h18n21_ (by first | decide | (simp; done) | (simp; omega))
  have h19n22_ := hU1.get h19n22_ (by first | decide | (simp; done) | (simp; omega))
  have h20n23_ := hU1.get h20n23_ (by first | decide | (simp; done) | (simp; omega))
  have h21n24_ := hU1.get h21n24_ (by first | decide | (simp; done) | (simp; omega))
  have h22n25_ := hU1.get h22n25_ (by first | decide | (simp; done) | (simp; omega))
  have h23n26_ := hU1.get h23n26_ (by first | decide | (simp; done) | (simp; omega))
  have h24n27_ := hU1.get h24n27_ (by first | decide | (simp; done) | (simp; omega))
  have h25n28_ := hU1.get h25n28_ (by first | decide | (simp; done) | (simp; omega))
  have h26n29_ := hU1.get h26n29_ (by first | decide | (simp; done) | (simp; omega))
  have h27n30_ := hU1.get h27n30_ (by first | decide | (simp; done) | (simp; omega))
  have h28n31_ := hU1.get h28n31_ (by first | decide | (simp; done) | (simp; omega))
  have h29n32_ := hU1.get h29n32_ (by first | decide | (simp; done) | (simp; omega))
  have h30n33_ := hU1.get h30n33_ (by first | decide | (simp; done) | (simp; omega))
  have h31n34_ := hU1.get h31n34_ (by first | decide | (simp; done) | (simp; omega))
  have h32n35_ := hU1.get h32n35_ (by first | decide | (simp; done) | (simp; omega))
  have h33n36_ := hU1.get h33n36_ (by first | decide | (simp; done) | (simp; omega))
  have h34n37_ := hU1.get h34n37_ (by first | decide | (simp; done) | (simp; omega))
  have h35n38_ := hU1.get h35n38_ (by first | decide | (simp; done) | (simp; omega))
  have h36n39_ := hU1.get h36n39_ (by first | decide | (simp; done) | (simp; omega))
  have h37n40_ := hU1.get h37n40_ (by first | decide | (simp; done) | (simp; omega))
  have h38n41_ := hU1.get h38n41_ (by first | decide | (simp; done) | (simp; omega))
  have h39n42_ := hU1.get h39n42_ (by first | decide | (simp; done) | (simp; omega))
  have h40n43_ := hU1.get h40n43_ (by first | decide | (simp; done) | (simp; omega))
  have h41n44_ := hU1.get h41n44_ (by first | decide | (simp; done) | (simp; omega))
  have h42n45_ := hU1.get h42n45_ (by first | decide | (simp; done) | (simp; omega))
  have h43n46_ := hU1.get h43n46_ (by first | decide | (simp; done) | (simp; omega))
  have h44n47_ := hU1.get h44n47_ (by first | decide | (simp; done) | (simp; omega))
  have h45n48_ := hU1.get h45n48_ (by first | decide | (simp; done) | (simp; omega))
  have h46n49_ := hU1.get h46n49_ (by first | decide | (simp; done) | (simp; omega))
  have h47n50_ := hU1.get h47n50_ (by first | decide | (simp; done) | (simp; omega))
  have h48n51_ := hU1.get h48n51_ (by first | decide | (simp; done) | (simp; omega))
  have h49n52_ := hU1.get h49n52_ (by first | decide | (simp; done) | (simp; omega))
  have h50n53_ := hU1.get h50n53_ (by first | decide | (simp; done) | (simp; omega))
  have h51n54_ := hU1.get h51n54_ (by first | decide | (simp; done) | (simp; omega))
  have h52n55_ := hU1.get h52n55_ (by first | decide | (simp; done) | (simp; omega))
  have h53n56_ := hU1.get h53n56_ (by first | decide | (simp; done) | (simp; omega))
  have h54n57_ := hU1.get h54n57_ (by first | decide | (simp; done) | (simp; omega))
  have i55n60_ := hU1.get i55n60_ (by first | decide | (simp; done) | (simp; omega))
  have i56n61_ := hU1.get i56n61_ (by first | decide | (simp; done) | (simp; omega))
  have i57n62_ := hU1.get i57n62_ (by first | decide | (simp; done) | (simp; omega))
  have i58n63_ := hU1.get i58n63_ (by first | decide | (simp; done) | (simp; omega))
  have i59n64_ := hU1.get i59n64_ (by first | decide | (simp; done) | (simp; omega))
  have i60n65_ := hU1.get i60n65_ (by first | decide | (simp; done) | (simp; omega))
  have i61n66_ := hU1.get i61n66_ (by first | decide | (simp; done) | (simp; omega))
  have i62n67_ := hU1.get i62n67_ (by first | decide | (simp; done) | (simp; omega))
  have i63n68_ := hU1.get i63n68_ (by first | decide | (simp; done) | (simp; omega))
  have i64n69_ := hU1.get i64n69_ (by first | decide | (simp; done) | (simp; omega))
  have i65n70_ := hU1.get i65n70_ (by first | decide | (simp; done) | (simp; omega))
  have i66n71_ := hU1.get i66n71_ (by first | decide | (simp; done) | (simp; omega))
  have i67n72_ := hU1.get i67n72_ (by first | decide | (simp; done) | (simp; omega))
  have i68n73_ := hU1.get i68n73_ (by first | decide | (simp; done) | (simp; omega))
  have i69n74_ := hU1.get i69n74_ (by first | decide | (simp; done) | (simp; omega))
  have i70n75_ := hU1.get i70n75_ (by first | decide | (simp; done) | (simp; omega))
  have i71n76_ := hU1.get i71n76_ (by first | decide | (simp; done) | (simp; omega))
  have i72n77_ := hU1.get i72n77_ (by first | decide | (simp; done) | (simp; omega))
  have i73n78_ := hU1.get i73n78_ (by first | decide | (simp; done) | (simp; omega))
  have hR80_ : w_[74]? = some (q_79, .inl (cy 1, 1, .inr (.inl (fun _ => lN 0)))) := hN1
  clear hU1 hN1
  refine lv_astore_n (lv' := [(3, .ref q_79), (2, .ref q_58), (1, .ref q_1), (0, .ref b)]) S.1 S.2.1 dL_law_19 rfl hl (by decide) rfl (fun ls hl => ?_)
  refine lv_iconst (v := nI 1) S.1 S.2.1 dL_law_20 (by decide) ?_
  refine j_newaL (t0 := 7) (N' := 1) (ty := .double) (a0 := (1, .inr (.inr (.inr (.inl (fun _ => 0)))))) S (List.mem_cons_of_mem _ war_double) rfl hK hA hW hlen rfl (fun _ => rfl) (nI_pos (by omega)) (nI_clamp (by omega)) (by show 1 * 8 ≤ 536870912; omega) (Nat.le_of_ble_eq_true rfl) (Nat.le_of_ble_eq_true rfl) dL_law_21 (fun q_81 H w_ hU1 hN1 hlen hW => ?_)
  have hU := hU.then hU1 (by first | decide | (simp; done) | (simp; omega))
  have h0n3_ := hU1.get h0n3_ (by first | decide | (simp; done) | (simp; omega))
  have h1n4_ := hU1.get h1n4_ (by first | decide | (simp; done) | (simp; omega))
  have h2n5_ := hU1.get h2n5_ (by first | decide | (simp; done) | (simp; omega))
  have h3n6_ := hU1.get h3n6_ (by first | decide | (simp; done) | (simp; omega))
  have h4n7_ := hU1.get h4n7_ (by first | decide | (simp; done) | (simp; omega))
  have h5n8_ := hU1.get h5n8_ (by first | decide | (simp; done) | (simp; omega))
  have h6n9_ := hU1.get h6n9_ (by first | decide | (simp; done) | (simp; omega))
  have h7n10_ := hU1.get h7n10_ (by first | decide | (simp; done) | (simp; omega))
  have h8n11_ := hU1.get h8n11_ (by first | decide | (simp; done) | (simp; omega))
  have h9n12_ := hU1.get h9n12_ (by first | decide | (simp; done) | (simp; omega))
  have h10n13_ := hU1.get h10n13_ (by first | decide | (simp; done) | (simp; omega))
  have h11n14_ := hU1.get h11n14_ (by first | decide | (simp; done) | (simp; omega))
  have h12n15_ := hU1.get h12n15_ (by first | decide | (simp; done) | (simp; omega))
  have h13n16_ := hU1.get h13n16_ (by first | decide | (simp; done) | (simp; omega))
  have h14n17_ := hU1.get h14n17_ (by first | decide | (simp; done) | (simp; omega))
  have h15n18_ := hU1.get h15n18_ (by first | decide | (simp; done) | (simp; omega))
  have h16n19_ := hU1.get h16n19_ (by first | decide | (simp; done) | (simp; omega))
  have h17n20_ := hU1.get h17n20_ (by first | decide | (simp; done) | (simp; omega))
  have h18n21_ := hU1.get h18n21_ (by first | decide | (simp; done) | (simp; omega))
  have h19n22_ := hU1.get h19n22_ (by first | decide | (simp; done) | (simp; omega))
  have h20n23_ := hU1.get h20n23_ (by first | decide | (simp; done) | (simp; omega))
  have h21n24_ := hU1.get h21n24_ (by first | decide | (simp; done) | (simp; omega))
  have h22n25_ := hU1.get h22n25_ (by first | decide | (simp; done) | (simp; omega))
  have h23n26_ := hU1.get h23n26_ (by first | decide | (simp; done) | (simp; omega))
  have h24n27_ := hU1.get h24n27_ (by first | decide | (simp; done) | (simp; omega))
  have h25n28_ := hU1.get h25n28_ (by first | decide | (simp; done) | (simp; omega))
  have h26n29_ := hU1.get h26n29_ (by first | decide | (simp; done) | (simp; omega))
  have h27n30_ := hU1.get h27n30_ (by first | decide | (simp; done) | (simp; omega))
  have h28n31_ := hU1.get h28n31_ (by first | decide | (simp; done) | (simp; omega))
  have h29n32_ := hU1.get h29n32_ (by first | decide | (simp; done) | (simp; omega))
  have h30n33_ := hU1.get h30n33_ (by first | decide | (simp; done) | (simp; omega))
  have h31n34_ := hU1.get h31n34_ (by first | decide | (simp; done) | (simp; omega))
  have h32n35_ := hU1.get h32n35_ (by first | decide | (simp; done) | (simp; omega))
  have h33n36_ := hU1.get h33n36_ (by first | decide | (simp; done) | (simp; omega))
  have h34n37_ := hU1.get h34n37_ (by first | decide | (simp; done) | (simp; omega))
  have h35n38_ := hU1.get h35n38_ (by first | decide | (simp; done) | (simp; omega))
  have h36n39_ := hU1.get h36n39_ (by first | decide | (simp; done) | (simp; omega))
  have h37n40_ := hU1.get h37n40_ (by first | decide | (simp; done) | (simp; omega))
  have h38n41_ := hU1.get h38n41_ (by first | decide | (simp; done) | (simp; omega))
  have h39n42_ := hU1.get h39n42_ (by first | decide | (simp; done) | (simp; omega))
  have h40n43_ := hU1.get h40n43_ (by first | decide | (simp; done) | (simp; omega))
  have h41n44_ := hU1.get h41n44_ (by first | decide | (simp; done) | (simp; omega))
  have h42n45_ := hU1.get h42n45_ (by first | decide | (simp; done) | (simp; omega))
  have h43n46_ := hU1.get h43n46_ (by first | decide | (simp; done) | (simp; omega))
  have h44n47_ := hU1.get h44n47_ (by first | decide | (simp; done) | (simp; omega))
  have h45n48_ := hU1.get h45n48_ (by first | decide | (simp; done) | (simp; omega))
  have h46n49_ := hU1.get h46n49_ (by first | decide | (simp; done) | (simp; omega))
  have h47n50_ := hU1.get h47n50_ (by first | decide | (simp; done) | (simp; omega))
  have h48n51_ := hU1.get h48n51_ (by first | decide | (simp; done) | (simp; omega))
  have h49n52_ := hU1.get h49n52_ (by first | decide | (simp; done) | (simp; omega))
  have h50n53_ := hU1.get h50n53_ (by first | decide | (simp; done) | (simp; omega))
  have h51n54_ := hU1.get h51n54_ (by first | decide | (simp; done) | (simp; omega))
  have h52n55_ := hU1.get h52n55_ (by first | decide | (simp; done) | (simp; omega))
  have h53n56_ := hU1.get h53n56_ (by first | decide | (simp; done) | (simp; omega))
  have h54n57_ := hU1.get h54n57_ (by first | decide | (simp; done) | (simp; omega))
  have i55n60_ := hU1.get i55n60_ (by first | decide | (simp; done) | (simp; omega))
  have i56n61_ := hU1.get i56n61_ (by first | decide | (simp; done) | (simp; omega))
  have i57n62_ := hU1.get i57n62_ (by first | decide | (simp; done) | (simp; omega))
  have i58n63_ := hU1.get i58n63_ (by first | decide | (simp; done) | (simp; omega))
  have i59n64_ := hU1.get i59n64_ (by first | decide | (simp; done) | (simp; omega))
  have i60n65_ := hU1.get i60n65_ (by first | decide | (simp; done) | (simp; omega))
  have i61n66_ := hU1.get i61n66_ (by first | decide | (simp; done) | (simp; omega))
  have i62n67_ := hU1.get i62n67_ (by first | decide | (simp; done) | (simp; omega))
  have i63n68_ := hU1.get i63n68_ (by first | decide | (simp; done) | (simp; omega))
  have i64n69_ := hU1.get i64n69_ (by first | decide | (simp; done) | (simp; omega))
  have i65n70_ := hU1.get i65n70_ (by first | decide | (simp; done) | (simp; omega))
  have i66n71_ := hU1.get i66n71_ (by first | decide | (simp; done) | (simp; omega))
  have i67n72_ := hU1.get i67n72_ (by first | decide | (simp; done) | (simp; omega))
  have i68n73_ := hU1.get i68n73_ (by first | decide | (simp; done) | (simp; omega))
  have i69n74_ := hU1.get i69n74_ (by first | decide | (simp; done) | (simp; omega))
  have i70n75_ := hU1.get i70n75_ (by first | decide | (simp; done) | (simp; omega))
  have i71n76_ := hU1.get i71n76_ (by first | decide | (simp; done) | (simp; omega))
  have i72n77_ := hU1.get i72n77_ (by first | decide | (simp; done) | (simp; omega))
  have i73n78_ := hU1.get i73n78_ (by first | decide | (simp; done) | (simp; omega))
  have hR80_ := hU1.get hR80_ (by first | decide | (simp; done) | (simp; omega))
  have hR82_ : w_[75]? = some (q_81, .inl (cy 7, 1, .inr (.inr (.inr (.inl (fun _ => 0)))))) := hN1
  clear hU1 hN1
  refine lv_astore (lv' := [(4, .ref q_81), (3, .ref q_79), (2, .ref q_58), (1, .ref q_1), (0, .ref b)]) S.1 S.2.1 dL_law_23 hl (by decide) rfl (fun ls hl => ?_)
  refine lv_iconst (v := nI 0) S.1 S.2.1 dL_law_25 (by decide) ?_
  refine lv_istore (lv' := [(5, .int (nI 0)), (4, .ref q_81), (3, .ref q_79), (2, .ref q_58), (1, .ref q_1), (0, .ref b)]) S.1 S.2.1 dL_law_26 hl (by decide) rfl (fun ls hl => ?_)
  obtain ⟨ad, h1, h2, h3, h4⟩ : ∃ ad : Nat → Nat, (∀ j, j < 55 → ad j = adL al__4 j) ∧ (∀ j, 55 ≤ j → j < 74 → ad j = adM bl__12 j) ∧ ad 74 = q_79 ∧ ad 75 = q_81 := ⟨fun j => if j < 55 then adL al__4 j else if j < 74 then adM bl__12 j else if j = 74 then q_79 else q_81, fun j h => if_pos h, fun j h1 h2 => by show (if j < 55 then adL al__4 j else if j < 74 then adM bl__12 j else if j = 74 then q_79 else q_81) = adM bl__12 j; rw [if_neg (by omega), if_pos h2], rfl, rfl⟩
  have hCI : CI ad cy w_ 0 (fun _ => 0) (fun _ => 0) (fun _ => 0) 0 0 0 0 (fun _ => (0, 0, 0, 0, 0)) (upd (upd (upd (upd (fun _ => nI 0) 0 (-1)) 1 (-1)) 2 (-1)) 3 (-1)) (fun _ _ => false) := ⟨⟨false, -1, fun _ => false, (by rw [h1 0 (by decide), h1 1 (by decide), h1 3 (by decide), h1 5 (by decide), h1 7 (by decide), h1 9 (by decide), h1 11 (by decide), h1 20 (by decide), h1 23 (by decide), h1 26 (by decide), h1 31 (by decide), h1 42 (by decide)]; exact h0n3_), (by rw [h1 20 (by decide), h1 21 (by decide)]; exact h20n23_), (by rw [h1 21 (by decide), h1 22 (by decide)]; exact h21n24_), (by rw [h1 22 (by decide), wd0]; exact h22n25_), fun h => by cases h⟩,
    ⟨upB (fun _ => 0) 0 1, (by rw [h1 1 (by decide), h1 2 (by decide)]; exact h1n4_), (by rw [h1 2 (by decide)]; exact h2n5_), (by rw [h1 3 (by decide), h1 4 (by decide)]; exact h3n6_), (by rw [h1 4 (by decide)]; exact h4n7_), (by rw [h1 5 (by decide), h1 6 (by decide)]; exact h5n8_), (by rw [h1 6 (by decide)]; exact h6n9_), fun _ => Nat.zero_le _, fun _ => Nat.zero_le _, fun j => by unfold upB; split; exact Nat.le_of_ble_eq_true rfl; exact Nat.zero_le _, fun a ha => by rw [show a = 0 by omega, upB_same]; rfl⟩,
    ⟨(by rw [h1 7 (by decide), h1 8 (by decide)]; exact h7n10_), (by rw [h1 8 (by decide)]; exact h8n11_)⟩,
    ⟨fun _ => none, fun _ => 0, fun _ => 0, (by rw [h1 9 (by decide), h1 10 (by decide)]; exact h9n12_), (by rw [h1 10 (by decide)]; exact h10n13_), by decide, fun c h => absurd h (by omega), fun c _ => rfl, fun c h => absurd h (by omega)⟩,
    ⟨fun _ => 0, fun _ => 0, fun _ => 0, fun _ => 0, (by rw [h1 11 (by decide), h1 12 (by decide), h1 14 (by decide), h1 16 (by decide), h1 18 (by decide)]; exact h11n14_), (by rw [h1 12 (by decide), h1 13 (by decide)]; exact h12n15_), (by rw [h1 13 (by decide)]; exact h13n16_), (by rw [h1 14 (by decide), h1 15 (by decide)]; exact h14n17_), (by rw [h1 15 (by decide)]; exact h15n18_), (by rw [h1 16 (by decide), h1 17 (by decide)]; exact h16n19_), (by rw [h1 17 (by decide)]; exact h17n20_), (by rw [h1 18 (by decide), h1 19 (by decide)]; exact h18n21_), (by rw [h1 19 (by decide)]; exact h19n22_), fun v => ⟨Nat.le_of_ble_eq_true rfl, Nat.le_of_ble_eq_true rfl, Nat.le_of_ble_eq_true rfl, fun h => absurd rfl h⟩⟩,
    ⟨-1, fun _ => false, (by rw [h1 23 (by decide), h1 24 (by decide)]; exact h23n26_), (by rw [h1 24 (by decide), h1 25 (by decide)]; exact h24n27_), (by rw [h1 25 (by decide), wd0]; exact h25n28_)⟩,
    ⟨0, fun _ => 0, fun _ => 0, (by rw [h1 26 (by decide), h1 27 (by decide), h1 29 (by decide)]; exact h26n29_), (by rw [h1 27 (by decide), h1 28 (by decide)]; exact h27n30_), (by rw [h1 28 (by decide)]; exact h28n31_), (by rw [h1 29 (by decide), h1 30 (by decide)]; exact h29n32_), (by rw [h1 30 (by decide)]; exact h30n33_), fun _ => Nat.le_of_ble_eq_true rfl⟩,
    ⟨0, fun _ => 0, fun _ => 0, fun _ => 0, fun _ => 0, fun _ => 0, (by rw [h1 31 (by decide), h1 32 (by decide), h1 34 (by decide), h1 36 (by decide), h1 38 (by decide), h1 40 (by decide)]; exact h31n34_), (by rw [h1 32 (by decide), h1 33 (by decide)]; exact h32n35_), (by rw [h1 33 (by decide)]; exact h33n36_), (by rw [h1 34 (by decide), h1 35 (by decide)]; exact h34n37_), (by rw [h1 35 (by decide)]; exact h35n38_), (by rw [h1 36 (by decide), h1 37 (by decide)]; exact h36n39_), (by rw [h1 37 (by decide)]; exact h37n40_), (by rw [h1 38 (by decide), h1 39 (by decide)]; exact h38n41_), (by rw [h1 39 (by decide)]; exact h39n42_), (by rw [h1 40 (by decide), h1 41 (by decide)]; exact h40n43_), (by rw [h1 41 (by decide)]; exact h41n44_), fun _ => Nat.le_of_ble_eq_true rfl, fun _ => Nat.le_of_ble_eq_true rfl⟩,
    ⟨by rw [h1 42 (by decide), slF_congr (g := adL al__4) h1]; exact h42n45_, fun j hj => by
      rcases (show j = 0 ∨ j = 1 ∨ j = 2 ∨ j = 3 by omega) with rfl | rfl | rfl | rfl
      · exact ⟨(by rw [h1 43 (by decide), h1 44 (by decide)]; exact h43n46_), (by rw [h1 44 (by decide), h1 45 (by decide)]; exact h44n47_), (by rw [h1 45 (by decide), wd0]; exact h45n48_)⟩
      · exact ⟨(by rw [h1 46 (by decide), h1 47 (by decide)]; exact h46n49_), (by rw [h1 47 (by decide), h1 48 (by decide)]; exact h47n50_), (by rw [h1 48 (by decide), wd0]; exact h48n51_)⟩
      · exact ⟨(by rw [h1 49 (by decide), h1 50 (by decide)]; exact h49n52_), (by rw [h1 50 (by decide), h1 51 (by decide)]; exact h50n53_), (by rw [h1 51 (by decide), wd0]; exact h51n54_)⟩
      · exact ⟨(by rw [h1 52 (by decide), h1 53 (by decide)]; exact h52n55_), (by rw [h1 53 (by decide), h1 54 (by decide)]; exact h53n56_), (by rw [h1 54 (by decide), wd0]; exact h54n57_)⟩
    ⟩⟩
  have hRI : RI ad cy w_ 0 0 (fun _ => 0) (fun _ => 0) (fun _ => 0) 0 0 0 0 (fun _ => (0, 0, 0, 0, 0)) (upd (upd (upd (upd (fun _ => nI 0) 0 (-1)) 1 (-1)) 2 (-1)) 3 (-1)) (fun _ _ => false) := ⟨fun _ _ => false, fun _ => false, fun _ => false, (by rw [h2 55 (by decide) (by decide), h2 56 (by decide) (by decide), h2 57 (by decide) (by decide), h2 58 (by decide) (by decide), h2 59 (by decide) (by decide), h2 60 (by decide) (by decide), h2 61 (by decide) (by decide), h2 62 (by decide) (by decide), h2 63 (by decide) (by decide), h2 64 (by decide) (by decide), h2 65 (by decide) (by decide), h2 66 (by decide) (by decide), h2 71 (by decide) (by decide), h2 72 (by decide) (by decide), h2 73 (by decide) (by decide)]; exact i55n60_), (by rw [h2 56 (by decide) (by decide)]; exact i56n61_), (by rw [h2 57 (by decide) (by decide)]; exact i57n62_), (by rw [h2 58 (by decide) (by decide), evA0]; exact i58n63_), (by rw [h2 59 (by decide) (by decide)]; exact i59n64_), (by rw [h2 60 (by decide) (by decide)]; exact i60n65_), (by rw [h2 61 (by decide) (by decide)]; exact i61n66_), (by rw [h2 62 (by decide) (by decide)]; exact i62n67_), (by rw [h2 63 (by decide) (by decide)]; exact i63n68_), (by rw [h2 64 (by decide) (by decide)]; exact i64n69_), (by rw [h2 65 (by decide) (by decide), dpB0]; exact i65n70_), by rw [h2 66 (by decide) (by decide), kpF_congr (g := adM bl__12) h2]; exact i66n71_, (by rw [h2 71 (by decide) (by decide)]; exact i71n76_), (by rw [h2 72 (by decide) (by decide)]; exact i72n77_), (by rw [h2 73 (by decide) (by decide)]; exact i73n78_), fun j hj => by rcases (show j = 0 ∨ j = 1 ∨ j = 2 ∨ j = 3 by omega) with rfl | rfl | rfl | rfl; exact (by rw [h2 67 (by decide) (by decide)]; exact i67n72_); exact (by rw [h2 68 (by decide) (by decide)]; exact i68n73_); exact (by rw [h2 69 (by decide) (by decide)]; exact i69n74_); exact (by rw [h2 70 (by decide) (by decide)]; exact i70n75_), fun j hj h => absurd (show (upd (upd (upd (upd (fun _ => nI 0) 0 (-1)) 1 (-1)) 2 (-1)) 3 (-1)) j = -1 by rcases (show j = 0 ∨ j = 1 ∨ j = 2 ∨ j = 3 by omega) with rfl | rfl | rfl | rfl <;> rfl) h⟩
  have hPI : PI 0 (fun _ => 0) (fun _ => 0) (fun _ => 0) 0 0 0 0 (fun _ => (0, 0, 0, 0, 0)) (upd (upd (upd (upd (fun _ => nI 0) 0 (-1)) 1 (-1)) 2 (-1)) 3 (-1)) (fun _ _ => false) := ⟨by decide, by decide, rfl, by decide, by decide, fun j h => absurd h (by omega), fun j hj => Or.inl (by rcases (show j = 0 ∨ j = 1 ∨ j = 2 ∨ j = 3 by omega) with rfl | rfl | rfl | rfl <;> rfl), fun _ => Nat.le_of_ble_eq_true rfl, fun j h => absurd h (by omega), fun i j h => absurd h (by omega)⟩
  have hI : INV ad cy w_ := ⟨_, _, _, _, _, _, _, _, _, _, _, _, _, _, hPI, hCI, hRI, by rw [h3]; exact hR80_, by rw [h4]; exact hR82_⟩
  have hl : lv_has ls 10 [(0, .ref b), (1, .ref (ad 0)), (2, .ref (ad 55)), (3, .ref (ad 74)), (4, .ref (ad 75)), (5, .int (nI (5 * 0)))] := by rw [h1 0 (by decide), h2 55 (by decide) (by decide), h3, h4, hp4_1, hp12_1]; exact lv_sub hl [5, 4, 3, 2, 1, 0] rfl
  refine W.eq (g2 := F0 m 28 ls []) rfl ?_
  refine law_loop (c0 := 76) (s0 := 9501) (x0 := Cond.initialized RL) htr ⟨S, hK, hA, hX, hbl, hbA, hx, hnx⟩ hL (by decide) (by decide) (fun w H locs ls t ht hW => ?_) 513 0 rfl (by decide) (by omega) w_ H locs ls hI hW hl
  refine lv_iconst (v := 1) S.1 S.2.1 dL_law_2388 (by decide) ?_
  exact W.widen (by omega) (by omega) (va_forget (fun q hq => hA2 _ (hW.2.2.2.2 q hq)) (W.base (lw_ret (d0 := s.drawn) (Drawn.sameBut.refl s.drawn lw_cs) hexec hcode hret hlocks dL_law_2389)))
