/-! THE REFERENCE: its constructor (laid by wip/whole/tools, from the specs there) -/
/-! THE REFERENCE: its constructor -/
/-- addresses as a list, from the reference's place on -/
def adM (l : List Nat) : Nat → Nat := fun j => l.getD (j - 55) 0
section JMNA
variable {p : Program} {l : Launch} {e : Env} {R : Room} {s : State} {m : MethodId} {args : Array Value} {below : List Frame} {meth : Method} {c : Code} {H : Heap} {locs : List Loc} {cells slots : Nat} {Q : State → Prop}
variable {cc : ByteArray} {pc : Nat} {ls : Array Slot} {rest st : List Value} {D : va_G} {cy : Nat → ClassId} {A : Nat → Prop} {H0 : Heap} {w : va_W} {Ts : List Cond} {nL : Nat} {own : String}
theorem jcls {cX : ClassId} {ty : FieldType} (hx : va_RA s cX ty) : s.vm.findClass ("[" ++ ty.toString) = some cX := by
  unfold va_RA at hx
  split at hx
  · obtain ⟨kA, comp, -, -, -, h4⟩ := hx
    exact h4
  · exact hx
theorem j_mnaL {n0 index : Nat} (S : CallFix p m c cc nL s args Ts own) (hcl : Cond.classLink own index "[[Z" ∈ Ts) (harr : Cond.arrayClass .boolean ∈ Ts)
    (hK : jK D cy s) (hA : ∀ q, H0.size ≤ q → A q) (hW : jW D A H0 w H locs) (hlen : w.length = n0) (hcells : cells + 5 ≤ R.cells) (hslots : slots + 4100 ≤ R.slots) (hdg : decode cc pc = .ok (.multianewarray index 2, 4))
    (kk : ∀ (q : Nat) (r : Nat → Nat) (H1 : Heap) (w1 : va_W), jU w w1 [] → w1[n0]? = some (q, .inl (cy 6, 4, .inr (.inr (.inr (.inr (fun i => if i < 4 then some (r i) else none)))))) → (∀ j, j < 4 → w1[n0 + 1 + j]? = some (r j, .inl (cy 3, 1024, .inl (fun _ => nI 0)))) → w1.length = n0 + 5 → jW D A H0 w1 H1 locs → W p l e R s m args below meth c H1 locs (cells + 5) (slots + 4100) Q (F0 m (pc + 4) ls (.ref q :: rest))) : W p l e R s m args below meth c H locs cells slots Q (F0 m pc ls (.int (nI 1024) :: .int (nI 4) :: rest)) := by
  have h0 : w ++ va_pl [] (fun _ => (.inl (cy 3, 1024, .inl (fun _ => nI 0)) : va_E)) = w := List.append_nil w
  refine va_mna (X := w) (L := []) (f := fun _ => (.inl (cy 3, 1024, .inl (fun _ => nI 0)) : va_E)) (ty := .boolean) (cy := cy 3) (N' := 4) (K' := 1024) (z := (1024, .inl (fun _ => nI 0))) S.1 S.2.1 S.2.2.2.1 (S.2.2.2.2 _ hcl) hK.2.2.2.2.2.2 (S.2.2.2.2 _ harr) (jcls (hK.1.2 3 _ rfl).2) hK.1 (by rw [h0]; exact hW.1) (by rw [h0]; exact hW.2.1) hW.2.2 hA (nI_pos (by omega)) (nI_pos (by omega)) (nI_clamp (by omega)) (nI_clamp (by omega)) (by decide) (by show 1024 * 1 ≤ 536870912; omega) (by omega) rfl rfl (by omega) (by omega) (fun c => by
    show ({ cls := c, slots := Array.replicate 1024 (.int (nI 0)), vm := .none } : Cell) = arrV c 1024 (fun _ => .int (nI 0))
    rw [← arrV_new ..]) hdg (fun q r cA H1 _ _ hK2 hP hD hS => ?_)
  have e := jcy hK.1 (k := 6) rfl hK2
  subst e
  have e1 : va_pl ([] ++ (List.range 4).map r) (vr_up (fun _ => (.inl (cy 3, 1024, .inl (fun _ => nI 0)) : va_E)) ((List.range 4).map r) (.inl (cy 3, (1024, .inl (fun _ => nI 0))))) = [(r 0, .inl (cy 3, 1024, .inl (fun _ => nI 0))), (r 1, .inl (cy 3, 1024, .inl (fun _ => nI 0))), (r 2, .inl (cy 3, 1024, .inl (fun _ => nI 0))), (r 3, .inl (cy 3, 1024, .inl (fun _ => nI 0)))] := by
    have e2 : vr_up (fun _ => (.inl (cy 3, 1024, .inl (fun _ => nI 0)) : va_E)) ((List.range 4).map r) (.inl (cy 3, (1024, .inl (fun _ => nI 0)))) = fun _ => (.inl (cy 3, 1024, .inl (fun _ => nI 0)) : va_E) := by
      funext a; unfold vr_up; split <;> rfl
    rw [e2]; rfl
  rw [e1] at hP hD
  subst hlen
  refine kk q r H1 _ (fun j x _ hx => ?_) ?_ ?_ ?_ ⟨hP, hD, hS⟩
  · have hj : j < w.length := (List.getElem?_eq_some_iff.mp hx).1
    rw [List.append_assoc, List.getElem?_append_left hj]; exact hx
  · rw [List.append_assoc, List.getElem?_append_right (Nat.le_refl _), Nat.sub_self]; rfl
  · intro j hj
    rw [List.append_assoc, List.getElem?_append_right (by omega), show w.length + 1 + j - w.length = j + 1 by omega]
    rcases (show j = 0 ∨ j = 1 ∨ j = 2 ∨ j = 3 by omega) with rfl | rfl | rfl | rfl <;> rfl
  · simp only [List.length_append, List.length_cons, List.length_nil]
theorem j_iastL {n0 : Nat} (S : CallFix p m c cc nL s args Ts own) (hK : jK D cy s) (hW : jW D A H0 w H locs) (hlen : w.length = n0) {q0 a : Nat} {n : Nat} {f : Nat → Int32} (ha : w[q0]? = some (a, .inl (cy 0, n, .inl f))) {i x : Int32} {j : Nat} (hi : vp_in i n) (hj : i.toNatClampNeg = j) (hdg : decode cc pc = .ok (.iastore, 1))
    (kk : ∀ (H1 : Heap) (locs1 : List Loc) (w1 : va_W), jU w w1 [q0] → w1[q0]? = some (a, .inl (cy 0, n, .inl (upd f j x))) → w1.length = n0 → jW D A H0 w1 H1 locs1 → W p l e R s m args below meth c H1 locs1 cells slots Q (F0 m (pc + 1) ls rest)) : W p l e R s m args below meth c H locs cells slots Q (F0 m pc ls (.int x :: .int i :: .ref a :: rest)) := by
  subst hj
  exact va_iast S.1 S.2.1 hK.1 hW.1 hW.2.1 hW.2.2 q0 0 ha rfl hi hdg (fun H1 locs1 h1 h2 h3 => kk H1 locs1 _ jU.set (jset ha) (by rw [List.length_set]; exact hlen) ⟨h1, h2, h3⟩)
end JMNA
set_option maxHeartbeats 4000000 in
/-- CountfallModel() -/
theorem c_X12_init (l : Launch) (D : va_G) (cy : Nat → ClassId) {w : va_W} (h : Nat) (hO : w[55]? = some (h, .inr (11, [.int (nI 0), .null, .null, .null, .null, .null, .null, .null, .null, .null, .null, .int (nI 0), .int (nI 0), .null, .null, .null, .null]))) (hlen : w.length = 56) : jM l yX12_init (jws yX12_init cX12_init 2 none) (jR 6 18 6312) D cy w [.ref h] 18 6312 (fun vv uu => ∃ (bl_ : List Nat), vv = none ∧ uu.length = 74 ∧ adM bl_ 55 = h ∧ jU w uu [55] ∧ uu[55]? = some ((adM bl_ 55), .inr (11, [.int (nI 0), .ref (adM bl_ 56), .ref (adM bl_ 57), .ref (adM bl_ 58), .ref (adM bl_ 59), .ref (adM bl_ 60), .ref (adM bl_ 61), .ref (adM bl_ 62), .ref (adM bl_ 63), .ref (adM bl_ 64), .ref (adM bl_ 65), .int (nI 0), .int (nI 0), .ref (adM bl_ 66), .ref (adM bl_ 71), .ref (adM bl_ 72), .ref (adM bl_ 73)])) ∧ uu[56]? = some ((adM bl_ 56), .inl (cy 0, 10, .inl (fun _ => nI 0))) ∧ uu[57]? = some ((adM bl_ 57), .inl (cy 0, 10, .inl (fun _ => nI 0))) ∧ uu[58]? = some ((adM bl_ 58), .inl (cy 0, 10, .inl (fun _ => nI 0))) ∧ uu[59]? = some ((adM bl_ 59), .inl (cy 0, 10, .inl (fun _ => nI 0))) ∧ uu[60]? = some ((adM bl_ 60), .inl (cy 2, 20, .inl (fun _ => nI 0))) ∧ uu[61]? = some ((adM bl_ 61), .inl (cy 0, 20, .inl (fun _ => nI 0))) ∧ uu[62]? = some ((adM bl_ 62), .inl (cy 0, 20, .inl (fun _ => nI 0))) ∧ uu[63]? = some ((adM bl_ 63), .inl (cy 0, 20, .inl (fun _ => nI 0))) ∧ uu[64]? = some ((adM bl_ 64), .inl (cy 0, 20, .inl (fun _ => nI 0))) ∧ uu[65]? = some ((adM bl_ 65), .inl (cy 3, 20, .inl (fun _ => nI 0))) ∧ uu[66]? = some ((adM bl_ 66), .inl (cy 6, 4, .inr (.inr (.inr (.inr (kpF (adM bl_))))))) ∧ uu[67]? = some ((adM bl_ 67), .inl (cy 3, 1024, .inl (fun _ => nI 0))) ∧ uu[68]? = some ((adM bl_ 68), .inl (cy 3, 1024, .inl (fun _ => nI 0))) ∧ uu[69]? = some ((adM bl_ 69), .inl (cy 3, 1024, .inl (fun _ => nI 0))) ∧ uu[70]? = some ((adM bl_ 70), .inl (cy 3, 1024, .inl (fun _ => nI 0))) ∧ uu[71]? = some ((adM bl_ 71), .inl (cy 0, 4, .inl (upd (upd (upd (upd (fun _ => nI 0) 0 (-1)) 1 (-1)) 2 (-1)) 3 (-1)))) ∧ uu[72]? = some ((adM bl_ 72), .inl (cy 3, 1024, .inl (fun _ => nI 0))) ∧ uu[73]? = some ((adM bl_ 73), .inl (cy 3, 1024, .inl (fun _ => nI 0)))) := by
  have hlen0 := hlen
  refine j_of (by decide) rfl (Nat.le_of_ble_eq_true rfl) ?_
  intro p e s m args below meth c A ls Q hQ S hr hK hA H locs hW hl
  have hl : lv_has ls 2 [(0, .ref h)] := hl
  refine lv_aload_n S.1 S.2.1 dX12_init_0 rfl (lv_at hl 0 rfl) ?_
  refine W.objInit S.1 S.2.1 S.2.2.2.1 (S.2.2.2.2 _ (List.mem_cons_of_mem _ woi_X12)) (S.2.2.2.2 _ (List.mem_cons_of_mem _ woi_i)) (S.2.2.2.2 _ (List.mem_cons_of_mem _ woi_c)) rfl (by rw [S.2.2.1]; exact hl.1) rfl dX12_init_1 (Nat.le_of_ble_eq_true rfl) (Nat.le_of_ble_eq_true rfl) ?_
  refine W.eq (g2 := F0 m 4 ls []) rfl ?_
  refine lv_aload_n S.1 S.2.1 dX12_init_4 rfl (lv_at hl 0 rfl) ?_
  refine lv_bipush (v := nI 10) S.1 S.2.1 dX12_init_5 (by decide) ?_
  refine j_newaL (t0 := 0) (N' := 10) (ty := .int) (a0 := (10, .inl (fun _ => nI 0))) S (List.mem_cons_of_mem _ war_int) rfl hK hA hW hlen rfl (fun _ => rfl) (nI_pos (by omega)) (nI_clamp (by omega)) (by show 10 * 4 ≤ 536870912; omega) (Nat.le_of_ble_eq_true rfl) (Nat.le_of_ble_eq_true rfl) dX12_init_7 (fun q_1 H w_ hU1 hN1 hlen hW => ?_)
  have hU : jU w w_ [55, 56, 57, 58, 59, 60, 61, 62, 63, 64, 65, 66, 67, 68, 69, 70, 71, 72, 73] := jU.mono hU1 (by decide)
  have hO_ := hU1.get hO (by decide)
  have hR2_ : w_[56]? = some (q_1, .inl (cy 0, 10, .inl (fun _ => nI 0))) := hN1
  clear hU1 hN1
  refine j_putFL (ci := 11) (C := RX12) (T := TX12) (N := 17) (ty := .array .int) S (fun w h => List.mem_cons_of_mem _ (inG12 w h)) tyX12 tyX12_ok nmX12 hK hW hlen hO_ rfl 1 (by decide) (List.mem_cons_of_mem _ wfl_X12_17) (fun _ h9 => h9) rfl hr.2.2 rfl (by decide +kernel) (rfl) (rfl) (Nat.le_of_ble_eq_true rfl) dX12_init_9 (fun H locs w_ hU1 hN1 hlen hW => ?_)
  have hU := hU.then hU1 (by decide)
  have hR2_ := hU1.get hR2_ (by decide)
  have hO_ : w_[55]? = some (h, .inr (11, [.int (nI 0), .ref q_1, .null, .null, .null, .null, .null, .null, .null, .null, .null, .int (nI 0), .int (nI 0), .null, .null, .null, .null])) := hN1
  clear hU1 hN1
  refine lv_aload_n S.1 S.2.1 dX12_init_12 rfl (lv_at hl 0 rfl) ?_
  refine lv_bipush (v := nI 10) S.1 S.2.1 dX12_init_13 (by decide) ?_
  refine j_newaL (t0 := 0) (N' := 10) (ty := .int) (a0 := (10, .inl (fun _ => nI 0))) S (List.mem_cons_of_mem _ war_int) rfl hK hA hW hlen rfl (fun _ => rfl) (nI_pos (by omega)) (nI_clamp (by omega)) (by show 10 * 4 ≤ 536870912; omega) (Nat.le_of_ble_eq_true rfl) (Nat.le_of_ble_eq_true rfl) dX12_init_15 (fun q_3 H w_ hU1 hN1 hlen hW => ?_)
  have hU := hU.then hU1 (by decide)
  have hO_ := hU1.get hO_ (by decide)
  have hR2_ := hU1.get hR2_ (by decide)
  have hR4_ : w_[57]? = some (q_3, .inl (cy 0, 10, .inl (fun _ => nI 0))) := hN1
  clear hU1 hN1
  refine j_putFL (ci := 11) (C := RX12) (T := TX12) (N := 17) (ty := .array .int) S (fun w h => List.mem_cons_of_mem _ (inG12 w h)) tyX12 tyX12_ok nmX12 hK hW hlen hO_ rfl 2 (by decide) (List.mem_cons_of_mem _ wfl_X12_21) (fun _ h9 => h9) rfl hr.2.2 rfl (by decide +kernel) (rfl) (rfl) (Nat.le_of_ble_eq_true rfl) dX12_init_17 (fun H locs w_ hU1 hN1 hlen hW => ?_)
  have hU := hU.then hU1 (by decide)
  have hR2_ := hU1.get hR2_ (by decide)
  have hR4_ := hU1.get hR4_ (by decide)
  have hO_ : w_[55]? = some (h, .inr (11, [.int (nI 0), .ref q_1, .ref q_3, .null, .null, .null, .null, .null, .null, .null, .null, .int (nI 0), .int (nI 0), .null, .null, .null, .null])) := hN1
  clear hU1 hN1
  refine lv_aload_n S.1 S.2.1 dX12_init_20 rfl (lv_at hl 0 rfl) ?_
  refine lv_bipush (v := nI 10) S.1 S.2.1 dX12_init_21 (by decide) ?_
  refine j_newaL (t0 := 0) (N' := 10) (ty := .int) (a0 := (10, .inl (fun _ => nI 0))) S (List.mem_cons_of_mem _ war_int) rfl hK hA hW hlen rfl (fun _ => rfl) (nI_pos (by omega)) (nI_clamp (by omega)) (by show 10 * 4 ≤ 536870912; omega) (Nat.le_of_ble_eq_true rfl) (Nat.le_of_ble_eq_true rfl) dX12_init_23 (fun q_5 H w_ hU1 hN1 hlen hW => ?_)
  have hU := hU.then hU1 (by decide)
  have hO_ := hU1.get hO_ (by decide)
  have hR2_ := hU1.get hR2_ (by decide)
  have hR4_ := hU1.get hR4_ (by decide)
  have hR6_ : w_[58]? = some (q_5, .inl (cy 0, 10, .inl (fun _ => nI 0))) := hN1
  clear hU1 hN1
  refine j_putFL (ci := 11) (C := RX12) (T := TX12) (N := 17) (ty := .array .int) S (fun w h => List.mem_cons_of_mem _ (inG12 w h)) tyX12 tyX12_ok nmX12 hK hW hlen hO_ rfl 3 (by decide) (List.mem_cons_of_mem _ wfl_X12_24) (fun _ h9 => h9) rfl hr.2.2 rfl (by decide +kernel) (rfl) (rfl) (Nat.le_of_ble_eq_true rfl) dX12_init_25 (fun H locs w_ hU1 hN1 hlen hW => ?_)
  have hU := hU.then hU1 (by decide)
  have hR2_ := hU1.get hR2_ (by decide)
  have hR4_ := hU1.get hR4_ (by decide)
  have hR6_ := hU1.get hR6_ (by decide)
  have hO_ : w_[55]? = some (h, .inr (11, [.int (nI 0), .ref q_1, .ref q_3, .ref q_5, .null, .null, .null, .null, .null, .null, .null, .int (nI 0), .int (nI 0), .null, .null, .null, .null])) := hN1
  clear hU1 hN1
  refine lv_aload_n S.1 S.2.1 dX12_init_28 rfl (lv_at hl 0 rfl) ?_
  refine lv_bipush (v := nI 10) S.1 S.2.1 dX12_init_29 (by decide) ?_
  refine j_newaL (t0 := 0) (N' := 10) (ty := .int) (a0 := (10, .inl (fun _ => nI 0))) S (List.mem_cons_of_mem _ war_int) rfl hK hA hW hlen rfl (fun _ => rfl) (nI_pos (by omega)) (nI_clamp (by omega)) (by show 10 * 4 ≤ 536870912; omega) (Nat.le_of_ble_eq_true rfl) (Nat.le_of_ble_eq_true rfl) dX12_init_31 (fun q_7 H w_ hU1 hN1 hlen hW => ?_)
  have hU := hU.then hU1 (by decide)
  have hO_ := hU1.get hO_ (by decide)
  have hR2_ := hU1.get hR2_ (by decide)
  have hR4_ := hU1.get hR4_ (by decide)
  have hR6_ := hU1.get hR6_ (by decide)
  have hR8_ : w_[59]? = some (q_7, .inl (cy 0, 10, .inl (fun _ => nI 0))) := hN1
  clear hU1 hN1
  refine j_putFL (ci := 11) (C := RX12) (T := TX12) (N := 17) (ty := .array .int) S (fun w h => List.mem_cons_of_mem _ (inG12 w h)) tyX12 tyX12_ok nmX12 hK hW hlen hO_ rfl 4 (by decide) (List.mem_cons_of_mem _ wfl_X12_27) (fun _ h9 => h9) rfl hr.2.2 rfl (by decide +kernel) (rfl) (rfl) (Nat.le_of_ble_eq_true rfl) dX12_init_33 (fun H locs w_ hU1 hN1 hlen hW => ?_)
  have hU := hU.then hU1 (by decide)
  have hR2_ := hU1.get hR2_ (by decide)
  have hR4_ := hU1.get hR4_ (by decide)
  have hR6_ := hU1.get hR6_ (by decide)
  have hR8_ := hU1.get hR8_ (by decide)
  have hO_ : w_[55]? = some (h, .inr (11, [.int (nI 0), .ref q_1, .ref q_3, .ref q_5, .ref q_7, .null, .null, .null, .null, .null, .null, .int (nI 0), .int (nI 0), .null, .null, .null, .null])) := hN1
  clear hU1 hN1
  refine lv_aload_n S.1 S.2.1 dX12_init_36 rfl (lv_at hl 0 rfl) ?_
  refine lv_bipush (v := nI 20) S.1 S.2.1 dX12_init_37 (by decide) ?_
  refine j_newaL (t0 := 2) (N' := 20) (ty := .char) (a0 := (20, .inl (fun _ => nI 0))) S (List.mem_cons_of_mem _ war_char) rfl hK hA hW hlen rfl (fun _ => rfl) (nI_pos (by omega)) (nI_clamp (by omega)) (by show 20 * 2 ≤ 536870912; omega) (Nat.le_of_ble_eq_true rfl) (Nat.le_of_ble_eq_true rfl) dX12_init_39 (fun q_9 H w_ hU1 hN1 hlen hW => ?_)
  have hU := hU.then hU1 (by decide)
  have hO_ := hU1.get hO_ (by decide)
  have hR2_ := hU1.get hR2_ (by decide)
  have hR4_ := hU1.get hR4_ (by decide)
  have hR6_ := hU1.get hR6_ (by decide)
  have hR8_ := hU1.get hR8_ (by decide)
  have hR10_ : w_[60]? = some (q_9, .inl (cy 2, 20, .inl (fun _ => nI 0))) := hN1
  clear hU1 hN1
  refine j_putFL (ci := 11) (C := RX12) (T := TX12) (N := 17) (ty := .array .char) S (fun w h => List.mem_cons_of_mem _ (inG12 w h)) tyX12 tyX12_ok nmX12 hK hW hlen hO_ rfl 5 (by decide) (List.mem_cons_of_mem _ wfl_X12_30) (fun _ h9 => h9) rfl hr.2.2 rfl (by decide +kernel) (rfl) (rfl) (Nat.le_of_ble_eq_true rfl) dX12_init_41 (fun H locs w_ hU1 hN1 hlen hW => ?_)
  have hU := hU.then hU1 (by decide)
  have hR2_ := hU1.get hR2_ (by decide)
  have hR4_ := hU1.get hR4_ (by decide)
  have hR6_ := hU1.get hR6_ (by decide)
  have hR8_ := hU1.get hR8_ (by decide)
  have hR10_ := hU1.get hR10_ (by decide)
  have hO_ : w_[55]? = some (h, .inr (11, [.int (nI 0), .ref q_1, .ref q_3, .ref q_5, .ref q_7, .ref q_9, .null, .null, .null, .null, .null, .int (nI 0), .int (nI 0), .null, .null, .null, .null])) := hN1
  clear hU1 hN1
  refine lv_aload_n S.1 S.2.1 dX12_init_44 rfl (lv_at hl 0 rfl) ?_
  refine lv_bipush (v := nI 20) S.1 S.2.1 dX12_init_45 (by decide) ?_
  refine j_newaL (t0 := 0) (N' := 20) (ty := .int) (a0 := (20, .inl (fun _ => nI 0))) S (List.mem_cons_of_mem _ war_int) rfl hK hA hW hlen rfl (fun _ => rfl) (nI_pos (by omega)) (nI_clamp (by omega)) (by show 20 * 4 ≤ 536870912; omega) (Nat.le_of_ble_eq_true rfl) (Nat.le_of_ble_eq_true rfl) dX12_init_47 (fun q_11 H w_ hU1 hN1 hlen hW => ?_)
  have hU := hU.then hU1 (by decide)
  have hO_ := hU1.get hO_ (by decide)
  have hR2_ := hU1.get hR2_ (by decide)
  have hR4_ := hU1.get hR4_ (by decide)
  have hR6_ := hU1.get hR6_ (by decide)
  have hR8_ := hU1.get hR8_ (by decide)
  have hR10_ := hU1.get hR10_ (by decide)
  have hR12_ : w_[61]? = some (q_11, .inl (cy 0, 20, .inl (fun _ => nI 0))) := hN1
  clear hU1 hN1
  refine j_putFL (ci := 11) (C := RX12) (T := TX12) (N := 17) (ty := .array .int) S (fun w h => List.mem_cons_of_mem _ (inG12 w h)) tyX12 tyX12_ok nmX12 hK hW hlen hO_ rfl 6 (by decide) (List.mem_cons_of_mem _ wfl_X12_34) (fun _ h9 => h9) rfl hr.2.2 rfl (by decide +kernel) (rfl) (rfl) (Nat.le_of_ble_eq_true rfl) dX12_init_49 (fun H locs w_ hU1 hN1 hlen hW => ?_)
  have hU := hU.then hU1 (by decide)
  have hR2_ := hU1.get hR2_ (by decide)
  have hR4_ := hU1.get hR4_ (by decide)
  have hR6_ := hU1.get hR6_ (by decide)
  have hR8_ := hU1.get hR8_ (by decide)
  have hR10_ := hU1.get hR10_ (by decide)
  have hR12_ := hU1.get hR12_ (by decide)
  have hO_ : w_[55]? = some (h, .inr (11, [.int (nI 0), .ref q_1, .ref q_3, .ref q_5, .ref q_7, .ref q_9, .ref q_11, .null, .null, .null, .null, .int (nI 0), .int (nI 0), .null, .null, .null, .null])) := hN1
  clear hU1 hN1
  refine lv_aload_n S.1 S.2.1 dX12_init_52 rfl (lv_at hl 0 rfl) ?_
  refine lv_bipush (v := nI 20) S.1 S.2.1 dX12_init_53 (by decide) ?_
  refine j_newaL (t0 := 0) (N' := 20) (ty := .int) (a0 := (20, .inl (fun _ => nI 0))) S (List.mem_cons_of_mem _ war_int) rfl hK hA hW hlen rfl (fun _ => rfl) (nI_pos (by omega)) (nI_clamp (by omega)) (by show 20 * 4 ≤ 536870912; omega) (Nat.le_of_ble_eq_true rfl) (Nat.le_of_ble_eq_true rfl) dX12_init_55 (fun q_13 H w_ hU1 hN1 hlen hW => ?_)
  have hU := hU.then hU1 (by decide)
  have hO_ := hU1.get hO_ (by decide)
  have hR2_ := hU1.get hR2_ (by decide)
  have hR4_ := hU1.get hR4_ (by decide)
  have hR6_ := hU1.get hR6_ (by decide)
  have hR8_ := hU1.get hR8_ (by decide)
  have hR10_ := hU1.get hR10_ (by decide)
  have hR12_ := hU1.get hR12_ (by decide)
  have hR14_ : w_[62]? = some (q_13, .inl (cy 0, 20, .inl (fun _ => nI 0))) := hN1
  clear hU1 hN1
  refine j_putFL (ci := 11) (C := RX12) (T := TX12) (N := 17) (ty := .array .int) S (fun w h => List.mem_cons_of_mem _ (inG12 w h)) tyX12 tyX12_ok nmX12 hK hW hlen hO_ rfl 7 (by decide) (List.mem_cons_of_mem _ wfl_X12_37) (fun _ h9 => h9) rfl hr.2.2 rfl (by decide +kernel) (rfl) (rfl) (Nat.le_of_ble_eq_true rfl) dX12_init_57 (fun H locs w_ hU1 hN1 hlen hW => ?_)
  have hU := hU.then hU1 (by decide)
  have hR2_ := hU1.get hR2_ (by decide)
  have hR4_ := hU1.get hR4_ (by decide)
  have hR6_ := hU1.get hR6_ (by decide)
  have hR8_ := hU1.get hR8_ (by decide)
  have hR10_ := hU1.get hR10_ (by decide)
  have hR12_ := hU1.get hR12_ (by decide)
  have hR14_ := hU1.get hR14_ (by decide)
  have hO_ : w_[55]? = some (h, .inr (11, [.int (nI 0), .ref q_1, .ref q_3, .ref q_5, .ref q_7, .ref q_9, .ref q_11, .ref q_13, .null, .null, .null, .int (nI 0), .int (nI 0), .null, .null, .null, .null])) := hN1
  clear hU1 hN1
  refine lv_aload_n S.1 S.2.1 dX12_init_60 rfl (lv_at hl 0 rfl) ?_
  refine lv_bipush (v := nI 20) S.1 S.2.1 dX12_init_61 (by decide) ?_
  refine j_newaL (t0 := 0) (N' := 20) (ty := .int) (a0 := (20, .inl (fun _ => nI 0))) S (List.mem_cons_of_mem _ war_int) rfl hK hA hW hlen rfl (fun _ => rfl) (nI_pos (by omega)) (nI_clamp (by omega)) (by show 20 * 4 ≤ 536870912; omega) (Nat.le_of_ble_eq_true rfl) (Nat.le_of_ble_eq_true rfl) dX12_init_63 (fun q_15 H w_ hU1 hN1 hlen hW => ?_)
  have hU := hU.then hU1 (by decide)
  have hO_ := hU1.get hO_ (by decide)
  have hR2_ := hU1.get hR2_ (by decide)
  have hR4_ := hU1.get hR4_ (by decide)
  have hR6_ := hU1.get hR6_ (by decide)
  have hR8_ := hU1.get hR8_ (by decide)
  have hR10_ := hU1.get hR10_ (by decide)
  have hR12_ := hU1.get hR12_ (by decide)
  have hR14_ := hU1.get hR14_ (by decide)
  have hR16_ : w_[63]? = some (q_15, .inl (cy 0, 20, .inl (fun _ => nI 0))) := hN1
  clear hU1 hN1
  refine j_putFL (ci := 11) (C := RX12) (T := TX12) (N := 17) (ty := .array .int) S (fun w h => List.mem_cons_of_mem _ (inG12 w h)) tyX12 tyX12_ok nmX12 hK hW hlen hO_ rfl 8 (by decide) (List.mem_cons_of_mem _ wfl_X12_40) (fun _ h9 => h9) rfl hr.2.2 rfl (by decide +kernel) (rfl) (rfl) (Nat.le_of_ble_eq_true rfl) dX12_init_65 (fun H locs w_ hU1 hN1 hlen hW => ?_)
  have hU := hU.then hU1 (by decide)
  have hR2_ := hU1.get hR2_ (by decide)
  have hR4_ := hU1.get hR4_ (by decide)
  have hR6_ := hU1.get hR6_ (by decide)
  have hR8_ := hU1.get hR8_ (by decide)
  have hR10_ := hU1.get hR10_ (by decide)
  have hR12_ := hU1.get hR12_ (by decide)
  have hR14_ := hU1.get hR14_ (by decide)
  have hR16_ := hU1.get hR16_ (by decide)
  have hO_ : w_[55]? = some (h, .inr (11, [.int (nI 0), .ref q_1, .ref q_3, .ref q_5, .ref q_7, .ref q_9, .ref q_11, .ref q_13, .ref q_15, .null, .null, .int (nI 0), .int (nI 0), .null, .null, .null, .null])) := hN1
  clear hU1 hN1
  refine lv_aload_n S.1 S.2.1 dX12_init_68 rfl (lv_at hl 0 rfl) ?_
  refine lv_bipush (v := nI 20) S.1 S.2.1 dX12_init_69 (by decide) ?_
  refine j_newaL (t0 := 0) (N' := 20) (ty := .int) (a0 := (20, .inl (fun _ => nI 0))) S (List.mem_cons_of_mem _ war_int) rfl hK hA hW hlen rfl (fun _ => rfl) (nI_pos (by omega)) (nI_clamp (by omega)) (by show 20 * 4 ≤ 536870912; omega) (Nat.le_of_ble_eq_true rfl) (Nat.le_of_ble_eq_true rfl) dX12_init_71 (fun q_17 H w_ hU1 hN1 hlen hW => ?_)
  have hU := hU.then hU1 (by decide)
  have hO_ := hU1.get hO_ (by decide)
  have hR2_ := hU1.get hR2_ (by decide)
  have hR4_ := hU1.get hR4_ (by decide)
  have hR6_ := hU1.get hR6_ (by decide)
  have hR8_ := hU1.get hR8_ (by decide)
  have hR10_ := hU1.get hR10_ (by decide)
  have hR12_ := hU1.get hR12_ (by decide)
  have hR14_ := hU1.get hR14_ (by decide)
  have hR16_ := hU1.get hR16_ (by decide)
  have hR18_ : w_[64]? = some (q_17, .inl (cy 0, 20, .inl (fun _ => nI 0))) := hN1
  clear hU1 hN1
  refine j_putFL (ci := 11) (C := RX12) (T := TX12) (N := 17) (ty := .array .int) S (fun w h => List.mem_cons_of_mem _ (inG12 w h)) tyX12 tyX12_ok nmX12 hK hW hlen hO_ rfl 9 (by decide) (List.mem_cons_of_mem _ wfl_X12_43) (fun _ h9 => h9) rfl hr.2.2 rfl (by decide +kernel) (rfl) (rfl) (Nat.le_of_ble_eq_true rfl) dX12_init_73 (fun H locs w_ hU1 hN1 hlen hW => ?_)
  have hU := hU.then hU1 (by decide)
  have hR2_ := hU1.get hR2_ (by decide)
  have hR4_ := hU1.get hR4_ (by decide)
  have hR6_ := hU1.get hR6_ (by decide)
  have hR8_ := hU1.get hR8_ (by decide)
  have hR10_ := hU1.get hR10_ (by decide)
  have hR12_ := hU1.get hR12_ (by decide)
  have hR14_ := hU1.get hR14_ (by decide)
  have hR16_ := hU1.get hR16_ (by decide)
  have hR18_ := hU1.get hR18_ (by decide)
  have hO_ : w_[55]? = some (h, .inr (11, [.int (nI 0), .ref q_1, .ref q_3, .ref q_5, .ref q_7, .ref q_9, .ref q_11, .ref q_13, .ref q_15, .ref q_17, .null, .int (nI 0), .int (nI 0), .null, .null, .null, .null])) := hN1
  clear hU1 hN1
  refine lv_aload_n S.1 S.2.1 dX12_init_76 rfl (lv_at hl 0 rfl) ?_
  refine lv_bipush (v := nI 20) S.1 S.2.1 dX12_init_77 (by decide) ?_
  refine j_newaL (t0 := 3) (N' := 20) (ty := .boolean) (a0 := (20, .inl (fun _ => nI 0))) S (List.mem_cons_of_mem _ war_boolean) rfl hK hA hW hlen rfl (fun _ => rfl) (nI_pos (by omega)) (nI_clamp (by omega)) (by show 20 * 1 ≤ 536870912; omega) (Nat.le_of_ble_eq_true rfl) (Nat.le_of_ble_eq_true rfl) dX12_init_79 (fun q_19 H w_ hU1 hN1 hlen hW => ?_)
  have hU := hU.then hU1 (by decide)
  have hO_ := hU1.get hO_ (by decide)
  have hR2_ := hU1.get hR2_ (by decide)
  have hR4_ := hU1.get hR4_ (by decide)
  have hR6_ := hU1.get hR6_ (by decide)
  have hR8_ := hU1.get hR8_ (by decide)
  have hR10_ := hU1.get hR10_ (by decide)
  have hR12_ := hU1.get hR12_ (by decide)
  have hR14_ := hU1.get hR14_ (by decide)
  have hR16_ := hU1.get hR16_ (by decide)
  have hR18_ := hU1.get hR18_ (by decide)
  have hR20_ : w_[65]? = some (q_19, .inl (cy 3, 20, .inl (fun _ => nI 0))) := hN1
  clear hU1 hN1
  refine j_putFL (ci := 11) (C := RX12) (T := TX12) (N := 17) (ty := .array .boolean) S (fun w h => List.mem_cons_of_mem _ (inG12 w h)) tyX12 tyX12_ok nmX12 hK hW hlen hO_ rfl 10 (by decide) (List.mem_cons_of_mem _ wfl_X12_46) (fun _ h9 => h9) rfl hr.2.2 rfl (by decide +kernel) (rfl) (rfl) (Nat.le_of_ble_eq_true rfl) dX12_init_81 (fun H locs w_ hU1 hN1 hlen hW => ?_)
  have hU := hU.then hU1 (by decide)
  have hR2_ := hU1.get hR2_ (by decide)
  have hR4_ := hU1.get hR4_ (by decide)
  have hR6_ := hU1.get hR6_ (by decide)
  have hR8_ := hU1.get hR8_ (by decide)
  have hR10_ := hU1.get hR10_ (by decide)
  have hR12_ := hU1.get hR12_ (by decide)
  have hR14_ := hU1.get hR14_ (by decide)
  have hR16_ := hU1.get hR16_ (by decide)
  have hR18_ := hU1.get hR18_ (by decide)
  have hR20_ := hU1.get hR20_ (by decide)
  have hO_ : w_[55]? = some (h, .inr (11, [.int (nI 0), .ref q_1, .ref q_3, .ref q_5, .ref q_7, .ref q_9, .ref q_11, .ref q_13, .ref q_15, .ref q_17, .ref q_19, .int (nI 0), .int (nI 0), .null, .null, .null, .null])) := hN1
  clear hU1 hN1
  refine lv_aload_n S.1 S.2.1 dX12_init_84 rfl (lv_at hl 0 rfl) ?_
  refine lv_iconst (v := nI 4) S.1 S.2.1 dX12_init_85 (by decide) ?_
  refine lv_sipush (v := nI 1024) S.1 S.2.1 dX12_init_86 (by decide) ?_
  refine j_mnaL S (List.mem_cons_of_mem _ wcl_X12_50) (List.mem_cons_of_mem _ war_boolean) hK hA hW hlen (Nat.le_of_ble_eq_true rfl) (Nat.le_of_ble_eq_true rfl) dX12_init_89 (fun q_21 r_22 H w_ hU1 hN1 hN2 hlen hW => ?_)
  have hU := hU.then hU1 (by decide)
  have hO_ := hU1.get hO_ (by decide)
  have hR2_ := hU1.get hR2_ (by decide)
  have hR4_ := hU1.get hR4_ (by decide)
  have hR6_ := hU1.get hR6_ (by decide)
  have hR8_ := hU1.get hR8_ (by decide)
  have hR10_ := hU1.get hR10_ (by decide)
  have hR12_ := hU1.get hR12_ (by decide)
  have hR14_ := hU1.get hR14_ (by decide)
  have hR16_ := hU1.get hR16_ (by decide)
  have hR18_ := hU1.get hR18_ (by decide)
  have hR20_ := hU1.get hR20_ (by decide)
  have hR23_ : w_[66]? = some (q_21, .inl (cy 6, 4, .inr (.inr (.inr (.inr (fun i => if i < 4 then some (r_22 i) else none)))))) := hN1
  clear hU1 hN1
  have hR24_ : w_[67]? = some (r_22 0, .inl (cy 3, 1024, .inl (fun _ => nI 0))) := hN2 0 (by decide)
  have hR25_ : w_[68]? = some (r_22 1, .inl (cy 3, 1024, .inl (fun _ => nI 0))) := hN2 1 (by decide)
  have hR26_ : w_[69]? = some (r_22 2, .inl (cy 3, 1024, .inl (fun _ => nI 0))) := hN2 2 (by decide)
  have hR27_ : w_[70]? = some (r_22 3, .inl (cy 3, 1024, .inl (fun _ => nI 0))) := hN2 3 (by decide)
  clear hN2
  refine j_putFL (ci := 11) (C := RX12) (T := TX12) (N := 17) (ty := .array (.array .boolean)) S (fun w h => List.mem_cons_of_mem _ (inG12 w h)) tyX12 tyX12_ok nmX12 hK hW hlen hO_ rfl 13 (by decide) (List.mem_cons_of_mem _ wfl_X12_52) (fun _ h9 => h9) rfl hr.2.2 rfl (by decide +kernel) (rfl) (rfl) (Nat.le_of_ble_eq_true rfl) dX12_init_93 (fun H locs w_ hU1 hN1 hlen hW => ?_)
  have hU := hU.then hU1 (by decide)
  have hR2_ := hU1.get hR2_ (by decide)
  have hR4_ := hU1.get hR4_ (by decide)
  have hR6_ := hU1.get hR6_ (by decide)
  have hR8_ := hU1.get hR8_ (by decide)
  have hR10_ := hU1.get hR10_ (by decide)
  have hR12_ := hU1.get hR12_ (by decide)
  have hR14_ := hU1.get hR14_ (by decide)
  have hR16_ := hU1.get hR16_ (by decide)
  have hR18_ := hU1.get hR18_ (by decide)
  have hR20_ := hU1.get hR20_ (by decide)
  have hR23_ := hU1.get hR23_ (by decide)
  have hR24_ := hU1.get hR24_ (by decide)
  have hR25_ := hU1.get hR25_ (by decide)
  have hR26_ := hU1.get hR26_ (by decide)
  have hR27_ := hU1.get hR27_ (by decide)
  have hO_ : w_[55]? = some (h, .inr (11, [.int (nI 0), .ref q_1, .ref q_3, .ref q_5, .ref q_7, .ref q_9, .ref q_11, .ref q_13, .ref q_15, .ref q_17, .ref q_19, .int (nI 0), .int (nI 0), .ref q_21, .null, .null, .null])) := hN1
  clear hU1 hN1
  refine lv_aload_n S.1 S.2.1 dX12_init_96 rfl (lv_at hl 0 rfl) ?_
  refine lv_iconst (v := nI 4) S.1 S.2.1 dX12_init_97 (by decide) ?_
  refine j_newaL (t0 := 0) (N' := 4) (ty := .int) (a0 := (4, .inl (fun _ => nI 0))) S (List.mem_cons_of_mem _ war_int) rfl hK hA hW hlen rfl (fun _ => rfl) (nI_pos (by omega)) (nI_clamp (by omega)) (by show 4 * 4 ≤ 536870912; omega) (Nat.le_of_ble_eq_true rfl) (Nat.le_of_ble_eq_true rfl) dX12_init_98 (fun q_28 H w_ hU1 hN1 hlen hW => ?_)
  have hU := hU.then hU1 (by decide)
  have hO_ := hU1.get hO_ (by decide)
  have hR2_ := hU1.get hR2_ (by decide)
  have hR4_ := hU1.get hR4_ (by decide)
  have hR6_ := hU1.get hR6_ (by decide)
  have hR8_ := hU1.get hR8_ (by decide)
  have hR10_ := hU1.get hR10_ (by decide)
  have hR12_ := hU1.get hR12_ (by decide)
  have hR14_ := hU1.get hR14_ (by decide)
  have hR16_ := hU1.get hR16_ (by decide)
  have hR18_ := hU1.get hR18_ (by decide)
  have hR20_ := hU1.get hR20_ (by decide)
  have hR23_ := hU1.get hR23_ (by decide)
  have hR24_ := hU1.get hR24_ (by decide)
  have hR25_ := hU1.get hR25_ (by decide)
  have hR26_ := hU1.get hR26_ (by decide)
  have hR27_ := hU1.get hR27_ (by decide)
  have hR29_ : w_[71]? = some (q_28, .inl (cy 0, 4, .inl (fun _ => nI 0))) := hN1
  clear hU1 hN1
  refine j_putFL (ci := 11) (C := RX12) (T := TX12) (N := 17) (ty := .array .int) S (fun w h => List.mem_cons_of_mem _ (inG12 w h)) tyX12 tyX12_ok nmX12 hK hW hlen hO_ rfl 14 (by decide) (List.mem_cons_of_mem _ wfl_X12_55) (fun _ h9 => h9) rfl hr.2.2 rfl (by decide +kernel) (rfl) (rfl) (Nat.le_of_ble_eq_true rfl) dX12_init_100 (fun H locs w_ hU1 hN1 hlen hW => ?_)
  have hU := hU.then hU1 (by decide)
  have hR2_ := hU1.get hR2_ (by decide)
  have hR4_ := hU1.get hR4_ (by decide)
  have hR6_ := hU1.get hR6_ (by decide)
  have hR8_ := hU1.get hR8_ (by decide)
  have hR10_ := hU1.get hR10_ (by decide)
  have hR12_ := hU1.get hR12_ (by decide)
  have hR14_ := hU1.get hR14_ (by decide)
  have hR16_ := hU1.get hR16_ (by decide)
  have hR18_ := hU1.get hR18_ (by decide)
  have hR20_ := hU1.get hR20_ (by decide)
  have hR23_ := hU1.get hR23_ (by decide)
  have hR24_ := hU1.get hR24_ (by decide)
  have hR25_ := hU1.get hR25_ (by decide)
  have hR26_ := hU1.get hR26_ (by decide)
  have hR27_ := hU1.get hR27_ (by decide)
  have hR29_ := hU1.get hR29_ (by decide)
  have hO_ : w_[55]? = some (h, .inr (11, [.int (nI 0), .ref q_1, .ref q_3, .ref q_5, .ref q_7, .ref q_9, .ref q_11, .ref q_13, .ref q_15, .ref q_17, .ref q_19, .int (nI 0), .int (nI 0), .ref q_21, .ref q_28, .null, .null])) := hN1
  clear hU1 hN1
  refine lv_aload_n S.1 S.2.1 dX12_init_103 rfl (lv_at hl 0 rfl) ?_
  refine lv_sipush (v := nI 1024) S.1 S.2.1 dX12_init_104 (by decide) ?_
  refine j_newaL (t0 := 3) (N' := 1024) (ty := .boolean) (a0 := (1024, .inl (fun _ => nI 0))) S (List.mem_cons_of_mem _ war_boolean) rfl hK hA hW hlen rfl (fun _ => rfl) (nI_pos (by omega)) (nI_clamp (by omega)) (by show 1024 * 1 ≤ 536870912; omega) (Nat.le_of_ble_eq_true rfl) (Nat.le_of_ble_eq_true rfl) dX12_init_107 (fun q_30 H w_ hU1 hN1 hlen hW => ?_)
  have hU := hU.then hU1 (by decide)
  have hO_ := hU1.get hO_ (by decide)
  have hR2_ := hU1.get hR2_ (by decide)
  have hR4_ := hU1.get hR4_ (by decide)
  have hR6_ := hU1.get hR6_ (by decide)
  have hR8_ := hU1.get hR8_ (by decide)
  have hR10_ := hU1.get hR10_ (by decide)
  have hR12_ := hU1.get hR12_ (by decide)
  have hR14_ := hU1.get hR14_ (by decide)
  have hR16_ := hU1.get hR16_ (by decide)
  have hR18_ := hU1.get hR18_ (by decide)
  have hR20_ := hU1.get hR20_ (by decide)
  have hR23_ := hU1.get hR23_ (by decide)
  have hR24_ := hU1.get hR24_ (by decide)
  have hR25_ := hU1.get hR25_ (by decide)
  have hR26_ := hU1.get hR26_ (by decide)
  have hR27_ := hU1.get hR27_ (by decide)
  have hR29_ := hU1.get hR29_ (by decide)
  have hR31_ : w_[72]? = some (q_30, .inl (cy 3, 1024, .inl (fun _ => nI 0))) := hN1
  clear hU1 hN1
  refine j_putFL (ci := 11) (C := RX12) (T := TX12) (N := 17) (ty := .array .boolean) S (fun w h => List.mem_cons_of_mem _ (inG12 w h)) tyX12 tyX12_ok nmX12 hK hW hlen hO_ rfl 15 (by decide) (List.mem_cons_of_mem _ wfl_X12_58) (fun _ h9 => h9) rfl hr.2.2 rfl (by decide +kernel) (rfl) (rfl) (Nat.le_of_ble_eq_true rfl) dX12_init_109 (fun H locs w_ hU1 hN1 hlen hW => ?_)
  have hU := hU.then hU1 (by decide)
  have hR2_ := hU1.get hR2_ (by decide)
  have hR4_ := hU1.get hR4_ (by decide)
  have hR6_ := hU1.get hR6_ (by decide)
  have hR8_ := hU1.get hR8_ (by decide)
  have hR10_ := hU1.get hR10_ (by decide)
  have hR12_ := hU1.get hR12_ (by decide)
  have hR14_ := hU1.get hR14_ (by decide)
  have hR16_ := hU1.get hR16_ (by decide)
  have hR18_ := hU1.get hR18_ (by decide)
  have hR20_ := hU1.get hR20_ (by decide)
  have hR23_ := hU1.get hR23_ (by decide)
  have hR24_ := hU1.get hR24_ (by decide)
  have hR25_ := hU1.get hR25_ (by decide)
  have hR26_ := hU1.get hR26_ (by decide)
  have hR27_ := hU1.get hR27_ (by decide)
  have hR29_ := hU1.get hR29_ (by decide)
  have hR31_ := hU1.get hR31_ (by decide)
  have hO_ : w_[55]? = some (h, .inr (11, [.int (nI 0), .ref q_1, .ref q_3, .ref q_5, .ref q_7, .ref q_9, .ref q_11, .ref q_13, .ref q_15, .ref q_17, .ref q_19, .int (nI 0), .int (nI 0), .ref q_21, .ref q_28, .ref q_30, .null])) := hN1
  clear hU1 hN1
  refine lv_aload_n S.1 S.2.1 dX12_init_112 rfl (lv_at hl 0 rfl) ?_
  refine lv_sipush (v := nI 1024) S.1 S.2.1 dX12_init_113 (by decide) ?_
  refine j_newaL (t0 := 3) (N' := 1024) (ty := .boolean) (a0 := (1024, .inl (fun _ => nI 0))) S (List.mem_cons_of_mem _ war_boolean) rfl hK hA hW hlen rfl (fun _ => rfl) (nI_pos (by omega)) (nI_clamp (by omega)) (by show 1024 * 1 ≤ 536870912; omega) (Nat.le_of_ble_eq_true rfl) (Nat.le_of_ble_eq_true rfl) dX12_init_116 (fun q_32 H w_ hU1 hN1 hlen hW => ?_)
  have hU := hU.then hU1 (by decide)
  have hO_ := hU1.get hO_ (by decide)
  have hR2_ := hU1.get hR2_ (by decide)
  have hR4_ := hU1.get hR4_ (by decide)
  have hR6_ := hU1.get hR6_ (by decide)
  have hR8_ := hU1.get hR8_ (by decide)
  have hR10_ := hU1.get hR10_ (by decide)
  have hR12_ := hU1.get hR12_ (by decide)
  have hR14_ := hU1.get hR14_ (by decide)
  have hR16_ := hU1.get hR16_ (by decide)
  have hR18_ := hU1.get hR18_ (by decide)
  have hR20_ := hU1.get hR20_ (by decide)
  have hR23_ := hU1.get hR23_ (by decide)
  have hR24_ := hU1.get hR24_ (by decide)
  have hR25_ := hU1.get hR25_ (by decide)
  have hR26_ := hU1.get hR26_ (by decide)
  have hR27_ := hU1.get hR27_ (by decide)
  have hR29_ := hU1.get hR29_ (by decide)
  have hR31_ := hU1.get hR31_ (by decide)
  have hR33_ : w_[73]? = some (q_32, .inl (cy 3, 1024, .inl (fun _ => nI 0))) := hN1
  clear hU1 hN1
  refine j_putFL (ci := 11) (C := RX12) (T := TX12) (N := 17) (ty := .array .boolean) S (fun w h => List.mem_cons_of_mem _ (inG12 w h)) tyX12 tyX12_ok nmX12 hK hW hlen hO_ rfl 16 (by decide) (List.mem_cons_of_mem _ wfl_X12_61) (fun _ h9 => h9) rfl hr.2.2 rfl (by decide +kernel) (rfl) (rfl) (Nat.le_of_ble_eq_true rfl) dX12_init_118 (fun H locs w_ hU1 hN1 hlen hW => ?_)
  have hU := hU.then hU1 (by decide)
  have hR2_ := hU1.get hR2_ (by decide)
  have hR4_ := hU1.get hR4_ (by decide)
  have hR6_ := hU1.get hR6_ (by decide)
  have hR8_ := hU1.get hR8_ (by decide)
  have hR10_ := hU1.get hR10_ (by decide)
  have hR12_ := hU1.get hR12_ (by decide)
  have hR14_ := hU1.get hR14_ (by decide)
  have hR16_ := hU1.get hR16_ (by decide)
  have hR18_ := hU1.get hR18_ (by decide)
  have hR20_ := hU1.get hR20_ (by decide)
  have hR23_ := hU1.get hR23_ (by decide)
  have hR24_ := hU1.get hR24_ (by decide)
  have hR25_ := hU1.get hR25_ (by decide)
  have hR26_ := hU1.get hR26_ (by decide)
  have hR27_ := hU1.get hR27_ (by decide)
  have hR29_ := hU1.get hR29_ (by decide)
  have hR31_ := hU1.get hR31_ (by decide)
  have hR33_ := hU1.get hR33_ (by decide)
  have hO_ : w_[55]? = some (h, .inr (11, [.int (nI 0), .ref q_1, .ref q_3, .ref q_5, .ref q_7, .ref q_9, .ref q_11, .ref q_13, .ref q_15, .ref q_17, .ref q_19, .int (nI 0), .int (nI 0), .ref q_21, .ref q_28, .ref q_30, .ref q_32])) := hN1
  clear hU1 hN1
  refine lv_iconst (v := nI 0) S.1 S.2.1 dX12_init_121 (by decide) ?_
  refine lv_istore_n (lv' := [(1, .int (nI 0)), (0, .ref h)]) S.1 S.2.1 dX12_init_122 rfl hl (by decide) rfl (fun ls hl => ?_)
  refine lv_iload_n S.1 S.2.1 dX12_init_123 rfl (lv_at hl 0 rfl) ?_
  refine lv_iconst (v := nI 4) S.1 S.2.1 dX12_init_124 (by decide) ?_
  refine jn_cmp_ge (tgt := 141) S (by omega) (by omega) dX12_init_125 (by decide) (fun c_125 => ?_) (fun c_125 => ?_)
  · first | exact absurd (show 4 ≤ 0 from c_125) (by decide) | exact absurd c_125 (by decide)
  · refine lv_aload_n S.1 S.2.1 dX12_init_128 rfl (lv_at hl 1 rfl) ?_
    refine j_get (ci := 11) (C := RX12) (T := TX12) (N := 17) (v := .ref q_28) S (fun w h => List.mem_cons_of_mem _ (inG12 w h)) hK hW hO_ rfl 14 (by decide) (List.mem_cons_of_mem _ wfl_X12_55) (fun _ h9 => h9) rfl dX12_init_129 ?_
    refine lv_iload_n S.1 S.2.1 dX12_init_132 rfl (lv_at hl 0 rfl) ?_
    refine lv_iconst (v := (-1)) S.1 S.2.1 dX12_init_133 (by decide) ?_
    refine j_iastL S hK hW hlen hR29_ (vp_in_nI (by omega) (by omega)) (nI_clamp (by omega)) dX12_init_134 (fun H locs w_ hU1 hN1 hlen hW => ?_)
    have hU := hU.then hU1 (by decide)
    have hO_ := hU1.get hO_ (by decide)
    have hR2_ := hU1.get hR2_ (by decide)
    have hR4_ := hU1.get hR4_ (by decide)
    have hR6_ := hU1.get hR6_ (by decide)
    have hR8_ := hU1.get hR8_ (by decide)
    have hR10_ := hU1.get hR10_ (by decide)
    have hR12_ := hU1.get hR12_ (by decide)
    have hR14_ := hU1.get hR14_ (by decide)
    have hR16_ := hU1.get hR16_ (by decide)
    have hR18_ := hU1.get hR18_ (by decide)
    have hR20_ := hU1.get hR20_ (by decide)
    have hR23_ := hU1.get hR23_ (by decide)
    have hR24_ := hU1.get hR24_ (by decide)
    have hR25_ := hU1.get hR25_ (by decide)
    have hR26_ := hU1.get hR26_ (by decide)
    have hR27_ := hU1.get hR27_ (by decide)
    have hR31_ := hU1.get hR31_ (by decide)
    have hR33_ := hU1.get hR33_ (by decide)
    have hR29_ : w_[71]? = some (q_28, .inl (cy 0, 4, .inl (upd (fun _ => nI 0) 0 (-1)))) := hN1
    clear hU1 hN1
    refine lv_iinc (v := nI 1) (lv' := [(1, .int (nI 1)), (0, .ref h)]) S.1 S.2.1 dX12_init_135 hl (k := 0) rfl (nI_add _ 1) (by decide) rfl (fun ls hl => ?_)
    refine lv_goto (tgt := 123) S.1 S.2.1 dX12_init_138 (by decide) ?_
    refine lv_iload_n S.1 S.2.1 dX12_init_123 rfl (lv_at hl 0 rfl) ?_
    refine lv_iconst (v := nI 4) S.1 S.2.1 dX12_init_124 (by decide) ?_
    refine jn_cmp_ge (tgt := 141) S (by omega) (by omega) dX12_init_125 (by decide) (fun c_125 => ?_) (fun c_125 => ?_)
    · first | exact absurd (show 4 ≤ 1 from c_125) (by decide) | exact absurd c_125 (by decide)
    · refine lv_aload_n S.1 S.2.1 dX12_init_128 rfl (lv_at hl 1 rfl) ?_
      refine j_get (ci := 11) (C := RX12) (T := TX12) (N := 17) (v := .ref q_28) S (fun w h => List.mem_cons_of_mem _ (inG12 w h)) hK hW hO_ rfl 14 (by decide) (List.mem_cons_of_mem _ wfl_X12_55) (fun _ h9 => h9) rfl dX12_init_129 ?_
      refine lv_iload_n S.1 S.2.1 dX12_init_132 rfl (lv_at hl 0 rfl) ?_
      refine lv_iconst (v := (-1)) S.1 S.2.1 dX12_init_133 (by decide) ?_
      refine j_iastL S hK hW hlen hR29_ (vp_in_nI (by omega) (by omega)) (nI_clamp (by omega)) dX12_init_134 (fun H locs w_ hU1 hN1 hlen hW => ?_)
      have hU := hU.then hU1 (by decide)
      have hO_ := hU1.get hO_ (by decide)
      have hR2_ := hU1.get hR2_ (by decide)
      have hR4_ := hU1.get hR4_ (by decide)
      have hR6_ := hU1.get hR6_ (by decide)
      have hR8_ := hU1.get hR8_ (by decide)
      have hR10_ := hU1.get hR10_ (by decide)
      have hR12_ := hU1.get hR12_ (by decide)
      have hR14_ := hU1.get hR14_ (by decide)
      have hR16_ := hU1.get hR16_ (by decide)
      have hR18_ := hU1.get hR18_ (by decide)
      have hR20_ := hU1.get hR20_ (by decide)
      have hR23_ := hU1.get hR23_ (by decide)
      have hR24_ := hU1.get hR24_ (by decide)
      have hR25_ := hU1.get hR25_ (by decide)
      have hR26_ := hU1.get hR26_ (by decide)
      have hR27_ := hU1.get hR27_ (by decide)
      have hR31_ := hU1.get hR31_ (by decide)
      have hR33_ := hU1.get hR33_ (by decide)
      have hR29_ : w_[71]? = some (q_28, .inl (cy 0, 4, .inl (upd (upd (fun _ => nI 0) 0 (-1)) 1 (-1)))) := hN1
      clear hU1 hN1
      refine lv_iinc (v := nI 2) (lv' := [(1, .int (nI 2)), (0, .ref h)]) S.1 S.2.1 dX12_init_135 hl (k := 0) rfl (nI_add _ 1) (by decide) rfl (fun ls hl => ?_)
      refine lv_goto (tgt := 123) S.1 S.2.1 dX12_init_138 (by decide) ?_
      refine lv_iload_n S.1 S.2.1 dX12_init_123 rfl (lv_at hl 0 rfl) ?_
      refine lv_iconst (v := nI 4) S.1 S.2.1 dX12_init_124 (by decide) ?_
      refine jn_cmp_ge (tgt := 141) S (by omega) (by omega) dX12_init_125 (by decide) (fun c_125 => ?_) (fun c_125 => ?_)
      · first | exact absurd (show 4 ≤ 2 from c_125) (by decide) | exact absurd c_125 (by decide)
      · refine lv_aload_n S.1 S.2.1 dX12_init_128 rfl (lv_at hl 1 rfl) ?_
        refine j_get (ci := 11) (C := RX12) (T := TX12) (N := 17) (v := .ref q_28) S (fun w h => List.mem_cons_of_mem _ (inG12 w h)) hK hW hO_ rfl 14 (by decide) (List.mem_cons_of_mem _ wfl_X12_55) (fun _ h9 => h9) rfl dX12_init_129 ?_
        refine lv_iload_n S.1 S.2.1 dX12_init_132 rfl (lv_at hl 0 rfl) ?_
        refine lv_iconst (v := (-1)) S.1 S.2.1 dX12_init_133 (by decide) ?_
        refine j_iastL S hK hW hlen hR29_ (vp_in_nI (by omega) (by omega)) (nI_clamp (by omega)) dX12_init_134 (fun H locs w_ hU1 hN1 hlen hW => ?_)
        have hU := hU.then hU1 (by decide)
        have hO_ := hU1.get hO_ (by decide)
        have hR2_ := hU1.get hR2_ (by decide)
        have hR4_ := hU1.get hR4_ (by decide)
        have hR6_ := hU1.get hR6_ (by decide)
        have hR8_ := hU1.get hR8_ (by decide)
        have hR10_ := hU1.get hR10_ (by decide)
        have hR12_ := hU1.get hR12_ (by decide)
        have hR14_ := hU1.get hR14_ (by decide)
        have hR16_ := hU1.get hR16_ (by decide)
        have hR18_ := hU1.get hR18_ (by decide)
        have hR20_ := hU1.get hR20_ (by decide)
        have hR23_ := hU1.get hR23_ (by decide)
        have hR24_ := hU1.get hR24_ (by decide)
        have hR25_ := hU1.get hR25_ (by decide)
        have hR26_ := hU1.get hR26_ (by decide)
        have hR27_ := hU1.get hR27_ (by decide)
        have hR31_ := hU1.get hR31_ (by decide)
        have hR33_ := hU1.get hR33_ (by decide)
        have hR29_ : w_[71]? = some (q_28, .inl (cy 0, 4, .inl (upd (upd (upd (fun _ => nI 0) 0 (-1)) 1 (-1)) 2 (-1)))) := hN1
        clear hU1 hN1
        refine lv_iinc (v := nI 3) (lv' := [(1, .int (nI 3)), (0, .ref h)]) S.1 S.2.1 dX12_init_135 hl (k := 0) rfl (nI_add _ 1) (by decide) rfl (fun ls hl => ?_)
        refine lv_goto (tgt := 123) S.1 S.2.1 dX12_init_138 (by decide) ?_
        refine lv_iload_n S.1 S.2.1 dX12_init_123 rfl (lv_at hl 0 rfl) ?_
        refine lv_iconst (v := nI 4) S.1 S.2.1 dX12_init_124 (by decide) ?_
        refine jn_cmp_ge (tgt := 141) S (by omega) (by omega) dX12_init_125 (by decide) (fun c_125 => ?_) (fun c_125 => ?_)
        · first | exact absurd (show 4 ≤ 3 from c_125) (by decide) | exact absurd c_125 (by decide)
        · refine lv_aload_n S.1 S.2.1 dX12_init_128 rfl (lv_at hl 1 rfl) ?_
          refine j_get (ci := 11) (C := RX12) (T := TX12) (N := 17) (v := .ref q_28) S (fun w h => List.mem_cons_of_mem _ (inG12 w h)) hK hW hO_ rfl 14 (by decide) (List.mem_cons_of_mem _ wfl_X12_55) (fun _ h9 => h9) rfl dX12_init_129 ?_
          refine lv_iload_n S.1 S.2.1 dX12_init_132 rfl (lv_at hl 0 rfl) ?_
          refine lv_iconst (v := (-1)) S.1 S.2.1 dX12_init_133 (by decide) ?_
          refine j_iastL S hK hW hlen hR29_ (vp_in_nI (by omega) (by omega)) (nI_clamp (by omega)) dX12_init_134 (fun H locs w_ hU1 hN1 hlen hW => ?_)
          have hU := hU.then hU1 (by decide)
          have hO_ := hU1.get hO_ (by decide)
          have hR2_ := hU1.get hR2_ (by decide)
          have hR4_ := hU1.get hR4_ (by decide)
          have hR6_ := hU1.get hR6_ (by decide)
          have hR8_ := hU1.get hR8_ (by decide)
          have hR10_ := hU1.get hR10_ (by decide)
          have hR12_ := hU1.get hR12_ (by decide)
          have hR14_ := hU1.get hR14_ (by decide)
          have hR16_ := hU1.get hR16_ (by decide)
          have hR18_ := hU1.get hR18_ (by decide)
          have hR20_ := hU1.get hR20_ (by decide)
          have hR23_ := hU1.get hR23_ (by decide)
          have hR24_ := hU1.get hR24_ (by decide)
          have hR25_ := hU1.get hR25_ (by decide)
          have hR26_ := hU1.get hR26_ (by decide)
          have hR27_ := hU1.get hR27_ (by decide)
          have hR31_ := hU1.get hR31_ (by decide)
          have hR33_ := hU1.get hR33_ (by decide)
          have hR29_ : w_[71]? = some (q_28, .inl (cy 0, 4, .inl (upd (upd (upd (upd (fun _ => nI 0) 0 (-1)) 1 (-1)) 2 (-1)) 3 (-1)))) := hN1
          clear hU1 hN1
          refine lv_iinc (v := nI 4) (lv' := [(1, .int (nI 4)), (0, .ref h)]) S.1 S.2.1 dX12_init_135 hl (k := 0) rfl (nI_add _ 1) (by decide) rfl (fun ls hl => ?_)
          refine lv_goto (tgt := 123) S.1 S.2.1 dX12_init_138 (by decide) ?_
          refine lv_iload_n S.1 S.2.1 dX12_init_123 rfl (lv_at hl 0 rfl) ?_
          refine lv_iconst (v := nI 4) S.1 S.2.1 dX12_init_124 (by decide) ?_
          refine jn_cmp_ge (tgt := 141) S (by omega) (by omega) dX12_init_125 (by decide) (fun c_125 => ?_) (fun c_125 => ?_)
          · obtain ⟨w_, hU1, hN1, hlw, hW⟩ := j_ghostR (kpF (adM [h, q_1, q_3, q_5, q_7, q_9, q_11, q_13, q_15, q_17, q_19, q_21, r_22 0, r_22 1, r_22 2, r_22 3, q_28, q_30, q_32])) hW hR23_ (by intro z hz; rcases (show z = 0 ∨ z = 1 ∨ z = 2 ∨ z = 3 by omega) with rfl | rfl | rfl | rfl <;> rfl)
            have hlen := hlw.trans hlen
            have hU := hU.then hU1 (by decide)
            have hO_ := hU1.get hO_ (by decide)
            have hR2_ := hU1.get hR2_ (by decide)
            have hR4_ := hU1.get hR4_ (by decide)
            have hR6_ := hU1.get hR6_ (by decide)
            have hR8_ := hU1.get hR8_ (by decide)
            have hR10_ := hU1.get hR10_ (by decide)
            have hR12_ := hU1.get hR12_ (by decide)
            have hR14_ := hU1.get hR14_ (by decide)
            have hR16_ := hU1.get hR16_ (by decide)
            have hR18_ := hU1.get hR18_ (by decide)
            have hR20_ := hU1.get hR20_ (by decide)
            have hR24_ := hU1.get hR24_ (by decide)
            have hR25_ := hU1.get hR25_ (by decide)
            have hR26_ := hU1.get hR26_ (by decide)
            have hR27_ := hU1.get hR27_ (by decide)
            have hR29_ := hU1.get hR29_ (by decide)
            have hR31_ := hU1.get hR31_ (by decide)
            have hR33_ := hU1.get hR33_ (by decide)
            have hR23_ : w_[66]? = some (q_21, .inl (cy 6, 4, .inr (.inr (.inr (.inr (kpF (adM [h, q_1, q_3, q_5, q_7, q_9, q_11, q_13, q_15, q_17, q_19, q_21, r_22 0, r_22 1, r_22 2, r_22 3, q_28, q_30, q_32]))))))) := hN1
            clear hU1 hN1
            subst hQ
            exact j_vret (u := w_) S hr hK hW dX12_init_141 ⟨by decide, by decide⟩ (⟨[h, q_1, q_3, q_5, q_7, q_9, q_11, q_13, q_15, q_17, q_19, q_21, r_22 0, r_22 1, r_22 2, r_22 3, q_28, q_30, q_32], rfl, hlen, rfl, (jU.low hU hlen0 (by decide)), hO_, hR2_, hR4_, hR6_, hR8_, hR10_, hR12_, hR14_, hR16_, hR18_, hR20_, hR23_, hR24_, hR25_, hR26_, hR27_, hR29_, hR31_, hR33_⟩)
          · first | exact absurd (show 4 < 4 from c_125) (by decide) | exact absurd c_125 (by decide)
