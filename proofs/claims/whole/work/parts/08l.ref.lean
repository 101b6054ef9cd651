/-! THE REFERENCE: rows kept (laid by wip/whole/tools, from the specs there) -/
/-! THE REFERENCE: the rows that are kept -/
section JWB
variable {p : Program} {l : Launch} {e : Env} {R : Room} {s : State} {m : MethodId} {args : Array Value} {below : List Frame} {meth : Method} {c : Code} {H : Heap} {locs : List Loc} {cells slots : Nat} {Q : State → Prop}
variable {cc : ByteArray} {pc : Nat} {ls : Array Slot} {rest st : List Value} {D : va_G} {cy : Nat → ClassId} {A : Nat → Prop} {H0 : Heap} {w : va_W} {Ts : List Cond} {nL : Nat} {own : String}
theorem j_aaldB (S : CallFix p m c cc nL s args Ts own) (hK : jK D cy s) (hW : jW D A H0 w H locs) {q0 a : Nat} {n : Nat} {f : Nat → Option Nat} (ha : w[q0]? = some (a, .inl (cy 6, n, .inr (.inr (.inr (.inr f)))))) {i : Int32} {j : Nat} (hi : vp_in i n) (hj : i.toNatClampNeg = j) {x : Value} (hv : va_rf (f j) = x) (hdg : decode cc pc = .ok (.aaload, 1))
    (kk : W p l e R s m args below meth c H locs cells slots Q (F0 m (pc + 1) ls (x :: rest))) : W p l e R s m args below meth c H locs cells slots Q (F0 m pc ls (.int i :: .ref a :: rest)) := by
  subst hj; subst hv
  have hlt : i.toNatClampNeg < n := Nat.not_le.mp fun q => hi (Or.inr q)
  have ht : (tyG cy)[6]? = some (cy 6, .array .boolean) := rfl
  exact W.aald (v := va_rf (f i.toNatClampNeg)) (ty := .array .boolean) S.1 S.2.1 (hW.1 q0 _ ha) ((hK.1.2 6 _ ht).1 n (fun j => va_rf (f j))) rfl (fun q => by cases q) (by show ¬ (i < 0 ∨ (arrV _ _ _).slots.size ≤ _); rw [arrV_size]; exact hi) (by show (arrV _ _ _).slots[_]? = _; rw [arrV_read _ _ hlt]) rfl rfl hdg kk
end JWB
theorem kp_at {ad : Nat → Nat} {j : Nat} (h : j < 4) : va_rf (kpF ad j) = .ref (ad (67 + j)) := by unfold kpF; rw [if_pos h]; rfl
/-- isSlot -/
theorem c_X12_isSlot (l : Launch) (D : va_G) (cy : Nat → ClassId) {w : va_W} (v : Int32) : jM l yX12_isSlot (jws yX12_isSlot cX12_isSlot 1 (some .boolean)) (jR 1 0 0) D cy w [.int v] 0 0 (fun vv uu => vv = some (.int (bI (vB v 4))) ∧ w = uu) := by
  refine j_of (by decide) rfl (Nat.le_of_ble_eq_true rfl) ?_
  intro p e s m args below meth c A ls Q hQ S hr hK hA H locs hW hl
  have hl : lv_has ls 1 [(0, .int v)] := hl
  refine lv_iload_n S.1 S.2.1 dX12_isSlot_0 rfl (lv_at hl 0 rfl) ?_
  refine lv_iconst (v := nI 0) S.1 S.2.1 dX12_isSlot_1 (by decide) ?_
  refine lv_iconst (v := nI 3) S.1 S.2.1 dX12_isSlot_2 (by decide) ?_
  refine j_callS (As := [.int v, .int (nI 0), .int (nI 3)]) (rest := []) S hK hA hW (c_X12_isBetween l D cy v (nI 0) (nI 3)    ) (jgo wm_X12_67) yk_X12_isBetween ⟨⟨rfl, rfl⟩, by decide, by decide⟩ rfl hl.1 rfl (Nat.le_of_ble_eq_true rfl) dX12_isSlot_3 ⟨Nat.le_of_ble_eq_true rfl, Nat.le_of_ble_eq_true rfl⟩ (fun v u H locs hp hW => ?_)
  obtain ⟨rfl, rfl⟩ := hp
  refine W.eq (g2 := F0 m 6 ls [.int (bI (decide ((nI 0) ≤ v) && decide (v ≤ (nI 3))))]) rfl ?_
  refine lv_topi_to (y := bI (vB v 4)) (by rw [btw_k (k := 3) (by decide)]) ?_
  subst hQ
  exact j_iret (u := w) S hr (bI_nar _) hK hW dX12_isSlot_6 ⟨by decide, by decide⟩ (⟨rfl, rfl⟩)
