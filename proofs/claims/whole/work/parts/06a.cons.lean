/-! CONSTRAINTS: its methods (laid by wip/whole/tools, from the specs there) -/
/-! ROWS OF CONSTRAINTS: what an object of one of the three kinds answers -/
section JCC
variable {p : Program} {l : Launch} {e : Env} {R : Room} {s : State} {m : MethodId} {args : Array Value} {below : List Frame} {meth : Method} {c : Code} {H : Heap} {locs : List Loc} {cells slots : Nat} {Q : State → Prop}
variable {cc : ByteArray} {pc : Nat} {ls : Array Slot} {rest st : List Value} {D : va_G} {cy : Nat → ClassId} {A : Nat → Prop} {H0 : Heap} {w : va_W} {nL : Nat} {own : String} {x0 : Cond} {k b a : Nat} {cn : CN}
theorem cobj_o (h : cn.1 = 111) : cobj cn = (3, [.int (nI 111), .int (nI (mbs cn)), .int (nI cn.2.1), .int (nI cn.2.2.1)]) := if_pos h
theorem cobj_x (h : cn.1 = 120) : cobj cn = (7, [.int (nI 120), .int (nI (mbs cn)), .int (nI cn.2.2.2.1)]) := by unfold cobj; rw [if_neg (by omega), if_pos h]
theorem cobj_k (h : cn.1 = 107) : cobj cn = (1, [.int (nI 107), .int (nI (mbs cn)), .int (nI cn.2.2.2.1), .int (nI cn.2.2.2.2)]) := by unfold cobj; rw [if_neg (by omega), if_neg (by omega)]
theorem held_o (h : cn.1 = 111) : heldC cn a = decide ¬ (a &&& cn.2.1 ||| nAnd cn.2.2.1 a) = 0 := if_pos h
theorem held_x (h : cn.1 = 120) : heldC cn a = decide (cnt (a &&& mbs cn).testBit 10 % 2 = cn.2.2.2.1) := by unfold heldC; rw [if_neg (by omega), if_pos h]
theorem held_k (h : cn.1 = 107) : heldC cn a = (decide (cn.2.2.2.1 ≤ cnt (a &&& mbs cn).testBit 10) && decide (cnt (a &&& mbs cn).testBit 10 ≤ cn.2.2.2.2)) := by unfold heldC; rw [if_neg (by omega), if_neg (by omega)]
/-- isMetBy of any kind -/
theorem j_met {index : Nat} (S : CallFix p m c cc nL s args (x0 :: lw_good) own) (hK : jK D cy s) (hA : ∀ q, H0.size ≤ q → A q) (hW : jW D A H0 w H locs) (he : w[k]? = some (b, .inr (cobj cn))) (ok : okC cn) (ha : a < 1024)
    (w3 : ∀ w ∈ va_wsU own index RX3 "Countfall$Constraint" xMet yX3_isMetBy (jws yX3_isMetBy cX3_isMetBy 2 (some .boolean)), w ∈ lw_good) (w8 : ∀ w ∈ va_wsU own index RX8 "Countfall$Constraint" xMet yX8_isMetBy (jws yX8_isMetBy cX8_isMetBy 2 (some .boolean)), w ∈ lw_good) (w1 : ∀ w ∈ va_wsU own index RX1 "Countfall$Constraint" xMet yX1_isMetBy (jws yX1_isMetBy cX1_isMetBy 3 (some .boolean)), w ∈ lw_good)
    (hR : 1 + 1 ≤ R.frames ∧ 8 + (3 + 11) + 40 ≤ R.locals) (hl : ls.size = nL) (hcat : (rest.map fun v => v.category).sum ≤ 8) (hdg : decode cc pc = .ok (.invokevirtual index, 3)) (hf : cells + 0 ≤ R.cells ∧ slots + 0 ≤ R.slots)
    (kk : ∀ (H1 : Heap) (locs1 : List Loc), jW D A H0 w H1 locs1 → W p l e R s m args below meth c H1 locs1 (cells + 0) (slots + 0) Q (F0 m (pc + 3) ls (.int (bI (heldC cn a)) :: rest))) :
    W p l e R s m args below meth c H locs cells slots Q (F0 m pc ls (.int (nI a) :: .ref b :: rest)) := by
  obtain ⟨h1, b1, b2, b3, b4⟩ := ok
  have hm : mbs cn < 1024 := Nat.or_lt_two_pow (n := 10) b1 b2
  rcases h1 with h | h | h
  · rw [cobj_o h] at he
    refine j_callA (k := k) (ci := 3) (q := (RX3, TX3, 4)) (As := [.int (nI a)]) (rest := rest) S hK hA hW (c_X3_isMetBy l D cy k b 111 (mbs cn) cn.2.1 cn.2.2.1 a he b1 ⟨b2, ha⟩) (jgo w3) rfl he rfl rfl ⟨⟨rfl, rfl⟩, Nat.le_trans (by decide) hR.1, Nat.le_trans (by decide) hR.2⟩ rfl hl rfl hcat hdg hf (fun v u H1 locs1 hp hW1 => ?_)
    obtain ⟨rfl, rfl⟩ := hp
    rw [← held_o h]
    exact kk H1 locs1 hW1
  · rw [cobj_x h] at he
    refine j_callA (k := k) (ci := 7) (q := (RX8, TX8, 3)) (As := [.int (nI a)]) (rest := rest) S hK hA hW (c_X8_isMetBy l D cy k b 120 (mbs cn) cn.2.2.2.1 a he hm b3) (jgo w8) rfl he rfl rfl ⟨⟨rfl, rfl⟩, hR.1, Nat.le_trans (by decide) hR.2⟩ rfl hl rfl hcat hdg hf (fun v u H1 locs1 hp hW1 => ?_)
    obtain ⟨rfl, rfl⟩ := hp
    rw [← held_x h]
    exact kk H1 locs1 hW1
  · rw [cobj_k h] at he
    refine j_callA (k := k) (ci := 1) (q := (RX1, TX1, 4)) (As := [.int (nI a)]) (rest := rest) S hK hA hW (c_X1_isMetBy l D cy k b 107 (mbs cn) cn.2.2.2.1 cn.2.2.2.2 a he hm ⟨b3, b4⟩) (jgo w1) rfl he rfl rfl ⟨⟨rfl, rfl⟩, hR.1, Nat.le_trans (by decide) hR.2⟩ rfl hl rfl hcat hdg hf (fun v u H1 locs1 hp hW1 => ?_)
    obtain ⟨rfl, rfl⟩ := hp
    rw [← held_k h]
    exact kk H1 locs1 hW1
/-- its variables -/
theorem j_mem {index : Nat} (S : CallFix p m c cc nL s args (x0 :: lw_good) own) (hK : jK D cy s) (hW : jW D A H0 w H locs) (he : w[k]? = some (b, .inr (cobj cn))) (ok : okC cn) (hlk : Cond.fieldLink own index "Countfall$Constraint" "members" "I" ∈ lw_good) (hdg : decode cc pc = .ok (.getfield index, 3))
    (kk : W p l e R s m args below meth c H locs cells slots Q (F0 m (pc + 3) ls (.int (nI (mbs cn)) :: rest))) : W p l e R s m args below meth c H locs cells slots Q (F0 m pc ls (.ref b :: rest)) := by
  rcases ok.1 with h | h | h
  · rw [cobj_o h] at he
    exact j_get (ci := 3) (C := RX3) (T := TX3) (N := 4) (v := .int (nI (mbs cn))) S (fun w h => List.mem_cons_of_mem _ (inG3 w h)) hK hW he rfl 1 (by decide) (List.mem_cons_of_mem _ hlk) (fun _ h9 => h9) rfl hdg kk
  · rw [cobj_x h] at he
    exact j_get (ci := 7) (C := RX8) (T := TX8) (N := 3) (v := .int (nI (mbs cn))) S (fun w h => List.mem_cons_of_mem _ (inG8 w h)) hK hW he rfl 1 (by decide) (List.mem_cons_of_mem _ hlk) (fun _ h9 => h9) rfl hdg kk
  · rw [cobj_k h] at he
    exact j_get (ci := 1) (C := RX1) (T := TX1) (N := 4) (v := .int (nI (mbs cn))) S (fun w h => List.mem_cons_of_mem _ (inG1 w h)) hK hW he rfl 1 (by decide) (List.mem_cons_of_mem _ hlk) (fun _ h9 => h9) rfl hdg kk
/-- its sign -/
theorem j_sign {index : Nat} (S : CallFix p m c cc nL s args (x0 :: lw_good) own) (hK : jK D cy s) (hW : jW D A H0 w H locs) (he : w[k]? = some (b, .inr (cobj cn))) (ok : okC cn) (hlk : Cond.fieldLink own index "Countfall$Constraint" "sign" "C" ∈ lw_good) (hdg : decode cc pc = .ok (.getfield index, 3))
    (kk : W p l e R s m args below meth c H locs cells slots Q (F0 m (pc + 3) ls (.int (nI cn.1) :: rest))) : W p l e R s m args below meth c H locs cells slots Q (F0 m pc ls (.ref b :: rest)) := by
  rcases ok.1 with h | h | h
  · rw [cobj_o h] at he; rw [h] at kk
    exact j_get (ci := 3) (C := RX3) (T := TX3) (N := 4) (v := .int (nI 111)) S (fun w h => List.mem_cons_of_mem _ (inG3 w h)) hK hW he rfl 0 (by decide) (List.mem_cons_of_mem _ hlk) (fun _ h9 => h9) rfl hdg kk
  · rw [cobj_x h] at he; rw [h] at kk
    exact j_get (ci := 7) (C := RX8) (T := TX8) (N := 3) (v := .int (nI 120)) S (fun w h => List.mem_cons_of_mem _ (inG8 w h)) hK hW he rfl 0 (by decide) (List.mem_cons_of_mem _ hlk) (fun _ h9 => h9) rfl hdg kk
  · rw [cobj_k h] at he; rw [h] at kk
    exact j_get (ci := 1) (C := RX1) (T := TX1) (N := 4) (v := .int (nI 107)) S (fun w h => List.mem_cons_of_mem _ (inG1 w h)) hK hW he rfl 0 (by decide) (List.mem_cons_of_mem _ hlk) (fun _ h9 => h9) rfl hdg kk
/-- a constraint of any kind put into the row of constraints -/
theorem j_astC {q0 a0 n v j : Nat} {f : Nat → Option Nat} {i : Int32} (S : CallFix p m c cc nL s args (x0 :: lw_good) own) (hK : jK D cy s) (hW : jW D A H0 w H locs) (ha : w[q0]? = some (a0, .inl (cy 5, n, .inr (.inr (.inr (.inr f)))))) (hv : w[k]? = some (v, .inr (cobj cn))) (ok : okC cn) (hi : vp_in i n) (hj : i.toNatClampNeg = j) (hdg : decode cc pc = .ok (.aastore, 1))
    (kk : ∀ (H1 : Heap) (locs1 : List Loc) (w1 : va_W), jU w w1 [q0] → w1[q0]? = some (a0, .inl (cy 5, n, .inr (.inr (.inr (.inr (va_up f j (some v))))))) → jW D A H0 w1 H1 locs1 → W p l e R s m args below meth c H1 locs1 cells slots Q (F0 m (pc + 1) ls rest)) : W p l e R s m args below meth c H locs cells slots Q (F0 m pc ls (.ref v :: .int i :: .ref a0 :: rest)) := by
  subst hj
  have hE := hK.2.2.1
  rcases ok.1 with h | h | h
  · rw [cobj_o h] at hv
    exact va_astqO (r := (RX3, TX3, 4)) S.1 S.2.1 hK.1 hW.1 hW.2.1 hW.2.2 q0 5 k 3 ha rfl hE.1 hv rfl hi hdg (fun H1 locs1 h1 h2 h3 => kk H1 locs1 _ jU.set (jset ha) ⟨h1, h2, h3⟩)
  · rw [cobj_x h] at hv
    exact va_astqO (r := (RX8, TX8, 3)) S.1 S.2.1 hK.1 hW.1 hW.2.1 hW.2.2 q0 5 k 7 ha rfl hE.2.1 hv rfl hi hdg (fun H1 locs1 h1 h2 h3 => kk H1 locs1 _ jU.set (jset ha) ⟨h1, h2, h3⟩)
  · rw [cobj_k h] at hv
    exact va_astqO (r := (RX1, TX1, 4)) S.1 S.2.1 hK.1 hW.1 hW.2.1 hW.2.2 q0 5 k 1 ha rfl hE.2.2 hv rfl hi hdg (fun H1 locs1 h1 h2 h3 => kk H1 locs1 _ jU.set (jset ha) ⟨h1, h2, h3⟩)
end JCC
/-- a number that may be that of a row's place -/
theorem i_cases (i : Int32) (m : Nat) (hm : m < 2 ^ 31) : (∃ c, c < m ∧ i = nI c) ∨ ¬ (0 ≤ i.toInt ∧ i.toInt < m) := by
  by_cases h : 0 ≤ i.toInt ∧ i.toInt < m
  · exact Or.inl ⟨i.toInt.toNat, by omega, by apply Int32.toInt_inj.mp; rw [nI_toInt (by omega)]; omega⟩
  · exact Or.inr h

/-- count -/
theorem c_X5_count (l : Launch) (D : va_G) (cy : Nat → ClassId) {w : va_W} (ad : Nat → Nat) (nc lv : Nat) (tf : Nat → Option Nat) (hC : w[9]? = some (ad 9, .inr (4, [.ref (ad 10), .int (nI nc), .int (nI lv)]))) (hT : w[10]? = some (ad 10, .inl (cy 5, 20, .inr (.inr (.inr (.inr tf)))))) : jM l yX5_count (jws yX5_count cX5_count 1 (some .int)) (jR 0 0 0) D cy w [.ref (ad 9)] 0 0 (fun vv uu => vv = some (.int (nI nc)) ∧ w = uu) := by
  refine j_of (by decide) rfl (Nat.le_of_ble_eq_true rfl) ?_
  intro p e s m args below meth c A ls Q hQ S hr hK hA H locs hW hl
  have hl : lv_has ls 1 [(0, .ref (ad 9))] := hl
  refine lv_aload_n S.1 S.2.1 dX5_count_0 rfl (lv_at hl 0 rfl) ?_
  refine j_get (ci := 4) (C := RX5) (T := TX5) (N := 3) (v := .int (nI nc)) S (fun w h => List.mem_cons_of_mem _ (inG5 w h)) hK hW hC rfl 1 (by decide) (List.mem_cons_of_mem _ wfl_X5_17) (fun _ h9 => h9) rfl dX5_count_1 ?_
  subst hQ
  exact j_iret (u := w) S hr (rfl) hK hW dX5_count_4 ⟨by decide, by decide⟩ (⟨rfl, rfl⟩)
/-- live -/
theorem c_X5_live (l : Launch) (D : va_G) (cy : Nat → ClassId) {w : va_W} (ad : Nat → Nat) (nc lv : Nat) (tf : Nat → Option Nat) (hC : w[9]? = some (ad 9, .inr (4, [.ref (ad 10), .int (nI nc), .int (nI lv)]))) (hT : w[10]? = some (ad 10, .inl (cy 5, 20, .inr (.inr (.inr (.inr tf)))))) : jM l yX5_live (jws yX5_live cX5_live 1 (some .int)) (jR 0 0 0) D cy w [.ref (ad 9)] 0 0 (fun vv uu => vv = some (.int (nI lv)) ∧ w = uu) := by
  refine j_of (by decide) rfl (Nat.le_of_ble_eq_true rfl) ?_
  intro p e s m args below meth c A ls Q hQ S hr hK hA H locs hW hl
  have hl : lv_has ls 1 [(0, .ref (ad 9))] := hl
  refine lv_aload_n S.1 S.2.1 dX5_live_0 rfl (lv_at hl 0 rfl) ?_
  refine j_get (ci := 4) (C := RX5) (T := TX5) (N := 3) (v := .int (nI lv)) S (fun w h => List.mem_cons_of_mem _ (inG5 w h)) hK hW hC rfl 2 (by decide) (List.mem_cons_of_mem _ wfl_X5_21) (fun _ h9 => h9) rfl dX5_live_1 ?_
  subst hQ
  exact j_iret (u := w) S hr (rfl) hK hW dX5_live_4 ⟨by decide, by decide⟩ (⟨rfl, rfl⟩)
/-- at: a told one -/
theorem c_X5_atY (l : Launch) (D : va_G) (cy : Nat → ClassId) {w : va_W} (ad : Nat → Nat) (nc lv : Nat) (tf : Nat → Option Nat) (cp ca : Nat → Nat) (cs : Nat → CN) (jc : Nat) (hC : w[9]? = some (ad 9, .inr (4, [.ref (ad 10), .int (nI nc), .int (nI lv)]))) (hT : w[10]? = some (ad 10, .inl (cy 5, 20, .inr (.inr (.inr (.inr tf)))))) (hcon : conOK w nc tf cp ca cs) (hc : jc < nc) : jM l yX5_at (jws yX5_at cX5_at 2 (some (.object "Countfall$Constraint"))) (jR 0 0 0) D cy w [.ref (ad 9), .int (nI jc)] 0 0 (fun vv uu => vv = some (.ref (ca jc)) ∧ w = uu) := by
  have hm20 := hcon.1
  refine j_of (by decide) rfl (Nat.le_of_ble_eq_true rfl) ?_
  intro p e s m args below meth c A ls Q hQ S hr hK hA H locs hW hl
  have hl : lv_has ls 2 [(0, .ref (ad 9)), (1, .int (nI jc))] := hl
  refine lv_iload_n S.1 S.2.1 dX5_at_0 rfl (lv_at hl 1 rfl) ?_
  refine jn_if_lt (tgt := 22) S (by omega) dX5_at_1 (by decide) ?_
  refine lv_iload_n S.1 S.2.1 dX5_at_4 rfl (lv_at hl 1 rfl) ?_
  refine lv_aload_n S.1 S.2.1 dX5_at_5 rfl (lv_at hl 0 rfl) ?_
  refine j_get (ci := 4) (C := RX5) (T := TX5) (N := 3) (v := .ref (ad 10)) S (fun w h => List.mem_cons_of_mem _ (inG5 w h)) hK hW hC rfl 0 (by decide) (List.mem_cons_of_mem _ wfl_X5_11) (fun _ h9 => h9) rfl dX5_at_6 ?_
  refine j_alen (t0 := 5) S hK hW hT rfl dX5_at_9 ?_
  refine jn_cmp_ge (tgt := 22) S (by omega) (by omega) dX5_at_10 (by decide) (fun c_10 => ?_) (fun c_10 => ?_)
  · exact absurd c_10 (by omega)
  · refine lv_aload_n S.1 S.2.1 dX5_at_13 rfl (lv_at hl 0 rfl) ?_
    refine j_get (ci := 4) (C := RX5) (T := TX5) (N := 3) (v := .ref (ad 10)) S (fun w h => List.mem_cons_of_mem _ (inG5 w h)) hK hW hC rfl 0 (by decide) (List.mem_cons_of_mem _ wfl_X5_11) (fun _ h9 => h9) rfl dX5_at_14 ?_
    refine lv_iload_n S.1 S.2.1 dX5_at_17 rfl (lv_at hl 1 rfl) ?_
    refine j_aald (t0 := 5) (x := .ref (ca jc)) S hK hW hT rfl (vp_in_nI (by omega) (by omega)) (nI_clamp (by omega)) (by rw [hcon.2.1 jc hc]; rfl) dX5_at_18 ?_
    refine lv_goto (tgt := 23) S.1 S.2.1 dX5_at_19 (by decide) ?_
    subst hQ
    exact j_aret (u := w) S hr (Or.inr ⟨_, rfl⟩) hK hW dX5_at_23 ⟨by decide, by decide⟩ (⟨rfl, rfl⟩)
/-- at: none there -/
theorem c_X5_atN (l : Launch) (D : va_G) (cy : Nat → ClassId) {w : va_W} (ad : Nat → Nat) (nc lv : Nat) (tf : Nat → Option Nat) (cp ca : Nat → Nat) (cs : Nat → CN) (i : Int32) (hC : w[9]? = some (ad 9, .inr (4, [.ref (ad 10), .int (nI nc), .int (nI lv)]))) (hT : w[10]? = some (ad 10, .inl (cy 5, 20, .inr (.inr (.inr (.inr tf)))))) (hcon : conOK w nc tf cp ca cs) (hi : ¬ (0 ≤ i.toInt ∧ i.toInt < nc)) : jM l yX5_at (jws yX5_at cX5_at 2 (some (.object "Countfall$Constraint"))) (jR 0 0 0) D cy w [.ref (ad 9), .int i] 0 0 (fun vv uu => vv = some (.null) ∧ w = uu) := by
  refine j_of (by decide) rfl (Nat.le_of_ble_eq_true rfl) ?_
  intro p e s m args below meth c A ls Q hQ S hr hK hA H locs hW hl
  have hl : lv_has ls 2 [(0, .ref (ad 9)), (1, .int i)] := hl
  refine lv_iload_n S.1 S.2.1 dX5_at_0 rfl (lv_at hl 1 rfl) ?_
  refine lv_if_lt (tgt := 22) S.1 S.2.1 dX5_at_1 (by decide) (fun c_1 => ?_) (fun c_1 => ?_)
  · refine lv_null S.1 S.2.1 dX5_at_22 ?_
    subst hQ
    exact j_aret (u := w) S hr (Or.inl rfl) hK hW dX5_at_23 ⟨by decide, by decide⟩ (⟨rfl, rfl⟩)
  · refine lv_iload_n S.1 S.2.1 dX5_at_4 rfl (lv_at hl 1 rfl) ?_
    refine lv_aload_n S.1 S.2.1 dX5_at_5 rfl (lv_at hl 0 rfl) ?_
    refine j_get (ci := 4) (C := RX5) (T := TX5) (N := 3) (v := .ref (ad 10)) S (fun w h => List.mem_cons_of_mem _ (inG5 w h)) hK hW hC rfl 0 (by decide) (List.mem_cons_of_mem _ wfl_X5_11) (fun _ h9 => h9) rfl dX5_at_6 ?_
    refine j_alen (t0 := 5) S hK hW hT rfl dX5_at_9 ?_
    refine lv_icmp_ge (tgt := 22) S.1 S.2.1 dX5_at_10 (by decide) (fun c_10 => ?_) (fun c_10 => ?_)
    · refine lv_null S.1 S.2.1 dX5_at_22 ?_
      subst hQ
      exact j_aret (u := w) S hr (Or.inl rfl) hK hW dX5_at_23 ⟨by decide, by decide⟩ (⟨rfl, rfl⟩)
    · refine lv_aload_n S.1 S.2.1 dX5_at_13 rfl (lv_at hl 0 rfl) ?_
      refine j_get (ci := 4) (C := RX5) (T := TX5) (N := 3) (v := .ref (ad 10)) S (fun w h => List.mem_cons_of_mem _ (inG5 w h)) hK hW hC rfl 0 (by decide) (List.mem_cons_of_mem _ wfl_X5_11) (fun _ h9 => h9) rfl dX5_at_14 ?_
      refine lv_iload_n S.1 S.2.1 dX5_at_17 rfl (lv_at hl 1 rfl) ?_
      refine j_aald (t0 := 5) (x := .null) S hK hW hT rfl (vp_mid (n := 20) c_1 c_10 (by decide)) rfl (by rw [hcon.2.2.1 _ (by have := in_mid (n := 20) c_1 c_10 (by decide); rw [Int32.toNatClampNeg]; omega)]; rfl) dX5_at_18 ?_
      refine lv_goto (tgt := 23) S.1 S.2.1 dX5_at_19 (by decide) ?_
      subst hQ
      exact j_aret (u := w) S hr (Or.inl rfl) hK hW dX5_at_23 ⟨by decide, by decide⟩ (⟨rfl, rfl⟩)
/-- isLive of a told one -/
theorem c_X5_isLive (l : Launch) (D : va_G) (cy : Nat → ClassId) {w : va_W} (ad : Nat → Nat) (nc lv : Nat) (tf : Nat → Option Nat) (cp ca : Nat → Nat) (cs : Nat → CN) (jc : Nat) (hC : w[9]? = some (ad 9, .inr (4, [.ref (ad 10), .int (nI nc), .int (nI lv)]))) (hT : w[10]? = some (ad 10, .inl (cy 5, 20, .inr (.inr (.inr (.inr tf)))))) (hcon : conOK w nc tf cp ca cs) (hc : jc < nc) (hlv : lv < 2 ^ 20) : jM l yX5_isLive (jws yX5_isLive cX5_isLive 2 (some .boolean)) (jR 1 0 0) D cy w [.ref (ad 9), .int (nI jc)] 0 0 (fun vv uu => vv = some (.int (bI (lv.testBit jc))) ∧ w = uu) := by
  have hm20 := hcon.1
  refine j_of (by decide) rfl (Nat.le_of_ble_eq_true rfl) ?_
  intro p e s m args below meth c A ls Q hQ S hr hK hA H locs hW hl
  have hl : lv_has ls 2 [(0, .ref (ad 9)), (1, .int (nI jc))] := hl
  refine lv_aload_n S.1 S.2.1 dX5_isLive_0 rfl (lv_at hl 0 rfl) ?_
  refine lv_iload_n S.1 S.2.1 dX5_isLive_1 rfl (lv_at hl 1 rfl) ?_
  refine j_callV (k := 9) (ci := 4) (q := (RX5, TX5, 3)) (As := [.int (nI jc)]) (rest := []) S hK hA hW (c_X5_atY l D cy ad nc lv tf cp ca cs jc hC hT hcon  (by omega)) (jgo wm_X5_24) yk_X5_at hC rfl rfl ⟨⟨rfl, rfl⟩, by decide, by decide⟩ rfl hl.1 rfl (Nat.le_of_ble_eq_true rfl) dX5_isLive_2 ⟨Nat.le_of_ble_eq_true rfl, Nat.le_of_ble_eq_true rfl⟩ (fun v u H locs hp hW => ?_)
  obtain ⟨rfl, rfl⟩ := hp
  refine W.eq (g2 := F0 m 5 ls [.ref (ca jc)]) rfl ?_
  refine lv_ifnull S.1 S.2.1 dX5_isLive_5 ?_
  refine lv_aload_n S.1 S.2.1 dX5_isLive_8 rfl (lv_at hl 0 rfl) ?_
  refine j_get (ci := 4) (C := RX5) (T := TX5) (N := 3) (v := .int (nI lv)) S (fun w h => List.mem_cons_of_mem _ (inG5 w h)) hK hW hC rfl 2 (by decide) (List.mem_cons_of_mem _ wfl_X5_21) (fun _ h9 => h9) rfl dX5_isLive_9 ?_
  refine lv_iload_n S.1 S.2.1 dX5_isLive_12 rfl (lv_at hl 1 rfl) ?_
  refine jn_shr S (by omega) (by omega) dX5_isLive_13 ?_
  refine lv_iconst (v := nI 1) S.1 S.2.1 dX5_isLive_14 (by decide) ?_
  refine jn_and S dX5_isLive_15 ?_
  refine lv_topi_to (y := bI (lv.testBit jc)) (nI_bit _ _) ?_
  refine jb_if_eq (tgt := 23) S dX5_isLive_16 (by decide) (fun c_16 => ?_) (fun c_16 => ?_)
  · refine lv_iconst (v := nI 0) S.1 S.2.1 dX5_isLive_23 (by decide) ?_
    subst hQ
    exact j_iret (u := w) S hr (rfl) hK hW dX5_isLive_24 ⟨by decide, by decide⟩ (⟨bI_F c_16, rfl⟩)
  · refine lv_iconst (v := nI 1) S.1 S.2.1 dX5_isLive_19 (by decide) ?_
    refine lv_goto (tgt := 24) S.1 S.2.1 dX5_isLive_20 (by decide) ?_
    subst hQ
    exact j_iret (u := w) S hr (rfl) hK hW dX5_isLive_24 ⟨by decide, by decide⟩ (⟨bI_T c_16, rfl⟩)
/-- add -/
theorem c_X5_add (l : Launch) (D : va_G) (cy : Nat → ClassId) {w : va_W} (ad : Nat → Nat) (nc lv : Nat) (tf : Nat → Option Nat) (pq cq : Nat) (cn : CN) (hC : w[9]? = some (ad 9, .inr (4, [.ref (ad 10), .int (nI nc), .int (nI lv)]))) (hT : w[10]? = some (ad 10, .inl (cy 5, 20, .inr (.inr (.inr (.inr tf)))))) (hm : nc < 20) (hq : w[pq]? = some (cq, .inr (cobj cn))) (okq : okC cn) : jM l yX5_add (jws yX5_add cX5_add 3 (some .int)) (jR 0 0 0) D cy w [.ref (ad 9), .ref cq] 0 0 (fun vv uu => vv = some (.int (nI nc)) ∧ jU w uu [9, 10] ∧ uu[9]? = some (ad 9, .inr (4, [.ref (ad 10), .int (nI (nc + 1)), .int (nI (lv ||| 2 ^ nc))])) ∧ uu[10]? = some (ad 10, .inl (cy 5, 20, .inr (.inr (.inr (.inr (va_up tf nc (some cq)))))))) := by
  refine j_of (by decide) rfl (Nat.le_of_ble_eq_true rfl) ?_
  intro p e s m args below meth c A ls Q hQ S hr hK hA H locs hW hl
  have hl : lv_has ls 3 [(0, .ref (ad 9)), (1, .ref cq)] := hl
  refine lv_aload_n S.1 S.2.1 dX5_add_0 rfl (lv_at hl 0 rfl) ?_
  refine j_get (ci := 4) (C := RX5) (T := TX5) (N := 3) (v := .int (nI nc)) S (fun w h => List.mem_cons_of_mem _ (inG5 w h)) hK hW hC rfl 1 (by decide) (List.mem_cons_of_mem _ wfl_X5_17) (fun _ h9 => h9) rfl dX5_add_1 ?_
  refine lv_istore_n (lv' := [(2, .int (nI nc)), (0, .ref (ad 9)), (1, .ref cq)]) S.1 S.2.1 dX5_add_4 rfl hl (by decide) rfl (fun ls hl => ?_)
  refine lv_iload_n S.1 S.2.1 dX5_add_5 rfl (lv_at hl 0 rfl) ?_
  refine jn_if_lt (tgt := 47) S (by omega) dX5_add_6 (by decide) ?_
  refine lv_iload_n S.1 S.2.1 dX5_add_9 rfl (lv_at hl 0 rfl) ?_
  refine lv_aload_n S.1 S.2.1 dX5_add_10 rfl (lv_at hl 1 rfl) ?_
  refine j_get (ci := 4) (C := RX5) (T := TX5) (N := 3) (v := .ref (ad 10)) S (fun w h => List.mem_cons_of_mem _ (inG5 w h)) hK hW hC rfl 0 (by decide) (List.mem_cons_of_mem _ wfl_X5_11) (fun _ h9 => h9) rfl dX5_add_11 ?_
  refine j_alen (t0 := 5) S hK hW hT rfl dX5_add_14 ?_
  refine jn_cmp_ge (tgt := 47) S (by omega) (by omega) dX5_add_15 (by decide) (fun c_15 => ?_) (fun c_15 => ?_)
  · exact absurd c_15 (by omega)
  · refine lv_aload_n S.1 S.2.1 dX5_add_18 rfl (lv_at hl 1 rfl) ?_
    refine j_get (ci := 4) (C := RX5) (T := TX5) (N := 3) (v := .ref (ad 10)) S (fun w h => List.mem_cons_of_mem _ (inG5 w h)) hK hW hC rfl 0 (by decide) (List.mem_cons_of_mem _ wfl_X5_11) (fun _ h9 => h9) rfl dX5_add_19 ?_
    refine lv_iload_n S.1 S.2.1 dX5_add_22 rfl (lv_at hl 0 rfl) ?_
    refine lv_aload_n S.1 S.2.1 dX5_add_23 rfl (lv_at hl 2 rfl) ?_
    refine j_astC S hK hW hT hq okq (vp_in_nI (by omega) (by omega)) (nI_clamp (by omega)) dX5_add_24 (fun H locs w_ hU1 hN1 hW => ?_)
    have hU : jU w w_ [9, 10] := jU.mono hU1 (by decide)
    have hC_ := hU1.get hC (by decide)
    have hT_ : w_[10]? = some (ad 10, .inl (cy 5, 20, .inr (.inr (.inr (.inr (va_up tf nc (some cq))))))) := hN1
    clear hU1 hN1
    refine lv_aload_n S.1 S.2.1 dX5_add_25 rfl (lv_at hl 1 rfl) ?_
    refine lv_dup S.1 S.2.1 dX5_add_26 rfl ?_
    refine j_get (ci := 4) (C := RX5) (T := TX5) (N := 3) (v := .int (nI lv)) S (fun w h => List.mem_cons_of_mem _ (inG5 w h)) hK hW hC_ rfl 2 (by decide) (List.mem_cons_of_mem _ wfl_X5_21) (fun _ h9 => h9) rfl dX5_add_27 ?_
    refine lv_iconst (v := nI 1) S.1 S.2.1 dX5_add_30 (by decide) ?_
    refine lv_iload_n S.1 S.2.1 dX5_add_31 rfl (lv_at hl 0 rfl) ?_
    refine jn_shl1 S (by omega) dX5_add_32 ?_
    refine jn_or S dX5_add_33 ?_
    refine j_put (ci := 4) (C := RX5) (T := TX5) (N := 3) (ty := .int) S (fun w h => List.mem_cons_of_mem _ (inG5 w h)) tyX5 tyX5_ok nmX5 hK hW hC_ rfl 2 (by decide) (List.mem_cons_of_mem _ wfl_X5_21) (fun _ h9 => h9) rfl (by decide +kernel) (rfl) (rfl) (Nat.le_of_ble_eq_true rfl) dX5_add_34 (fun H locs w_ hU1 hN1 hW => ?_)
    have hU := hU.then hU1 (by decide)
    have hT_ := hU1.get hT_ (by decide)
    have hC_ : w_[9]? = some (ad 9, .inr (4, [.ref (ad 10), .int (nI nc), .int (nI (lv ||| (2 ^ nc)))])) := hN1
    clear hU1 hN1
    refine lv_aload_n S.1 S.2.1 dX5_add_37 rfl (lv_at hl 1 rfl) ?_
    refine lv_dup S.1 S.2.1 dX5_add_38 rfl ?_
    refine j_get (ci := 4) (C := RX5) (T := TX5) (N := 3) (v := .int (nI nc)) S (fun w h => List.mem_cons_of_mem _ (inG5 w h)) hK hW hC_ rfl 1 (by decide) (List.mem_cons_of_mem _ wfl_X5_17) (fun _ h9 => h9) rfl dX5_add_39 ?_
    refine lv_iconst (v := nI 1) S.1 S.2.1 dX5_add_42 (by decide) ?_
    refine jn_add S dX5_add_43 ?_
    refine j_put (ci := 4) (C := RX5) (T := TX5) (N := 3) (ty := .int) S (fun w h => List.mem_cons_of_mem _ (inG5 w h)) tyX5 tyX5_ok nmX5 hK hW hC_ rfl 1 (by decide) (List.mem_cons_of_mem _ wfl_X5_17) (fun _ h9 => h9) rfl (by decide +kernel) (rfl) (rfl) (Nat.le_of_ble_eq_true rfl) dX5_add_44 (fun H locs w_ hU1 hN1 hW => ?_)
    have hU := hU.then hU1 (by decide)
    have hT_ := hU1.get hT_ (by decide)
    have hC_ : w_[9]? = some (ad 9, .inr (4, [.ref (ad 10), .int (nI (nc + 1)), .int (nI (lv ||| (2 ^ nc)))])) := hN1
    clear hU1 hN1
    refine lv_iload_n S.1 S.2.1 dX5_add_47 rfl (lv_at hl 0 rfl) ?_
    subst hQ
    exact j_iret (u := w_) S hr (rfl) hK hW dX5_add_48 ⟨by decide, by decide⟩ (⟨rfl, hU, hC_, hT_⟩)
/-- strike -/
theorem c_X5_strike (l : Launch) (D : va_G) (cy : Nat → ClassId) {w : va_W} (ad : Nat → Nat) (nc lv : Nat) (tf : Nat → Option Nat) (jc : Nat) (hC : w[9]? = some (ad 9, .inr (4, [.ref (ad 10), .int (nI nc), .int (nI lv)]))) (hT : w[10]? = some (ad 10, .inl (cy 5, 20, .inr (.inr (.inr (.inr tf)))))) (hc : jc < 20) : jM l yX5_strike (jws yX5_strike cX5_strike 2 none) (jR 0 0 0) D cy w [.ref (ad 9), .int (nI jc)] 0 0 (fun vv uu => vv = none ∧ jU w uu [9] ∧ uu[9]? = some (ad 9, .inr (4, [.ref (ad 10), .int (nI nc), .int (nI (nAnd lv (2 ^ jc)))]))) := by
  refine j_of (by decide) rfl (Nat.le_of_ble_eq_true rfl) ?_
  intro p e s m args below meth c A ls Q hQ S hr hK hA H locs hW hl
  have hl : lv_has ls 2 [(0, .ref (ad 9)), (1, .int (nI jc))] := hl
  refine lv_aload_n S.1 S.2.1 dX5_strike_0 rfl (lv_at hl 0 rfl) ?_
  refine lv_dup S.1 S.2.1 dX5_strike_1 rfl ?_
  refine j_get (ci := 4) (C := RX5) (T := TX5) (N := 3) (v := .int (nI lv)) S (fun w h => List.mem_cons_of_mem _ (inG5 w h)) hK hW hC rfl 2 (by decide) (List.mem_cons_of_mem _ wfl_X5_21) (fun _ h9 => h9) rfl dX5_strike_2 ?_
  refine lv_iconst (v := nI 1) S.1 S.2.1 dX5_strike_5 (by decide) ?_
  refine lv_iload_n S.1 S.2.1 dX5_strike_6 rfl (lv_at hl 1 rfl) ?_
  refine jn_shl1 S (by omega) dX5_strike_7 ?_
  refine lv_iconst (v := (-1)) S.1 S.2.1 dX5_strike_8 (by decide) ?_
  refine lv_ixor S.1 S.2.1 dX5_strike_9 ?_
  refine jn_andn S dX5_strike_10 ?_
  refine j_put (ci := 4) (C := RX5) (T := TX5) (N := 3) (ty := .int) S (fun w h => List.mem_cons_of_mem _ (inG5 w h)) tyX5 tyX5_ok nmX5 hK hW hC rfl 2 (by decide) (List.mem_cons_of_mem _ wfl_X5_21) (fun _ h9 => h9) rfl (by decide +kernel) (rfl) (rfl) (Nat.le_of_ble_eq_true rfl) dX5_strike_11 (fun H locs w_ hU1 hN1 hW => ?_)
  have hU : jU w w_ [9] := jU.mono hU1 (by decide)
  have hC_ : w_[9]? = some (ad 9, .inr (4, [.ref (ad 10), .int (nI nc), .int (nI (nAnd lv (2 ^ jc)))])) := hN1
  clear hU1 hN1
  subst hQ
  exact j_vret (u := w_) S hr hK hW dX5_strike_14 ⟨by decide, by decide⟩ (⟨rfl, hU, hC_⟩)
/-- areMet -/
theorem c_X5_areMet (l : Launch) (D : va_G) (cy : Nat → ClassId) {w : va_W} (ad : Nat → Nat) (nc lv : Nat) (tf : Nat → Option Nat) (cp ca : Nat → Nat) (cs : Nat → CN) (x a : Nat) (hC : w[9]? = some (ad 9, .inr (4, [.ref (ad 10), .int (nI nc), .int (nI lv)]))) (hT : w[10]? = some (ad 10, .inl (cy 5, 20, .inr (.inr (.inr (.inr tf)))))) (hcon : conOK w nc tf cp ca cs) (hx : x < 2 ^ 20) (ha : a < 1024) : jM l yX5_areMet (jws yX5_areMet cX5_areMet 5 (some .boolean)) (jR 2 0 0) D cy w [.ref (ad 9), .int (nI x), .int (nI a)] 0 0 (fun vv uu => vv = some (.int (bI (metN cs nc x a))) ∧ w = uu) := by
  have hm20 := hcon.1
  refine j_of (by decide) rfl (Nat.le_of_ble_eq_true rfl) ?_
  intro p e s m args below meth c A ls Q hQ S hr hK hA H locs hW hl
  have hl : lv_has ls 5 [(0, .ref (ad 9)), (1, .int (nI x)), (2, .int (nI a))] := hl
  refine lv_iconst (v := nI 0) S.1 S.2.1 dX5_areMet_0 (by decide) ?_
  refine lv_istore_n (lv' := [(3, .int (nI 0)), (0, .ref (ad 9)), (1, .int (nI x)), (2, .int (nI a))]) S.1 S.2.1 dX5_areMet_1 rfl hl (by decide) rfl (fun ls hl => ?_)
  have L2 : ∀ (k : Nat) (i : Nat), nc - i = k → (i ≤ nc) → (∀ jc, jc < i → (!x.testBit jc || heldC (cs jc) a) = true) → ∀ (H : Heap) (locs : List Loc) (ls : Array Slot), jW D A s.heap w H locs → lv_has ls 5 [(0, .ref (ad 9)), (1, .int (nI x)), (2, .int (nI a)), (3, .int (nI i))] → W p l e (jR 2 0 0) s m args below meth c H locs 0 0 Q (F0 m 2 ls []) := by
    intro k
    induction k using Nat.strongRecOn with
    | ind k ih2 =>
    intro i hk hi hall H locs ls hW hl
    subst hk
    refine lv_iload_n S.1 S.2.1 dX5_areMet_2 rfl (lv_at hl 3 rfl) ?_
    refine lv_aload_n S.1 S.2.1 dX5_areMet_3 rfl (lv_at hl 0 rfl) ?_
    refine j_get (ci := 4) (C := RX5) (T := TX5) (N := 3) (v := .int (nI nc)) S (fun w h => List.mem_cons_of_mem _ (inG5 w h)) hK hW hC rfl 1 (by decide) (List.mem_cons_of_mem _ wfl_X5_17) (fun _ h9 => h9) rfl dX5_areMet_4 ?_
    refine jn_cmp_ge (tgt := 47) S (by omega) (by omega) dX5_areMet_7 (by decide) (fun c_7 => ?_) (fun c_7 => ?_)
    · refine lv_iconst (v := nI 1) S.1 S.2.1 dX5_areMet_47 (by decide) ?_
      subst hQ
      refine j_iret (u := w) S hr (rfl) hK hW dX5_areMet_48 ⟨by decide, by decide⟩ ?_
      exact ⟨bI_T (allB_iff.mpr (fun jc hc => hall jc (by omega))), rfl⟩
    · refine lv_aload_n S.1 S.2.1 dX5_areMet_10 rfl (lv_at hl 0 rfl) ?_
      refine lv_iload_n S.1 S.2.1 dX5_areMet_11 rfl (lv_at hl 3 rfl) ?_
      refine j_callV (k := 9) (ci := 4) (q := (RX5, TX5, 3)) (As := [.int (nI i)]) (rest := []) S hK hA hW (c_X5_atY l D cy ad nc lv tf cp ca cs i hC hT hcon  (by omega)) (jgo wm_X5_24) yk_X5_at hC rfl rfl ⟨⟨rfl, rfl⟩, by decide, by decide⟩ rfl hl.1 rfl (Nat.le_of_ble_eq_true rfl) dX5_areMet_12 ⟨Nat.le_of_ble_eq_true rfl, Nat.le_of_ble_eq_true rfl⟩ (fun v u H locs hp hW => ?_)
      obtain ⟨rfl, rfl⟩ := hp
      refine W.eq (g2 := F0 m 15 ls [.ref (ca i)]) rfl ?_
      refine lv_astore (lv' := [(4, .ref (ca i)), (0, .ref (ad 9)), (1, .int (nI x)), (2, .int (nI a)), (3, .int (nI i))]) S.1 S.2.1 dX5_areMet_15 hl (by decide) rfl (fun ls hl => ?_)
      refine lv_iload_n S.1 S.2.1 dX5_areMet_17 rfl (lv_at hl 2 rfl) ?_
      refine lv_iload_n S.1 S.2.1 dX5_areMet_18 rfl (lv_at hl 4 rfl) ?_
      refine jn_shr S (by omega) (by omega) dX5_areMet_19 ?_
      refine lv_iconst (v := nI 1) S.1 S.2.1 dX5_areMet_20 (by decide) ?_
      refine jn_and S dX5_areMet_21 ?_
      refine lv_topi_to (y := bI (x.testBit i)) (nI_bit _ _) ?_
      refine jb_if_eq (tgt := 41) S dX5_areMet_22 (by decide) (fun c_22 => ?_) (fun c_22 => ?_)
      · refine lv_iinc (v := nI (i + 1)) (lv' := [(3, .int (nI (i + 1))), (4, .ref (ca i)), (0, .ref (ad 9)), (1, .int (nI x)), (2, .int (nI a))]) S.1 S.2.1 dX5_areMet_41 hl (k := 4) rfl (nI_add _ 1) (by decide) rfl (fun ls hl => ?_)
        refine lv_goto (tgt := 2) S.1 S.2.1 dX5_areMet_44 (by decide) ?_
        exact ih2 _ (by omega) (i + 1) rfl (by omega) (fun jc h => by
          rcases Nat.lt_or_ge jc i with q | q
          · exact hall jc q
          · rw [show jc = i by omega]; first | (rw [c_22]; rfl) | (rw [c_36, Bool.or_true])) H locs ls hW (lv_sub hl [2, 3, 4, 0] rfl)
      · refine lv_aload S.1 S.2.1 dX5_areMet_25 (lv_at hl 0 rfl) ?_
        refine lv_ifnull S.1 S.2.1 dX5_areMet_27 ?_
        refine lv_aload S.1 S.2.1 dX5_areMet_30 (lv_at hl 0 rfl) ?_
        refine lv_iload_n S.1 S.2.1 dX5_areMet_32 rfl (lv_at hl 3 rfl) ?_
        refine j_met (k := cp i) (cn := cs i) (rest := []) S hK hA hW (hcon.2.2.2 i (by omega)).2.1 (hcon.2.2.2 i (by omega)).2.2 (by omega) wmA_X5_28_X3 wmA_X5_28_X8 wmA_X5_28_X1 ⟨Nat.le_of_ble_eq_true rfl, Nat.le_of_ble_eq_true rfl⟩ hl.1 (Nat.le_of_ble_eq_true rfl) dX5_areMet_33 ⟨Nat.le_of_ble_eq_true rfl, Nat.le_of_ble_eq_true rfl⟩ (fun H locs hW => ?_)
        refine jb_if_ne (tgt := 41) S dX5_areMet_36 (by decide) (fun c_36 => ?_) (fun c_36 => ?_)
        · refine lv_iinc (v := nI (i + 1)) (lv' := [(3, .int (nI (i + 1))), (4, .ref (ca i)), (0, .ref (ad 9)), (1, .int (nI x)), (2, .int (nI a))]) S.1 S.2.1 dX5_areMet_41 hl (k := 4) rfl (nI_add _ 1) (by decide) rfl (fun ls hl => ?_)
          refine lv_goto (tgt := 2) S.1 S.2.1 dX5_areMet_44 (by decide) ?_
          exact ih2 _ (by omega) (i + 1) rfl (by omega) (fun jc h => by
          rcases Nat.lt_or_ge jc i with q | q
          · exact hall jc q
          · rw [show jc = i by omega]; first | (rw [c_22]; rfl) | (rw [c_36, Bool.or_true])) H locs ls hW (lv_sub hl [2, 3, 4, 0] rfl)
        · refine lv_iconst (v := nI 0) S.1 S.2.1 dX5_areMet_39 (by decide) ?_
          subst hQ
          refine j_iret (u := w) S hr (rfl) hK hW dX5_areMet_40 ⟨by decide, by decide⟩ ?_
          exact ⟨bI_F (allB_false (a := i) (by omega) (by rw [c_22, c_36]; rfl)), rfl⟩
  exact L2 _ 0 rfl (Nat.zero_le _) (fun jc h => absurd h (by omega)) H locs ls hW (lv_sub hl [1, 2, 3, 0] rfl)
/-- touching -/
theorem c_X5_touching (l : Launch) (D : va_G) (cy : Nat → ClassId) {w : va_W} (ad : Nat → Nat) (nc lv : Nat) (tf : Nat → Option Nat) (cp ca : Nat → Nat) (cs : Nat → CN) (x : Nat) (hC : w[9]? = some (ad 9, .inr (4, [.ref (ad 10), .int (nI nc), .int (nI lv)]))) (hT : w[10]? = some (ad 10, .inl (cy 5, 20, .inr (.inr (.inr (.inr tf)))))) (hcon : conOK w nc tf cp ca cs) (hx : x < 1024) : jM l yX5_touching (jws yX5_touching cX5_touching 5 (some .int)) (jR 1 0 0) D cy w [.ref (ad 9), .int (nI x)] 0 0 (fun vv uu => vv = some (.int (nI (touchN cs lv nc x))) ∧ w = uu) := by
  have hm20 := hcon.1
  refine j_of (by decide) rfl (Nat.le_of_ble_eq_true rfl) ?_
  intro p e s m args below meth c A ls Q hQ S hr hK hA H locs hW hl
  have hl : lv_has ls 5 [(0, .ref (ad 9)), (1, .int (nI x))] := hl
  refine lv_iconst (v := nI 0) S.1 S.2.1 dX5_touching_0 (by decide) ?_
  refine lv_istore_n (lv' := [(2, .int (nI 0)), (0, .ref (ad 9)), (1, .int (nI x))]) S.1 S.2.1 dX5_touching_1 rfl hl (by decide) rfl (fun ls hl => ?_)
  refine lv_iconst (v := nI 0) S.1 S.2.1 dX5_touching_2 (by decide) ?_
  refine lv_istore_n (lv' := [(3, .int (nI 0)), (2, .int (nI 0)), (0, .ref (ad 9)), (1, .int (nI x))]) S.1 S.2.1 dX5_touching_3 rfl hl (by decide) rfl (fun ls hl => ?_)
  have L4 : ∀ (k : Nat) (i : Nat), nc - i = k → (i ≤ nc) → ∀ (H : Heap) (locs : List Loc) (ls : Array Slot), jW D A s.heap w H locs → lv_has ls 5 [(0, .ref (ad 9)), (1, .int (nI x)), (2, .int (nI (bsum (fun jc => decide ((mbs (cs jc) &&& x) ≠ 0)) i))), (3, .int (nI i))] → W p l e (jR 1 0 0) s m args below meth c H locs 0 0 Q (F0 m 4 ls []) := by
    intro k
    induction k using Nat.strongRecOn with
    | ind k ih4 =>
    intro i hk hi H locs ls hW hl
    subst hk
    refine lv_iload_n S.1 S.2.1 dX5_touching_4 rfl (lv_at hl 3 rfl) ?_
    refine lv_aload_n S.1 S.2.1 dX5_touching_5 rfl (lv_at hl 0 rfl) ?_
    refine j_get (ci := 4) (C := RX5) (T := TX5) (N := 3) (v := .int (nI nc)) S (fun w h => List.mem_cons_of_mem _ (inG5 w h)) hK hW hC rfl 1 (by decide) (List.mem_cons_of_mem _ wfl_X5_17) (fun _ h9 => h9) rfl dX5_touching_6 ?_
    refine jn_cmp_ge (tgt := 46) S (by omega) (by omega) dX5_touching_9 (by decide) (fun c_9 => ?_) (fun c_9 => ?_)
    · refine lv_iload_n S.1 S.2.1 dX5_touching_46 rfl (lv_at hl 2 rfl) ?_
      refine lv_aload_n S.1 S.2.1 dX5_touching_47 rfl (lv_at hl 0 rfl) ?_
      refine j_get (ci := 4) (C := RX5) (T := TX5) (N := 3) (v := .int (nI lv)) S (fun w h => List.mem_cons_of_mem _ (inG5 w h)) hK hW hC rfl 2 (by decide) (List.mem_cons_of_mem _ wfl_X5_21) (fun _ h9 => h9) rfl dX5_touching_48 ?_
      refine jn_and S dX5_touching_51 ?_
      subst hQ
      refine j_iret (u := w) S hr (rfl) hK hW dX5_touching_52 ⟨by decide, by decide⟩ ?_
      have ei : i = nc := by omega
      subst ei
      exact ⟨by rw [bsum_and]; rfl, rfl⟩
    · refine lv_aload_n S.1 S.2.1 dX5_touching_12 rfl (lv_at hl 0 rfl) ?_
      refine lv_iload_n S.1 S.2.1 dX5_touching_13 rfl (lv_at hl 3 rfl) ?_
      refine j_callV (k := 9) (ci := 4) (q := (RX5, TX5, 3)) (As := [.int (nI i)]) (rest := []) S hK hA hW (c_X5_atY l D cy ad nc lv tf cp ca cs i hC hT hcon  (by omega)) (jgo wm_X5_24) yk_X5_at hC rfl rfl ⟨⟨rfl, rfl⟩, by decide, by decide⟩ rfl hl.1 rfl (Nat.le_of_ble_eq_true rfl) dX5_touching_14 ⟨Nat.le_of_ble_eq_true rfl, Nat.le_of_ble_eq_true rfl⟩ (fun v u H locs hp hW => ?_)
      obtain ⟨rfl, rfl⟩ := hp
      refine W.eq (g2 := F0 m 17 ls [.ref (ca i)]) rfl ?_
      refine lv_astore (lv' := [(4, .ref (ca i)), (0, .ref (ad 9)), (1, .int (nI x)), (2, .int (nI (bsum (fun jc => decide ((mbs (cs jc) &&& x) ≠ 0)) i))), (3, .int (nI i))]) S.1 S.2.1 dX5_touching_17 hl (by decide) rfl (fun ls hl => ?_)
      refine lv_aload S.1 S.2.1 dX5_touching_19 (lv_at hl 0 rfl) ?_
      refine lv_ifnull S.1 S.2.1 dX5_touching_21 ?_
      refine lv_aload S.1 S.2.1 dX5_touching_24 (lv_at hl 0 rfl) ?_
      refine j_mem (k := cp i) (cn := cs i) S hK hW (hcon.2.2.2 i (by omega)).2.1 (hcon.2.2.2 i (by omega)).2.2 wfl_X5_32 dX5_touching_26 ?_
      refine lv_iload_n S.1 S.2.1 dX5_touching_29 rfl (lv_at hl 2 rfl) ?_
      refine jn_and S dX5_touching_30 ?_
      have h31 : mbs (cs i) &&& x < 1024 := and_lt10 hx
      refine jn_if_eq (tgt := 40) S (by omega) dX5_touching_31 (by decide) (fun c_31 => ?_) (fun c_31 => ?_)
      · have e0 : bsum (fun jc => decide ((mbs (cs jc) &&& x) ≠ 0)) (i + 1) = bsum (fun jc => decide ((mbs (cs jc) &&& x) ≠ 0)) i := by simp only [bsum]; rw [if_neg (by rw [c_31]; decide), Nat.add_zero]
        rw [← e0] at hl
        refine lv_iinc (v := nI (i + 1)) (lv' := [(3, .int (nI (i + 1))), (4, .ref (ca i)), (0, .ref (ad 9)), (1, .int (nI x)), (2, .int (nI (bsum (fun jc => decide ((mbs (cs jc) &&& x) ≠ 0)) (i + 1))))]) S.1 S.2.1 dX5_touching_40 hl (k := 4) rfl (nI_add _ 1) (by decide) rfl (fun ls hl => ?_)
        refine lv_goto (tgt := 4) S.1 S.2.1 dX5_touching_43 (by decide) ?_
        exact ih4 _ (by omega) (i + 1) rfl (by omega) H locs ls hW (lv_sub hl [2, 3, 4, 0] rfl)
      · refine lv_iload_n S.1 S.2.1 dX5_touching_34 rfl (lv_at hl 3 rfl) ?_
        refine lv_iconst (v := nI 1) S.1 S.2.1 dX5_touching_35 (by decide) ?_
        refine lv_iload_n S.1 S.2.1 dX5_touching_36 rfl (lv_at hl 4 rfl) ?_
        refine jn_shl1 S (by omega) dX5_touching_37 ?_
        refine jn_or S dX5_touching_38 ?_
        refine lv_topi_to (y := nI (bsum (fun jc => decide ((mbs (cs jc) &&& x) ≠ 0)) (i + 1))) (congrArg nI (by rw [bsum_or]; simp only [bsum]; rw [if_pos (decide_eq_true c_31)])) ?_
        refine lv_istore_n (lv' := [(2, .int (nI (bsum (fun jc => decide ((mbs (cs jc) &&& x) ≠ 0)) (i + 1)))), (4, .ref (ca i)), (0, .ref (ad 9)), (1, .int (nI x)), (3, .int (nI i))]) S.1 S.2.1 dX5_touching_39 rfl hl (by decide) rfl (fun ls hl => ?_)
        refine lv_iinc (v := nI (i + 1)) (lv' := [(3, .int (nI (i + 1))), (2, .int (nI (bsum (fun jc => decide ((mbs (cs jc) &&& x) ≠ 0)) (i + 1)))), (4, .ref (ca i)), (0, .ref (ad 9)), (1, .int (nI x))]) S.1 S.2.1 dX5_touching_40 hl (k := 4) rfl (nI_add _ 1) (by decide) rfl (fun ls hl => ?_)
        refine lv_goto (tgt := 4) S.1 S.2.1 dX5_touching_43 (by decide) ?_
        exact ih4 _ (by omega) (i + 1) rfl (by omega) H locs ls hW (lv_sub hl [3, 4, 1, 0] rfl)
  exact L4 _ 0 rfl (Nat.zero_le _) H locs ls hW (lv_sub hl [2, 3, 1, 0] rfl)
/-- membersOf -/
theorem c_X5_membersOf (l : Launch) (D : va_G) (cy : Nat → ClassId) {w : va_W} (ad : Nat → Nat) (nc lv : Nat) (tf : Nat → Option Nat) (cp ca : Nat → Nat) (cs : Nat → CN) (x : Nat) (hC : w[9]? = some (ad 9, .inr (4, [.ref (ad 10), .int (nI nc), .int (nI lv)]))) (hT : w[10]? = some (ad 10, .inl (cy 5, 20, .inr (.inr (.inr (.inr tf)))))) (hcon : conOK w nc tf cp ca cs) (hx : x < 2 ^ 20) : jM l yX5_membersOf (jws yX5_membersOf cX5_membersOf 5 (some .int)) (jR 1 0 0) D cy w [.ref (ad 9), .int (nI x)] 0 0 (fun vv uu => vv = some (.int (nI (memN cs nc x))) ∧ w = uu) := by
  have hm20 := hcon.1
  refine j_of (by decide) rfl (Nat.le_of_ble_eq_true rfl) ?_
  intro p e s m args below meth c A ls Q hQ S hr hK hA H locs hW hl
  have hl : lv_has ls 5 [(0, .ref (ad 9)), (1, .int (nI x))] := hl
  refine lv_iconst (v := nI 0) S.1 S.2.1 dX5_membersOf_0 (by decide) ?_
  refine lv_istore_n (lv' := [(2, .int (nI 0)), (0, .ref (ad 9)), (1, .int (nI x))]) S.1 S.2.1 dX5_membersOf_1 rfl hl (by decide) rfl (fun ls hl => ?_)
  refine lv_iconst (v := nI 0) S.1 S.2.1 dX5_membersOf_2 (by decide) ?_
  refine lv_istore_n (lv' := [(3, .int (nI 0)), (2, .int (nI 0)), (0, .ref (ad 9)), (1, .int (nI x))]) S.1 S.2.1 dX5_membersOf_3 rfl hl (by decide) rfl (fun ls hl => ?_)
  have L4 : ∀ (k : Nat) (i : Nat), nc - i = k → (i ≤ nc) → ∀ (H : Heap) (locs : List Loc) (ls : Array Slot), jW D A s.heap w H locs → lv_has ls 5 [(0, .ref (ad 9)), (1, .int (nI x)), (2, .int (nI (orS (fun jc => if x.testBit jc then mbs (cs jc) else 0) i))), (3, .int (nI i))] → W p l e (jR 1 0 0) s m args below meth c H locs 0 0 Q (F0 m 4 ls []) := by
    intro k
    induction k using Nat.strongRecOn with
    | ind k ih4 =>
    intro i hk hi H locs ls hW hl
    subst hk
    refine lv_iload_n S.1 S.2.1 dX5_membersOf_4 rfl (lv_at hl 3 rfl) ?_
    refine lv_aload_n S.1 S.2.1 dX5_membersOf_5 rfl (lv_at hl 0 rfl) ?_
    refine j_get (ci := 4) (C := RX5) (T := TX5) (N := 3) (v := .int (nI nc)) S (fun w h => List.mem_cons_of_mem _ (inG5 w h)) hK hW hC rfl 1 (by decide) (List.mem_cons_of_mem _ wfl_X5_17) (fun _ h9 => h9) rfl dX5_membersOf_6 ?_
    refine jn_cmp_ge (tgt := 46) S (by omega) (by omega) dX5_membersOf_9 (by decide) (fun c_9 => ?_) (fun c_9 => ?_)
    · refine lv_iload_n S.1 S.2.1 dX5_membersOf_46 rfl (lv_at hl 2 rfl) ?_
      subst hQ
      refine j_iret (u := w) S hr (rfl) hK hW dX5_membersOf_47 ⟨by decide, by decide⟩ ?_
      have ei : i = nc := by omega
      subst ei
      exact ⟨rfl, rfl⟩
    · refine lv_aload_n S.1 S.2.1 dX5_membersOf_12 rfl (lv_at hl 0 rfl) ?_
      refine lv_iload_n S.1 S.2.1 dX5_membersOf_13 rfl (lv_at hl 3 rfl) ?_
      refine j_callV (k := 9) (ci := 4) (q := (RX5, TX5, 3)) (As := [.int (nI i)]) (rest := []) S hK hA hW (c_X5_atY l D cy ad nc lv tf cp ca cs i hC hT hcon  (by omega)) (jgo wm_X5_24) yk_X5_at hC rfl rfl ⟨⟨rfl, rfl⟩, by decide, by decide⟩ rfl hl.1 rfl (Nat.le_of_ble_eq_true rfl) dX5_membersOf_14 ⟨Nat.le_of_ble_eq_true rfl, Nat.le_of_ble_eq_true rfl⟩ (fun v u H locs hp hW => ?_)
      obtain ⟨rfl, rfl⟩ := hp
      refine W.eq (g2 := F0 m 17 ls [.ref (ca i)]) rfl ?_
      refine lv_astore (lv' := [(4, .ref (ca i)), (0, .ref (ad 9)), (1, .int (nI x)), (2, .int (nI (orS (fun jc => if x.testBit jc then mbs (cs jc) else 0) i))), (3, .int (nI i))]) S.1 S.2.1 dX5_membersOf_17 hl (by decide) rfl (fun ls hl => ?_)
      refine lv_iload_n S.1 S.2.1 dX5_membersOf_19 rfl (lv_at hl 2 rfl) ?_
      refine lv_iload_n S.1 S.2.1 dX5_membersOf_20 rfl (lv_at hl 4 rfl) ?_
      refine jn_shr S (by omega) (by omega) dX5_membersOf_21 ?_
      refine lv_iconst (v := nI 1) S.1 S.2.1 dX5_membersOf_22 (by decide) ?_
      refine jn_and S dX5_membersOf_23 ?_
      refine lv_topi_to (y := bI (x.testBit i)) (nI_bit _ _) ?_
      refine jb_if_eq (tgt := 40) S dX5_membersOf_24 (by decide) (fun c_24 => ?_) (fun c_24 => ?_)
      · have e0 : orS (fun jc => if x.testBit jc then mbs (cs jc) else 0) (i + 1) = orS (fun jc => if x.testBit jc then mbs (cs jc) else 0) i := by simp only [orS]; rw [if_neg (by rw [c_24]; decide), Nat.or_zero]
        rw [← e0] at hl
        refine lv_iinc (v := nI (i + 1)) (lv' := [(3, .int (nI (i + 1))), (4, .ref (ca i)), (0, .ref (ad 9)), (1, .int (nI x)), (2, .int (nI (orS (fun jc => if x.testBit jc then mbs (cs jc) else 0) (i + 1))))]) S.1 S.2.1 dX5_membersOf_40 hl (k := 4) rfl (nI_add _ 1) (by decide) rfl (fun ls hl => ?_)
        refine lv_goto (tgt := 4) S.1 S.2.1 dX5_membersOf_43 (by decide) ?_
        exact ih4 _ (by omega) (i + 1) rfl (by omega) H locs ls hW (lv_sub hl [2, 3, 4, 0] rfl)
      · refine lv_aload S.1 S.2.1 dX5_membersOf_27 (lv_at hl 0 rfl) ?_
        refine lv_ifnull S.1 S.2.1 dX5_membersOf_29 ?_
        refine lv_iload_n S.1 S.2.1 dX5_membersOf_32 rfl (lv_at hl 3 rfl) ?_
        refine lv_aload S.1 S.2.1 dX5_membersOf_33 (lv_at hl 0 rfl) ?_
        refine j_mem (k := cp i) (cn := cs i) S hK hW (hcon.2.2.2 i (by omega)).2.1 (hcon.2.2.2 i (by omega)).2.2 wfl_X5_32 dX5_membersOf_35 ?_
        refine jn_or S dX5_membersOf_38 ?_
        refine lv_topi_to (y := nI (orS (fun jc => if x.testBit jc then mbs (cs jc) else 0) (i + 1))) (congrArg nI (by simp only [orS]; rw [if_pos c_24])) ?_
        refine lv_istore_n (lv' := [(2, .int (nI (orS (fun jc => if x.testBit jc then mbs (cs jc) else 0) (i + 1)))), (4, .ref (ca i)), (0, .ref (ad 9)), (1, .int (nI x)), (3, .int (nI i))]) S.1 S.2.1 dX5_membersOf_39 rfl hl (by decide) rfl (fun ls hl => ?_)
        refine lv_iinc (v := nI (i + 1)) (lv' := [(3, .int (nI (i + 1))), (2, .int (nI (orS (fun jc => if x.testBit jc then mbs (cs jc) else 0) (i + 1)))), (4, .ref (ca i)), (0, .ref (ad 9)), (1, .int (nI x))]) S.1 S.2.1 dX5_membersOf_40 hl (k := 4) rfl (nI_add _ 1) (by decide) rfl (fun ls hl => ?_)
        refine lv_goto (tgt := 4) S.1 S.2.1 dX5_membersOf_43 (by decide) ?_
        exact ih4 _ (by omega) (i + 1) rfl (by omega) H locs ls hW (lv_sub hl [3, 4, 1, 0] rfl)
  exact L4 _ 0 rfl (Nat.zero_le _) H locs ls hW (lv_sub hl [2, 3, 1, 0] rfl)
