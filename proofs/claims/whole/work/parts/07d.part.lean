/-! COUNTFALL: parts, and the nodes of a set (laid by wip/whole/tools, from the specs there) -/
/-- partWith: the part of a variable -/
theorem c_X11_partWith (l : Launch) (D : va_G) (cy : Nat → ClassId) {w : va_W} (ad : Nat → Nat) (n sd se : Nat) (fr : Bool) (nc lv : Nat) (tf : Nat → Option Nat) (cp ca : Nat → Nat) (cs : Nat → CN) (v : Nat) (hO : w[0]? = some (ad 0, .inr (10, [.int (nI n), .ref (ad 1), .ref (ad 3), .ref (ad 5), .int (nI sd), .int (nI se), .ref (ad 7), .ref (ad 9), .ref (ad 11), .ref (ad 20), .int (bI fr), .ref (ad 23), .ref (ad 26), .ref (ad 31), .ref (ad 42)]))) (hC : w[9]? = some (ad 9, .inr (4, [.ref (ad 10), .int (nI nc), .int (nI lv)]))) (hT : w[10]? = some (ad 10, .inl (cy 5, 20, .inr (.inr (.inr (.inr tf)))))) (hcon : conOK w nc tf cp ca cs) (hn : n ≤ 10) (hsd : sd < 1024) (hse : se < 1024) (hlv : lv < 2 ^ 20) (hv : v < n) : jM l yX11_partWith (jws yX11_partWith cX11_partWith 6 (some .int)) (jR 3 0 0) D cy w [.ref (ad 0), .int (nI v)] 0 0 (fun vv uu => vv = some (.int (nI (itP nc cs lv (nAnd (2 ^ n - 1) sd) v 10))) ∧ w = uu) := by
  have hop : nAnd (2 ^ n - 1) sd < 1024 := by have := two_pow10 hn; exact nAnd_lt (n := 10) (by omega)
  have hm20 := hcon.1
  refine j_of (by decide) rfl (Nat.le_of_ble_eq_true rfl) ?_
  intro p e s m args below meth c A ls Q hQ S hr hK hA H locs hW hl
  have hl : lv_has ls 6 [(0, .ref (ad 0)), (1, .int (nI v))] := hl
  refine lv_aload_n S.1 S.2.1 dX11_partWith_0 rfl (lv_at hl 0 rfl) ?_
  refine j_callV (k := 0) (ci := 10) (q := (RX11, TX11, 15)) (As := []) (rest := []) S hK hA hW (c_X11_openVariables l D cy ad n sd se fr hO   (by omega)) (jgo wm_X11_182) yk_X11_openVariables hO rfl rfl ⟨⟨rfl, rfl⟩, by decide, by decide⟩ rfl hl.1 rfl (Nat.le_of_ble_eq_true rfl) dX11_partWith_1 ⟨Nat.le_of_ble_eq_true rfl, Nat.le_of_ble_eq_true rfl⟩ (fun v u H locs hp hW => ?_)
  obtain ⟨rfl, rfl⟩ := hp
  refine W.eq (g2 := F0 m 4 ls [.int (nI (nAnd (2 ^ n - 1) sd))]) rfl ?_
  refine lv_istore_n (lv' := [(2, .int (nI (nAnd (2 ^ n - 1) sd))), (0, .ref (ad 0)), (1, .int (nI v))]) S.1 S.2.1 dX11_partWith_4 rfl hl (by decide) rfl (fun ls hl => ?_)
  refine lv_iconst (v := nI 1) S.1 S.2.1 dX11_partWith_5 (by decide) ?_
  refine lv_iload_n S.1 S.2.1 dX11_partWith_6 rfl (lv_at hl 2 rfl) ?_
  refine jn_shl1 S (by omega) dX11_partWith_7 ?_
  refine lv_istore_n (lv' := [(3, .int (nI (2 ^ v))), (2, .int (nI (nAnd (2 ^ n - 1) sd))), (0, .ref (ad 0)), (1, .int (nI v))]) S.1 S.2.1 dX11_partWith_8 rfl hl (by decide) rfl (fun ls hl => ?_)
  refine lv_iconst (v := nI 0) S.1 S.2.1 dX11_partWith_9 (by decide) ?_
  refine lv_istore (lv' := [(4, .int (nI 0)), (3, .int (nI (2 ^ v))), (2, .int (nI (nAnd (2 ^ n - 1) sd))), (0, .ref (ad 0)), (1, .int (nI v))]) S.1 S.2.1 dX11_partWith_10 hl (by decide) rfl (fun ls hl => ?_)
  refine lv_iconst (v := nI 0) S.1 S.2.1 dX11_partWith_12 (by decide) ?_
  refine lv_istore (lv' := [(5, .int (nI 0)), (4, .int (nI 0)), (3, .int (nI (2 ^ v))), (2, .int (nI (nAnd (2 ^ n - 1) sd))), (0, .ref (ad 0)), (1, .int (nI v))]) S.1 S.2.1 dX11_partWith_13 hl (by decide) rfl (fun ls hl => ?_)
  have L15 : ∀ (k : Nat) (r : Nat) (y : Nat), 10 - r = k → (r ≤ 10) → (y < 1024 ∧ ((r = 0 ∧ y = 0) ∨ (0 < r ∧ y = itP nc cs lv (nAnd (2 ^ n - 1) sd) v (r - 1)))) → ∀ (H : Heap) (locs : List Loc) (ls : Array Slot), jW D A s.heap w H locs → lv_has ls 6 [(0, .ref (ad 0)), (1, .int (nI v)), (2, .int (nI (nAnd (2 ^ n - 1) sd))), (3, .int (nI (itP nc cs lv (nAnd (2 ^ n - 1) sd) v r))), (4, .int (nI y)), (5, .int (nI r))] → W p l e (jR 3 0 0) s m args below meth c H locs 0 0 Q (F0 m 15 ls []) := by
    intro k
    induction k using Nat.strongRecOn with
    | ind k ih15 =>
    intro r y hk hr1 hy H locs ls hW hl
    subst hk
    refine lv_iload S.1 S.2.1 dX11_partWith_15 (lv_at hl 5 rfl) ?_
    have hxl := itP_lt (nc := nc) (cs := cs) (lv := lv) (v := v) hop (by omega) r
    have hy1 := hy.1
    refine lv_bipush (v := nI 10) S.1 S.2.1 dX11_partWith_17 (by decide) ?_
    refine jn_cmp_ge (tgt := 57) S (by omega) (by omega) dX11_partWith_19 (by decide) (fun c_19 => ?_) (fun c_19 => ?_)
    · refine lv_iload_n S.1 S.2.1 dX11_partWith_57 rfl (lv_at hl 3 rfl) ?_
      subst hQ
      refine j_iret (u := w) S hr (rfl) hK hW dX11_partWith_58 ⟨by decide, by decide⟩ ?_
      have hfix : r = 10 ∨ itP nc cs lv (nAnd (2 ^ n - 1) sd) v (r + 1) = itP nc cs lv (nAnd (2 ^ n - 1) sd) v r := by
        first
        | exact Or.inl (by omega)
        | (rcases hy.2 with ⟨h1, h2⟩ | ⟨h1, h2⟩
           · rw [h2, h1] at c_25; exact absurd c_25 (Nat.ne_of_gt (Nat.two_pow_pos v))
           · right
             obtain ⟨z, rfl⟩ : ∃ z, r = z + 1 := ⟨r - 1, by omega⟩
             have h3 : itP nc cs lv (nAnd (2 ^ n - 1) sd) v (z + 1) = itP nc cs lv (nAnd (2 ^ n - 1) sd) v z := by rw [h2] at c_25; exact c_25
             show stpP nc cs lv _ (itP nc cs lv (nAnd (2 ^ n - 1) sd) v (z + 1)) = _
             rw [h3]; exact h3)
      have he : itP nc cs lv (nAnd (2 ^ n - 1) sd) v 10 = itP nc cs lv (nAnd (2 ^ n - 1) sd) v r := by
        rcases hfix with q | q
        · rw [q]
        · have := itP_fix q (10 - r)
          rwa [show r + (10 - r) = 10 by omega] at this
      exact ⟨by rw [he], rfl⟩
    · refine lv_iload_n S.1 S.2.1 dX11_partWith_22 rfl (lv_at hl 3 rfl) ?_
      refine lv_iload S.1 S.2.1 dX11_partWith_23 (lv_at hl 4 rfl) ?_
      refine jn_cmp_eq (tgt := 57) S (by omega) (by omega) dX11_partWith_25 (by decide) (fun c_25 => ?_) (fun c_25 => ?_)
      · refine lv_iload_n S.1 S.2.1 dX11_partWith_57 rfl (lv_at hl 3 rfl) ?_
        subst hQ
        refine j_iret (u := w) S hr (rfl) hK hW dX11_partWith_58 ⟨by decide, by decide⟩ ?_
        have hfix : r = 10 ∨ itP nc cs lv (nAnd (2 ^ n - 1) sd) v (r + 1) = itP nc cs lv (nAnd (2 ^ n - 1) sd) v r := by
          first
          | exact Or.inl (by omega)
          | (rcases hy.2 with ⟨h1, h2⟩ | ⟨h1, h2⟩
             · rw [h2, h1] at c_25; exact absurd c_25 (Nat.ne_of_gt (Nat.two_pow_pos v))
             · right
               obtain ⟨z, rfl⟩ : ∃ z, r = z + 1 := ⟨r - 1, by omega⟩
               have h3 : itP nc cs lv (nAnd (2 ^ n - 1) sd) v (z + 1) = itP nc cs lv (nAnd (2 ^ n - 1) sd) v z := by rw [h2] at c_25; exact c_25
               show stpP nc cs lv _ (itP nc cs lv (nAnd (2 ^ n - 1) sd) v (z + 1)) = _
               rw [h3]; exact h3)
        have he : itP nc cs lv (nAnd (2 ^ n - 1) sd) v 10 = itP nc cs lv (nAnd (2 ^ n - 1) sd) v r := by
          rcases hfix with q | q
          · rw [q]
          · have := itP_fix q (10 - r)
            rwa [show r + (10 - r) = 10 by omega] at this
        exact ⟨by rw [he], rfl⟩
      · refine lv_iload_n S.1 S.2.1 dX11_partWith_28 rfl (lv_at hl 3 rfl) ?_
        refine lv_istore (lv' := [(4, .int (nI (itP nc cs lv (nAnd (2 ^ n - 1) sd) v r))), (0, .ref (ad 0)), (1, .int (nI v)), (2, .int (nI (nAnd (2 ^ n - 1) sd))), (3, .int (nI (itP nc cs lv (nAnd (2 ^ n - 1) sd) v r))), (5, .int (nI r))]) S.1 S.2.1 dX11_partWith_29 hl (by decide) rfl (fun ls hl => ?_)
        refine lv_iload_n S.1 S.2.1 dX11_partWith_31 rfl (lv_at hl 4 rfl) ?_
        refine lv_aload_n S.1 S.2.1 dX11_partWith_32 rfl (lv_at hl 1 rfl) ?_
        refine j_get (ci := 10) (C := RX11) (T := TX11) (N := 15) (v := .ref (ad 9)) S (fun w h => List.mem_cons_of_mem _ (inG11 w h)) hK hW hO rfl 7 (by decide) (List.mem_cons_of_mem _ wfl_X11_34) (fun _ h9 => h9) rfl dX11_partWith_33 ?_
        refine lv_aload_n S.1 S.2.1 dX11_partWith_36 rfl (lv_at hl 1 rfl) ?_
        refine j_get (ci := 10) (C := RX11) (T := TX11) (N := 15) (v := .ref (ad 9)) S (fun w h => List.mem_cons_of_mem _ (inG11 w h)) hK hW hO rfl 7 (by decide) (List.mem_cons_of_mem _ wfl_X11_34) (fun _ h9 => h9) rfl dX11_partWith_37 ?_
        refine lv_iload_n S.1 S.2.1 dX11_partWith_40 rfl (lv_at hl 4 rfl) ?_
        refine j_callV (k := 9) (ci := 4) (q := (RX5, TX5, 3)) (As := [.int (nI (itP nc cs lv (nAnd (2 ^ n - 1) sd) v r))]) (rest := [.ref (ad 9), .int (nI (itP nc cs lv (nAnd (2 ^ n - 1) sd) v r))]) S hK hA hW (c_X5_touching l D cy ad nc lv tf cp ca cs (itP nc cs lv (nAnd (2 ^ n - 1) sd) v r) hC hT hcon  (hxl)) (jgo wm_X11_185) yk_X5_touching hC rfl rfl ⟨⟨rfl, rfl⟩, by decide, by decide⟩ rfl hl.1 rfl (Nat.le_of_ble_eq_true rfl) dX11_partWith_41 ⟨Nat.le_of_ble_eq_true rfl, Nat.le_of_ble_eq_true rfl⟩ (fun v u H locs hp hW => ?_)
        obtain ⟨rfl, rfl⟩ := hp
        refine W.eq (g2 := F0 m 44 ls [.int (nI (touchN cs lv nc (itP nc cs lv (nAnd (2 ^ n - 1) sd) v r))), .ref (ad 9), .int (nI (itP nc cs lv (nAnd (2 ^ n - 1) sd) v r))]) rfl ?_
        refine j_callV (k := 9) (ci := 4) (q := (RX5, TX5, 3)) (As := [.int (nI (touchN cs lv nc (itP nc cs lv (nAnd (2 ^ n - 1) sd) v r)))]) (rest := [.int (nI (itP nc cs lv (nAnd (2 ^ n - 1) sd) v r))]) S hK hA hW (c_X5_membersOf l D cy ad nc lv tf cp ca cs (touchN cs lv nc (itP nc cs lv (nAnd (2 ^ n - 1) sd) v r)) hC hT hcon  (Nat.lt_of_lt_of_le (touchN_lt cs lv nc _) (Nat.pow_le_pow_right (by decide) hm20))) (jgo wm_X11_362) yk_X5_membersOf hC rfl rfl ⟨⟨rfl, rfl⟩, by decide, by decide⟩ rfl hl.1 rfl (Nat.le_of_ble_eq_true rfl) dX11_partWith_44 ⟨Nat.le_of_ble_eq_true rfl, Nat.le_of_ble_eq_true rfl⟩ (fun v u H locs hp hW => ?_)
        obtain ⟨rfl, rfl⟩ := hp
        refine W.eq (g2 := F0 m 47 ls [.int (nI (memN cs nc (touchN cs lv nc (itP nc cs lv (nAnd (2 ^ n - 1) sd) v r)))), .int (nI (itP nc cs lv (nAnd (2 ^ n - 1) sd) v r))]) rfl ?_
        refine lv_iload_n S.1 S.2.1 dX11_partWith_47 rfl (lv_at hl 3 rfl) ?_
        refine jn_and S dX11_partWith_48 ?_
        refine jn_or S dX11_partWith_49 ?_
        refine lv_istore_n (lv' := [(3, .int (nI ((itP nc cs lv (nAnd (2 ^ n - 1) sd) v r) ||| ((memN cs nc (touchN cs lv nc (itP nc cs lv (nAnd (2 ^ n - 1) sd) v r))) &&& (nAnd (2 ^ n - 1) sd))))), (4, .int (nI (itP nc cs lv (nAnd (2 ^ n - 1) sd) v r))), (0, .ref (ad 0)), (1, .int (nI v)), (2, .int (nI (nAnd (2 ^ n - 1) sd))), (5, .int (nI r))]) S.1 S.2.1 dX11_partWith_50 rfl hl (by decide) rfl (fun ls hl => ?_)
        refine lv_iinc (v := nI (r + 1)) (lv' := [(5, .int (nI (r + 1))), (3, .int (nI ((itP nc cs lv (nAnd (2 ^ n - 1) sd) v r) ||| ((memN cs nc (touchN cs lv nc (itP nc cs lv (nAnd (2 ^ n - 1) sd) v r))) &&& (nAnd (2 ^ n - 1) sd))))), (4, .int (nI (itP nc cs lv (nAnd (2 ^ n - 1) sd) v r))), (0, .ref (ad 0)), (1, .int (nI v)), (2, .int (nI (nAnd (2 ^ n - 1) sd)))]) S.1 S.2.1 dX11_partWith_51 hl (k := 5) rfl (nI_add _ 1) (by decide) rfl (fun ls hl => ?_)
        refine lv_goto (tgt := 15) S.1 S.2.1 dX11_partWith_54 (by decide) ?_
        exact ih15 _ (by omega) (r + 1) (itP nc cs lv (nAnd (2 ^ n - 1) sd) v r) rfl (by omega) (⟨hxl, Or.inr ⟨by omega, rfl⟩⟩) H locs ls hW (lv_sub hl [3, 4, 5, 1, 2, 0] rfl)
  exact L15 _ 0 0 rfl (Nat.zero_le _) (⟨by decide, Or.inl ⟨rfl, rfl⟩⟩) H locs ls hW (lv_sub hl [4, 5, 3, 2, 1, 0] rfl)
/-- lowestOf -/
theorem c_X11_lowestOf (l : Launch) (D : va_G) (cy : Nat → ClassId) {w : va_W} (ad : Nat → Nat) (n sd se : Nat) (fr : Bool) (x : Nat) (hO : w[0]? = some (ad 0, .inr (10, [.int (nI n), .ref (ad 1), .ref (ad 3), .ref (ad 5), .int (nI sd), .int (nI se), .ref (ad 7), .ref (ad 9), .ref (ad 11), .ref (ad 20), .int (bI fr), .ref (ad 23), .ref (ad 26), .ref (ad 31), .ref (ad 42)]))) (hn : n ≤ 10) (hx : x < 1024) : jM l yX11_lowestOf (jws yX11_lowestOf cX11_lowestOf 3 (some .int)) (jR 0 0 0) D cy w [.ref (ad 0), .int (nI x)] 0 0 (fun vv uu => vv = some (.int (nI (lowN x n))) ∧ w = uu) := by
  refine j_of (by decide) rfl (Nat.le_of_ble_eq_true rfl) ?_
  intro p e s m args below meth c A ls Q hQ S hr hK hA H locs hW hl
  have hl : lv_has ls 3 [(0, .ref (ad 0)), (1, .int (nI x))] := hl
  refine lv_iconst (v := nI 0) S.1 S.2.1 dX11_lowestOf_0 (by decide) ?_
  refine lv_istore_n (lv' := [(2, .int (nI 0)), (0, .ref (ad 0)), (1, .int (nI x))]) S.1 S.2.1 dX11_lowestOf_1 rfl hl (by decide) rfl (fun ls hl => ?_)
  have L2 : ∀ (k : Nat) (r : Nat), n - r = k → (r ≤ n) → (∀ j, j < r → x.testBit j = false) → ∀ (H : Heap) (locs : List Loc) (ls : Array Slot), jW D A s.heap w H locs → lv_has ls 3 [(0, .ref (ad 0)), (1, .int (nI x)), (2, .int (nI r))] → W p l e (jR 0 0 0) s m args below meth c H locs 0 0 Q (F0 m 2 ls []) := by
    intro k
    induction k using Nat.strongRecOn with
    | ind k ih2 =>
    intro r hk hr1 hz H locs ls hW hl
    subst hk
    refine lv_iload_n S.1 S.2.1 dX11_lowestOf_2 rfl (lv_at hl 2 rfl) ?_
    refine lv_aload_n S.1 S.2.1 dX11_lowestOf_3 rfl (lv_at hl 0 rfl) ?_
    refine j_get (ci := 10) (C := RX11) (T := TX11) (N := 15) (v := .int (nI n)) S (fun w h => List.mem_cons_of_mem _ (inG11 w h)) hK hW hO rfl 0 (by decide) (List.mem_cons_of_mem _ wfl_X11_77) (fun _ h9 => h9) rfl dX11_lowestOf_4 ?_
    refine jn_cmp_ge (tgt := 24) S (by omega) (by omega) dX11_lowestOf_7 (by decide) (fun c_7 => ?_) (fun c_7 => ?_)
    · refine lv_iload_n S.1 S.2.1 dX11_lowestOf_24 rfl (lv_at hl 2 rfl) ?_
      subst hQ
      refine j_iret (u := w) S hr (rfl) hK hW dX11_lowestOf_25 ⟨by decide, by decide⟩ ?_
      exact ⟨by rw [lowN_is hr1 hz (by first | exact Or.inr c_15 | exact Or.inl (by omega))], rfl⟩
    · refine lv_iload_n S.1 S.2.1 dX11_lowestOf_10 rfl (lv_at hl 1 rfl) ?_
      refine lv_iload_n S.1 S.2.1 dX11_lowestOf_11 rfl (lv_at hl 2 rfl) ?_
      refine jn_shr S (by omega) (by omega) dX11_lowestOf_12 ?_
      refine lv_iconst (v := nI 1) S.1 S.2.1 dX11_lowestOf_13 (by decide) ?_
      refine jn_and S dX11_lowestOf_14 ?_
      refine lv_topi_to (y := bI (x.testBit r)) (nI_bit _ _) ?_
      refine jb_if_ne (tgt := 24) S dX11_lowestOf_15 (by decide) (fun c_15 => ?_) (fun c_15 => ?_)
      · refine lv_iload_n S.1 S.2.1 dX11_lowestOf_24 rfl (lv_at hl 2 rfl) ?_
        subst hQ
        refine j_iret (u := w) S hr (rfl) hK hW dX11_lowestOf_25 ⟨by decide, by decide⟩ ?_
        exact ⟨by rw [lowN_is hr1 hz (by first | exact Or.inr c_15 | exact Or.inl (by omega))], rfl⟩
      · refine lv_iinc (v := nI (r + 1)) (lv' := [(2, .int (nI (r + 1))), (0, .ref (ad 0)), (1, .int (nI x))]) S.1 S.2.1 dX11_lowestOf_18 hl (k := 2) rfl (nI_add _ 1) (by decide) rfl (fun ls hl => ?_)
        refine lv_goto (tgt := 2) S.1 S.2.1 dX11_lowestOf_21 (by decide) ?_
        exact ih2 _ (by omega) (r + 1) rfl (by omega) (fun j h => by rcases Nat.lt_or_ge j r with q | q; exact hz j q; rw [show j = r by omega]; exact c_15) H locs ls hW (lv_sub hl [1, 2, 0] rfl)
  exact L2 _ 0 rfl (Nat.zero_le _) (fun j h => absurd h (by omega)) H locs ls hW (lv_sub hl [1, 2, 0] rfl)
/-- countChoices -/
theorem c_X11_countChoices (l : Launch) (D : va_G) (cy : Nat → ClassId) {w : va_W} (ad : Nat → Nat) (n sd se : Nat) (fr : Bool) (nc lv : Nat) (tf : Nat → Option Nat) (cp ca : Nat → Nat) (cs : Nat → CN) (pt nb ev : Nat) (hO : w[0]? = some (ad 0, .inr (10, [.int (nI n), .ref (ad 1), .ref (ad 3), .ref (ad 5), .int (nI sd), .int (nI se), .ref (ad 7), .ref (ad 9), .ref (ad 11), .ref (ad 20), .int (bI fr), .ref (ad 23), .ref (ad 26), .ref (ad 31), .ref (ad 42)]))) (hC : w[9]? = some (ad 9, .inr (4, [.ref (ad 10), .int (nI nc), .int (nI lv)]))) (hT : w[10]? = some (ad 10, .inl (cy 5, 20, .inr (.inr (.inr (.inr tf)))))) (hcon : conOK w nc tf cp ca cs) (hpt : pt < 1024) (hnb : nb < 2 ^ 20) (hev : ev < 1024) : jM l yX11_countChoices (jws yX11_countChoices cX11_countChoices 9 (some .long)) (jR 3 0 0) D cy w [.ref (ad 0), .int (nI pt), .int (nI nb), .int (nI ev)] 0 0 (fun vv uu => vv = some (.long (lN (chcN nc cs pt nb ev))) ∧ w = uu) := by
  have hcb := cnt_le pt.testBit 10
  have hc2 : 2 ^ cnt pt.testBit 10 ≤ 1024 := Nat.pow_le_pow_right (by decide) hcb
  refine j_of (by decide) rfl (Nat.le_of_ble_eq_true rfl) ?_
  intro p e s m args below meth c A ls Q hQ S hr hK hA H locs hW hl
  have hl : lv_has ls 9 [(0, .ref (ad 0)), (1, .int (nI pt)), (2, .int (nI nb)), (3, .int (nI ev))] := hl
  refine lv_lconst (v := lN 0) S.1 S.2.1 dX11_countChoices_0 (by decide) ?_
  refine lv_lstore (lv' := [(4, .long (lN 0)), (0, .ref (ad 0)), (1, .int (nI pt)), (2, .int (nI nb)), (3, .int (nI ev))]) S.1 S.2.1 dX11_countChoices_1 hl (by decide) rfl (fun ls hl => ?_)
  refine lv_iconst (v := nI 1) S.1 S.2.1 dX11_countChoices_3 (by decide) ?_
  refine lv_iload_n S.1 S.2.1 dX11_countChoices_4 rfl (lv_at hl 2 rfl) ?_
  refine j_callJ (As := [.int (nI pt)]) (rest := [.int (nI 1)]) S hK hA hW (c_J6_bitCount_0f7a4 l D cy pt    (by omega)) (jgo wm_X11_157) yk_J6_bitCount_0f7a4 ⟨⟨rfl, rfl⟩, by decide, by decide⟩ rfl hl.1 rfl (Nat.le_of_ble_eq_true rfl) dX11_countChoices_5 ⟨Nat.le_of_ble_eq_true rfl, Nat.le_of_ble_eq_true rfl⟩ (fun v u H locs hp hW => ?_)
  obtain ⟨rfl, rfl⟩ := hp
  refine W.eq (g2 := F0 m 8 ls [.int (nI (cnt pt.testBit 32)), .int (nI 1)]) rfl ?_
  refine lv_topi_to (y := nI (cnt pt.testBit 10)) (by rw [cnt_10 hpt]) ?_
  refine jn_shl1 S (by omega) dX11_countChoices_8 ?_
  refine lv_istore (lv' := [(6, .int (nI (2 ^ (cnt pt.testBit 10)))), (4, .long (lN 0)), (0, .ref (ad 0)), (1, .int (nI pt)), (2, .int (nI nb)), (3, .int (nI ev))]) S.1 S.2.1 dX11_countChoices_9 hl (by decide) rfl (fun ls hl => ?_)
  refine lv_iconst (v := nI 0) S.1 S.2.1 dX11_countChoices_11 (by decide) ?_
  refine lv_istore (lv' := [(7, .int (nI 0)), (6, .int (nI (2 ^ (cnt pt.testBit 10)))), (4, .long (lN 0)), (0, .ref (ad 0)), (1, .int (nI pt)), (2, .int (nI nb)), (3, .int (nI ev))]) S.1 S.2.1 dX11_countChoices_12 hl (by decide) rfl (fun ls hl => ?_)
  refine lv_iconst (v := nI 0) S.1 S.2.1 dX11_countChoices_14 (by decide) ?_
  refine lv_istore (lv' := [(8, .int (nI 0)), (7, .int (nI 0)), (6, .int (nI (2 ^ (cnt pt.testBit 10)))), (4, .long (lN 0)), (0, .ref (ad 0)), (1, .int (nI pt)), (2, .int (nI nb)), (3, .int (nI ev))]) S.1 S.2.1 dX11_countChoices_15 hl (by decide) rfl (fun ls hl => ?_)
  have hl : lv_has ls 9 [(8, .int (nI 0)), (7, .int (nI (pdp pt 0 10))), (6, .int (nI (2 ^ (cnt pt.testBit 10)))), (4, .long (lN 0)), (0, .ref (ad 0)), (1, .int (nI pt)), (2, .int (nI nb)), (3, .int (nI ev))] := by rw [pdp_z]; exact hl
  have L17 : ∀ (k : Nat) (k1 : Nat), 2 ^ cnt pt.testBit 10 - k1 = k → (k1 ≤ 2 ^ cnt pt.testBit 10) → ∀ (H : Heap) (locs : List Loc) (ls : Array Slot), jW D A s.heap w H locs → lv_has ls 9 [(0, .ref (ad 0)), (1, .int (nI pt)), (2, .int (nI nb)), (3, .int (nI ev)), (4, .long (lN (cnt (fun k => metN cs nc nb (pdp pt k 10 ||| ev)) k1))), (6, .int (nI (2 ^ cnt pt.testBit 10))), (7, .int (nI (pdp pt k1 10))), (8, .int (nI k1))] → W p l e (jR 3 0 0) s m args below meth c H locs 0 0 Q (F0 m 17 ls []) := by
    intro k
    induction k using Nat.strongRecOn with
    | ind k ih17 =>
    intro k1 hk hk1 H locs ls hW hl
    subst hk
    refine lv_iload S.1 S.2.1 dX11_countChoices_17 (lv_at hl 7 rfl) ?_
    refine lv_iload S.1 S.2.1 dX11_countChoices_19 (lv_at hl 5 rfl) ?_
    refine jn_cmp_ge (tgt := 59) S (by omega) (by omega) dX11_countChoices_21 (by decide) (fun c_21 => ?_) (fun c_21 => ?_)
    · refine lv_lload S.1 S.2.1 dX11_countChoices_59 (lv_at hl 4 rfl) ?_
      subst hQ
      refine j_lret (u := w) S hr hK hW dX11_countChoices_61 ⟨by decide, by decide⟩ ?_
      have ek : k1 = 2 ^ cnt pt.testBit 10 := by omega
      exact ⟨by rw [ek]; rfl, rfl⟩
    · have hpl := pdp_lt pt k1 10
      have hor : pdp pt k1 10 ||| ev < 1024 := Nat.or_lt_two_pow (n := 10) hpl hev
      refine lv_aload_n S.1 S.2.1 dX11_countChoices_24 rfl (lv_at hl 0 rfl) ?_
      refine j_get (ci := 10) (C := RX11) (T := TX11) (N := 15) (v := .ref (ad 9)) S (fun w h => List.mem_cons_of_mem _ (inG11 w h)) hK hW hO rfl 7 (by decide) (List.mem_cons_of_mem _ wfl_X11_34) (fun _ h9 => h9) rfl dX11_countChoices_25 ?_
      refine lv_iload_n S.1 S.2.1 dX11_countChoices_28 rfl (lv_at hl 2 rfl) ?_
      refine lv_iload S.1 S.2.1 dX11_countChoices_29 (lv_at hl 6 rfl) ?_
      refine lv_iload_n S.1 S.2.1 dX11_countChoices_31 rfl (lv_at hl 3 rfl) ?_
      refine jn_or S dX11_countChoices_32 ?_
      refine j_callV (k := 9) (ci := 4) (q := (RX5, TX5, 3)) (As := [.int (nI nb), .int (nI ((pdp pt k1 10) ||| ev))]) (rest := []) S hK hA hW (c_X5_areMet l D cy ad nc lv tf cp ca cs nb ((pdp pt k1 10) ||| ev) hC hT hcon  (hnb) (hor)) (jgo wm_X11_188) yk_X5_areMet hC rfl rfl ⟨⟨rfl, rfl⟩, by decide, by decide⟩ rfl hl.1 rfl (Nat.le_of_ble_eq_true rfl) dX11_countChoices_33 ⟨Nat.le_of_ble_eq_true rfl, Nat.le_of_ble_eq_true rfl⟩ (fun v u H locs hp hW => ?_)
      obtain ⟨rfl, rfl⟩ := hp
      refine W.eq (g2 := F0 m 36 ls [.int (bI (metN cs nc nb ((pdp pt k1 10) ||| ev)))]) rfl ?_
      refine jb_if_eq (tgt := 45) S dX11_countChoices_36 (by decide) (fun c_36 => ?_) (fun c_36 => ?_)
      · have e0 : cnt (fun k => metN cs nc nb (pdp pt k 10 ||| ev)) (k1 + 1) = cnt (fun k => metN cs nc nb (pdp pt k 10 ||| ev)) k1 := cnt_s0 (S := fun k => metN cs nc nb (pdp pt k 10 ||| ev)) c_36
        rw [← e0] at hl
        refine lv_iload S.1 S.2.1 dX11_countChoices_45 (lv_at hl 6 rfl) ?_
        refine lv_iload_n S.1 S.2.1 dX11_countChoices_47 rfl (lv_at hl 1 rfl) ?_
        refine lv_isub S.1 S.2.1 dX11_countChoices_48 ?_
        refine lv_topi_to (y := nI (pdp pt k1 10) - nI pt) (rfl) ?_
        refine lv_iload_n S.1 S.2.1 dX11_countChoices_49 rfl (lv_at hl 1 rfl) ?_
        refine lv_iand S.1 S.2.1 dX11_countChoices_50 ?_
        refine lv_topi_to (y := nI (pdp pt (k1 + 1) 10)) (pdp_java hpt) ?_
        refine lv_istore (lv' := [(7, .int (nI (pdp pt (k1 + 1) 10))), (0, .ref (ad 0)), (1, .int (nI pt)), (2, .int (nI nb)), (3, .int (nI ev)), (4, .long (lN (cnt (fun k => metN cs nc nb (pdp pt k 10 ||| ev)) (k1 + 1)))), (6, .int (nI (2 ^ cnt pt.testBit 10))), (8, .int (nI k1))]) S.1 S.2.1 dX11_countChoices_51 hl (by decide) rfl (fun ls hl => ?_)
        refine lv_iinc (v := nI (k1 + 1)) (lv' := [(8, .int (nI (k1 + 1))), (7, .int (nI (pdp pt (k1 + 1) 10))), (0, .ref (ad 0)), (1, .int (nI pt)), (2, .int (nI nb)), (3, .int (nI ev)), (4, .long (lN (cnt (fun k => metN cs nc nb (pdp pt k 10 ||| ev)) (k1 + 1)))), (6, .int (nI (2 ^ cnt pt.testBit 10)))]) S.1 S.2.1 dX11_countChoices_53 hl (k := 7) rfl (nI_add _ 1) (by decide) rfl (fun ls hl => ?_)
        refine lv_goto (tgt := 17) S.1 S.2.1 dX11_countChoices_56 (by decide) ?_
        exact ih17 _ (by omega) (k1 + 1) rfl (by omega) H locs ls hW (lv_sub hl [2, 3, 4, 5, 6, 7, 1, 0] rfl)
      · refine lv_lload S.1 S.2.1 dX11_countChoices_39 (lv_at hl 4 rfl) ?_
        refine lv_lconst (v := lN 1) S.1 S.2.1 dX11_countChoices_41 (by decide) ?_
        refine jnl_add S dX11_countChoices_42 ?_
        refine lv_topl_to (y := lN (cnt (fun k => metN cs nc nb (pdp pt k 10 ||| ev)) (k1 + 1))) (congrArg lN (cnt_s1 (S := fun k => metN cs nc nb (pdp pt k 10 ||| ev)) c_36).symm) ?_
        refine lv_lstore (lv' := [(4, .long (lN (cnt (fun k => metN cs nc nb (pdp pt k 10 ||| ev)) (k1 + 1)))), (0, .ref (ad 0)), (1, .int (nI pt)), (2, .int (nI nb)), (3, .int (nI ev)), (6, .int (nI (2 ^ cnt pt.testBit 10))), (7, .int (nI (pdp pt k1 10))), (8, .int (nI k1))]) S.1 S.2.1 dX11_countChoices_43 hl (by decide) rfl (fun ls hl => ?_)
        refine lv_iload S.1 S.2.1 dX11_countChoices_45 (lv_at hl 6 rfl) ?_
        refine lv_iload_n S.1 S.2.1 dX11_countChoices_47 rfl (lv_at hl 2 rfl) ?_
        refine lv_isub S.1 S.2.1 dX11_countChoices_48 ?_
        refine lv_topi_to (y := nI (pdp pt k1 10) - nI pt) (rfl) ?_
        refine lv_iload_n S.1 S.2.1 dX11_countChoices_49 rfl (lv_at hl 2 rfl) ?_
        refine lv_iand S.1 S.2.1 dX11_countChoices_50 ?_
        refine lv_topi_to (y := nI (pdp pt (k1 + 1) 10)) (pdp_java hpt) ?_
        refine lv_istore (lv' := [(7, .int (nI (pdp pt (k1 + 1) 10))), (4, .long (lN (cnt (fun k => metN cs nc nb (pdp pt k 10 ||| ev)) (k1 + 1)))), (0, .ref (ad 0)), (1, .int (nI pt)), (2, .int (nI nb)), (3, .int (nI ev)), (6, .int (nI (2 ^ cnt pt.testBit 10))), (8, .int (nI k1))]) S.1 S.2.1 dX11_countChoices_51 hl (by decide) rfl (fun ls hl => ?_)
        refine lv_iinc (v := nI (k1 + 1)) (lv' := [(8, .int (nI (k1 + 1))), (7, .int (nI (pdp pt (k1 + 1) 10))), (4, .long (lN (cnt (fun k => metN cs nc nb (pdp pt k 10 ||| ev)) (k1 + 1)))), (0, .ref (ad 0)), (1, .int (nI pt)), (2, .int (nI nb)), (3, .int (nI ev)), (6, .int (nI (2 ^ cnt pt.testBit 10)))]) S.1 S.2.1 dX11_countChoices_53 hl (k := 7) rfl (nI_add _ 1) (by decide) rfl (fun ls hl => ?_)
        refine lv_goto (tgt := 17) S.1 S.2.1 dX11_countChoices_56 (by decide) ?_
        exact ih17 _ (by omega) (k1 + 1) rfl (by omega) H locs ls hW (lv_sub hl [3, 4, 5, 6, 2, 7, 1, 0] rfl)
  exact L17 _ 0 rfl (Nat.zero_le _) H locs ls hW (lv_sub hl [4, 5, 6, 7, 3, 2, 1, 0] rfl)
/-- countPart: by the memory, or counted -/
theorem c_X11_countPart (l : Launch) (D : va_G) (cy : Nat → ClassId) {w : va_W} (ad : Nat → Nat) (n sd se : Nat) (fr : Bool) (nc lv : Nat) (tf : Nat → Option Nat) (cp ca : Nat → Nat) (cs : Nat → CN) (ps pk pv pn : Nat → Nat) (pt : Nat) (hO : w[0]? = some (ad 0, .inr (10, [.int (nI n), .ref (ad 1), .ref (ad 3), .ref (ad 5), .int (nI sd), .int (nI se), .ref (ad 7), .ref (ad 9), .ref (ad 11), .ref (ad 20), .int (bI fr), .ref (ad 23), .ref (ad 26), .ref (ad 31), .ref (ad 42)]))) (hC : w[9]? = some (ad 9, .inr (4, [.ref (ad 10), .int (nI nc), .int (nI lv)]))) (hT : w[10]? = some (ad 10, .inl (cy 5, 20, .inr (.inr (.inr (.inr tf)))))) (hP : w[11]? = some (ad 11, .inr (8, [.ref (ad 12), .ref (ad 14), .ref (ad 16), .ref (ad 18)]))) (hP1o : w[12]? = some (ad 12, .inr (5, [.ref (ad 13)]))) (hP1a : w[13]? = some (ad 13, .inl (cy 0, 10, .inl (nf ps)))) (hP2o : w[14]? = some (ad 14, .inr (5, [.ref (ad 15)]))) (hP2a : w[15]? = some (ad 15, .inl (cy 0, 10, .inl (nf pk)))) (hP3o : w[16]? = some (ad 16, .inr (5, [.ref (ad 17)]))) (hP3a : w[17]? = some (ad 17, .inl (cy 0, 10, .inl (nf pv)))) (hP4o : w[18]? = some (ad 18, .inr (6, [.ref (ad 19)]))) (hP4a : w[19]? = some (ad 19, .inl (cy 1, 10, .inr (.inl (lf pn))))) (hcon : conOK w nc tf cp ca cs) (hn : n ≤ 10) (hsd : sd < 1024) (hse : se < 1024) (hlv : lv < 2 ^ 20) (hpt : pt < 1024) (hpn : ∃ v, v < n ∧ pt.testBit v = true) (hpm : pmI nc cs ps pk pv pn) : jM l yX11_countPart (jws yX11_countPart cX11_countPart 5 (some .long)) (jR 4 0 0) D cy w [.ref (ad 0), .int (nI pt)] 0 0 (fun vv uu => ∃ (ps1 : Nat → Nat), ∃ (pk1 : Nat → Nat), ∃ (pv1 : Nat → Nat), ∃ (pn1 : Nat → Nat), vv = some (.long (lN (cntP nc cs lv se pt))) ∧ pmI nc cs ps1 pk1 pv1 pn1 ∧ jU w uu [13, 15, 17, 19] ∧ uu[13]? = some (ad 13, .inl (cy 0, 10, .inl (nf ps1))) ∧ uu[15]? = some (ad 15, .inl (cy 0, 10, .inl (nf pk1))) ∧ uu[17]? = some (ad 17, .inl (cy 0, 10, .inl (nf pv1))) ∧ uu[19]? = some (ad 19, .inl (cy 1, 10, .inr (.inl (lf pn1))))) := by
  have hm20 := hcon.1
  have htl : touchN cs lv nc pt < 2 ^ nc := touchN_lt cs lv nc pt
  have ht20 : 2 ^ nc ≤ 2 ^ 20 := Nat.pow_le_pow_right (by decide) hm20
  have hml : memN cs nc (touchN cs lv nc pt) < 1024 := memN_lt hcon.ok
  have hel : se &&& memN cs nc (touchN cs lv nc pt) < 1024 := and_lt10 hml
  have hlw : lowN pt n < n := by obtain ⟨v, v1, v2⟩ := hpn; exact lowN_lt v1 v2
  have hp0 : pt ≠ 0 := by obtain ⟨v, v1, v2⟩ := hpn; exact tb_ne0 v2
  have b1 : ∀ v, ps v < 2 ^ 31 := fun v => by have := (hpm v).1; omega
  have b2 : ∀ v, pk v < 2 ^ 31 := fun v => by have := (hpm v).2.1; omega
  have b3 : ∀ v, pv v < 2 ^ 31 := fun v => by have := (hpm v).2.2.1; omega
  refine j_of (by decide) rfl (Nat.le_of_ble_eq_true rfl) ?_
  intro p e s m args below meth c A ls Q hQ S hr hK hA H locs hW hl
  have hl : lv_has ls 5 [(0, .ref (ad 0)), (1, .int (nI pt))] := hl
  refine lv_aload_n S.1 S.2.1 dX11_countPart_0 rfl (lv_at hl 0 rfl) ?_
  refine j_get (ci := 10) (C := RX11) (T := TX11) (N := 15) (v := .ref (ad 9)) S (fun w h => List.mem_cons_of_mem _ (inG11 w h)) hK hW hO rfl 7 (by decide) (List.mem_cons_of_mem _ wfl_X11_34) (fun _ h9 => h9) rfl dX11_countPart_1 ?_
  refine lv_iload_n S.1 S.2.1 dX11_countPart_4 rfl (lv_at hl 1 rfl) ?_
  refine j_callV (k := 9) (ci := 4) (q := (RX5, TX5, 3)) (As := [.int (nI pt)]) (rest := []) S hK hA hW (c_X5_touching l D cy ad nc lv tf cp ca cs pt hC hT hcon  (hpt)) (jgo wm_X11_185) yk_X5_touching hC rfl rfl ⟨⟨rfl, rfl⟩, by decide, by decide⟩ rfl hl.1 rfl (Nat.le_of_ble_eq_true rfl) dX11_countPart_5 ⟨Nat.le_of_ble_eq_true rfl, Nat.le_of_ble_eq_true rfl⟩ (fun v u H locs hp hW => ?_)
  obtain ⟨rfl, rfl⟩ := hp
  refine W.eq (g2 := F0 m 8 ls [.int (nI (touchN cs lv nc pt))]) rfl ?_
  refine lv_istore_n (lv' := [(2, .int (nI (touchN cs lv nc pt))), (0, .ref (ad 0)), (1, .int (nI pt))]) S.1 S.2.1 dX11_countPart_8 rfl hl (by decide) rfl (fun ls hl => ?_)
  refine lv_aload_n S.1 S.2.1 dX11_countPart_9 rfl (lv_at hl 1 rfl) ?_
  refine j_get (ci := 10) (C := RX11) (T := TX11) (N := 15) (v := .int (nI se)) S (fun w h => List.mem_cons_of_mem _ (inG11 w h)) hK hW hO rfl 5 (by decide) (List.mem_cons_of_mem _ wfl_X11_173) (fun _ h9 => h9) rfl dX11_countPart_10 ?_
  refine lv_aload_n S.1 S.2.1 dX11_countPart_13 rfl (lv_at hl 1 rfl) ?_
  refine j_get (ci := 10) (C := RX11) (T := TX11) (N := 15) (v := .ref (ad 9)) S (fun w h => List.mem_cons_of_mem _ (inG11 w h)) hK hW hO rfl 7 (by decide) (List.mem_cons_of_mem _ wfl_X11_34) (fun _ h9 => h9) rfl dX11_countPart_14 ?_
  refine lv_iload_n S.1 S.2.1 dX11_countPart_17 rfl (lv_at hl 0 rfl) ?_
  refine j_callV (k := 9) (ci := 4) (q := (RX5, TX5, 3)) (As := [.int (nI (touchN cs lv nc pt))]) (rest := [.int (nI se)]) S hK hA hW (c_X5_membersOf l D cy ad nc lv tf cp ca cs (touchN cs lv nc pt) hC hT hcon  (by omega)) (jgo wm_X11_362) yk_X5_membersOf hC rfl rfl ⟨⟨rfl, rfl⟩, by decide, by decide⟩ rfl hl.1 rfl (Nat.le_of_ble_eq_true rfl) dX11_countPart_18 ⟨Nat.le_of_ble_eq_true rfl, Nat.le_of_ble_eq_true rfl⟩ (fun v u H locs hp hW => ?_)
  obtain ⟨rfl, rfl⟩ := hp
  refine W.eq (g2 := F0 m 21 ls [.int (nI (memN cs nc (touchN cs lv nc pt))), .int (nI se)]) rfl ?_
  refine jn_and S dX11_countPart_21 ?_
  refine lv_istore_n (lv' := [(3, .int (nI (se &&& (memN cs nc (touchN cs lv nc pt))))), (2, .int (nI (touchN cs lv nc pt))), (0, .ref (ad 0)), (1, .int (nI pt))]) S.1 S.2.1 dX11_countPart_22 rfl hl (by decide) rfl (fun ls hl => ?_)
  refine lv_aload_n S.1 S.2.1 dX11_countPart_23 rfl (lv_at hl 2 rfl) ?_
  refine lv_iload_n S.1 S.2.1 dX11_countPart_24 rfl (lv_at hl 3 rfl) ?_
  refine j_callV (k := 0) (ci := 10) (q := (RX11, TX11, 15)) (As := [.int (nI pt)]) (rest := []) S hK hA hW (c_X11_lowestOf l D cy ad n sd se fr pt hO   (by omega) (hpt)) (jgo wm_X11_233) yk_X11_lowestOf hO rfl rfl ⟨⟨rfl, rfl⟩, by decide, by decide⟩ rfl hl.1 rfl (Nat.le_of_ble_eq_true rfl) dX11_countPart_25 ⟨Nat.le_of_ble_eq_true rfl, Nat.le_of_ble_eq_true rfl⟩ (fun v u H locs hp hW => ?_)
  obtain ⟨rfl, rfl⟩ := hp
  refine W.eq (g2 := F0 m 28 ls [.int (nI (lowN pt n))]) rfl ?_
  refine lv_istore (lv' := [(4, .int (nI (lowN pt n))), (3, .int (nI (se &&& (memN cs nc (touchN cs lv nc pt))))), (2, .int (nI (touchN cs lv nc pt))), (0, .ref (ad 0)), (1, .int (nI pt))]) S.1 S.2.1 dX11_countPart_28 hl (by decide) rfl (fun ls hl => ?_)
  refine lv_aload_n S.1 S.2.1 dX11_countPart_30 rfl (lv_at hl 3 rfl) ?_
  refine j_get (ci := 10) (C := RX11) (T := TX11) (N := 15) (v := .ref (ad 11)) S (fun w h => List.mem_cons_of_mem _ (inG11 w h)) hK hW hO rfl 8 (by decide) (List.mem_cons_of_mem _ wfl_X11_41) (fun _ h9 => h9) rfl dX11_countPart_31 ?_
  refine lv_iload S.1 S.2.1 dX11_countPart_34 (lv_at hl 0 rfl) ?_
  refine lv_iload_n S.1 S.2.1 dX11_countPart_36 rfl (lv_at hl 4 rfl) ?_
  refine lv_iload_n S.1 S.2.1 dX11_countPart_37 rfl (lv_at hl 2 rfl) ?_
  refine lv_iload_n S.1 S.2.1 dX11_countPart_38 rfl (lv_at hl 1 rfl) ?_
  refine j_callV (k := 11) (ci := 8) (q := (RX9, TX9, 4)) (As := [.int (nI (lowN pt n)), .int (nI pt), .int (nI (touchN cs lv nc pt)), .int (nI (se &&& (memN cs nc (touchN cs lv nc pt))))]) (rest := []) S hK hA hW (c_X9_hasKept l D cy ad ps pk pv pn (lowN pt n) pt (touchN cs lv nc pt) (se &&& (memN cs nc (touchN cs lv nc pt))) hP hP1o hP1a hP2o hP2a hP3o hP3a hP4o hP4a   (by omega) (b1) (b2) (b3) (by omega)) (jgo wm_X11_365) yk_X9_hasKept hP rfl rfl ⟨⟨rfl, rfl⟩, by decide, by decide⟩ rfl hl.1 rfl (Nat.le_of_ble_eq_true rfl) dX11_countPart_39 ⟨Nat.le_of_ble_eq_true rfl, Nat.le_of_ble_eq_true rfl⟩ (fun v u H locs hp hW => ?_)
  obtain ⟨rfl, rfl⟩ := hp
  refine W.eq (g2 := F0 m 42 ls [.int (bI (decide (ps (lowN pt n) = pt) && decide (pk (lowN pt n) = (touchN cs lv nc pt)) && decide (pv (lowN pt n) = (se &&& (memN cs nc (touchN cs lv nc pt))))))]) rfl ?_
  refine jb_if_ne (tgt := 64) S dX11_countPart_42 (by decide) (fun c_42 => ?_) (fun c_42 => ?_)
  · refine lv_aload_n S.1 S.2.1 dX11_countPart_64 rfl (lv_at hl 3 rfl) ?_
    refine j_get (ci := 10) (C := RX11) (T := TX11) (N := 15) (v := .ref (ad 11)) S (fun w h => List.mem_cons_of_mem _ (inG11 w h)) hK hW hO rfl 8 (by decide) (List.mem_cons_of_mem _ wfl_X11_41) (fun _ h9 => h9) rfl dX11_countPart_65 ?_
    refine lv_iload S.1 S.2.1 dX11_countPart_68 (lv_at hl 0 rfl) ?_
    refine j_callV (k := 11) (ci := 8) (q := (RX9, TX9, 4)) (As := [.int (nI (lowN pt n))]) (rest := []) S hK hA hW (c_X9_recall l D cy ad ps pk pv pn (lowN pt n) hP hP1o hP1a hP2o hP2a hP3o hP3a hP4o hP4a   (by omega)) (jgo wm_X11_377) yk_X9_recall hP rfl rfl ⟨⟨rfl, rfl⟩, by decide, by decide⟩ rfl hl.1 rfl (Nat.le_of_ble_eq_true rfl) dX11_countPart_70 ⟨Nat.le_of_ble_eq_true rfl, Nat.le_of_ble_eq_true rfl⟩ (fun v u H locs hp hW => ?_)
    obtain ⟨rfl, rfl⟩ := hp
    refine W.eq (g2 := F0 m 73 ls [.long (lN (pn (lowN pt n)))]) rfl ?_
    subst hQ
    refine j_lret (u := w) S hr hK hW dX11_countPart_73 ⟨by decide, by decide⟩ ?_
    have hk := c_42
    simp only [Bool.and_eq_true, decide_eq_true_eq] at hk
    obtain ⟨⟨k1, k2⟩, k3⟩ := hk
    exact ⟨ps, pk, pv, pn, by rw [(hpm (lowN pt n)).2.2.2 (by rw [k1]; exact hp0), k1, k2, k3]; rfl, hpm, jU.rf, hP1a, hP2a, hP3a, hP4a⟩
  · refine lv_aload_n S.1 S.2.1 dX11_countPart_45 rfl (lv_at hl 3 rfl) ?_
    refine j_get (ci := 10) (C := RX11) (T := TX11) (N := 15) (v := .ref (ad 11)) S (fun w h => List.mem_cons_of_mem _ (inG11 w h)) hK hW hO rfl 8 (by decide) (List.mem_cons_of_mem _ wfl_X11_41) (fun _ h9 => h9) rfl dX11_countPart_46 ?_
    refine lv_iload S.1 S.2.1 dX11_countPart_49 (lv_at hl 0 rfl) ?_
    refine lv_iload_n S.1 S.2.1 dX11_countPart_51 rfl (lv_at hl 4 rfl) ?_
    refine lv_iload_n S.1 S.2.1 dX11_countPart_52 rfl (lv_at hl 2 rfl) ?_
    refine lv_iload_n S.1 S.2.1 dX11_countPart_53 rfl (lv_at hl 1 rfl) ?_
    refine lv_aload_n S.1 S.2.1 dX11_countPart_54 rfl (lv_at hl 3 rfl) ?_
    refine lv_iload_n S.1 S.2.1 dX11_countPart_55 rfl (lv_at hl 4 rfl) ?_
    refine lv_iload_n S.1 S.2.1 dX11_countPart_56 rfl (lv_at hl 2 rfl) ?_
    refine lv_iload_n S.1 S.2.1 dX11_countPart_57 rfl (lv_at hl 1 rfl) ?_
    refine j_callV (k := 0) (ci := 10) (q := (RX11, TX11, 15)) (As := [.int (nI pt), .int (nI (touchN cs lv nc pt)), .int (nI (se &&& (memN cs nc (touchN cs lv nc pt))))]) (rest := [.int (nI (se &&& (memN cs nc (touchN cs lv nc pt)))), .int (nI (touchN cs lv nc pt)), .int (nI pt), .int (nI (lowN pt n)), .ref (ad 11)]) S hK hA hW (c_X11_countChoices l D cy ad n sd se fr nc lv tf cp ca cs pt (touchN cs lv nc pt) (se &&& (memN cs nc (touchN cs lv nc pt))) hO hC hT hcon  (hpt) (by omega) (hel)) (jgo wm_X11_369) yk_X11_countChoices hO rfl rfl ⟨⟨rfl, rfl⟩, by decide, by decide⟩ rfl hl.1 rfl (Nat.le_of_ble_eq_true rfl) dX11_countPart_58 ⟨Nat.le_of_ble_eq_true rfl, Nat.le_of_ble_eq_true rfl⟩ (fun v u H locs hp hW => ?_)
    obtain ⟨rfl, rfl⟩ := hp
    refine W.eq (g2 := F0 m 61 ls [.long (lN (chcN nc cs pt (touchN cs lv nc pt) (se &&& (memN cs nc (touchN cs lv nc pt))))), .int (nI (se &&& (memN cs nc (touchN cs lv nc pt)))), .int (nI (touchN cs lv nc pt)), .int (nI pt), .int (nI (lowN pt n)), .ref (ad 11)]) rfl ?_
    refine j_callV (k := 11) (ci := 8) (q := (RX9, TX9, 4)) (As := [.int (nI (lowN pt n)), .int (nI pt), .int (nI (touchN cs lv nc pt)), .int (nI (se &&& (memN cs nc (touchN cs lv nc pt)))), .long (lN (chcN nc cs pt (touchN cs lv nc pt) (se &&& (memN cs nc (touchN cs lv nc pt)))))]) (rest := []) S hK hA hW (c_X9_note l D cy ad ps pk pv pn (lowN pt n) pt (touchN cs lv nc pt) (se &&& (memN cs nc (touchN cs lv nc pt))) (chcN nc cs pt (touchN cs lv nc pt) (se &&& (memN cs nc (touchN cs lv nc pt)))) hP hP1o hP1a hP2o hP2a hP3o hP3a hP4o hP4a   (by omega)) (jgo wm_X11_373) yk_X9_note hP rfl rfl ⟨⟨rfl, rfl⟩, by decide, by decide⟩ rfl hl.1 rfl (Nat.le_of_ble_eq_true rfl) dX11_countPart_61 ⟨Nat.le_of_ble_eq_true rfl, Nat.le_of_ble_eq_true rfl⟩ (fun v w_ H locs hp hW => ?_)
    obtain ⟨rfl, hU1, hN1, hN2, hN3, hN4⟩ := hp
    have hU : jU w w_ [13, 15, 17, 19] := jU.mono hU1 (by decide)
    have hP1a_ : w_[13]? = some (ad 13, .inl (cy 0, 10, .inl (nf (upB ps (lowN pt n) pt)))) := hN1
    have hP2a_ : w_[15]? = some (ad 15, .inl (cy 0, 10, .inl (nf (upB pk (lowN pt n) (touchN cs lv nc pt))))) := hN2
    have hP3a_ : w_[17]? = some (ad 17, .inl (cy 0, 10, .inl (nf (upB pv (lowN pt n) (se &&& (memN cs nc (touchN cs lv nc pt))))))) := hN3
    have hP4a_ : w_[19]? = some (ad 19, .inl (cy 1, 10, .inr (.inl (lf (upB pn (lowN pt n) (chcN nc cs pt (touchN cs lv nc pt) (se &&& (memN cs nc (touchN cs lv nc pt))))))))) := hN4
    clear hU1 hN1 hN2 hN3 hN4
    refine W.eq (g2 := F0 m 64 ls []) rfl ?_
    refine lv_aload_n S.1 S.2.1 dX11_countPart_64 rfl (lv_at hl 3 rfl) ?_
    refine j_get (ci := 10) (C := RX11) (T := TX11) (N := 15) (v := .ref (ad 11)) S (fun w h => List.mem_cons_of_mem _ (inG11 w h)) hK hW (hU.get hO (by decide)) rfl 8 (by decide) (List.mem_cons_of_mem _ wfl_X11_41) (fun _ h9 => h9) rfl dX11_countPart_65 ?_
    refine lv_iload S.1 S.2.1 dX11_countPart_68 (lv_at hl 0 rfl) ?_
    refine j_callV (k := 11) (ci := 8) (q := (RX9, TX9, 4)) (As := [.int (nI (lowN pt n))]) (rest := []) S hK hA hW (c_X9_recall l D cy ad (upB ps (lowN pt n) pt) (upB pk (lowN pt n) (touchN cs lv nc pt)) (upB pv (lowN pt n) (se &&& (memN cs nc (touchN cs lv nc pt)))) (upB pn (lowN pt n) (chcN nc cs pt (touchN cs lv nc pt) (se &&& (memN cs nc (touchN cs lv nc pt))))) (lowN pt n) (hU.get hP (by decide)) (hU.get hP1o (by decide)) hP1a_ (hU.get hP2o (by decide)) hP2a_ (hU.get hP3o (by decide)) hP3a_ (hU.get hP4o (by decide)) hP4a_   (by omega)) (jgo wm_X11_377) yk_X9_recall (hU.get hP (by decide)) rfl rfl ⟨⟨rfl, rfl⟩, by decide, by decide⟩ rfl hl.1 rfl (Nat.le_of_ble_eq_true rfl) dX11_countPart_70 ⟨Nat.le_of_ble_eq_true rfl, Nat.le_of_ble_eq_true rfl⟩ (fun v u H locs hp hW => ?_)
    obtain ⟨rfl, rfl⟩ := hp
    refine W.eq (g2 := F0 m 73 ls [.long (lN ((upB pn (lowN pt n) (chcN nc cs pt (touchN cs lv nc pt) (se &&& (memN cs nc (touchN cs lv nc pt))))) (lowN pt n)))]) rfl ?_
    subst hQ
    refine j_lret (u := w_) S hr hK hW dX11_countPart_73 ⟨by decide, by decide⟩ ?_
    exact ⟨_, _, _, _, by rw [upB_same]; rfl, pmI_note hpm hpt htl hel, hU, hP1a_, hP2a_, hP3a_, hP4a_⟩
/-- countNodes -/
theorem c_X11_countNodes (l : Launch) (D : va_G) (cy : Nat → ClassId) {w : va_W} (ka kl kw ao al aw : Nat) (n : Nat) (X : Nat → Bool) (ad : Nat → Nat) (sd se : Nat) (fr : Bool) (sz : Nat) (tp fw tw yw pcn od : Nat → Nat) (hA1 : w[ka]? = some (ao, .inr (0, [.ref al, .int (nI n)]))) (hA2 : w[kl]? = some (al, .inr (6, [.ref aw]))) (hA3 : w[kw]? = some (aw, .inl (cy 1, 16, .inr (.inl (wd X))))) (hO : w[0]? = some (ad 0, .inr (10, [.int (nI n), .ref (ad 1), .ref (ad 3), .ref (ad 5), .int (nI sd), .int (nI se), .ref (ad 7), .ref (ad 9), .ref (ad 11), .ref (ad 20), .int (bI fr), .ref (ad 23), .ref (ad 26), .ref (ad 31), .ref (ad 42)]))) (hX : w[31]? = some (ad 31, .inr (2, [.ref (ad 32), .ref (ad 34), .ref (ad 36), .ref (ad 38), .ref (ad 40), .int (nI sz)]))) (hXto : w[32]? = some (ad 32, .inr (5, [.ref (ad 33)]))) (hXta : w[33]? = some (ad 33, .inl (cy 0, 1024, .inl (nf tp)))) (hXfo : w[34]? = some (ad 34, .inr (5, [.ref (ad 35)]))) (hXfa : w[35]? = some (ad 35, .inl (cy 0, 272, .inl (nf fw)))) (hXwo : w[36]? = some (ad 36, .inr (5, [.ref (ad 37)]))) (hXwa : w[37]? = some (ad 37, .inl (cy 0, 272, .inl (nf tw)))) (hXyo : w[38]? = some (ad 38, .inr (5, [.ref (ad 39)]))) (hXya : w[39]? = some (ad 39, .inl (cy 0, 272, .inl (nf yw)))) (hXpo : w[40]? = some (ad 40, .inr (5, [.ref (ad 41)]))) (hXpa : w[41]? = some (ad 41, .inl (cy 0, 10, .inl (nf pcn)))) (hOo : w[7]? = some (ad 7, .inr (5, [.ref (ad 8)]))) (hOa : w[8]? = some (ad 8, .inl (cy 0, 10, .inl (nf od)))) (hn : n ≤ 10) (hod : ∀ j, od j < 10) (hf : ∀ a, fw a < 272) (ht : ∀ a, tw a < 272) (hset : (ka < 31 ∨ 41 < ka) ∧ (kl < 31 ∨ 41 < kl) ∧ (kw < 31 ∨ 41 < kw)) : jM l yX11_countNodes (jws yX11_countNodes cX11_countNodes 2 (some .int)) (jR 4 0 0) D cy w [.ref (ad 0), .ref ao] 0 0 (fun vv uu => ∃ (sz1 : Nat), ∃ (tp1 : Nat → Nat), ∃ (fw1 : Nat → Nat), ∃ (tw1 : Nat → Nat), ∃ (yw1 : Nat → Nat), ∃ (pcn1 : Nat → Nat), vv = some (.int (nI (sumN (nodesB (fun d => X (layP n od d n)) n) n))) ∧ ((∀ a, fw1 a < 272) ∧ (∀ a, tw1 a < 272)) ∧ jU w uu [31, 33, 35, 37, 39, 41] ∧ uu[31]? = some (ad 31, .inr (2, [.ref (ad 32), .ref (ad 34), .ref (ad 36), .ref (ad 38), .ref (ad 40), .int (nI sz1)])) ∧ uu[33]? = some (ad 33, .inl (cy 0, 1024, .inl (nf tp1))) ∧ uu[35]? = some (ad 35, .inl (cy 0, 272, .inl (nf fw1))) ∧ uu[37]? = some (ad 37, .inl (cy 0, 272, .inl (nf tw1))) ∧ uu[39]? = some (ad 39, .inl (cy 0, 272, .inl (nf yw1))) ∧ uu[41]? = some (ad 41, .inl (cy 0, 10, .inl (nf pcn1)))) := by
  refine j_of (by decide) rfl (Nat.le_of_ble_eq_true rfl) ?_
  intro p e s m args below meth c A ls Q hQ S hr hK hA H locs hW hl
  have hl : lv_has ls 2 [(0, .ref (ad 0)), (1, .ref ao)] := hl
  refine lv_aload_n S.1 S.2.1 dX11_countNodes_0 rfl (lv_at hl 0 rfl) ?_
  refine j_get (ci := 10) (C := RX11) (T := TX11) (N := 15) (v := .ref (ad 31)) S (fun w h => List.mem_cons_of_mem _ (inG11 w h)) hK hW hO rfl 13 (by decide) (List.mem_cons_of_mem _ wfl_X11_65) (fun _ h9 => h9) rfl dX11_countNodes_1 ?_
  refine lv_aload_n S.1 S.2.1 dX11_countNodes_4 rfl (lv_at hl 1 rfl) ?_
  refine lv_aload_n S.1 S.2.1 dX11_countNodes_5 rfl (lv_at hl 0 rfl) ?_
  refine j_get (ci := 10) (C := RX11) (T := TX11) (N := 15) (v := .ref (ad 7)) S (fun w h => List.mem_cons_of_mem _ (inG11 w h)) hK hW hO rfl 6 (by decide) (List.mem_cons_of_mem _ wfl_X11_28) (fun _ h9 => h9) rfl dX11_countNodes_6 ?_
  refine j_callV (k := 31) (ci := 2) (q := (RX2, TX2, 6)) (As := [.ref ao, .ref (ad 7)]) (rest := []) S hK hA hW (c_X2_make l D cy ka kl kw ao al aw n X ad sz tp fw tw yw pcn od hA1 hA2 hA3 hX hXto hXta hXfo hXfa hXwo hXwa hXyo hXya hXpo hXpa hOo hOa   (by omega) (hod) (hf) (ht) (hset)) (jgo wm_X11_264) yk_X2_make hX rfl rfl ⟨⟨rfl, rfl⟩, by decide, by decide⟩ rfl hl.1 rfl (Nat.le_of_ble_eq_true rfl) dX11_countNodes_9 ⟨Nat.le_of_ble_eq_true rfl, Nat.le_of_ble_eq_true rfl⟩ (fun v w_ H locs hp hW => ?_)
  obtain ⟨sz1_9, tp1_9, fw1_9, tw1_9, yw1_9, pcn1_9, rfl, hp9_0, hU1, hN1, hN2, hN3, hN4, hN5, hN6⟩ := hp
  have hU : jU w w_ [31, 33, 35, 37, 39, 41] := jU.mono hU1 (by decide)
  have hX_ : w_[31]? = some (ad 31, .inr (2, [.ref (ad 32), .ref (ad 34), .ref (ad 36), .ref (ad 38), .ref (ad 40), .int (nI sz1_9)])) := hN1
  have hXta_ : w_[33]? = some (ad 33, .inl (cy 0, 1024, .inl (nf tp1_9))) := hN2
  have hXfa_ : w_[35]? = some (ad 35, .inl (cy 0, 272, .inl (nf fw1_9))) := hN3
  have hXwa_ : w_[37]? = some (ad 37, .inl (cy 0, 272, .inl (nf tw1_9))) := hN4
  have hXya_ : w_[39]? = some (ad 39, .inl (cy 0, 272, .inl (nf yw1_9))) := hN5
  have hXpa_ : w_[41]? = some (ad 41, .inl (cy 0, 10, .inl (nf pcn1_9))) := hN6
  clear hU1 hN1 hN2 hN3 hN4 hN5 hN6
  refine W.eq (g2 := F0 m 12 ls []) rfl ?_
  have hl2 := hp9_0.2.2.1
  rw [show sumN (nodesB (fun d => X (layP n od d n)) n) 0 = 0 from rfl] at hl2
  refine lv_aload_n S.1 S.2.1 dX11_countNodes_12 rfl (lv_at hl 0 rfl) ?_
  refine j_get (ci := 10) (C := RX11) (T := TX11) (N := 15) (v := .ref (ad 31)) S (fun w h => List.mem_cons_of_mem _ (inG11 w h)) hK hW (hU.get hO (by decide)) rfl 13 (by decide) (List.mem_cons_of_mem _ wfl_X11_65) (fun _ h9 => h9) rfl dX11_countNodes_13 ?_
  refine j_callV (k := 31) (ci := 2) (q := (RX2, TX2, 6)) (As := []) (rest := []) S hK hA hW (c_X2_nodesInAll l D cy ad sz1_9 hX_   (by omega)) (jgo wm_X11_359) yk_X2_nodesInAll hX_ rfl rfl ⟨⟨rfl, rfl⟩, by decide, by decide⟩ rfl hl.1 rfl (Nat.le_of_ble_eq_true rfl) dX11_countNodes_16 ⟨Nat.le_of_ble_eq_true rfl, Nat.le_of_ble_eq_true rfl⟩ (fun v u H locs hp hW => ?_)
  obtain ⟨rfl, rfl⟩ := hp
  refine W.eq (g2 := F0 m 19 ls [.int (nI (sz1_9 - 2))]) rfl ?_
  refine lv_topi_to (y := nI (sumN (nodesB (fun d => X (layP n od d n)) n) n)) (congrArg nI (by omega)) ?_
  subst hQ
  refine j_iret (u := w_) S hr (rfl) hK hW dX11_countNodes_19 ⟨by decide, by decide⟩ ?_
  exact ⟨_, _, _, _, _, _, rfl, ⟨hp9_0.2.2.2.2.1, hp9_0.2.2.2.2.2⟩, hU, hX_, hXta_, hXfa_, hXwa_, hXya_, hXpa_⟩
