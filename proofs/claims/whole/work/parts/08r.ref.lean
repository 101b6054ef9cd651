/-! THE REFERENCE: the best ones (laid by wip/whole/tools, from the specs there) -/
/-! THE REFERENCE: the best one, chosen again and again -/
/-- the best one of those before a place -/
def bstN (S : Nat → Bool) (W : Nat → Nat) : Nat → Option Nat
  | 0 => none
  | t + 1 => if S t then (match bstN S W t with | none => some t | some g => if W g < W t then some t else some g) else bstN S W t
def oI : Option Nat → Int32
  | none => -1
  | some g => nI g
def lsI (f : Nat → Nat) : Nat → Int32
  | 0 => -1
  | t + 1 => nI (f t)
theorem bst_n {S : Nat → Bool} {W : Nat → Nat} {t : Nat} (e : bstN S W t = none) (h : S t = true) : bstN S W (t + 1) = some t := by
  simp only [bstN]; rw [if_pos h, e]
theorem bst_g {S : Nat → Bool} {W : Nat → Nat} {t g : Nat} (e : bstN S W t = some g) (h : S t = true) (h2 : W g < W t) : bstN S W (t + 1) = some t := by
  simp only [bstN]; rw [if_pos h, e]; exact if_pos h2
theorem bst_k {S : Nat → Bool} {W : Nat → Nat} {t g : Nat} (e : bstN S W t = some g) (h2 : ¬ W g < W t) : bstN S W (t + 1) = some g := by
  simp only [bstN]
  cases h : S t
  · exact e
  · rw [if_pos rfl, e]; exact if_neg h2
theorem bst_0 {S : Nat → Bool} {W : Nat → Nat} {t : Nat} (h : S t = false) : bstN S W (t + 1) = bstN S W t := by
  simp only [bstN]; rw [if_neg (by rw [h]; decide)]
theorem bst_is {S : Nat → Bool} {W : Nat → Nat} : ∀ t g, bstN S W t = some g → g < t ∧ S g = true ∧ ∀ q, q < t → S q = true → W q < W g ∨ (W q = W g ∧ g ≤ q) := by
  intro t
  induction t with
  | zero => intro g h; cases h
  | succ t ih =>
    intro g h
    cases hS : S t
    · rw [bst_0 hS] at h
      obtain ⟨h1, h2, h3⟩ := ih g h
      refine ⟨by omega, h2, fun q hq hs => ?_⟩
      rcases Nat.lt_or_ge q t with z | z
      · exact h3 q z hs
      · rw [show q = t by omega, hS] at hs; cases hs
    · cases e : bstN S W t with
      | none =>
        rw [bst_n e hS] at h
        injection h with h; subst h
        have hno : ∀ q, q < t → S q = false := by
          clear ih hS
          revert e
          induction t with
          | zero => intro _ q hq; exact absurd hq (by omega)
          | succ t ih =>
            intro e q hq
            cases hS : S t
            · rw [bst_0 hS] at e
              rcases Nat.lt_or_ge q t with z | z
              · exact ih e q z
              · rw [show q = t by omega]; exact hS
            · cases e2 : bstN S W t with
              | none => rw [bst_n e2 hS] at e; cases e
              | some g =>
                rcases Nat.lt_or_ge (W g) (W t) with z | z
                · rw [bst_g e2 hS z] at e; cases e
                · rw [bst_k e2 (by omega)] at e; cases e
        refine ⟨by omega, hS, fun q hq hs => ?_⟩
        rcases Nat.lt_or_ge q t with z | z
        · rw [hno q z] at hs; cases hs
        · exact Or.inr ⟨by rw [show q = t by omega], by omega⟩
      | some g0 =>
        obtain ⟨h1, h2, h3⟩ := ih g0 e
        rcases Nat.lt_or_ge (W g0) (W t) with z | z
        · rw [bst_g e hS z] at h
          injection h with h; subst h
          refine ⟨by omega, hS, fun q hq hs => ?_⟩
          rcases Nat.lt_or_ge q t with y | y
          · rcases h3 q y hs with u | u <;> exact Or.inl (by omega)
          · exact Or.inr ⟨by rw [show q = t by omega], by omega⟩
        · rw [bst_k e (by omega)] at h
          injection h with h; subst h
          refine ⟨by omega, h2, fun q hq hs => ?_⟩
          rcases Nat.lt_or_ge q t with y | y
          · exact h3 q y hs
          · rw [show q = t by omega]
            rcases Nat.lt_or_eq_of_le z with u | u
            · exact Or.inl u
            · exact Or.inr ⟨u, by omega⟩
theorem bst_no {S : Nat → Bool} {W : Nat → Nat} : ∀ t, bstN S W t = none → ∀ q, q < t → S q = false := by
  intro t
  induction t with
  | zero => intro _ q hq; exact absurd hq (by omega)
  | succ t ih =>
    intro e q hq
    cases hS : S t
    · rw [bst_0 hS] at e
      rcases Nat.lt_or_ge q t with z | z
      · exact ih e q z
      · rw [show q = t by omega]; exact hS
    · cases e2 : bstN S W t with
      | none => rw [bst_n e2 hS] at e; cases e
      | some g =>
        rcases Nat.lt_or_ge (W g) (W t) with z | z
        · rw [bst_g e2 hS z] at e; cases e
        · rw [bst_k e2 (by omega)] at e; cases e
/-- the ones that are left behind the first k -/
def selB (M : Nat → Bool) (N : Nat) (f : Nat → Nat) (k : Nat) : Nat → Bool := fun t => decide (t < N) && M t && allB (fun j => !decide (f j = t)) k
theorem sel_iff {M : Nat → Bool} {N k t : Nat} {f : Nat → Nat} : selB M N f k t = true ↔ t < N ∧ M t = true ∧ ∀ j, j < k → f j ≠ t := by
  unfold selB
  rw [Bool.and_eq_true, Bool.and_eq_true, decide_eq_true_eq, allB_iff]
  constructor
  · rintro ⟨⟨h1, h2⟩, h3⟩
    exact ⟨h1, h2, fun j hj e => by have := h3 j hj; rw [decide_eq_true e] at this; cases this⟩
  · rintro ⟨h1, h2, h3⟩
    exact ⟨⟨h1, h2⟩, fun j hj => by rw [decide_eq_false (h3 j hj)]; rfl⟩
theorem sel_up {M rb : Nat → Bool} {N k : Nat} {f : Nat → Nat} (h : f k < 1024) : upd (bf (rowM (selB M N f k) rb)) (f k) (nI 0) = bf (rowM (selB M N f (k + 1)) rb) := by
  funext t
  unfold upd bf rowM
  by_cases e : t = f k
  · rw [if_pos e, if_pos (by omega)]
    have : selB M N f (k + 1) t = false := Bool.eq_false_iff.mpr (fun q => (sel_iff.mp q).2.2 k (by omega) e.symm)
    rw [this]; rfl
  · rw [if_neg e]
    have : selB M N f (k + 1) t = selB M N f k t := by
      unfold selB
      show (_ && (allB _ k && !decide (f k = t))) = _
      rw [decide_eq_false (show ¬ f k = t from fun q => e q.symm), Bool.not_false, Bool.and_true]
    rw [this]
theorem bst_sel {M : Nat → Bool} {W : Nat → Nat} {N len k : Nat} {f : Nat → Nat} (h : srtI M W N len f) (hk : k < len) : bstN (selB M N f k) W N = some (f k) := by
  have hne : ∀ i j, i < j → j < len → f i ≠ f j := fun i j hi hj e => by
    rcases h.2.1 i j hi hj with z | z
    · rw [e] at z; exact absurd z (by omega)
    · rw [e] at z; exact absurd z.2 (by omega)
  have hf := h.2.2.1 k hk
  have hs : selB M N f k (f k) = true := sel_iff.mpr ⟨hf.1, hf.2, fun j hj => hne j k hj hk⟩
  cases e : bstN (selB M N f k) W N with
  | none => rw [bst_no N e (f k) hf.1] at hs; cases hs
  | some g =>
    obtain ⟨h1, h2, h3⟩ := bst_is N g e
    obtain ⟨g1, g2, g3⟩ := sel_iff.mp h2
    obtain ⟨j, hj, rfl⟩ := h.2.2.2 g g1 g2
    rcases Nat.lt_trichotomy j k with z | z | z
    · exact absurd rfl (g3 j z)
    · rw [z]
    · have h4 := h3 (f k) hf.1 hs
      rcases h.2.1 k j z hj with y | y
      · rcases h4 with u | u <;> omega
      · rcases h4 with u | u <;> omega
theorem bst_end {M : Nat → Bool} {W : Nat → Nat} {N len : Nat} {f : Nat → Nat} (h : srtI M W N len f) : bstN (selB M N f len) W N = none := by
  cases e : bstN (selB M N f len) W N with
  | none => rfl
  | some g =>
    obtain ⟨h1, h2, h3⟩ := bst_is N g e
    obtain ⟨g1, g2, g3⟩ := sel_iff.mp h2
    obtain ⟨j, hj, z⟩ := h.2.2.2 g g1 g2
    exact absurd z (g3 j hj)
theorem sel_0 {M : Nat → Bool} {N t : Nat} {f : Nat → Nat} : selB M N f 0 t = (decide (t < N) && M t) := by
  unfold selB; show (_ && true) = _; rw [Bool.and_true]
/-- best -/
theorem c_X12_best_ok (l : Launch) (D : va_G) (cy : Nat → ClassId) {w : va_W} (ad : Nat → Nat) (th n nc : Nat) (sd se lv : Nat) (cs : Nat → CN) (wf wt : Nat → Nat) (rb : Nat → Bool) (x len : Nat) (f : Nat → Nat) (gO : w[55]? = some (ad 55, .inr (11, [.int (nI th), .ref (ad 56), .ref (ad 57), .ref (ad 58), .ref (ad 59), .ref (ad 60), .ref (ad 61), .ref (ad 62), .ref (ad 63), .ref (ad 64), .ref (ad 65), .int (nI n), .int (nI nc), .ref (ad 66), .ref (ad 71), .ref (ad 72), .ref (ad 73)]))) (gE : w[58]? = some (ad 58, .inl (cy 0, 10, .inl (evA n sd se)))) (gP : w[65]? = some (ad 65, .inl (cy 3, 20, .inl (bf (dpB nc lv))))) (gC0 : w[60]? = some (ad 60, .inl (cy 2, 20, .inl (nf (ckd cs))))) (gC1 : w[61]? = some (ad 61, .inl (cy 0, 20, .inl (nf (cst cs))))) (gC2 : w[62]? = some (ad 62, .inl (cy 0, 20, .inl (nf (cot cs))))) (gC3 : w[63]? = some (ad 63, .inl (cy 0, 20, .inl (nf (cle cs))))) (gC4 : w[64]? = some (ad 64, .inl (cy 0, 20, .inl (nf (cgr cs))))) (gF : w[56]? = some (ad 56, .inl (cy 0, 10, .inl (nf wf)))) (gT : w[57]? = some (ad 57, .inl (cy 0, 10, .inl (nf wt)))) (gR : w[72]? = some (ad 72, .inl (cy 3, 1024, .inl (bf rb)))) (hn : n ≤ 10) (hsd : sd < 2 ^ n) (hse : se &&& sd = se) (hnc : nc ≤ 20) (hcs : csI nc cs) (hwf : ∀ j, wf j ≤ 9) (hwt : ∀ j, wt j ≤ 9) (hx : x < 21) (hs : srtI (fun d => mdc sd se nc cs lv (revN n d)) (fun d => prodN wf wt (revN n d) n) (2 ^ n) len f) (hxl : x < len) : jM l yX12_best (jws yX12_best cX12_best 5 (some .int)) (jR 4 0 0) D cy w [.ref (ad 55), .int (nI x)] 0 0 (fun vv uu => ∃ (rb1 : Nat → Bool), vv = some (.int (nI (revN n (f x)))) ∧ jU w uu [55, 72] ∧ uu[55]? = some (ad 55, .inr (11, [.int (nI 0), .ref (ad 56), .ref (ad 57), .ref (ad 58), .ref (ad 59), .ref (ad 60), .ref (ad 61), .ref (ad 62), .ref (ad 63), .ref (ad 64), .ref (ad 65), .int (nI n), .int (nI nc), .ref (ad 66), .ref (ad 71), .ref (ad 72), .ref (ad 73)])) ∧ uu[72]? = some (ad 72, .inl (cy 3, 1024, .inl (bf rb1)))) := by
  have hp2 := two_pow10 hn
  have h910 : 9 ^ n ≤ 9 ^ 10 := Nat.pow_le_pow_right (by decide) hn
  have hpb : ∀ d, prodN wf wt d n ≤ 3486784401 := fun d => Nat.le_trans (prodN_le hwf hwt d n) h910
  have hsl : sumI (mdc sd se nc cs lv) (fun d => prodN wf wt d n) (2 ^ n) ≤ 2 ^ n * 3486784401 := sumI_le (fun j _ => hpb j)
  have hsb : 2 ^ n * 3486784401 ≤ 1024 * 3486784401 := Nat.mul_le_mul_right _ hp2
  refine j_of (by decide) rfl (Nat.le_of_ble_eq_true rfl) ?_
  intro p e s m args below meth c A ls Q hQ S hr hK hA H locs hW hl
  have hl : lv_has ls 5 [(0, .ref (ad 55)), (1, .int (nI x))] := hl
  refine lv_aload_n S.1 S.2.1 dX12_best_0 rfl (lv_at hl 0 rfl) ?_
  refine lv_iconst (v := nI 0) S.1 S.2.1 dX12_best_1 (by decide) ?_
  refine j_put (ci := 11) (C := RX12) (T := TX12) (N := 17) (ty := .int) S (fun w h => List.mem_cons_of_mem _ (inG12 w h)) tyX12 tyX12_ok nmX12 hK hW gO rfl 0 (by decide) (List.mem_cons_of_mem _ wfl_X12_1) (fun _ h9 => h9) rfl (by decide +kernel) (rfl) (rfl) (Nat.le_of_ble_eq_true rfl) dX12_best_2 (fun H locs w_ hU1 hN1 hW => ?_)
  have hU : jU w w_ [55, 72] := jU.mono hU1 (by decide)
  have gR_ := hU1.get gR (by decide)
  have gO_ : w_[55]? = some (ad 55, .inr (11, [.int (nI 0), .ref (ad 56), .ref (ad 57), .ref (ad 58), .ref (ad 59), .ref (ad 60), .ref (ad 61), .ref (ad 62), .ref (ad 63), .ref (ad 64), .ref (ad 65), .int (nI n), .int (nI nc), .ref (ad 66), .ref (ad 71), .ref (ad 72), .ref (ad 73)])) := hN1
  clear hU1 hN1
  refine lv_iload_n S.1 S.2.1 dX12_best_5 rfl (lv_at hl 1 rfl) ?_
  refine lv_iconst (v := nI 0) S.1 S.2.1 dX12_best_6 (by decide) ?_
  refine lv_bipush (v := nI 20) S.1 S.2.1 dX12_best_7 (by decide) ?_
  refine j_callS (As := [.int (nI x), .int (nI 0), .int (nI 20)]) (rest := []) S hK hA hW (c_X12_isBetween l D cy (nI x) (nI 0) (nI 20)    ) (jgo wm_X12_67) yk_X12_isBetween ⟨⟨rfl, rfl⟩, by decide, by decide⟩ rfl hl.1 rfl (Nat.le_of_ble_eq_true rfl) dX12_best_9 ⟨Nat.le_of_ble_eq_true rfl, Nat.le_of_ble_eq_true rfl⟩ (fun v u H locs hp hW => ?_)
  obtain ⟨rfl, rfl⟩ := hp
  refine W.eq (g2 := F0 m 12 ls [.int (bI (decide ((nI 0) ≤ (nI x)) && decide ((nI x) ≤ (nI 20))))]) rfl ?_
  refine lv_topi_to (y := bI (vB (nI x) 21)) (by rw [btw_k (k := 20) (by decide)]) ?_
  refine jb_if_ne (tgt := 21) S dX12_best_12 (by decide) (fun c_12 => ?_) (fun c_12 => ?_)
  · refine lv_iconst (v := nI 0) S.1 S.2.1 dX12_best_21 (by decide) ?_
    refine lv_istore_n (lv' := [(2, .int (nI 0)), (0, .ref (ad 55)), (1, .int (nI x))]) S.1 S.2.1 dX12_best_22 rfl hl (by decide) rfl (fun ls hl => ?_)
    have gR_ : w_[72]? = some (ad 72, .inl (cy 3, 1024, .inl (bf (mixF (selB (fun d => mdc sd se nc cs lv (revN n d)) (2 ^ n) f 0) rb 0)))) := by
      rw [mixF_0]; exact gR_
    have L23 : ∀ (k : Nat) (i : Nat), 1024 - i = k → (i ≤ 1024) → ∀ (w_ : va_W), jU w w_ [55, 72] → (w_[55]? = some (ad 55, .inr (11, [.int (nI 0), .ref (ad 56), .ref (ad 57), .ref (ad 58), .ref (ad 59), .ref (ad 60), .ref (ad 61), .ref (ad 62), .ref (ad 63), .ref (ad 64), .ref (ad 65), .int (nI n), .int (nI nc), .ref (ad 66), .ref (ad 71), .ref (ad 72), .ref (ad 73)]))) → (w_[72]? = some (ad 72, .inl (cy 3, 1024, .inl (bf (mixF (selB (fun d => mdc sd se nc cs lv (revN n d)) (2 ^ n) f 0) rb i))))) → ∀ (H : Heap) (locs : List Loc) (ls : Array Slot), jW D A s.heap w_ H locs → lv_has ls 5 [(0, .ref (ad 55)), (1, .int (nI x)), (2, .int (nI i))] → W p l e (jR 4 0 0) s m args below meth c H locs 0 0 Q (F0 m 23 ls []) := by
      intro k
      induction k using Nat.strongRecOn with
      | ind k ih23 =>
      intro i hk hi w_ hU gO_ gR_ H locs ls hW hl
      subst hk
      refine lv_iload_n S.1 S.2.1 dX12_best_23 rfl (lv_at hl 2 rfl) ?_
      refine lv_sipush (v := nI 1024) S.1 S.2.1 dX12_best_24 (by decide) ?_
      refine jn_cmp_ge (tgt := 70) S (by omega) (by omega) dX12_best_27 (by decide) (fun c_27 => ?_) (fun c_27 => ?_)
      · have ei : i = 1024 := by omega
        subst ei
        refine lv_iconst (v := (-1)) S.1 S.2.1 dX12_best_70 (by decide) ?_
        refine lv_istore_n (lv' := [(2, .int (-1)), (0, .ref (ad 55)), (1, .int (nI x))]) S.1 S.2.1 dX12_best_71 rfl hl (by decide) rfl (fun ls hl => ?_)
        refine lv_iconst (v := nI 0) S.1 S.2.1 dX12_best_72 (by decide) ?_
        refine lv_istore_n (lv' := [(3, .int (nI 0)), (2, .int (-1)), (0, .ref (ad 55)), (1, .int (nI x))]) S.1 S.2.1 dX12_best_73 rfl hl (by decide) rfl (fun ls hl => ?_)
        have gR_ : w_[72]? = some (ad 72, .inl (cy 3, 1024, .inl (bf (rowM (selB (fun d => mdc sd se nc cs lv (revN n d)) (2 ^ n) f 0) rb)))) := by
          exact gR_
        have L74 : ∀ (k : Nat) (kq : Nat), x + 1 - kq = k → (kq ≤ x + 1) → ∀ (w_ : va_W), jU w w_ [55, 72] → (w_[55]? = some (ad 55, .inr (11, [.int (nI 0), .ref (ad 56), .ref (ad 57), .ref (ad 58), .ref (ad 59), .ref (ad 60), .ref (ad 61), .ref (ad 62), .ref (ad 63), .ref (ad 64), .ref (ad 65), .int (nI n), .int (nI nc), .ref (ad 66), .ref (ad 71), .ref (ad 72), .ref (ad 73)]))) → (w_[72]? = some (ad 72, .inl (cy 3, 1024, .inl (bf (rowM (selB (fun d => mdc sd se nc cs lv (revN n d)) (2 ^ n) f kq) rb))))) → ∀ (H : Heap) (locs : List Loc) (ls : Array Slot), jW D A s.heap w_ H locs → lv_has ls 5 [(0, .ref (ad 55)), (1, .int (nI x)), (2, .int (lsI f kq)), (3, .int (nI kq))] → W p l e (jR 4 0 0) s m args below meth c H locs 0 0 Q (F0 m 74 ls []) := by
          intro k
          induction k using Nat.strongRecOn with
          | ind k ih74 =>
          intro kq hk hkq0 w_ hU gO_ gR_ H locs ls hW hl
          subst hk
          refine lv_iload_n S.1 S.2.1 dX12_best_74 rfl (lv_at hl 3 rfl) ?_
          refine lv_iload_n S.1 S.2.1 dX12_best_75 rfl (lv_at hl 1 rfl) ?_
          refine jn_cmp_gt (tgt := 168) S (by omega) (by omega) dX12_best_76 (by decide) (fun c_76 => ?_) (fun c_76 => ?_)
          · have ek : kq = x + 1 := by omega
            have hfx : f x < 1024 := by have z := (hs.2.2.1 x hxl).1; omega
            have hl : lv_has ls 5 [(0, .ref (ad 55)), (1, .int (nI x)), (2, .int (nI (f x))), (3, .int (nI kq))] := by rw [ek] at hl; rw [ek]; exact hl
            refine lv_iload_n S.1 S.2.1 dX12_best_168 rfl (lv_at hl 2 rfl) ?_
            refine lv_aload_n S.1 S.2.1 dX12_best_169 rfl (lv_at hl 0 rfl) ?_
            refine j_get (ci := 11) (C := RX12) (T := TX12) (N := 17) (v := .int (nI n)) S (fun w h => List.mem_cons_of_mem _ (inG12 w h)) hK hW gO_ rfl 11 (by decide) (List.mem_cons_of_mem _ wfl_X12_64) (fun _ h9 => h9) rfl dX12_best_170 ?_
            refine j_callS (As := [.int (nI (f x)), .int (nI n)]) (rest := []) S hK hA hW (c_X12_assignmentAt l D cy (f x) n    (hn) (by omega)) (jgo wm_X12_137) yk_X12_assignmentAt ⟨⟨rfl, rfl⟩, by decide, by decide⟩ rfl hl.1 rfl (Nat.le_of_ble_eq_true rfl) dX12_best_173 ⟨Nat.le_of_ble_eq_true rfl, Nat.le_of_ble_eq_true rfl⟩ (fun v u H locs hp hW => ?_)
            obtain ⟨rfl, rfl⟩ := hp
            refine W.eq (g2 := F0 m 176 ls [.int (nI (revN n (f x)))]) rfl ?_
            subst hQ
            exact j_iret (u := w_) S hr (rfl) hK hW dX12_best_176 ⟨by decide, by decide⟩ (⟨_, rfl, hU, gO_, gR_⟩)
          · refine lv_iconst (v := (-1)) S.1 S.2.1 dX12_best_79 (by decide) ?_
            refine lv_istore_n (lv' := [(2, .int (-1)), (0, .ref (ad 55)), (1, .int (nI x)), (3, .int (nI kq))]) S.1 S.2.1 dX12_best_80 rfl hl (by decide) rfl (fun ls hl => ?_)
            refine lv_iconst (v := nI 0) S.1 S.2.1 dX12_best_81 (by decide) ?_
            refine lv_istore (lv' := [(4, .int (nI 0)), (2, .int (-1)), (0, .ref (ad 55)), (1, .int (nI x)), (3, .int (nI kq))]) S.1 S.2.1 dX12_best_82 hl (by decide) rfl (fun ls hl => ?_)
            have L84 : ∀ (k : Nat) (q0 : Nat), 2 ^ n - q0 = k → (q0 ≤ 2 ^ n) → ∀ (w_ : va_W), jU w w_ [55, 72] → (w_[55]? = some (ad 55, .inr (11, [.int (nI 0), .ref (ad 56), .ref (ad 57), .ref (ad 58), .ref (ad 59), .ref (ad 60), .ref (ad 61), .ref (ad 62), .ref (ad 63), .ref (ad 64), .ref (ad 65), .int (nI n), .int (nI nc), .ref (ad 66), .ref (ad 71), .ref (ad 72), .ref (ad 73)]))) → (w_[72]? = some (ad 72, .inl (cy 3, 1024, .inl (bf (rowM (selB (fun d => mdc sd se nc cs lv (revN n d)) (2 ^ n) f kq) rb))))) → ∀ (H : Heap) (locs : List Loc) (ls : Array Slot), jW D A s.heap w_ H locs → lv_has ls 5 [(0, .ref (ad 55)), (1, .int (nI x)), (2, .int (oI (bstN (selB (fun d => mdc sd se nc cs lv (revN n d)) (2 ^ n) f kq) (fun d => prodN wf wt (revN n d) n) q0))), (3, .int (nI kq)), (4, .int (nI q0))] → W p l e (jR 4 0 0) s m args below meth c H locs 0 0 Q (F0 m 84 ls []) := by
              intro k
              induction k using Nat.strongRecOn with
              | ind k ih84 =>
              intro q0 hk hq0 w_ hU gO_ gR_ H locs ls hW hl
              subst hk
              refine lv_iload S.1 S.2.1 dX12_best_84 (lv_at hl 4 rfl) ?_
              refine lv_aload_n S.1 S.2.1 dX12_best_86 rfl (lv_at hl 0 rfl) ?_
              refine j_callV (k := 55) (ci := 11) (q := (RX12, TX12, 17)) (As := []) (rest := [.int (nI q0)]) S hK hA hW (c_X12_all l D cy ad 0 n nc gO_   (by omega)) (jgo wm_X12_98) yk_X12_all gO_ rfl rfl ⟨⟨rfl, rfl⟩, by decide, by decide⟩ rfl hl.1 rfl (Nat.le_of_ble_eq_true rfl) dX12_best_87 ⟨Nat.le_of_ble_eq_true rfl, Nat.le_of_ble_eq_true rfl⟩ (fun v u H locs hp hW => ?_)
              obtain ⟨rfl, rfl⟩ := hp
              refine W.eq (g2 := F0 m 90 ls [.int (nI (2 ^ n)), .int (nI q0)]) rfl ?_
              refine jn_cmp_ge (tgt := 145) S (by omega) (by omega) dX12_best_90 (by decide) (fun c_90 => ?_) (fun c_90 => ?_)
              · have eq0 : q0 = 2 ^ n := by omega
                have hkl1 : kq < len := by omega
                have hfk : f kq < 1024 := by have z := (hs.2.2.1 kq hkl1).1; omega
                have hl : lv_has ls 5 [(0, .ref (ad 55)), (1, .int (nI x)), (2, .int (nI (f kq))), (3, .int (nI kq)), (4, .int (nI q0))] := by have z : bstN (selB (fun d => mdc sd se nc cs lv (revN n d)) (2 ^ n) f kq) (fun d => prodN wf wt (revN n d) n) q0 = some (f kq) := (by rw [eq0]; exact bst_sel hs hkl1); rw [z] at hl; exact hl
                refine lv_iload_n S.1 S.2.1 dX12_best_145 rfl (lv_at hl 2 rfl) ?_
                refine jn_if_ge (tgt := 155) S (by omega) dX12_best_146 (by decide) ?_
                refine lv_aload_n S.1 S.2.1 dX12_best_155 rfl (lv_at hl 0 rfl) ?_
                refine j_get (ci := 11) (C := RX12) (T := TX12) (N := 17) (v := .ref (ad 72)) S (fun w h => List.mem_cons_of_mem _ (inG12 w h)) hK hW gO_ rfl 15 (by decide) (List.mem_cons_of_mem _ wfl_X12_58) (fun _ h9 => h9) rfl dX12_best_156 ?_
                refine lv_iload_n S.1 S.2.1 dX12_best_159 rfl (lv_at hl 2 rfl) ?_
                refine lv_iconst (v := nI 0) S.1 S.2.1 dX12_best_160 (by decide) ?_
                refine j_zast S hK hW gR_ (vp_in_nI (by omega) (by omega)) (nI_clamp (by omega)) (rfl) dX12_best_161 (fun H locs w_ hU1 hN1 hW => ?_)
                have hU := hU.then hU1 (by decide)
                have gO_ := hU1.get gO_ (by decide)
                have gR_ : w_[72]? = some (ad 72, .inl (cy 3, 1024, .inl (upd (bf (rowM (selB (fun d => mdc sd se nc cs lv (revN n d)) (2 ^ n) f kq) rb)) (f kq) (nI 0)))) := hN1
                clear hU1 hN1
                have gR_ : w_[72]? = some (ad 72, .inl (cy 3, 1024, .inl (bf (rowM (selB (fun d => mdc sd se nc cs lv (revN n d)) (2 ^ n) f (kq + 1)) rb)))) := by
                  rw [← sel_up hfk]; exact gR_
                refine lv_iinc (v := nI (kq + 1)) (lv' := [(3, .int (nI (kq + 1))), (0, .ref (ad 55)), (1, .int (nI x)), (2, .int (nI (f kq))), (4, .int (nI q0))]) S.1 S.2.1 dX12_best_162 hl (k := 3) rfl (nI_add _ 1) (by decide) rfl (fun ls hl => ?_)
                refine lv_goto (tgt := 74) S.1 S.2.1 dX12_best_165 (by decide) ?_
                exact ih74 _ (by omega) (kq + 1) rfl (by omega) w_ hU gO_ gR_ H locs ls hW (lv_sub hl [1, 2, 3, 0] rfl)
              · refine lv_aload_n S.1 S.2.1 dX12_best_93 rfl (lv_at hl 0 rfl) ?_
                refine j_get (ci := 11) (C := RX12) (T := TX12) (N := 17) (v := .ref (ad 72)) S (fun w h => List.mem_cons_of_mem _ (inG12 w h)) hK hW gO_ rfl 15 (by decide) (List.mem_cons_of_mem _ wfl_X12_58) (fun _ h9 => h9) rfl dX12_best_94 ?_
                refine lv_iload S.1 S.2.1 dX12_best_97 (lv_at hl 4 rfl) ?_
                refine j_zald (x := bI ((selB (fun d => mdc sd se nc cs lv (revN n d)) (2 ^ n) f kq) q0)) S hK hW gR_ (vp_in_nI (by omega) (by omega)) (nI_clamp (by omega)) (congrArg bI (row_at (by omega))) dX12_best_99 ?_
                refine jb_if_eq (tgt := 139) S dX12_best_100 (by decide) (fun c_100 => ?_) (fun c_100 => ?_)
                · have e0 : oI (bstN (selB (fun d => mdc sd se nc cs lv (revN n d)) (2 ^ n) f kq) (fun d => prodN wf wt (revN n d) n) (q0 + 1)) = oI (bstN (selB (fun d => mdc sd se nc cs lv (revN n d)) (2 ^ n) f kq) (fun d => prodN wf wt (revN n d) n) q0) := congrArg oI (by first | exact bst_0 c_100 | exact bst_0 c_100)
                  have hl : lv_has ls 5 [(0, .ref (ad 55)), (1, .int (nI x)), (2, .int (oI (bstN (selB (fun d => mdc sd se nc cs lv (revN n d)) (2 ^ n) f kq) (fun d => prodN wf wt (revN n d) n) (q0 + 1)))), (3, .int (nI kq)), (4, .int (nI q0))] := by rw [e0]; exact hl
                  refine lv_iinc (v := nI (q0 + 1)) (lv' := [(4, .int (nI (q0 + 1))), (0, .ref (ad 55)), (1, .int (nI x)), (2, .int (oI (bstN (selB (fun d => mdc sd se nc cs lv (revN n d)) (2 ^ n) f kq) (fun d => prodN wf wt (revN n d) n) (q0 + 1)))), (3, .int (nI kq))]) S.1 S.2.1 dX12_best_139 hl (k := 4) rfl (nI_add _ 1) (by decide) rfl (fun ls hl => ?_)
                  refine lv_goto (tgt := 84) S.1 S.2.1 dX12_best_142 (by decide) ?_
                  exact ih84 _ (by omega) (q0 + 1) rfl (by omega) w_ hU gO_ gR_ H locs ls hW (lv_sub hl [1, 2, 3, 4, 0] rfl)
                · rcases hbs : bstN (selB (fun d => mdc sd se nc cs lv (revN n d)) (2 ^ n) f kq) (fun d => prodN wf wt (revN n d) n) q0 with _ | g0
                  · have hl : lv_has ls 5 [(0, .ref (ad 55)), (1, .int (nI x)), (2, .int (-1)), (3, .int (nI kq)), (4, .int (nI q0))] := by rw [hbs] at hl; exact hl
                    refine lv_iload_n S.1 S.2.1 dX12_best_103 rfl (lv_at hl 2 rfl) ?_
                    refine lv_if_lt (tgt := 136) S.1 S.2.1 dX12_best_104 (by decide) (fun c_104 => ?_) (fun c_104 => ?_)
                    · refine lv_iload S.1 S.2.1 dX12_best_136 (lv_at hl 4 rfl) ?_
                      refine lv_istore_n (lv' := [(2, .int (nI q0)), (0, .ref (ad 55)), (1, .int (nI x)), (3, .int (nI kq)), (4, .int (nI q0))]) S.1 S.2.1 dX12_best_138 rfl hl (by decide) rfl (fun ls hl => ?_)
                      have e0 : oI (bstN (selB (fun d => mdc sd se nc cs lv (revN n d)) (2 ^ n) f kq) (fun d => prodN wf wt (revN n d) n) (q0 + 1)) = oI (some q0) := congrArg oI (by first | exact bst_n hbs c_100 | exact bst_n hbs c_100)
                      have hl : lv_has ls 5 [(2, .int (oI (bstN (selB (fun d => mdc sd se nc cs lv (revN n d)) (2 ^ n) f kq) (fun d => prodN wf wt (revN n d) n) (q0 + 1)))), (0, .ref (ad 55)), (1, .int (nI x)), (3, .int (nI kq)), (4, .int (nI q0))] := by rw [e0]; exact hl
                      refine lv_iinc (v := nI (q0 + 1)) (lv' := [(4, .int (nI (q0 + 1))), (2, .int (oI (bstN (selB (fun d => mdc sd se nc cs lv (revN n d)) (2 ^ n) f kq) (fun d => prodN wf wt (revN n d) n) (q0 + 1)))), (0, .ref (ad 55)), (1, .int (nI x)), (3, .int (nI kq))]) S.1 S.2.1 dX12_best_139 hl (k := 4) rfl (nI_add _ 1) (by decide) rfl (fun ls hl => ?_)
                      refine lv_goto (tgt := 84) S.1 S.2.1 dX12_best_142 (by decide) ?_
                      exact ih84 _ (by omega) (q0 + 1) rfl (by omega) w_ hU gO_ gR_ H locs ls hW (lv_sub hl [2, 3, 1, 4, 0] rfl)
                    · exact absurd (by decide) c_104
                  · have hl : lv_has ls 5 [(0, .ref (ad 55)), (1, .int (nI x)), (2, .int (nI g0)), (3, .int (nI kq)), (4, .int (nI q0))] := by rw [hbs] at hl; exact hl
                    have hg0 := (bst_is _ _ hbs).1
                    refine lv_iload_n S.1 S.2.1 dX12_best_103 rfl (lv_at hl 2 rfl) ?_
                    refine jn_if_lt (tgt := 136) S (by omega) dX12_best_104 (by decide) ?_
                    refine lv_aload_n S.1 S.2.1 dX12_best_107 rfl (lv_at hl 0 rfl) ?_
                    refine lv_iload S.1 S.2.1 dX12_best_108 (lv_at hl 4 rfl) ?_
                    refine lv_aload_n S.1 S.2.1 dX12_best_110 rfl (lv_at hl 0 rfl) ?_
                    refine j_get (ci := 11) (C := RX12) (T := TX12) (N := 17) (v := .int (nI n)) S (fun w h => List.mem_cons_of_mem _ (inG12 w h)) hK hW gO_ rfl 11 (by decide) (List.mem_cons_of_mem _ wfl_X12_64) (fun _ h9 => h9) rfl dX12_best_111 ?_
                    refine j_callS (As := [.int (nI q0), .int (nI n)]) (rest := [.ref (ad 55)]) S hK hA hW (c_X12_assignmentAt l D cy q0 n    (hn) (by omega)) (jgo wm_X12_137) yk_X12_assignmentAt ⟨⟨rfl, rfl⟩, by decide, by decide⟩ rfl hl.1 rfl (Nat.le_of_ble_eq_true rfl) dX12_best_114 ⟨Nat.le_of_ble_eq_true rfl, Nat.le_of_ble_eq_true rfl⟩ (fun v u H locs hp hW => ?_)
                    obtain ⟨rfl, rfl⟩ := hp
                    refine W.eq (g2 := F0 m 117 ls [.int (nI (revN n q0)), .ref (ad 55)]) rfl ?_
                    refine j_callV (k := 55) (ci := 11) (q := (RX12, TX12, 17)) (As := [.int (nI (revN n q0))]) (rest := []) S hK hA hW (c_X12_weigh l D cy ad 0 n nc wf wt (revN n q0) gO_ (hU.get gF (by decide)) (hU.get gT (by decide))   (by omega) (Nat.lt_of_lt_of_le (revN_lt10 hn) hp2) (hwf) (hwt)) (jgo wm_X12_109) yk_X12_weigh gO_ rfl rfl ⟨⟨rfl, rfl⟩, by decide, by decide⟩ rfl hl.1 rfl (Nat.le_of_ble_eq_true rfl) dX12_best_117 ⟨Nat.le_of_ble_eq_true rfl, Nat.le_of_ble_eq_true rfl⟩ (fun v u H locs hp hW => ?_)
                    obtain ⟨rfl, rfl⟩ := hp
                    refine W.eq (g2 := F0 m 120 ls [.long (lN (prodN wf wt (revN n q0) n))]) rfl ?_
                    refine lv_aload_n S.1 S.2.1 dX12_best_120 rfl (lv_at hl 0 rfl) ?_
                    refine lv_iload_n S.1 S.2.1 dX12_best_121 rfl (lv_at hl 2 rfl) ?_
                    refine lv_aload_n S.1 S.2.1 dX12_best_122 rfl (lv_at hl 0 rfl) ?_
                    refine j_get (ci := 11) (C := RX12) (T := TX12) (N := 17) (v := .int (nI n)) S (fun w h => List.mem_cons_of_mem _ (inG12 w h)) hK hW gO_ rfl 11 (by decide) (List.mem_cons_of_mem _ wfl_X12_64) (fun _ h9 => h9) rfl dX12_best_123 ?_
                    refine j_callS (As := [.int (nI g0), .int (nI n)]) (rest := [.ref (ad 55), .long (lN (prodN wf wt (revN n q0) n))]) S hK hA hW (c_X12_assignmentAt l D cy g0 n    (hn) (by omega)) (jgo wm_X12_137) yk_X12_assignmentAt ⟨⟨rfl, rfl⟩, by decide, by decide⟩ rfl hl.1 rfl (Nat.le_of_ble_eq_true rfl) dX12_best_126 ⟨Nat.le_of_ble_eq_true rfl, Nat.le_of_ble_eq_true rfl⟩ (fun v u H locs hp hW => ?_)
                    obtain ⟨rfl, rfl⟩ := hp
                    refine W.eq (g2 := F0 m 129 ls [.int (nI (revN n g0)), .ref (ad 55), .long (lN (prodN wf wt (revN n q0) n))]) rfl ?_
                    refine j_callV (k := 55) (ci := 11) (q := (RX12, TX12, 17)) (As := [.int (nI (revN n g0))]) (rest := [.long (lN (prodN wf wt (revN n q0) n))]) S hK hA hW (c_X12_weigh l D cy ad 0 n nc wf wt (revN n g0) gO_ (hU.get gF (by decide)) (hU.get gT (by decide))   (by omega) (Nat.lt_of_lt_of_le (revN_lt10 hn) hp2) (hwf) (hwt)) (jgo wm_X12_109) yk_X12_weigh gO_ rfl rfl ⟨⟨rfl, rfl⟩, by decide, by decide⟩ rfl hl.1 rfl (Nat.le_of_ble_eq_true rfl) dX12_best_129 ⟨Nat.le_of_ble_eq_true rfl, Nat.le_of_ble_eq_true rfl⟩ (fun v u H locs hp hW => ?_)
                    obtain ⟨rfl, rfl⟩ := hp
                    refine W.eq (g2 := F0 m 132 ls [.long (lN (prodN wf wt (revN n g0) n)), .long (lN (prodN wf wt (revN n q0) n))]) rfl ?_
                    have hb1 := hpb (revN n q0)
                    have hb2 := hpb (revN n g0)
                    refine jnl_le (tgt := 139) S (by omega) (by omega) dX12_best_132 dX12_best_133 (by decide) (fun c_133 => ?_) (fun c_133 => ?_)
                    · have e0 : oI (bstN (selB (fun d => mdc sd se nc cs lv (revN n d)) (2 ^ n) f kq) (fun d => prodN wf wt (revN n d) n) (q0 + 1)) = oI (some g0) := congrArg oI (by first | exact bst_k hbs c_133 | exact bst_k hbs (Nat.not_lt.mpr c_133))
                      have hl : lv_has ls 5 [(0, .ref (ad 55)), (1, .int (nI x)), (2, .int (oI (bstN (selB (fun d => mdc sd se nc cs lv (revN n d)) (2 ^ n) f kq) (fun d => prodN wf wt (revN n d) n) (q0 + 1)))), (3, .int (nI kq)), (4, .int (nI q0))] := by rw [e0]; exact hl
                      refine lv_iinc (v := nI (q0 + 1)) (lv' := [(4, .int (nI (q0 + 1))), (0, .ref (ad 55)), (1, .int (nI x)), (2, .int (oI (bstN (selB (fun d => mdc sd se nc cs lv (revN n d)) (2 ^ n) f kq) (fun d => prodN wf wt (revN n d) n) (q0 + 1)))), (3, .int (nI kq))]) S.1 S.2.1 dX12_best_139 hl (k := 4) rfl (nI_add _ 1) (by decide) rfl (fun ls hl => ?_)
                      refine lv_goto (tgt := 84) S.1 S.2.1 dX12_best_142 (by decide) ?_
                      exact ih84 _ (by omega) (q0 + 1) rfl (by omega) w_ hU gO_ gR_ H locs ls hW (lv_sub hl [1, 2, 3, 4, 0] rfl)
                    · refine lv_iload S.1 S.2.1 dX12_best_136 (lv_at hl 4 rfl) ?_
                      refine lv_istore_n (lv' := [(2, .int (nI q0)), (0, .ref (ad 55)), (1, .int (nI x)), (3, .int (nI kq)), (4, .int (nI q0))]) S.1 S.2.1 dX12_best_138 rfl hl (by decide) rfl (fun ls hl => ?_)
                      have e0 : oI (bstN (selB (fun d => mdc sd se nc cs lv (revN n d)) (2 ^ n) f kq) (fun d => prodN wf wt (revN n d) n) (q0 + 1)) = oI (some q0) := congrArg oI (by first | exact bst_g hbs c_100 c_133 | exact bst_g hbs c_100 (Nat.not_le.mp c_133))
                      have hl : lv_has ls 5 [(2, .int (oI (bstN (selB (fun d => mdc sd se nc cs lv (revN n d)) (2 ^ n) f kq) (fun d => prodN wf wt (revN n d) n) (q0 + 1)))), (0, .ref (ad 55)), (1, .int (nI x)), (3, .int (nI kq)), (4, .int (nI q0))] := by rw [e0]; exact hl
                      refine lv_iinc (v := nI (q0 + 1)) (lv' := [(4, .int (nI (q0 + 1))), (2, .int (oI (bstN (selB (fun d => mdc sd se nc cs lv (revN n d)) (2 ^ n) f kq) (fun d => prodN wf wt (revN n d) n) (q0 + 1)))), (0, .ref (ad 55)), (1, .int (nI x)), (3, .int (nI kq))]) S.1 S.2.1 dX12_best_139 hl (k := 4) rfl (nI_add _ 1) (by decide) rfl (fun ls hl => ?_)
                      refine lv_goto (tgt := 84) S.1 S.2.1 dX12_best_142 (by decide) ?_
                      exact ih84 _ (by omega) (q0 + 1) rfl (by omega) w_ hU gO_ gR_ H locs ls hW (lv_sub hl [2, 3, 1, 4, 0] rfl)
            exact L84 _ 0 rfl (Nat.zero_le _) w_ hU gO_ gR_ H locs ls hW (lv_sub hl [2, 3, 1, 4, 0] rfl)
        exact L74 _ 0 rfl (Nat.zero_le _) w_ hU gO_ gR_ H locs ls hW (lv_sub hl [2, 3, 1, 0] rfl)
      · refine lv_aload_n S.1 S.2.1 dX12_best_30 rfl (lv_at hl 0 rfl) ?_
        refine j_get (ci := 11) (C := RX12) (T := TX12) (N := 17) (v := .ref (ad 72)) S (fun w h => List.mem_cons_of_mem _ (inG12 w h)) hK hW gO_ rfl 15 (by decide) (List.mem_cons_of_mem _ wfl_X12_58) (fun _ h9 => h9) rfl dX12_best_31 ?_
        refine lv_iload_n S.1 S.2.1 dX12_best_34 rfl (lv_at hl 2 rfl) ?_
        refine lv_iload_n S.1 S.2.1 dX12_best_35 rfl (lv_at hl 2 rfl) ?_
        refine lv_aload_n S.1 S.2.1 dX12_best_36 rfl (lv_at hl 0 rfl) ?_
        refine j_callV (k := 55) (ci := 11) (q := (RX12, TX12, 17)) (As := []) (rest := [.int (nI i), .int (nI i), .ref (ad 72)]) S hK hA hW (c_X12_all l D cy ad 0 n nc gO_   (by omega)) (jgo wm_X12_98) yk_X12_all gO_ rfl rfl ⟨⟨rfl, rfl⟩, by decide, by decide⟩ rfl hl.1 rfl (Nat.le_of_ble_eq_true rfl) dX12_best_37 ⟨Nat.le_of_ble_eq_true rfl, Nat.le_of_ble_eq_true rfl⟩ (fun v u H locs hp hW => ?_)
        obtain ⟨rfl, rfl⟩ := hp
        refine W.eq (g2 := F0 m 40 ls [.int (nI (2 ^ n)), .int (nI i), .int (nI i), .ref (ad 72)]) rfl ?_
        refine jn_cmp_ge (tgt := 62) S (by omega) (by omega) dX12_best_40 (by decide) (fun c_40 => ?_) (fun c_40 => ?_)
        · refine lv_iconst (v := nI 0) S.1 S.2.1 dX12_best_62 (by decide) ?_
          refine j_zast S hK hW gR_ (vp_in_nI (by omega) (by omega)) (nI_clamp (by omega)) (rfl) dX12_best_63 (fun H locs w_ hU1 hN1 hW => ?_)
          have hU := hU.then hU1 (by decide)
          have gO_ := hU1.get gO_ (by decide)
          have gR_ : w_[72]? = some (ad 72, .inl (cy 3, 1024, .inl (upd (bf (mixF (selB (fun d => mdc sd se nc cs lv (revN n d)) (2 ^ n) f 0) rb i)) i (nI 0)))) := hN1
          clear hU1 hN1
          have gR_ : w_[72]? = some (ad 72, .inl (cy 3, 1024, .inl (bf (mixF (selB (fun d => mdc sd se nc cs lv (revN n d)) (2 ^ n) f 0) rb (i + 1))))) := by
            first
            | (rw [← mixF_upd (g := (selB (fun d => mdc sd se nc cs lv (revN n d)) (2 ^ n) f 0)) (b := true) (by show (selB (fun d => mdc sd se nc cs lv (revN n d)) (2 ^ n) f 0) i = true; rw [sel_0]; show (decide (i < 2 ^ n) && mdc sd se nc cs lv (revN n i)) = true; first | (rw [decide_eq_true c_40, c_55]; rfl) | (rw [decide_eq_false (by omega)]; rfl))]; exact gR_)
            | (rw [← mixF_upd (g := (selB (fun d => mdc sd se nc cs lv (revN n d)) (2 ^ n) f 0)) (b := false) (by show (selB (fun d => mdc sd se nc cs lv (revN n d)) (2 ^ n) f 0) i = false; rw [sel_0]; show (decide (i < 2 ^ n) && mdc sd se nc cs lv (revN n i)) = false; first | (rw [decide_eq_true c_40, c_55]; rfl) | (rw [decide_eq_false (by omega)]; rfl))]; exact gR_)
          refine lv_iinc (v := nI (i + 1)) (lv' := [(2, .int (nI (i + 1))), (0, .ref (ad 55)), (1, .int (nI x))]) S.1 S.2.1 dX12_best_64 hl (k := 2) rfl (nI_add _ 1) (by decide) rfl (fun ls hl => ?_)
          refine lv_goto (tgt := 23) S.1 S.2.1 dX12_best_67 (by decide) ?_
          exact ih23 _ (by omega) (i + 1) rfl (by omega) w_ hU gO_ gR_ H locs ls hW (lv_sub hl [1, 2, 0] rfl)
        · refine lv_aload_n S.1 S.2.1 dX12_best_43 rfl (lv_at hl 0 rfl) ?_
          refine lv_iload_n S.1 S.2.1 dX12_best_44 rfl (lv_at hl 2 rfl) ?_
          refine lv_aload_n S.1 S.2.1 dX12_best_45 rfl (lv_at hl 0 rfl) ?_
          refine j_get (ci := 11) (C := RX12) (T := TX12) (N := 17) (v := .int (nI n)) S (fun w h => List.mem_cons_of_mem _ (inG12 w h)) hK hW gO_ rfl 11 (by decide) (List.mem_cons_of_mem _ wfl_X12_64) (fun _ h9 => h9) rfl dX12_best_46 ?_
          refine j_callS (As := [.int (nI i), .int (nI n)]) (rest := [.ref (ad 55), .int (nI i), .ref (ad 72)]) S hK hA hW (c_X12_assignmentAt l D cy i n    (hn) (by omega)) (jgo wm_X12_137) yk_X12_assignmentAt ⟨⟨rfl, rfl⟩, by decide, by decide⟩ rfl hl.1 rfl (Nat.le_of_ble_eq_true rfl) dX12_best_49 ⟨Nat.le_of_ble_eq_true rfl, Nat.le_of_ble_eq_true rfl⟩ (fun v u H locs hp hW => ?_)
          obtain ⟨rfl, rfl⟩ := hp
          refine W.eq (g2 := F0 m 52 ls [.int (nI (revN n i)), .ref (ad 55), .int (nI i), .ref (ad 72)]) rfl ?_
          refine j_callV (k := 55) (ci := 11) (q := (RX12, TX12, 17)) (As := [.int (nI (revN n i))]) (rest := [.int (nI i), .ref (ad 72)]) S hK hA hW (c_X12_isModel l D cy ad 0 n nc sd se lv cs (revN n i) gO_ (hU.get gE (by decide)) (hU.get gP (by decide)) (hU.get gC0 (by decide)) (hU.get gC1 (by decide)) (hU.get gC2 (by decide)) (hU.get gC3 (by decide)) (hU.get gC4 (by decide))   (by omega) (hsd) (hse) (by omega) (hcs) (revN_lt10 hn)) (jgo wm_X12_102) yk_X12_isModel gO_ rfl rfl ⟨⟨rfl, rfl⟩, by decide, by decide⟩ rfl hl.1 rfl (Nat.le_of_ble_eq_true rfl) dX12_best_52 ⟨Nat.le_of_ble_eq_true rfl, Nat.le_of_ble_eq_true rfl⟩ (fun v u H locs hp hW => ?_)
          obtain ⟨rfl, rfl⟩ := hp
          refine W.eq (g2 := F0 m 55 ls [.int (bI (mdc sd se nc cs lv (revN n i))), .int (nI i), .ref (ad 72)]) rfl ?_
          refine jb_if_eq (tgt := 62) S dX12_best_55 (by decide) (fun c_55 => ?_) (fun c_55 => ?_)
          · refine lv_iconst (v := nI 0) S.1 S.2.1 dX12_best_62 (by decide) ?_
            refine j_zast S hK hW gR_ (vp_in_nI (by omega) (by omega)) (nI_clamp (by omega)) (rfl) dX12_best_63 (fun H locs w_ hU1 hN1 hW => ?_)
            have hU := hU.then hU1 (by decide)
            have gO_ := hU1.get gO_ (by decide)
            have gR_ : w_[72]? = some (ad 72, .inl (cy 3, 1024, .inl (upd (bf (mixF (selB (fun d => mdc sd se nc cs lv (revN n d)) (2 ^ n) f 0) rb i)) i (nI 0)))) := hN1
            clear hU1 hN1
            have gR_ : w_[72]? = some (ad 72, .inl (cy 3, 1024, .inl (bf (mixF (selB (fun d => mdc sd se nc cs lv (revN n d)) (2 ^ n) f 0) rb (i + 1))))) := by
              first
              | (rw [← mixF_upd (g := (selB (fun d => mdc sd se nc cs lv (revN n d)) (2 ^ n) f 0)) (b := true) (by show (selB (fun d => mdc sd se nc cs lv (revN n d)) (2 ^ n) f 0) i = true; rw [sel_0]; show (decide (i < 2 ^ n) && mdc sd se nc cs lv (revN n i)) = true; first | (rw [decide_eq_true c_40, c_55]; rfl) | (rw [decide_eq_false (by omega)]; rfl))]; exact gR_)
              | (rw [← mixF_upd (g := (selB (fun d => mdc sd se nc cs lv (revN n d)) (2 ^ n) f 0)) (b := false) (by show (selB (fun d => mdc sd se nc cs lv (revN n d)) (2 ^ n) f 0) i = false; rw [sel_0]; show (decide (i < 2 ^ n) && mdc sd se nc cs lv (revN n i)) = false; first | (rw [decide_eq_true c_40, c_55]; rfl) | (rw [decide_eq_false (by omega)]; rfl))]; exact gR_)
            refine lv_iinc (v := nI (i + 1)) (lv' := [(2, .int (nI (i + 1))), (0, .ref (ad 55)), (1, .int (nI x))]) S.1 S.2.1 dX12_best_64 hl (k := 2) rfl (nI_add _ 1) (by decide) rfl (fun ls hl => ?_)
            refine lv_goto (tgt := 23) S.1 S.2.1 dX12_best_67 (by decide) ?_
            exact ih23 _ (by omega) (i + 1) rfl (by omega) w_ hU gO_ gR_ H locs ls hW (lv_sub hl [1, 2, 0] rfl)
          · refine lv_iconst (v := nI 1) S.1 S.2.1 dX12_best_58 (by decide) ?_
            refine lv_goto (tgt := 63) S.1 S.2.1 dX12_best_59 (by decide) ?_
            refine j_zast S hK hW gR_ (vp_in_nI (by omega) (by omega)) (nI_clamp (by omega)) (rfl) dX12_best_63 (fun H locs w_ hU1 hN1 hW => ?_)
            have hU := hU.then hU1 (by decide)
            have gO_ := hU1.get gO_ (by decide)
            have gR_ : w_[72]? = some (ad 72, .inl (cy 3, 1024, .inl (upd (bf (mixF (selB (fun d => mdc sd se nc cs lv (revN n d)) (2 ^ n) f 0) rb i)) i (nI 1)))) := hN1
            clear hU1 hN1
            have gR_ : w_[72]? = some (ad 72, .inl (cy 3, 1024, .inl (bf (mixF (selB (fun d => mdc sd se nc cs lv (revN n d)) (2 ^ n) f 0) rb (i + 1))))) := by
              first
              | (rw [← mixF_upd (g := (selB (fun d => mdc sd se nc cs lv (revN n d)) (2 ^ n) f 0)) (b := true) (by show (selB (fun d => mdc sd se nc cs lv (revN n d)) (2 ^ n) f 0) i = true; rw [sel_0]; show (decide (i < 2 ^ n) && mdc sd se nc cs lv (revN n i)) = true; first | (rw [decide_eq_true c_40, c_55]; rfl) | (rw [decide_eq_false (by omega)]; rfl))]; exact gR_)
              | (rw [← mixF_upd (g := (selB (fun d => mdc sd se nc cs lv (revN n d)) (2 ^ n) f 0)) (b := false) (by show (selB (fun d => mdc sd se nc cs lv (revN n d)) (2 ^ n) f 0) i = false; rw [sel_0]; show (decide (i < 2 ^ n) && mdc sd se nc cs lv (revN n i)) = false; first | (rw [decide_eq_true c_40, c_55]; rfl) | (rw [decide_eq_false (by omega)]; rfl))]; exact gR_)
            refine lv_iinc (v := nI (i + 1)) (lv' := [(2, .int (nI (i + 1))), (0, .ref (ad 55)), (1, .int (nI x))]) S.1 S.2.1 dX12_best_64 hl (k := 2) rfl (nI_add _ 1) (by decide) rfl (fun ls hl => ?_)
            refine lv_goto (tgt := 23) S.1 S.2.1 dX12_best_67 (by decide) ?_
            exact ih23 _ (by omega) (i + 1) rfl (by omega) w_ hU gO_ gR_ H locs ls hW (lv_sub hl [1, 2, 0] rfl)
    exact L23 _ 0 rfl (Nat.zero_le _) w_ hU gO_ gR_ H locs ls hW (lv_sub hl [1, 2, 0] rfl)
  · exact absurd (vB_nI hx (by decide)) (by rw [c_12]; decide)
/-- best, so many there are not -/
theorem c_X12_best_b2 (l : Launch) (D : va_G) (cy : Nat → ClassId) {w : va_W} (ad : Nat → Nat) (th n nc : Nat) (sd se lv : Nat) (cs : Nat → CN) (wf wt : Nat → Nat) (rb : Nat → Bool) (x len : Nat) (f : Nat → Nat) (gO : w[55]? = some (ad 55, .inr (11, [.int (nI th), .ref (ad 56), .ref (ad 57), .ref (ad 58), .ref (ad 59), .ref (ad 60), .ref (ad 61), .ref (ad 62), .ref (ad 63), .ref (ad 64), .ref (ad 65), .int (nI n), .int (nI nc), .ref (ad 66), .ref (ad 71), .ref (ad 72), .ref (ad 73)]))) (gE : w[58]? = some (ad 58, .inl (cy 0, 10, .inl (evA n sd se)))) (gP : w[65]? = some (ad 65, .inl (cy 3, 20, .inl (bf (dpB nc lv))))) (gC0 : w[60]? = some (ad 60, .inl (cy 2, 20, .inl (nf (ckd cs))))) (gC1 : w[61]? = some (ad 61, .inl (cy 0, 20, .inl (nf (cst cs))))) (gC2 : w[62]? = some (ad 62, .inl (cy 0, 20, .inl (nf (cot cs))))) (gC3 : w[63]? = some (ad 63, .inl (cy 0, 20, .inl (nf (cle cs))))) (gC4 : w[64]? = some (ad 64, .inl (cy 0, 20, .inl (nf (cgr cs))))) (gF : w[56]? = some (ad 56, .inl (cy 0, 10, .inl (nf wf)))) (gT : w[57]? = some (ad 57, .inl (cy 0, 10, .inl (nf wt)))) (gR : w[72]? = some (ad 72, .inl (cy 3, 1024, .inl (bf rb)))) (hn : n ≤ 10) (hsd : sd < 2 ^ n) (hse : se &&& sd = se) (hnc : nc ≤ 20) (hcs : csI nc cs) (hwf : ∀ j, wf j ≤ 9) (hwt : ∀ j, wt j ≤ 9) (hx : x < 21) (hs : srtI (fun d => mdc sd se nc cs lv (revN n d)) (fun d => prodN wf wt (revN n d) n) (2 ^ n) len f) (hxl : len ≤ x) : jM l yX12_best (jws yX12_best cX12_best 5 (some .int)) (jR 4 0 0) D cy w [.ref (ad 55), .int (nI x)] 0 0 (fun vv uu => ∃ (rb1 : Nat → Bool), vv = some (.int (nI 0)) ∧ jU w uu [55, 72] ∧ uu[55]? = some (ad 55, .inr (11, [.int (nI 2), .ref (ad 56), .ref (ad 57), .ref (ad 58), .ref (ad 59), .ref (ad 60), .ref (ad 61), .ref (ad 62), .ref (ad 63), .ref (ad 64), .ref (ad 65), .int (nI n), .int (nI nc), .ref (ad 66), .ref (ad 71), .ref (ad 72), .ref (ad 73)])) ∧ uu[72]? = some (ad 72, .inl (cy 3, 1024, .inl (bf rb1)))) := by
  have hp2 := two_pow10 hn
  have h910 : 9 ^ n ≤ 9 ^ 10 := Nat.pow_le_pow_right (by decide) hn
  have hpb : ∀ d, prodN wf wt d n ≤ 3486784401 := fun d => Nat.le_trans (prodN_le hwf hwt d n) h910
  have hsl : sumI (mdc sd se nc cs lv) (fun d => prodN wf wt d n) (2 ^ n) ≤ 2 ^ n * 3486784401 := sumI_le (fun j _ => hpb j)
  have hsb : 2 ^ n * 3486784401 ≤ 1024 * 3486784401 := Nat.mul_le_mul_right _ hp2
  refine j_of (by decide) rfl (Nat.le_of_ble_eq_true rfl) ?_
  intro p e s m args below meth c A ls Q hQ S hr hK hA H locs hW hl
  have hl : lv_has ls 5 [(0, .ref (ad 55)), (1, .int (nI x))] := hl
  refine lv_aload_n S.1 S.2.1 dX12_best_0 rfl (lv_at hl 0 rfl) ?_
  refine lv_iconst (v := nI 0) S.1 S.2.1 dX12_best_1 (by decide) ?_
  refine j_put (ci := 11) (C := RX12) (T := TX12) (N := 17) (ty := .int) S (fun w h => List.mem_cons_of_mem _ (inG12 w h)) tyX12 tyX12_ok nmX12 hK hW gO rfl 0 (by decide) (List.mem_cons_of_mem _ wfl_X12_1) (fun _ h9 => h9) rfl (by decide +kernel) (rfl) (rfl) (Nat.le_of_ble_eq_true rfl) dX12_best_2 (fun H locs w_ hU1 hN1 hW => ?_)
  have hU : jU w w_ [55, 72] := jU.mono hU1 (by decide)
  have gR_ := hU1.get gR (by decide)
  have gO_ : w_[55]? = some (ad 55, .inr (11, [.int (nI 0), .ref (ad 56), .ref (ad 57), .ref (ad 58), .ref (ad 59), .ref (ad 60), .ref (ad 61), .ref (ad 62), .ref (ad 63), .ref (ad 64), .ref (ad 65), .int (nI n), .int (nI nc), .ref (ad 66), .ref (ad 71), .ref (ad 72), .ref (ad 73)])) := hN1
  clear hU1 hN1
  refine lv_iload_n S.1 S.2.1 dX12_best_5 rfl (lv_at hl 1 rfl) ?_
  refine lv_iconst (v := nI 0) S.1 S.2.1 dX12_best_6 (by decide) ?_
  refine lv_bipush (v := nI 20) S.1 S.2.1 dX12_best_7 (by decide) ?_
  refine j_callS (As := [.int (nI x), .int (nI 0), .int (nI 20)]) (rest := []) S hK hA hW (c_X12_isBetween l D cy (nI x) (nI 0) (nI 20)    ) (jgo wm_X12_67) yk_X12_isBetween ⟨⟨rfl, rfl⟩, by decide, by decide⟩ rfl hl.1 rfl (Nat.le_of_ble_eq_true rfl) dX12_best_9 ⟨Nat.le_of_ble_eq_true rfl, Nat.le_of_ble_eq_true rfl⟩ (fun v u H locs hp hW => ?_)
  obtain ⟨rfl, rfl⟩ := hp
  refine W.eq (g2 := F0 m 12 ls [.int (bI (decide ((nI 0) ≤ (nI x)) && decide ((nI x) ≤ (nI 20))))]) rfl ?_
  refine lv_topi_to (y := bI (vB (nI x) 21)) (by rw [btw_k (k := 20) (by decide)]) ?_
  refine jb_if_ne (tgt := 21) S dX12_best_12 (by decide) (fun c_12 => ?_) (fun c_12 => ?_)
  · refine lv_iconst (v := nI 0) S.1 S.2.1 dX12_best_21 (by decide) ?_
    refine lv_istore_n (lv' := [(2, .int (nI 0)), (0, .ref (ad 55)), (1, .int (nI x))]) S.1 S.2.1 dX12_best_22 rfl hl (by decide) rfl (fun ls hl => ?_)
    have gR_ : w_[72]? = some (ad 72, .inl (cy 3, 1024, .inl (bf (mixF (selB (fun d => mdc sd se nc cs lv (revN n d)) (2 ^ n) f 0) rb 0)))) := by
      rw [mixF_0]; exact gR_
    have L23 : ∀ (k : Nat) (i : Nat), 1024 - i = k → (i ≤ 1024) → ∀ (w_ : va_W), jU w w_ [55, 72] → (w_[55]? = some (ad 55, .inr (11, [.int (nI 0), .ref (ad 56), .ref (ad 57), .ref (ad 58), .ref (ad 59), .ref (ad 60), .ref (ad 61), .ref (ad 62), .ref (ad 63), .ref (ad 64), .ref (ad 65), .int (nI n), .int (nI nc), .ref (ad 66), .ref (ad 71), .ref (ad 72), .ref (ad 73)]))) → (w_[72]? = some (ad 72, .inl (cy 3, 1024, .inl (bf (mixF (selB (fun d => mdc sd se nc cs lv (revN n d)) (2 ^ n) f 0) rb i))))) → ∀ (H : Heap) (locs : List Loc) (ls : Array Slot), jW D A s.heap w_ H locs → lv_has ls 5 [(0, .ref (ad 55)), (1, .int (nI x)), (2, .int (nI i))] → W p l e (jR 4 0 0) s m args below meth c H locs 0 0 Q (F0 m 23 ls []) := by
      intro k
      induction k using Nat.strongRecOn with
      | ind k ih23 =>
      intro i hk hi w_ hU gO_ gR_ H locs ls hW hl
      subst hk
      refine lv_iload_n S.1 S.2.1 dX12_best_23 rfl (lv_at hl 2 rfl) ?_
      refine lv_sipush (v := nI 1024) S.1 S.2.1 dX12_best_24 (by decide) ?_
      refine jn_cmp_ge (tgt := 70) S (by omega) (by omega) dX12_best_27 (by decide) (fun c_27 => ?_) (fun c_27 => ?_)
      · have ei : i = 1024 := by omega
        subst ei
        refine lv_iconst (v := (-1)) S.1 S.2.1 dX12_best_70 (by decide) ?_
        refine lv_istore_n (lv' := [(2, .int (-1)), (0, .ref (ad 55)), (1, .int (nI x))]) S.1 S.2.1 dX12_best_71 rfl hl (by decide) rfl (fun ls hl => ?_)
        refine lv_iconst (v := nI 0) S.1 S.2.1 dX12_best_72 (by decide) ?_
        refine lv_istore_n (lv' := [(3, .int (nI 0)), (2, .int (-1)), (0, .ref (ad 55)), (1, .int (nI x))]) S.1 S.2.1 dX12_best_73 rfl hl (by decide) rfl (fun ls hl => ?_)
        have gR_ : w_[72]? = some (ad 72, .inl (cy 3, 1024, .inl (bf (rowM (selB (fun d => mdc sd se nc cs lv (revN n d)) (2 ^ n) f 0) rb)))) := by
          exact gR_
        have L74 : ∀ (k : Nat) (kq : Nat), x + 1 - kq = k → (kq ≤ len) → ∀ (w_ : va_W), jU w w_ [55, 72] → (w_[55]? = some (ad 55, .inr (11, [.int (nI 0), .ref (ad 56), .ref (ad 57), .ref (ad 58), .ref (ad 59), .ref (ad 60), .ref (ad 61), .ref (ad 62), .ref (ad 63), .ref (ad 64), .ref (ad 65), .int (nI n), .int (nI nc), .ref (ad 66), .ref (ad 71), .ref (ad 72), .ref (ad 73)]))) → (w_[72]? = some (ad 72, .inl (cy 3, 1024, .inl (bf (rowM (selB (fun d => mdc sd se nc cs lv (revN n d)) (2 ^ n) f kq) rb))))) → ∀ (H : Heap) (locs : List Loc) (ls : Array Slot), jW D A s.heap w_ H locs → lv_has ls 5 [(0, .ref (ad 55)), (1, .int (nI x)), (2, .int (lsI f kq)), (3, .int (nI kq))] → W p l e (jR 4 0 0) s m args below meth c H locs 0 0 Q (F0 m 74 ls []) := by
          intro k
          induction k using Nat.strongRecOn with
          | ind k ih74 =>
          intro kq hk hkq0 w_ hU gO_ gR_ H locs ls hW hl
          subst hk
          refine lv_iload_n S.1 S.2.1 dX12_best_74 rfl (lv_at hl 3 rfl) ?_
          refine lv_iload_n S.1 S.2.1 dX12_best_75 rfl (lv_at hl 1 rfl) ?_
          refine jn_cmp_gt (tgt := 168) S (by omega) (by omega) dX12_best_76 (by decide) (fun c_76 => ?_) (fun c_76 => ?_)
          · exact absurd c_76 (by omega)
          · refine lv_iconst (v := (-1)) S.1 S.2.1 dX12_best_79 (by decide) ?_
            refine lv_istore_n (lv' := [(2, .int (-1)), (0, .ref (ad 55)), (1, .int (nI x)), (3, .int (nI kq))]) S.1 S.2.1 dX12_best_80 rfl hl (by decide) rfl (fun ls hl => ?_)
            refine lv_iconst (v := nI 0) S.1 S.2.1 dX12_best_81 (by decide) ?_
            refine lv_istore (lv' := [(4, .int (nI 0)), (2, .int (-1)), (0, .ref (ad 55)), (1, .int (nI x)), (3, .int (nI kq))]) S.1 S.2.1 dX12_best_82 hl (by decide) rfl (fun ls hl => ?_)
            have L84 : ∀ (k : Nat) (q0 : Nat), 2 ^ n - q0 = k → (q0 ≤ 2 ^ n) → ∀ (w_ : va_W), jU w w_ [55, 72] → (w_[55]? = some (ad 55, .inr (11, [.int (nI 0), .ref (ad 56), .ref (ad 57), .ref (ad 58), .ref (ad 59), .ref (ad 60), .ref (ad 61), .ref (ad 62), .ref (ad 63), .ref (ad 64), .ref (ad 65), .int (nI n), .int (nI nc), .ref (ad 66), .ref (ad 71), .ref (ad 72), .ref (ad 73)]))) → (w_[72]? = some (ad 72, .inl (cy 3, 1024, .inl (bf (rowM (selB (fun d => mdc sd se nc cs lv (revN n d)) (2 ^ n) f kq) rb))))) → ∀ (H : Heap) (locs : List Loc) (ls : Array Slot), jW D A s.heap w_ H locs → lv_has ls 5 [(0, .ref (ad 55)), (1, .int (nI x)), (2, .int (oI (bstN (selB (fun d => mdc sd se nc cs lv (revN n d)) (2 ^ n) f kq) (fun d => prodN wf wt (revN n d) n) q0))), (3, .int (nI kq)), (4, .int (nI q0))] → W p l e (jR 4 0 0) s m args below meth c H locs 0 0 Q (F0 m 84 ls []) := by
              intro k
              induction k using Nat.strongRecOn with
              | ind k ih84 =>
              intro q0 hk hq0 w_ hU gO_ gR_ H locs ls hW hl
              subst hk
              refine lv_iload S.1 S.2.1 dX12_best_84 (lv_at hl 4 rfl) ?_
              refine lv_aload_n S.1 S.2.1 dX12_best_86 rfl (lv_at hl 0 rfl) ?_
              refine j_callV (k := 55) (ci := 11) (q := (RX12, TX12, 17)) (As := []) (rest := [.int (nI q0)]) S hK hA hW (c_X12_all l D cy ad 0 n nc gO_   (by omega)) (jgo wm_X12_98) yk_X12_all gO_ rfl rfl ⟨⟨rfl, rfl⟩, by decide, by decide⟩ rfl hl.1 rfl (Nat.le_of_ble_eq_true rfl) dX12_best_87 ⟨Nat.le_of_ble_eq_true rfl, Nat.le_of_ble_eq_true rfl⟩ (fun v u H locs hp hW => ?_)
              obtain ⟨rfl, rfl⟩ := hp
              refine W.eq (g2 := F0 m 90 ls [.int (nI (2 ^ n)), .int (nI q0)]) rfl ?_
              refine jn_cmp_ge (tgt := 145) S (by omega) (by omega) dX12_best_90 (by decide) (fun c_90 => ?_) (fun c_90 => ?_)
              · rcases Nat.lt_or_eq_of_le hkq0 with hkq | hkq
                · have eq0 : q0 = 2 ^ n := by omega
                  have hkl1 : kq < len := by omega
                  have hfk : f kq < 1024 := by have z := (hs.2.2.1 kq hkl1).1; omega
                  have hl : lv_has ls 5 [(0, .ref (ad 55)), (1, .int (nI x)), (2, .int (nI (f kq))), (3, .int (nI kq)), (4, .int (nI q0))] := by have z : bstN (selB (fun d => mdc sd se nc cs lv (revN n d)) (2 ^ n) f kq) (fun d => prodN wf wt (revN n d) n) q0 = some (f kq) := (by rw [eq0]; exact bst_sel hs hkl1); rw [z] at hl; exact hl
                  refine lv_iload_n S.1 S.2.1 dX12_best_145 rfl (lv_at hl 2 rfl) ?_
                  refine jn_if_ge (tgt := 155) S (by omega) dX12_best_146 (by decide) ?_
                  refine lv_aload_n S.1 S.2.1 dX12_best_155 rfl (lv_at hl 0 rfl) ?_
                  refine j_get (ci := 11) (C := RX12) (T := TX12) (N := 17) (v := .ref (ad 72)) S (fun w h => List.mem_cons_of_mem _ (inG12 w h)) hK hW gO_ rfl 15 (by decide) (List.mem_cons_of_mem _ wfl_X12_58) (fun _ h9 => h9) rfl dX12_best_156 ?_
                  refine lv_iload_n S.1 S.2.1 dX12_best_159 rfl (lv_at hl 2 rfl) ?_
                  refine lv_iconst (v := nI 0) S.1 S.2.1 dX12_best_160 (by decide) ?_
                  refine j_zast S hK hW gR_ (vp_in_nI (by omega) (by omega)) (nI_clamp (by omega)) (rfl) dX12_best_161 (fun H locs w_ hU1 hN1 hW => ?_)
                  have hU := hU.then hU1 (by decide)
                  have gO_ := hU1.get gO_ (by decide)
                  have gR_ : w_[72]? = some (ad 72, .inl (cy 3, 1024, .inl (upd (bf (rowM (selB (fun d => mdc sd se nc cs lv (revN n d)) (2 ^ n) f kq) rb)) (f kq) (nI 0)))) := hN1
                  clear hU1 hN1
                  have gR_ : w_[72]? = some (ad 72, .inl (cy 3, 1024, .inl (bf (rowM (selB (fun d => mdc sd se nc cs lv (revN n d)) (2 ^ n) f (kq + 1)) rb)))) := by
                    rw [← sel_up hfk]; exact gR_
                  refine lv_iinc (v := nI (kq + 1)) (lv' := [(3, .int (nI (kq + 1))), (0, .ref (ad 55)), (1, .int (nI x)), (2, .int (nI (f kq))), (4, .int (nI q0))]) S.1 S.2.1 dX12_best_162 hl (k := 3) rfl (nI_add _ 1) (by decide) rfl (fun ls hl => ?_)
                  refine lv_goto (tgt := 74) S.1 S.2.1 dX12_best_165 (by decide) ?_
                  exact ih74 _ (by omega) (kq + 1) rfl (by omega) w_ hU gO_ gR_ H locs ls hW (lv_sub hl [1, 2, 3, 0] rfl)
                · have eq0 : q0 = 2 ^ n := by omega
                  have hl : lv_has ls 5 [(0, .ref (ad 55)), (1, .int (nI x)), (2, .int (-1)), (3, .int (nI kq)), (4, .int (nI q0))] := by have z : bstN (selB (fun d => mdc sd se nc cs lv (revN n d)) (2 ^ n) f kq) (fun d => prodN wf wt (revN n d) n) q0 = none := (by rw [eq0, hkq]; exact bst_end hs); rw [z] at hl; exact hl
                  refine lv_iload_n S.1 S.2.1 dX12_best_145 rfl (lv_at hl 2 rfl) ?_
                  refine lv_if_ge (tgt := 155) S.1 S.2.1 dX12_best_146 (by decide) (fun c_146 => ?_) (fun c_146 => ?_)
                  · exact absurd c_146 (by decide)
                  · refine lv_aload_n S.1 S.2.1 dX12_best_149 rfl (lv_at hl 0 rfl) ?_
                    refine lv_iconst (v := nI 2) S.1 S.2.1 dX12_best_150 (by decide) ?_
                    refine j_callV (k := 55) (ci := 11) (q := (RX12, TX12, 17)) (As := [.int (nI 2)]) (rest := []) S hK hA hW (c_X12_fails l D cy ad 0 n nc 2 gO_   ) (jgo wm_X12_71) yk_X12_fails gO_ rfl rfl ⟨⟨rfl, rfl⟩, by decide, by decide⟩ rfl hl.1 rfl (Nat.le_of_ble_eq_true rfl) dX12_best_151 ⟨Nat.le_of_ble_eq_true rfl, Nat.le_of_ble_eq_true rfl⟩ (fun v w_ H locs hp hW => ?_)
                    obtain ⟨rfl, hU1, hN1⟩ := hp
                    have hU := hU.then hU1 (by decide)
                    have gR_ := hU1.get gR_ (by decide)
                    have gO_ : w_[55]? = some (ad 55, .inr (11, [.int (nI 2), .ref (ad 56), .ref (ad 57), .ref (ad 58), .ref (ad 59), .ref (ad 60), .ref (ad 61), .ref (ad 62), .ref (ad 63), .ref (ad 64), .ref (ad 65), .int (nI n), .int (nI nc), .ref (ad 66), .ref (ad 71), .ref (ad 72), .ref (ad 73)])) := hN1
                    clear hU1 hN1
                    refine W.eq (g2 := F0 m 154 ls [.int (nI 0)]) rfl ?_
                    subst hQ
                    exact j_iret (u := w_) S hr (rfl) hK hW dX12_best_154 ⟨by decide, by decide⟩ (⟨_, rfl, hU, gO_, gR_⟩)
              · refine lv_aload_n S.1 S.2.1 dX12_best_93 rfl (lv_at hl 0 rfl) ?_
                refine j_get (ci := 11) (C := RX12) (T := TX12) (N := 17) (v := .ref (ad 72)) S (fun w h => List.mem_cons_of_mem _ (inG12 w h)) hK hW gO_ rfl 15 (by decide) (List.mem_cons_of_mem _ wfl_X12_58) (fun _ h9 => h9) rfl dX12_best_94 ?_
                refine lv_iload S.1 S.2.1 dX12_best_97 (lv_at hl 4 rfl) ?_
                refine j_zald (x := bI ((selB (fun d => mdc sd se nc cs lv (revN n d)) (2 ^ n) f kq) q0)) S hK hW gR_ (vp_in_nI (by omega) (by omega)) (nI_clamp (by omega)) (congrArg bI (row_at (by omega))) dX12_best_99 ?_
                refine jb_if_eq (tgt := 139) S dX12_best_100 (by decide) (fun c_100 => ?_) (fun c_100 => ?_)
                · have e0 : oI (bstN (selB (fun d => mdc sd se nc cs lv (revN n d)) (2 ^ n) f kq) (fun d => prodN wf wt (revN n d) n) (q0 + 1)) = oI (bstN (selB (fun d => mdc sd se nc cs lv (revN n d)) (2 ^ n) f kq) (fun d => prodN wf wt (revN n d) n) q0) := congrArg oI (by first | exact bst_0 c_100 | exact bst_0 c_100)
                  have hl : lv_has ls 5 [(0, .ref (ad 55)), (1, .int (nI x)), (2, .int (oI (bstN (selB (fun d => mdc sd se nc cs lv (revN n d)) (2 ^ n) f kq) (fun d => prodN wf wt (revN n d) n) (q0 + 1)))), (3, .int (nI kq)), (4, .int (nI q0))] := by rw [e0]; exact hl
                  refine lv_iinc (v := nI (q0 + 1)) (lv' := [(4, .int (nI (q0 + 1))), (0, .ref (ad 55)), (1, .int (nI x)), (2, .int (oI (bstN (selB (fun d => mdc sd se nc cs lv (revN n d)) (2 ^ n) f kq) (fun d => prodN wf wt (revN n d) n) (q0 + 1)))), (3, .int (nI kq))]) S.1 S.2.1 dX12_best_139 hl (k := 4) rfl (nI_add _ 1) (by decide) rfl (fun ls hl => ?_)
                  refine lv_goto (tgt := 84) S.1 S.2.1 dX12_best_142 (by decide) ?_
                  exact ih84 _ (by omega) (q0 + 1) rfl (by omega) w_ hU gO_ gR_ H locs ls hW (lv_sub hl [1, 2, 3, 4, 0] rfl)
                · rcases hbs : bstN (selB (fun d => mdc sd se nc cs lv (revN n d)) (2 ^ n) f kq) (fun d => prodN wf wt (revN n d) n) q0 with _ | g0
                  · have hl : lv_has ls 5 [(0, .ref (ad 55)), (1, .int (nI x)), (2, .int (-1)), (3, .int (nI kq)), (4, .int (nI q0))] := by rw [hbs] at hl; exact hl
                    refine lv_iload_n S.1 S.2.1 dX12_best_103 rfl (lv_at hl 2 rfl) ?_
                    refine lv_if_lt (tgt := 136) S.1 S.2.1 dX12_best_104 (by decide) (fun c_104 => ?_) (fun c_104 => ?_)
                    · refine lv_iload S.1 S.2.1 dX12_best_136 (lv_at hl 4 rfl) ?_
                      refine lv_istore_n (lv' := [(2, .int (nI q0)), (0, .ref (ad 55)), (1, .int (nI x)), (3, .int (nI kq)), (4, .int (nI q0))]) S.1 S.2.1 dX12_best_138 rfl hl (by decide) rfl (fun ls hl => ?_)
                      have e0 : oI (bstN (selB (fun d => mdc sd se nc cs lv (revN n d)) (2 ^ n) f kq) (fun d => prodN wf wt (revN n d) n) (q0 + 1)) = oI (some q0) := congrArg oI (by first | exact bst_n hbs c_100 | exact bst_n hbs c_100)
                      have hl : lv_has ls 5 [(2, .int (oI (bstN (selB (fun d => mdc sd se nc cs lv (revN n d)) (2 ^ n) f kq) (fun d => prodN wf wt (revN n d) n) (q0 + 1)))), (0, .ref (ad 55)), (1, .int (nI x)), (3, .int (nI kq)), (4, .int (nI q0))] := by rw [e0]; exact hl
                      refine lv_iinc (v := nI (q0 + 1)) (lv' := [(4, .int (nI (q0 + 1))), (2, .int (oI (bstN (selB (fun d => mdc sd se nc cs lv (revN n d)) (2 ^ n) f kq) (fun d => prodN wf wt (revN n d) n) (q0 + 1)))), (0, .ref (ad 55)), (1, .int (nI x)), (3, .int (nI kq))]) S.1 S.2.1 dX12_best_139 hl (k := 4) rfl (nI_add _ 1) (by decide) rfl (fun ls hl => ?_)
                      refine lv_goto (tgt := 84) S.1 S.2.1 dX12_best_142 (by decide) ?_
                      exact ih84 _ (by omega) (q0 + 1) rfl (by omega) w_ hU gO_ gR_ H locs ls hW (lv_sub hl [2, 3, 1, 4, 0] rfl)
                    · exact absurd (by decide) c_104
                  · have hl : lv_has ls 5 [(0, .ref (ad 55)), (1, .int (nI x)), (2, .int (nI g0)), (3, .int (nI kq)), (4, .int (nI q0))] := by rw [hbs] at hl; exact hl
                    have hg0 := (bst_is _ _ hbs).1
                    refine lv_iload_n S.1 S.2.1 dX12_best_103 rfl (lv_at hl 2 rfl) ?_
                    refine jn_if_lt (tgt := 136) S (by omega) dX12_best_104 (by decide) ?_
                    refine lv_aload_n S.1 S.2.1 dX12_best_107 rfl (lv_at hl 0 rfl) ?_
                    refine lv_iload S.1 S.2.1 dX12_best_108 (lv_at hl 4 rfl) ?_
                    refine lv_aload_n S.1 S.2.1 dX12_best_110 rfl (lv_at hl 0 rfl) ?_
                    refine j_get (ci := 11) (C := RX12) (T := TX12) (N := 17) (v := .int (nI n)) S (fun w h => List.mem_cons_of_mem _ (inG12 w h)) hK hW gO_ rfl 11 (by decide) (List.mem_cons_of_mem _ wfl_X12_64) (fun _ h9 => h9) rfl dX12_best_111 ?_
                    refine j_callS (As := [.int (nI q0), .int (nI n)]) (rest := [.ref (ad 55)]) S hK hA hW (c_X12_assignmentAt l D cy q0 n    (hn) (by omega)) (jgo wm_X12_137) yk_X12_assignmentAt ⟨⟨rfl, rfl⟩, by decide, by decide⟩ rfl hl.1 rfl (Nat.le_of_ble_eq_true rfl) dX12_best_114 ⟨Nat.le_of_ble_eq_true rfl, Nat.le_of_ble_eq_true rfl⟩ (fun v u H locs hp hW => ?_)
                    obtain ⟨rfl, rfl⟩ := hp
                    refine W.eq (g2 := F0 m 117 ls [.int (nI (revN n q0)), .ref (ad 55)]) rfl ?_
                    refine j_callV (k := 55) (ci := 11) (q := (RX12, TX12, 17)) (As := [.int (nI (revN n q0))]) (rest := []) S hK hA hW (c_X12_weigh l D cy ad 0 n nc wf wt (revN n q0) gO_ (hU.get gF (by decide)) (hU.get gT (by decide))   (by omega) (Nat.lt_of_lt_of_le (revN_lt10 hn) hp2) (hwf) (hwt)) (jgo wm_X12_109) yk_X12_weigh gO_ rfl rfl ⟨⟨rfl, rfl⟩, by decide, by decide⟩ rfl hl.1 rfl (Nat.le_of_ble_eq_true rfl) dX12_best_117 ⟨Nat.le_of_ble_eq_true rfl, Nat.le_of_ble_eq_true rfl⟩ (fun v u H locs hp hW => ?_)
                    obtain ⟨rfl, rfl⟩ := hp
                    refine W.eq (g2 := F0 m 120 ls [.long (lN (prodN wf wt (revN n q0) n))]) rfl ?_
                    refine lv_aload_n S.1 S.2.1 dX12_best_120 rfl (lv_at hl 0 rfl) ?_
                    refine lv_iload_n S.1 S.2.1 dX12_best_121 rfl (lv_at hl 2 rfl) ?_
                    refine lv_aload_n S.1 S.2.1 dX12_best_122 rfl (lv_at hl 0 rfl) ?_
                    refine j_get (ci := 11) (C := RX12) (T := TX12) (N := 17) (v := .int (nI n)) S (fun w h => List.mem_cons_of_mem _ (inG12 w h)) hK hW gO_ rfl 11 (by decide) (List.mem_cons_of_mem _ wfl_X12_64) (fun _ h9 => h9) rfl dX12_best_123 ?_
                    refine j_callS (As := [.int (nI g0), .int (nI n)]) (rest := [.ref (ad 55), .long (lN (prodN wf wt (revN n q0) n))]) S hK hA hW (c_X12_assignmentAt l D cy g0 n    (hn) (by omega)) (jgo wm_X12_137) yk_X12_assignmentAt ⟨⟨rfl, rfl⟩, by decide, by decide⟩ rfl hl.1 rfl (Nat.le_of_ble_eq_true rfl) dX12_best_126 ⟨Nat.le_of_ble_eq_true rfl, Nat.le_of_ble_eq_true rfl⟩ (fun v u H locs hp hW => ?_)
                    obtain ⟨rfl, rfl⟩ := hp
                    refine W.eq (g2 := F0 m 129 ls [.int (nI (revN n g0)), .ref (ad 55), .long (lN (prodN wf wt (revN n q0) n))]) rfl ?_
                    refine j_callV (k := 55) (ci := 11) (q := (RX12, TX12, 17)) (As := [.int (nI (revN n g0))]) (rest := [.long (lN (prodN wf wt (revN n q0) n))]) S hK hA hW (c_X12_weigh l D cy ad 0 n nc wf wt (revN n g0) gO_ (hU.get gF (by decide)) (hU.get gT (by decide))   (by omega) (Nat.lt_of_lt_of_le (revN_lt10 hn) hp2) (hwf) (hwt)) (jgo wm_X12_109) yk_X12_weigh gO_ rfl rfl ⟨⟨rfl, rfl⟩, by decide, by decide⟩ rfl hl.1 rfl (Nat.le_of_ble_eq_true rfl) dX12_best_129 ⟨Nat.le_of_ble_eq_true rfl, Nat.le_of_ble_eq_true rfl⟩ (fun v u H locs hp hW => ?_)
                    obtain ⟨rfl, rfl⟩ := hp
                    refine W.eq (g2 := F0 m 132 ls [.long (lN (prodN wf wt (revN n g0) n)), .long (lN (prodN wf wt (revN n q0) n))]) rfl ?_
                    have hb1 := hpb (revN n q0)
                    have hb2 := hpb (revN n g0)
                    refine jnl_le (tgt := 139) S (by omega) (by omega) dX12_best_132 dX12_best_133 (by decide) (fun c_133 => ?_) (fun c_133 => ?_)
                    · have e0 : oI (bstN (selB (fun d => mdc sd se nc cs lv (revN n d)) (2 ^ n) f kq) (fun d => prodN wf wt (revN n d) n) (q0 + 1)) = oI (some g0) := congrArg oI (by first | exact bst_k hbs c_133 | exact bst_k hbs (Nat.not_lt.mpr c_133))
                      have hl : lv_has ls 5 [(0, .ref (ad 55)), (1, .int (nI x)), (2, .int (oI (bstN (selB (fun d => mdc sd se nc cs lv (revN n d)) (2 ^ n) f kq) (fun d => prodN wf wt (revN n d) n) (q0 + 1)))), (3, .int (nI kq)), (4, .int (nI q0))] := by rw [e0]; exact hl
                      refine lv_iinc (v := nI (q0 + 1)) (lv' := [(4, .int (nI (q0 + 1))), (0, .ref (ad 55)), (1, .int (nI x)), (2, .int (oI (bstN (selB (fun d => mdc sd se nc cs lv (revN n d)) (2 ^ n) f kq) (fun d => prodN wf wt (revN n d) n) (q0 + 1)))), (3, .int (nI kq))]) S.1 S.2.1 dX12_best_139 hl (k := 4) rfl (nI_add _ 1) (by decide) rfl (fun ls hl => ?_)
                      refine lv_goto (tgt := 84) S.1 S.2.1 dX12_best_142 (by decide) ?_
                      exact ih84 _ (by omega) (q0 + 1) rfl (by omega) w_ hU gO_ gR_ H locs ls hW (lv_sub hl [1, 2, 3, 4, 0] rfl)
                    · refine lv_iload S.1 S.2.1 dX12_best_136 (lv_at hl 4 rfl) ?_
                      refine lv_istore_n (lv' := [(2, .int (nI q0)), (0, .ref (ad 55)), (1, .int (nI x)), (3, .int (nI kq)), (4, .int (nI q0))]) S.1 S.2.1 dX12_best_138 rfl hl (by decide) rfl (fun ls hl => ?_)
                      have e0 : oI (bstN (selB (fun d => mdc sd se nc cs lv (revN n d)) (2 ^ n) f kq) (fun d => prodN wf wt (revN n d) n) (q0 + 1)) = oI (some q0) := congrArg oI (by first | exact bst_g hbs c_100 c_133 | exact bst_g hbs c_100 (Nat.not_le.mp c_133))
                      have hl : lv_has ls 5 [(2, .int (oI (bstN (selB (fun d => mdc sd se nc cs lv (revN n d)) (2 ^ n) f kq) (fun d => prodN wf wt (revN n d) n) (q0 + 1)))), (0, .ref (ad 55)), (1, .int (nI x)), (3, .int (nI kq)), (4, .int (nI q0))] := by rw [e0]; exact hl
                      refine lv_iinc (v := nI (q0 + 1)) (lv' := [(4, .int (nI (q0 + 1))), (2, .int (oI (bstN (selB (fun d => mdc sd se nc cs lv (revN n d)) (2 ^ n) f kq) (fun d => prodN wf wt (revN n d) n) (q0 + 1)))), (0, .ref (ad 55)), (1, .int (nI x)), (3, .int (nI kq))]) S.1 S.2.1 dX12_best_139 hl (k := 4) rfl (nI_add _ 1) (by decide) rfl (fun ls hl => ?_)
                      refine lv_goto (tgt := 84) S.1 S.2.1 dX12_best_142 (by decide) ?_
                      exact ih84 _ (by omega) (q0 + 1) rfl (by omega) w_ hU gO_ gR_ H locs ls hW (lv_sub hl [2, 3, 1, 4, 0] rfl)
            exact L84 _ 0 rfl (Nat.zero_le _) w_ hU gO_ gR_ H locs ls hW (lv_sub hl [2, 3, 1, 4, 0] rfl)
        exact L74 _ 0 rfl (Nat.zero_le _) w_ hU gO_ gR_ H locs ls hW (lv_sub hl [2, 3, 1, 0] rfl)
      · refine lv_aload_n S.1 S.2.1 dX12_best_30 rfl (lv_at hl 0 rfl) ?_
        refine j_get (ci := 11) (C := RX12) (T := TX12) (N := 17) (v := .ref (ad 72)) S (fun w h => List.mem_cons_of_mem _ (inG12 w h)) hK hW gO_ rfl 15 (by decide) (List.mem_cons_of_mem _ wfl_X12_58) (fun _ h9 => h9) rfl dX12_best_31 ?_
        refine lv_iload_n S.1 S.2.1 dX12_best_34 rfl (lv_at hl 2 rfl) ?_
        refine lv_iload_n S.1 S.2.1 dX12_best_35 rfl (lv_at hl 2 rfl) ?_
        refine lv_aload_n S.1 S.2.1 dX12_best_36 rfl (lv_at hl 0 rfl) ?_
        refine j_callV (k := 55) (ci := 11) (q := (RX12, TX12, 17)) (As := []) (rest := [.int (nI i), .int (nI i), .ref (ad 72)]) S hK hA hW (c_X12_all l D cy ad 0 n nc gO_   (by omega)) (jgo wm_X12_98) yk_X12_all gO_ rfl rfl ⟨⟨rfl, rfl⟩, by decide, by decide⟩ rfl hl.1 rfl (Nat.le_of_ble_eq_true rfl) dX12_best_37 ⟨Nat.le_of_ble_eq_true rfl, Nat.le_of_ble_eq_true rfl⟩ (fun v u H locs hp hW => ?_)
        obtain ⟨rfl, rfl⟩ := hp
        refine W.eq (g2 := F0 m 40 ls [.int (nI (2 ^ n)), .int (nI i), .int (nI i), .ref (ad 72)]) rfl ?_
        refine jn_cmp_ge (tgt := 62) S (by omega) (by omega) dX12_best_40 (by decide) (fun c_40 => ?_) (fun c_40 => ?_)
        · refine lv_iconst (v := nI 0) S.1 S.2.1 dX12_best_62 (by decide) ?_
          refine j_zast S hK hW gR_ (vp_in_nI (by omega) (by omega)) (nI_clamp (by omega)) (rfl) dX12_best_63 (fun H locs w_ hU1 hN1 hW => ?_)
          have hU := hU.then hU1 (by decide)
          have gO_ := hU1.get gO_ (by decide)
          have gR_ : w_[72]? = some (ad 72, .inl (cy 3, 1024, .inl (upd (bf (mixF (selB (fun d => mdc sd se nc cs lv (revN n d)) (2 ^ n) f 0) rb i)) i (nI 0)))) := hN1
          clear hU1 hN1
          have gR_ : w_[72]? = some (ad 72, .inl (cy 3, 1024, .inl (bf (mixF (selB (fun d => mdc sd se nc cs lv (revN n d)) (2 ^ n) f 0) rb (i + 1))))) := by
            first
            | (rw [← mixF_upd (g := (selB (fun d => mdc sd se nc cs lv (revN n d)) (2 ^ n) f 0)) (b := true) (by show (selB (fun d => mdc sd se nc cs lv (revN n d)) (2 ^ n) f 0) i = true; rw [sel_0]; show (decide (i < 2 ^ n) && mdc sd se nc cs lv (revN n i)) = true; first | (rw [decide_eq_true c_40, c_55]; rfl) | (rw [decide_eq_false (by omega)]; rfl))]; exact gR_)
            | (rw [← mixF_upd (g := (selB (fun d => mdc sd se nc cs lv (revN n d)) (2 ^ n) f 0)) (b := false) (by show (selB (fun d => mdc sd se nc cs lv (revN n d)) (2 ^ n) f 0) i = false; rw [sel_0]; show (decide (i < 2 ^ n) && mdc sd se nc cs lv (revN n i)) = false; first | (rw [decide_eq_true c_40, c_55]; rfl) | (rw [decide_eq_false (by omega)]; rfl))]; exact gR_)
          refine lv_iinc (v := nI (i + 1)) (lv' := [(2, .int (nI (i + 1))), (0, .ref (ad 55)), (1, .int (nI x))]) S.1 S.2.1 dX12_best_64 hl (k := 2) rfl (nI_add _ 1) (by decide) rfl (fun ls hl => ?_)
          refine lv_goto (tgt := 23) S.1 S.2.1 dX12_best_67 (by decide) ?_
          exact ih23 _ (by omega) (i + 1) rfl (by omega) w_ hU gO_ gR_ H locs ls hW (lv_sub hl [1, 2, 0] rfl)
        · refine lv_aload_n S.1 S.2.1 dX12_best_43 rfl (lv_at hl 0 rfl) ?_
          refine lv_iload_n S.1 S.2.1 dX12_best_44 rfl (lv_at hl 2 rfl) ?_
          refine lv_aload_n S.1 S.2.1 dX12_best_45 rfl (lv_at hl 0 rfl) ?_
          refine j_get (ci := 11) (C := RX12) (T := TX12) (N := 17) (v := .int (nI n)) S (fun w h => List.mem_cons_of_mem _ (inG12 w h)) hK hW gO_ rfl 11 (by decide) (List.mem_cons_of_mem _ wfl_X12_64) (fun _ h9 => h9) rfl dX12_best_46 ?_
          refine j_callS (As := [.int (nI i), .int (nI n)]) (rest := [.ref (ad 55), .int (nI i), .ref (ad 72)]) S hK hA hW (c_X12_assignmentAt l D cy i n    (hn) (by omega)) (jgo wm_X12_137) yk_X12_assignmentAt ⟨⟨rfl, rfl⟩, by decide, by decide⟩ rfl hl.1 rfl (Nat.le_of_ble_eq_true rfl) dX12_best_49 ⟨Nat.le_of_ble_eq_true rfl, Nat.le_of_ble_eq_true rfl⟩ (fun v u H locs hp hW => ?_)
          obtain ⟨rfl, rfl⟩ := hp
          refine W.eq (g2 := F0 m 52 ls [.int (nI (revN n i)), .ref (ad 55), .int (nI i), .ref (ad 72)]) rfl ?_
          refine j_callV (k := 55) (ci := 11) (q := (RX12, TX12, 17)) (As := [.int (nI (revN n i))]) (rest := [.int (nI i), .ref (ad 72)]) S hK hA hW (c_X12_isModel l D cy ad 0 n nc sd se lv cs (revN n i) gO_ (hU.get gE (by decide)) (hU.get gP (by decide)) (hU.get gC0 (by decide)) (hU.get gC1 (by decide)) (hU.get gC2 (by decide)) (hU.get gC3 (by decide)) (hU.get gC4 (by decide))   (by omega) (hsd) (hse) (by omega) (hcs) (revN_lt10 hn)) (jgo wm_X12_102) yk_X12_isModel gO_ rfl rfl ⟨⟨rfl, rfl⟩, by decide, by decide⟩ rfl hl.1 rfl (Nat.le_of_ble_eq_true rfl) dX12_best_52 ⟨Nat.le_of_ble_eq_true rfl, Nat.le_of_ble_eq_true rfl⟩ (fun v u H locs hp hW => ?_)
          obtain ⟨rfl, rfl⟩ := hp
          refine W.eq (g2 := F0 m 55 ls [.int (bI (mdc sd se nc cs lv (revN n i))), .int (nI i), .ref (ad 72)]) rfl ?_
          refine jb_if_eq (tgt := 62) S dX12_best_55 (by decide) (fun c_55 => ?_) (fun c_55 => ?_)
          · refine lv_iconst (v := nI 0) S.1 S.2.1 dX12_best_62 (by decide) ?_
            refine j_zast S hK hW gR_ (vp_in_nI (by omega) (by omega)) (nI_clamp (by omega)) (rfl) dX12_best_63 (fun H locs w_ hU1 hN1 hW => ?_)
            have hU := hU.then hU1 (by decide)
            have gO_ := hU1.get gO_ (by decide)
            have gR_ : w_[72]? = some (ad 72, .inl (cy 3, 1024, .inl (upd (bf (mixF (selB (fun d => mdc sd se nc cs lv (revN n d)) (2 ^ n) f 0) rb i)) i (nI 0)))) := hN1
            clear hU1 hN1
            have gR_ : w_[72]? = some (ad 72, .inl (cy 3, 1024, .inl (bf (mixF (selB (fun d => mdc sd se nc cs lv (revN n d)) (2 ^ n) f 0) rb (i + 1))))) := by
              first
              | (rw [← mixF_upd (g := (selB (fun d => mdc sd se nc cs lv (revN n d)) (2 ^ n) f 0)) (b := true) (by show (selB (fun d => mdc sd se nc cs lv (revN n d)) (2 ^ n) f 0) i = true; rw [sel_0]; show (decide (i < 2 ^ n) && mdc sd se nc cs lv (revN n i)) = true; first | (rw [decide_eq_true c_40, c_55]; rfl) | (rw [decide_eq_false (by omega)]; rfl))]; exact gR_)
              | (rw [← mixF_upd (g := (selB (fun d => mdc sd se nc cs lv (revN n d)) (2 ^ n) f 0)) (b := false) (by show (selB (fun d => mdc sd se nc cs lv (revN n d)) (2 ^ n) f 0) i = false; rw [sel_0]; show (decide (i < 2 ^ n) && mdc sd se nc cs lv (revN n i)) = false; first | (rw [decide_eq_true c_40, c_55]; rfl) | (rw [decide_eq_false (by omega)]; rfl))]; exact gR_)
            refine lv_iinc (v := nI (i + 1)) (lv' := [(2, .int (nI (i + 1))), (0, .ref (ad 55)), (1, .int (nI x))]) S.1 S.2.1 dX12_best_64 hl (k := 2) rfl (nI_add _ 1) (by decide) rfl (fun ls hl => ?_)
            refine lv_goto (tgt := 23) S.1 S.2.1 dX12_best_67 (by decide) ?_
            exact ih23 _ (by omega) (i + 1) rfl (by omega) w_ hU gO_ gR_ H locs ls hW (lv_sub hl [1, 2, 0] rfl)
          · refine lv_iconst (v := nI 1) S.1 S.2.1 dX12_best_58 (by decide) ?_
            refine lv_goto (tgt := 63) S.1 S.2.1 dX12_best_59 (by decide) ?_
            refine j_zast S hK hW gR_ (vp_in_nI (by omega) (by omega)) (nI_clamp (by omega)) (rfl) dX12_best_63 (fun H locs w_ hU1 hN1 hW => ?_)
            have hU := hU.then hU1 (by decide)
            have gO_ := hU1.get gO_ (by decide)
            have gR_ : w_[72]? = some (ad 72, .inl (cy 3, 1024, .inl (upd (bf (mixF (selB (fun d => mdc sd se nc cs lv (revN n d)) (2 ^ n) f 0) rb i)) i (nI 1)))) := hN1
            clear hU1 hN1
            have gR_ : w_[72]? = some (ad 72, .inl (cy 3, 1024, .inl (bf (mixF (selB (fun d => mdc sd se nc cs lv (revN n d)) (2 ^ n) f 0) rb (i + 1))))) := by
              first
              | (rw [← mixF_upd (g := (selB (fun d => mdc sd se nc cs lv (revN n d)) (2 ^ n) f 0)) (b := true) (by show (selB (fun d => mdc sd se nc cs lv (revN n d)) (2 ^ n) f 0) i = true; rw [sel_0]; show (decide (i < 2 ^ n) && mdc sd se nc cs lv (revN n i)) = true; first | (rw [decide_eq_true c_40, c_55]; rfl) | (rw [decide_eq_false (by omega)]; rfl))]; exact gR_)
              | (rw [← mixF_upd (g := (selB (fun d => mdc sd se nc cs lv (revN n d)) (2 ^ n) f 0)) (b := false) (by show (selB (fun d => mdc sd se nc cs lv (revN n d)) (2 ^ n) f 0) i = false; rw [sel_0]; show (decide (i < 2 ^ n) && mdc sd se nc cs lv (revN n i)) = false; first | (rw [decide_eq_true c_40, c_55]; rfl) | (rw [decide_eq_false (by omega)]; rfl))]; exact gR_)
            refine lv_iinc (v := nI (i + 1)) (lv' := [(2, .int (nI (i + 1))), (0, .ref (ad 55)), (1, .int (nI x))]) S.1 S.2.1 dX12_best_64 hl (k := 2) rfl (nI_add _ 1) (by decide) rfl (fun ls hl => ?_)
            refine lv_goto (tgt := 23) S.1 S.2.1 dX12_best_67 (by decide) ?_
            exact ih23 _ (by omega) (i + 1) rfl (by omega) w_ hU gO_ gR_ H locs ls hW (lv_sub hl [1, 2, 0] rfl)
    exact L23 _ 0 rfl (Nat.zero_le _) w_ hU gO_ gR_ H locs ls hW (lv_sub hl [1, 2, 0] rfl)
  · exact absurd (vB_nI hx (by decide)) (by rw [c_12]; decide)
/-- best, no such rank -/
theorem c_X12_best_b1 (l : Launch) (D : va_G) (cy : Nat → ClassId) {w : va_W} (ad : Nat → Nat) (th n nc : Nat) (v : Int32) (gO : w[55]? = some (ad 55, .inr (11, [.int (nI th), .ref (ad 56), .ref (ad 57), .ref (ad 58), .ref (ad 59), .ref (ad 60), .ref (ad 61), .ref (ad 62), .ref (ad 63), .ref (ad 64), .ref (ad 65), .int (nI n), .int (nI nc), .ref (ad 66), .ref (ad 71), .ref (ad 72), .ref (ad 73)]))) (hv : vB v 21 = false) : jM l yX12_best (jws yX12_best cX12_best 5 (some .int)) (jR 4 0 0) D cy w [.ref (ad 55), .int v] 0 0 (fun vv uu => vv = some (.int (nI 0)) ∧ jU w uu [55] ∧ uu[55]? = some (ad 55, .inr (11, [.int (nI 1), .ref (ad 56), .ref (ad 57), .ref (ad 58), .ref (ad 59), .ref (ad 60), .ref (ad 61), .ref (ad 62), .ref (ad 63), .ref (ad 64), .ref (ad 65), .int (nI n), .int (nI nc), .ref (ad 66), .ref (ad 71), .ref (ad 72), .ref (ad 73)]))) := by
  refine j_of (by decide) rfl (Nat.le_of_ble_eq_true rfl) ?_
  intro p e s m args below meth c A ls Q hQ S hr hK hA H locs hW hl
  have hl : lv_has ls 5 [(0, .ref (ad 55)), (1, .int v)] := hl
  refine lv_aload_n S.1 S.2.1 dX12_best_0 rfl (lv_at hl 0 rfl) ?_
  refine lv_iconst (v := nI 0) S.1 S.2.1 dX12_best_1 (by decide) ?_
  refine j_put (ci := 11) (C := RX12) (T := TX12) (N := 17) (ty := .int) S (fun w h => List.mem_cons_of_mem _ (inG12 w h)) tyX12 tyX12_ok nmX12 hK hW gO rfl 0 (by decide) (List.mem_cons_of_mem _ wfl_X12_1) (fun _ h9 => h9) rfl (by decide +kernel) (rfl) (rfl) (Nat.le_of_ble_eq_true rfl) dX12_best_2 (fun H locs w_ hU1 hN1 hW => ?_)
  have hU : jU w w_ [55] := jU.mono hU1 (by decide)
  have gO_ : w_[55]? = some (ad 55, .inr (11, [.int (nI 0), .ref (ad 56), .ref (ad 57), .ref (ad 58), .ref (ad 59), .ref (ad 60), .ref (ad 61), .ref (ad 62), .ref (ad 63), .ref (ad 64), .ref (ad 65), .int (nI n), .int (nI nc), .ref (ad 66), .ref (ad 71), .ref (ad 72), .ref (ad 73)])) := hN1
  clear hU1 hN1
  refine lv_iload_n S.1 S.2.1 dX12_best_5 rfl (lv_at hl 1 rfl) ?_
  refine lv_iconst (v := nI 0) S.1 S.2.1 dX12_best_6 (by decide) ?_
  refine lv_bipush (v := nI 20) S.1 S.2.1 dX12_best_7 (by decide) ?_
  refine j_callS (As := [.int v, .int (nI 0), .int (nI 20)]) (rest := []) S hK hA hW (c_X12_isBetween l D cy v (nI 0) (nI 20)    ) (jgo wm_X12_67) yk_X12_isBetween ⟨⟨rfl, rfl⟩, by decide, by decide⟩ rfl hl.1 rfl (Nat.le_of_ble_eq_true rfl) dX12_best_9 ⟨Nat.le_of_ble_eq_true rfl, Nat.le_of_ble_eq_true rfl⟩ (fun v u H locs hp hW => ?_)
  obtain ⟨rfl, rfl⟩ := hp
  refine W.eq (g2 := F0 m 12 ls [.int (bI (decide ((nI 0) ≤ v) && decide (v ≤ (nI 20))))]) rfl ?_
  refine lv_topi_to (y := bI (vB v 21)) (by rw [btw_k (k := 20) (by decide)]) ?_
  refine jb_if_ne (tgt := 21) S dX12_best_12 (by decide) (fun c_12 => ?_) (fun c_12 => ?_)
  · exact absurd c_12 (by rw [hv]; decide)
  · refine lv_aload_n S.1 S.2.1 dX12_best_15 rfl (lv_at hl 0 rfl) ?_
    refine lv_iconst (v := nI 1) S.1 S.2.1 dX12_best_16 (by decide) ?_
    refine j_callV (k := 55) (ci := 11) (q := (RX12, TX12, 17)) (As := [.int (nI 1)]) (rest := []) S hK hA hW (c_X12_fails l D cy ad 0 n nc 1 gO_   ) (jgo wm_X12_71) yk_X12_fails gO_ rfl rfl ⟨⟨rfl, rfl⟩, by decide, by decide⟩ rfl hl.1 rfl (Nat.le_of_ble_eq_true rfl) dX12_best_17 ⟨Nat.le_of_ble_eq_true rfl, Nat.le_of_ble_eq_true rfl⟩ (fun v w_ H locs hp hW => ?_)
    obtain ⟨rfl, hU1, hN1⟩ := hp
    have hU := hU.then hU1 (by decide)
    have gO_ : w_[55]? = some (ad 55, .inr (11, [.int (nI 1), .ref (ad 56), .ref (ad 57), .ref (ad 58), .ref (ad 59), .ref (ad 60), .ref (ad 61), .ref (ad 62), .ref (ad 63), .ref (ad 64), .ref (ad 65), .int (nI n), .int (nI nc), .ref (ad 66), .ref (ad 71), .ref (ad 72), .ref (ad 73)])) := hN1
    clear hU1 hN1
    refine W.eq (g2 := F0 m 20 ls [.int (nI 0)]) rfl ?_
    subst hQ
    exact j_iret (u := w_) S hr (rfl) hK hW dX12_best_20 ⟨by decide, by decide⟩ (⟨rfl, hU, gO_⟩)
