/-! THE LAW: pure facts between the class's answers and the reference's, the invariants behind each call -/
theorem mdl_lo {n sd se nc lv a : Nat} {cs : Nat → CN} (h : a < 2 ^ n) : mdl n sd se nc cs lv a = mdc sd se nc cs lv a := by unfold mdl; rw [decide_eq_true h]; rfl
theorem anyB_congr {g h : Nat → Bool} {n : Nat} (e : ∀ a, a < n → g a = h a) : anyB g n = anyB h n := by
  induction n with
  | zero => rfl
  | succ n ih => show (anyB g n || g n) = (anyB h n || h n); rw [ih (fun a ha => e a (by omega)), e n (by omega)]
theorem mdl_n {n sd se nc lv : Nat} {cs : Nat → CN} (hn : n ≤ 10) : cnt (mdl n sd se nc cs lv) 1024 = cnt (mdc sd se nc cs lv) (2 ^ n) := (cnt_ext (two_pow10 hn) (fun c hc => (mdl_lo hc).symm) (fun c h _ => mdl_hi h)).symm
theorem sum_pr {n sd se nc lv : Nat} {cs : Nat → CN} {wf wt pr : Nat → Nat} (h : ∀ a, a < 2 ^ n → pr a = prodN wf wt a n) : sumI (mdl n sd se nc cs lv) pr (2 ^ n) = sumI (mdc sd se nc cs lv) (fun d => prodN wf wt d n) (2 ^ n) := sumI_congr (fun a ha => ⟨mdl_lo ha, fun _ => h a ha⟩)
theorem sum_prF {n sd se nc lv : Nat} {cs : Nat → CN} {wf wt pr : Nat → Nat} {F : Nat → Bool} (h : ∀ a, a < 2 ^ n → pr a = prodN wf wt a n) : sumI (fun d => F d && mdl n sd se nc cs lv d) pr (2 ^ n) = sumI (fun d => F d && mdc sd se nc cs lv d) (fun d => prodN wf wt d n) (2 ^ n) := sumI_congr (fun a ha => ⟨by rw [mdl_lo ha], fun _ => h a ha⟩)
theorem rev_M {n sd se nc lv : Nat} {cs : Nat → CN} : (fun d => mdl n sd se nc cs lv (revN n d)) = fun d => mdc sd se nc cs lv (revN n d) := funext fun d => mdl_lo (revN_lt n d)
theorem rev_W {n : Nat} {wf wt pr : Nat → Nat} (h : ∀ a, a < 2 ^ n → pr a = prodN wf wt a n) : (fun d => pr (revN n d)) = fun d => prodN wf wt (revN n d) n := funext fun d => h _ (revN_lt n d)
theorem sum_mean {n sd se nc lv : Nat} {cs : Nat → CN} {wf wt pr : Nat → Nat} (hn : n ≤ 10) (h : ∀ a, a < 2 ^ n → pr a = prodN wf wt a n) : sumI (mdl n sd se nc cs lv) (fun d => pr d * cnt d.testBit 32) (2 ^ n) = sumI (mdc sd se nc cs lv) (fun d => prodN wf wt d n * cnt d.testBit 10) (2 ^ n) := sumI_congr (fun a ha => ⟨mdl_lo ha, fun _ => by
  show pr a * _ = _
  rw [h a ha, cnt_10 (Nat.lt_of_lt_of_le ha (two_pow10 hn))]⟩)
theorem prj_ref {n sd se nc lv y : Nat} {cs : Nat → CN} : cnt (prjS (mdl n sd se nc cs lv) y (2 ^ n)) 1024 = cnt (prjS (mdc sd se nc cs lv) y (2 ^ n)) 1024 := cnt_congr (fun b _ => anyB_congr (fun a ha => by rw [mdl_lo ha]))
theorem imp_ref {n sd se nc lv x : Nat} {cs : Nat → CN} : impC (anyB (fun d => mdl n sd se nc cs lv d && !d.testBit x) (2 ^ n)) (anyB (fun d => mdl n sd se nc cs lv d && d.testBit x) (2 ^ n)) = impC (anyB (fun d => mdc sd se nc cs lv d && !d.testBit x) (2 ^ n)) (anyB (fun d => mdc sd se nc cs lv d && d.testBit x) (2 ^ n)) := congr (congrArg impC (anyB_congr (fun a ha => by rw [mdl_lo ha]))) (anyB_congr (fun a ha => by rw [mdl_lo ha]))
theorem drop_ref {lv nc j : Nat} (hl : lv < 2 ^ nc) (hnc : nc ≤ 20) : cnt (nAnd lv (2 ^ j)).testBit 32 = cnt (nAnd lv (2 ^ j)).testBit nc := (cnt_ext (by omega) (fun c _ => rfl) (fun c h _ => lo_bit (nAnd_lt hl) h)).symm
theorem srt_ex (M : Nat → Bool) (W : Nat → Nat) : ∀ t, ∃ len f, srtI M W t len f := by
  intro t
  induction t with
  | zero => exact ⟨0, fun _ => 0, srtI_0 _ _ _⟩
  | succ t ih =>
    obtain ⟨len, f, h⟩ := ih
    cases hM : M t
    · exact ⟨len, f, srtI_f h hM⟩
    · have key : ∀ k, k ≤ len → ∃ r, r ≤ k ∧ (∀ j, r ≤ j → j < k → W (f j) < W t) ∧ ∀ j, j < r → W t ≤ W (f j) := by
        intro k
        induction k with
        | zero => intro _; exact ⟨0, by omega, fun j _ h => absurd h (by omega), fun j h => absurd h (by omega)⟩
        | succ k ik =>
          intro hk
          rcases Nat.lt_or_ge (W (f k)) (W t) with q | q
          · obtain ⟨r, h1, h2, h3⟩ := ik (by omega)
            exact ⟨r, by omega, fun j hj hjk => by
              rcases Nat.lt_or_ge j k with z | z
              · exact h2 j hj z
              · rw [show j = k by omega]; exact q, h3⟩
          · exact ⟨k + 1, by omega, fun j hj hjk => absurd hjk (by omega), fun j hj => Nat.le_trans q (srtI_sorted h (by omega) (by omega))⟩
      obtain ⟨r, h1, h2, h3⟩ := key len (Nat.le_refl _)
      exact ⟨len + 1, insF r len t f, srtI_t h hM h1 (fun j hj hl => h2 j hj hl) h3⟩
theorem nodes_x {n : Nat} {od : Nat → Nat} {X Y : Nat → Bool} (hod : ∀ j, od j < 10) (h : ∀ a, a < 1024 → X a = Y a) : sumN (nodesB (fun d => X (layP n od d n)) n) n = sumN (nodesB (fun d => Y (layP n od d n)) n) n := sumN_congr (fun j hj => nodesB_congr hj (fun i _ => h _ (layP_lt hod)))
theorem same_ref {X Y X1 Y1 : Nat → Bool} (h1 : ∀ a, a < 1024 → X1 a = X a) (h2 : ∀ a, a < 1024 → Y1 a = Y a) : allB (fun z => X1 z == Y1 z) 1024 = (allB (fun a => !X a || Y a) 1024 && allB (fun a => !Y a || X a) 1024) := by
  apply Bool.eq_iff_iff.mpr
  rw [Bool.and_eq_true, allB_iff, allB_iff, allB_iff]
  constructor
  · intro h
    refine ⟨fun a ha => ?_, fun a ha => ?_⟩ <;>
    · have := h a ha
      rw [h1 a ha, h2 a ha] at this
      revert this; cases X a <;> cases Y a <;> decide
  · rintro ⟨ha, hb⟩ a hl
    have p := ha a hl
    have q := hb a hl
    rw [h1 a hl, h2 a hl]
    revert p q; cases X a <;> cases Y a <;> decide
theorem within_ref {X Y X1 Y1 : Nat → Bool} (h1 : ∀ a, a < 1024 → X1 a = X a) (h2 : ∀ a, a < 1024 → Y1 a = Y a) : allB (fun z => !X1 z || Y1 z) 1024 = allB (fun a => !X a || Y a) 1024 := allB_congr (fun a ha => by rw [h1 a ha, h2 a ha])
theorem i2c_nat (x : Int32) : ∃ h, h < 65536 ∧ (x.toUInt32 % 65536).toInt32 = nI h := by
  refine ⟨x.toUInt32.toNat % 65536, Nat.mod_lt _ (by decide), ?_⟩
  apply Int32.toBitVec_inj.1
  apply BitVec.eq_of_toNat_eq
  show (x.toUInt32 % 65536).toNat = (BitVec.ofNat 32 _).toNat
  rw [UInt32.toNat_mod, BitVec.toNat_ofNat]
  show x.toUInt32.toNat % 65536 = x.toUInt32.toNat % 65536 % 4294967296
  omega
theorem or_z {a b : Nat} {y o : Int32} (hy : y = nI a) (ho : o = nI b) (h : a ||| b = 0) : y ||| o = 0 := by
  obtain ⟨h1, h2⟩ := or_0.mp h
  subst h1; subst h2; subst hy; subst ho; rfl
theorem CI.wb {ad : Nat → Nat} {cy : Nat → ClassId} {w : va_W} {n : Nat} {wf wt od : Nat → Nat} {sd se nc lv : Nat} {cs : Nat → CN} {kv : Nat → Int32} {kx : Nat → Nat → Bool} (h : CI ad cy w n wf wt od sd se nc lv cs kv kx) : (∀ j, wf j ≤ 9) ∧ (∀ j, wt j ≤ 9) := by
  obtain ⟨-, ⟨pr, -, -, -, -, -, -, h1, h2, -⟩, -⟩ := h
  exact ⟨h1, h2⟩
section PIS
variable {n : Nat} {wf wt od : Nat → Nat} {sd se nc lv : Nat} {cs : Nat → CN} {kv : Nat → Int32} {kx : Nat → Nat → Bool}
theorem PI.addVariable {wf1 wt1 : Nat → Nat} (h : PI n wf wt od sd se nc lv cs kv kx) (hn : n < 10) : PI (n + 1) wf1 wt1 (upB od n n) sd se nc lv cs kv kx := by
  obtain ⟨h1, h2, h3, h4, h5, h6, h7, h8, h9, h10⟩ := h
  refine ⟨by omega, by rw [Nat.pow_succ]; omega, h3, h4, h5, h6, h7, fun j => ?_, fun j hj => ?_, fun i j hi hj e => ?_⟩
  · unfold upB; split
    · exact hn
    · exact h8 j
  · unfold upB; split
    · omega
    · have := h9 j (by omega); omega
  · unfold upB at e
    by_cases a : i = n
    · by_cases b : j = n
      · omega
      · rw [if_pos a, if_neg b] at e; have := h9 j (by omega); omega
    · by_cases b : j = n
      · rw [if_neg a, if_pos b] at e; have := h9 i (by omega); omega
      · rw [if_neg a, if_neg b] at e; exact h10 i j (by omega) (by omega) e
theorem PI.more {cn : CN} (h : PI n wf wt od sd se nc lv cs kv kx) (hnc : nc < 20) (hok : okC cn) (h0 : cn.1 ≠ 111 → cn.2.2.1 = 0) : PI n wf wt od sd se (nc + 1) (lv ||| 2 ^ nc) (upB cs nc cn) kv kx := by
  obtain ⟨h1, h2, h3, h4, h5, h6, h7, h8, h9, h10⟩ := h
  refine ⟨h1, h2, h3, by omega, Nat.or_lt_two_pow (Nat.lt_of_lt_of_le h5 (Nat.pow_le_pow_right (by decide) (by omega))) (Nat.pow_lt_pow_right (by decide) (by omega)), fun j hj => ?_, h7, h8, h9, h10⟩
  unfold upB
  by_cases e : j = nc
  · rw [if_pos e]; exact ⟨hok, h0⟩
  · rw [if_neg e]; exact h6 j (by omega)
theorem PI.drop {j : Nat} (h : PI n wf wt od sd se nc lv cs kv kx) : PI n wf wt od sd se nc (nAnd lv (2 ^ j)) cs kv kx := by
  obtain ⟨h1, h2, h3, h4, h5, h6, h7, h8, h9, h10⟩ := h
  exact ⟨h1, h2, h3, h4, nAnd_lt h5, h6, h7, h8, h9, h10⟩
theorem PI.setEvidence {x : Nat} {ev : Int32} (h : PI n wf wt od sd se nc lv cs kv kx) (hx : x < n) (he : ev3 ev) : PI n wf wt od (evSd sd x ev) (evSe se x ev) nc lv cs kv kx := by
  obtain ⟨h1, h2, h3, h4, h5, h6, h7, h8, h9, h10⟩ := h
  have hb : ∀ v, se.testBit v = true → sd.testBit v = true := fun v hv => by
    rw [← h3, Nat.testBit_and, Bool.and_eq_true] at hv; exact hv.2
  refine ⟨h1, ?_, ?_, h4, h5, h6, h7, h8, h9, h10⟩
  · unfold evSd; split
    · exact nAnd_lt h2
    · exact Nat.or_lt_two_pow h2 (Nat.pow_lt_pow_right (by decide) hx)
  · apply Nat.eq_of_testBit_eq
    intro v
    rw [Nat.testBit_and]
    cases z : (evSe se x ev).testBit v
    · rfl
    · have : (evSd sd x ev).testBit v = true := by
        unfold evSe at z
        unfold evSd
        rcases he with q | q | q
        · rw [q, if_neg (by decide), nAnd_pow_bit, Bool.and_eq_true] at z
          rw [if_pos q, nAnd_pow_bit, hb v z.1, z.2]; rfl
        · rw [q, if_neg (by decide), nAnd_pow_bit, Bool.and_eq_true] at z
          rw [if_neg (by rw [q]; decide), Nat.testBit_or, hb v z.1]; rfl
        · rw [if_pos q, Nat.testBit_or, Bool.or_eq_true] at z
          rw [if_neg (by rw [q]; decide), Nat.testBit_or]
          rcases z with y | y
          · rw [hb v y]; rfl
          · rw [y, Bool.or_true]
      rw [this]; rfl
theorem PI.exchange {x y : Nat} (h : PI n wf wt od sd se nc lv cs kv kx) (hx : x < n) (hy : y < n) : PI n wf wt (upB (upB od x (od y)) y (od x)) sd se nc lv cs kv kx := by
  obtain ⟨h1, h2, h3, h4, h5, h6, h7, h8, h9, h10⟩ := h
  have key : ∀ j, upB (upB od x (od y)) y (od x) j = od (if j = y then x else if j = x then y else j) := fun j => by
    unfold upB
    by_cases a : j = y
    · rw [if_pos a, if_pos a]
    · rw [if_neg a, if_neg a]
      by_cases b : j = x
      · rw [if_pos b, if_pos b]
      · rw [if_neg b, if_neg b]
  have lt : ∀ j, j < n → (if j = y then x else if j = x then y else j) < n := fun j hj => by
    split
    · exact hx
    · split
      · exact hy
      · exact hj
  refine ⟨h1, h2, h3, h4, h5, h6, h7, fun j => by rw [key]; exact h8 _, fun j hj => by rw [key]; exact h9 _ (lt j hj), fun i j hi hj e => ?_⟩
  rw [key, key] at e
  have := h10 _ _ (lt i hi) (lt j hj) e
  by_cases a : i = y
  · rw [if_pos a] at this
    by_cases b : j = y
    · omega
    · rw [if_neg b] at this
      by_cases c : j = x
      · rw [if_pos c] at this; omega
      · rw [if_neg c] at this; omega
  · rw [if_neg a] at this
    by_cases b : j = y
    · rw [if_pos b] at this
      by_cases c : i = x
      · rw [if_pos c] at this; omega
      · rw [if_neg c] at this; omega
    · rw [if_neg b] at this
      by_cases c : i = x
      · rw [if_pos c] at this
        by_cases d : j = x
        · omega
        · rw [if_neg d] at this; omega
      · rw [if_neg c] at this
        by_cases d : j = x
        · rw [if_pos d] at this; omega
        · rw [if_neg d] at this; omega
theorem PI.keep {j : Nat} {X : Nat → Bool} (h : PI n wf wt od sd se nc lv cs kv kx) (hX : ∀ a, 2 ^ n ≤ a → X a = false) : PI n wf wt od sd se nc lv cs (upd kv j (nI n)) (upB kx j X) := by
  obtain ⟨h1, h2, h3, h4, h5, h6, h7, h8, h9, h10⟩ := h
  refine ⟨h1, h2, h3, h4, h5, h6, fun i hi => ?_, h8, h9, h10⟩
  unfold upd upB
  by_cases e : i = j
  · rw [if_pos e, if_pos e]; exact Or.inr ⟨n, h1, rfl, hX⟩
  · rw [if_neg e, if_neg e]; exact h7 i hi
theorem PI.set {j : Nat} {X : Nat → Bool} (h : PI n wf wt od sd se nc lv cs kv kx) (hk : kv j = nI n) (hX : ∀ a, 2 ^ n ≤ a → X a = false) : PI n wf wt od sd se nc lv cs kv (upB kx j X) := by
  obtain ⟨h1, h2, h3, h4, h5, h6, h7, h8, h9, h10⟩ := h
  refine ⟨h1, h2, h3, h4, h5, h6, fun i hi => ?_, h8, h9, h10⟩
  unfold upB
  by_cases e : i = j
  · rw [if_pos e, e]; exact Or.inr ⟨n, h1, hk, hX⟩
  · rw [if_neg e]; exact h7 i hi
end PIS
section JSLD
variable {p : Program} {l : Launch} {e : Env} {R : Room} {s : State} {m : MethodId} {args : Array Value} {below : List Frame} {meth : Method} {c : Code} {H : Heap} {locs : List Loc} {cells slots : Nat} {Q : State → Prop}
variable {cc : ByteArray} {pc : Nat} {ls : Array Slot} {rest st : List Value} {D : va_G} {cy : Nat → ClassId} {A : Nat → Prop} {H0 : Heap} {w : va_W} {Ts : List Cond} {nL : Nat} {own : String}
theorem j_sld (S : CallFix p m c cc nL s args Ts own) {b L : Nat} {xs : Nat → Int32} (hX : va_X b L xs s H0) (hbl : b < H0.size) (hbA : ¬ A b) (hW : jW D A H0 w H locs) {i : Int32} {j : Nat} (hi : vp_in i L) (hj : i.toNatClampNeg = j) {x : Int32} (hv : xs j = x) (hdg : decode cc pc = .ok (.iaload, 1))
    (kk : W p l e R s m args below meth c H locs cells slots Q (F0 m (pc + 1) ls (.int x :: rest))) : W p l e R s m args below meth c H locs cells slots Q (F0 m pc ls (.int i :: .ref b :: rest)) := by
  subst hj; subst hv
  exact va_sld S.1 S.2.1 hX hbl hbA hW.2.2 hi hdg kk
end JSLD
