/-! PURE FACTS: what the class counts by parts is what the reference counts one by one -/
theorem heldC_congr {c : CN} {a b : Nat} (hb : ∀ j, (mbs c).testBit j = true → a.testBit j = b.testBit j) : heldC c a = heldC c b := by
  have h : a &&& mbs c = b &&& mbs c := Nat.eq_of_testBit_eq (fun j => by
    rw [Nat.testBit_and, Nat.testBit_and]
    cases z : (mbs c).testBit j
    · rw [Bool.and_false, Bool.and_false]
    · rw [hb j z])
  have e1 : a &&& c.2.1 = b &&& c.2.1 := Nat.eq_of_testBit_eq (fun j => by
    rw [Nat.testBit_and, Nat.testBit_and]
    cases z : c.2.1.testBit j
    · rw [Bool.and_false, Bool.and_false]
    · rw [hb j (by unfold mbs; rw [Nat.testBit_or, z]; rfl)])
  have e2 : nAnd c.2.2.1 a = nAnd c.2.2.1 b := Nat.eq_of_testBit_eq (fun j => by
    rw [nAnd_bit, nAnd_bit]
    cases z : c.2.2.1.testBit j
    · rfl
    · rw [hb j (by unfold mbs; rw [Nat.testBit_or, z, Bool.or_true])])
  unfold heldC
  rw [h, e1, e2]
theorem nAnd0 {a b : Nat} : nAnd a b = 0 ↔ subE a b := by
  constructor
  · intro h j hj
    have := congrArg (fun z => z.testBit j) h
    simp only [nAnd_bit, Nat.zero_testBit, hj, Bool.true_and] at this
    revert this; cases b.testBit j <;> simp
  · intro h
    exact Nat.eq_of_testBit_eq (fun j => by
      rw [nAnd_bit, Nat.zero_testBit]
      cases z : a.testBit j
      · rfl
      · rw [h j z]; rfl)
theorem hi_bit {N d j : Nat} (hd : d < 2 ^ N) : (2 ^ N + d).testBit j = (decide (N = j) || d.testBit j) := by
  rw [Nat.add_comm, ← or_pow_add hd, Nat.testBit_or, pow_bit, Bool.or_comm]
theorem lo_bit {N d j : Nat} (hd : d < 2 ^ N) (hj : N ≤ j) : d.testBit j = false := Nat.testBit_lt_two_pow (Nat.lt_of_lt_of_le hd (Nat.pow_le_pow_right (by decide) hj))
/-- the choices of a set's values that fulfil g -/
def chT (U : Nat) (g : Nat → Bool) (N : Nat) : Nat := cnt (fun d => decide (nAnd d U = 0) && g d) (2 ^ N)
theorem chT_congr {U N : Nat} {g h : Nat → Bool} (e : ∀ d, d < 2 ^ N → subE d U → g d = h d) : chT U g N = chT U h N := cnt_congr (fun d hd => by
  by_cases z : nAnd d U = 0
  · rw [decide_eq_true z, e d hd (nAnd0.mp z)]
  · rw [decide_eq_false z]; rfl)
theorem chT_s {U N : Nat} {g : Nat → Bool} : chT U g (N + 1) = chT U g N + (if U.testBit N then chT U (fun d => g (2 ^ N + d)) N else 0) := by
  unfold chT
  rw [Nat.pow_succ, Nat.mul_two, cnt_add]
  congr 1
  cases z : U.testBit N
  · rw [if_neg (by decide)]
    refine cnt_zero.mpr (fun d hd => ?_)
    rw [decide_eq_false (fun q => by
      have := nAnd0.mp q N (by rw [hi_bit hd, decide_eq_true rfl]; rfl)
      rw [z] at this; cases this)]
    rfl
  · rw [if_pos rfl]
    refine cnt_congr (fun d hd => ?_)
    congr 1
    apply decide_eq_decide.mpr
    rw [nAnd0, nAnd0]
    constructor
    · intro h j hj
      exact h j (by rw [hi_bit hd, hj, Bool.or_true])
    · intro h j hj
      rw [hi_bit hd] at hj
      by_cases e : N = j
      · rw [← e]; exact z
      · rw [decide_eq_false e, Bool.false_or] at hj; exact h j hj
theorem chT_0 {g : Nat → Bool} {N : Nat} : chT 0 g N = if g 0 then 1 else 0 := by
  induction N generalizing g with
  | zero =>
    unfold chT
    simp only [Nat.pow_zero, cnt]
    rw [show nAnd 0 0 = 0 from rfl, decide_eq_true rfl, Bool.true_and, Nat.zero_add]
  | succ N ih => rw [chT_s, Nat.zero_testBit, if_neg (by decide), ih, Nat.add_zero]
theorem chT_mul {U P : Nat} (hd : ∀ j, U.testBit j = true → P.testBit j = true → False) : ∀ N (A B : Nat → Bool), chT (U ||| P) (fun d => A (d &&& U) && B (d &&& P)) N = chT U A N * chT P B N := by
  have hiand : ∀ {N d X : Nat}, d < 2 ^ N → (2 ^ N + d) &&& X = if X.testBit N then 2 ^ N + (d &&& X) else d &&& X := by
    intro N d X hd
    apply Nat.eq_of_testBit_eq
    intro j
    rw [Nat.testBit_and, hi_bit hd]
    split
    · next z =>
      rw [hi_bit (Nat.lt_of_le_of_lt Nat.and_le_left hd), Nat.testBit_and]
      by_cases e : N = j
      · subst e; rw [z, decide_eq_true rfl]; rfl
      · rw [decide_eq_false e]; rfl
    · next z =>
      rw [Nat.testBit_and]
      by_cases e : N = j
      · subst e
        rw [Bool.eq_false_iff.mpr z, Bool.and_false, Bool.and_false]
      · rw [decide_eq_false e]; rfl
  intro N
  induction N with
  | zero =>
    intro A B
    unfold chT
    simp only [Nat.pow_zero, cnt]
    rw [show ∀ x, nAnd 0 x = 0 from fun x => nAnd0.mpr (fun j hj => by rw [Nat.zero_testBit] at hj; cases hj)]
    rw [show ∀ x, nAnd 0 x = 0 from fun x => nAnd0.mpr (fun j hj => by rw [Nat.zero_testBit] at hj; cases hj)]
    rw [show ∀ x, nAnd 0 x = 0 from fun x => nAnd0.mpr (fun j hj => by rw [Nat.zero_testBit] at hj; cases hj)]
    simp only [Nat.zero_and, decide_true, Bool.true_and]
    cases A 0 <;> cases B 0 <;> rfl
  | succ N ih =>
    intro A B
    rw [chT_s, chT_s, chT_s, ih, Nat.testBit_or]
    cases hu : U.testBit N
    · cases hp : P.testBit N
      · simp
      · have e : chT (U ||| P) (fun d => A ((2 ^ N + d) &&& U) && B ((2 ^ N + d) &&& P)) N = chT U A N * chT P (fun d => B (2 ^ N + d)) N := by
          rw [← ih A (fun d => B (2 ^ N + d))]
          exact chT_congr (fun d hd _ => by rw [hiand hd, hiand hd, if_neg (by rw [hu]; decide), if_pos hp])
        simp only [Bool.false_or, if_true, e]
        rw [if_neg (by decide), Nat.add_zero, Nat.mul_add]
    · cases hp : P.testBit N
      · have e : chT (U ||| P) (fun d => A ((2 ^ N + d) &&& U) && B ((2 ^ N + d) &&& P)) N = chT U (fun d => A (2 ^ N + d)) N * chT P B N := by
          rw [← ih (fun d => A (2 ^ N + d)) B]
          exact chT_congr (fun d hd _ => by rw [hiand hd, hiand hd, if_pos hu, if_neg (by rw [hp]; decide)])
        simp only [Bool.or_false, if_true, e]
        rw [if_neg (by decide), Nat.add_zero, Nat.add_mul]
      · exact (hd N hu hp).elim
/-- evidence as a set of pairs -/
def evB (sd se a N : Nat) : Bool := allB (fun v => !sd.testBit v || (a.testBit v == se.testBit v)) N
theorem evT {op sd se : Nat} (hse : subE se sd) : ∀ N, (∀ v, v < N → op.testBit v = !sd.testBit v) → ∀ G : Nat → Bool, cnt (fun a => evB sd se a N && G a) (2 ^ N) = chT op (fun d => G (d ||| bsum se.testBit N)) N := by
  intro N
  induction N with
  | zero =>
    intro _ G
    unfold chT
    simp only [Nat.pow_zero, cnt]
    rw [show nAnd 0 op = 0 from nAnd0.mpr (fun j hj => by rw [Nat.zero_testBit] at hj; cases hj)]
    rw [show evB sd se 0 0 = true from rfl, decide_eq_true rfl, show (0 ||| bsum se.testBit 0) = 0 from Nat.zero_or _]
  | succ N ih =>
    intro hop G
    have hop' : ∀ v, v < N → op.testBit v = !sd.testBit v := fun v hv => hop v (by omega)
    have hs : bsum se.testBit N < 2 ^ N := bsum_lt _ _
    have lowc : ∀ a, a < 2 ^ N → ∀ g : Bool, (evB sd se a (N + 1) && g) = (evB sd se a N && ((!sd.testBit N || !se.testBit N) && g)) := fun a ha g => by
      show ((evB sd se a N && (!sd.testBit N || (a.testBit N == se.testBit N))) && g) = _
      rw [lo_bit ha (Nat.le_refl _), Bool.and_assoc]
      cases se.testBit N <;> rfl
    have evhi : ∀ a, a < 2 ^ N → evB sd se (2 ^ N + a) N = evB sd se a N := fun a ha => allB_congr (fun v hv => by rw [hi_bit ha, decide_eq_false (show ¬ N = v by omega), Bool.false_or])
    have highc : ∀ a, a < 2 ^ N → ∀ g : Bool, (evB sd se (2 ^ N + a) (N + 1) && g) = (evB sd se a N && ((!sd.testBit N || se.testBit N) && g)) := fun a ha g => by
      show ((evB sd se (2 ^ N + a) N && (!sd.testBit N || ((2 ^ N + a).testBit N == se.testBit N))) && g) = _
      rw [evhi a ha, hi_bit ha, decide_eq_true rfl, Bool.true_or, Bool.and_assoc]
      cases se.testBit N <;> rfl
    have orlo : ∀ d, d < 2 ^ N → (2 ^ N + d) ||| bsum se.testBit N = 2 ^ N + (d ||| bsum se.testBit N) := fun d hd => Nat.eq_of_testBit_eq (fun j => by
      rw [Nat.testBit_or, hi_bit hd, hi_bit (Nat.or_lt_two_pow hd hs), Nat.testBit_or, Bool.or_assoc])
    have orhi : ∀ d, d < 2 ^ N → d ||| (bsum se.testBit N + 2 ^ N) = 2 ^ N + (d ||| bsum se.testBit N) := fun d hd => Nat.eq_of_testBit_eq (fun j => by
      rw [Nat.testBit_or, Nat.add_comm (bsum se.testBit N), hi_bit hs, hi_bit (Nat.or_lt_two_pow hd hs), Nat.testBit_or]
      cases d.testBit j <;> cases decide (N = j) <;> rfl)
    rw [Nat.pow_succ, Nat.mul_two, cnt_add, chT_s, hop N (by omega)]
    rw [cnt_congr (T := fun a => evB sd se a N && ((!sd.testBit N || !se.testBit N) && G a)) (fun a ha => lowc a ha (G a)), cnt_congr (T := fun a => evB sd se a N && ((!sd.testBit N || se.testBit N) && G (2 ^ N + a))) (fun a ha => highc a ha (G (2 ^ N + a)))]
    rw [ih hop' (fun a => (!sd.testBit N || !se.testBit N) && G a), ih hop' (fun a => (!sd.testBit N || se.testBit N) && G (2 ^ N + a))]
    cases hsN : sd.testBit N
    · have hz : se.testBit N = false := by
        cases z : se.testBit N
        · rfl
        · rw [hse N z] at hsN; cases hsN
      have eb : bsum se.testBit (N + 1) = bsum se.testBit N := by simp only [bsum]; rw [hz, if_neg (by decide), Nat.add_zero]
      rw [eb]
      simp only [Bool.not_false, Bool.true_or, Bool.true_and, if_true]
      congr 1
      exact chT_congr (fun d hd _ => by rw [orlo d hd])
    · cases hz : se.testBit N
      · have eb : bsum se.testBit (N + 1) = bsum se.testBit N := by simp only [bsum]; rw [hz, if_neg (by decide), Nat.add_zero]
        rw [eb]
        simp only [Bool.not_true, Bool.false_or, Bool.not_false, Bool.true_and, Bool.false_and]
        congr 1
        rw [if_neg (by decide)]
        exact cnt_zero.mpr (fun d _ => by rw [Bool.and_false])
      · have eb : bsum se.testBit (N + 1) = bsum se.testBit N + 2 ^ N := by simp only [bsum]; rw [hz, if_pos rfl]
        rw [eb]
        simp only [Bool.not_true, Bool.false_or, Bool.true_and, Bool.false_and]
        rw [if_neg (by decide), Nat.add_zero]
        have z0 : chT op (fun _ => false) N = 0 := cnt_zero.mpr (fun d _ => by rw [Bool.and_false])
        rw [z0, Nat.zero_add]
        exact chT_congr (fun d hd _ => by rw [orhi d hd])
theorem evB_iff {n sd se a : Nat} (hsd : sd < 2 ^ n) (hse : se &&& sd = se) : evB sd se a n = decide (a &&& sd = se) := by
  apply Bool.eq_iff_iff.mpr
  unfold evB
  rw [allB_iff, decide_eq_true_eq]
  constructor
  · intro h
    apply Nat.eq_of_testBit_eq
    intro j
    rw [← hse, Nat.testBit_and, Nat.testBit_and]
    cases z : sd.testBit j
    · rw [Bool.and_false, Bool.and_false]
    · have hj : j < n := by
        rcases Nat.lt_or_ge j n with q | q
        · exact q
        · rw [lo_bit hsd q] at z; cases z
      have := h j hj
      rw [z] at this
      simp only [Bool.not_true, Bool.false_or, beq_iff_eq] at this
      rw [this]
  · intro h v _
    cases z : sd.testBit v
    · rfl
    · have := congrArg (fun x => x.testBit v) h
      simp only [Nat.testBit_and, z, Bool.and_true] at this
      rw [this]; simp
/-- no constraint leads out of a set -/
def cloP (nc : Nat) (cs : Nat → CN) (lv op U : Nat) : Prop := ∀ c, c < nc → lv.testBit c = true → mbs (cs c) &&& U ≠ 0 → subE (jnd cs op c) U
theorem jnd_bit {cs : Nat → CN} {op c j : Nat} : (jnd cs op c).testBit j = ((mbs (cs c)).testBit j && op.testBit j) := Nat.testBit_and _ _ _
theorem ne0_and {a b j : Nat} (h1 : a.testBit j = true) (h2 : b.testBit j = true) : a &&& b ≠ 0 := tb_ne0 (v := j) (by rw [Nat.testBit_and, h1, h2]; rfl)
theorem clo_it {nc lv op v : Nat} {cs : Nat → CN} (hop : op < 1024) (hv : v < 10) : cloP nc cs lv op (itP nc cs lv op v 10) := fun c hc hl ht j hj => by
  rw [jnd_bit, Bool.and_eq_true] at hj
  have := itP_closed (nc := nc) (cs := cs) (lv := lv) hop hv
  rw [← this]
  exact stp_bit.mpr (Or.inr ⟨hj.2, c, hc, hl, ht, hj.1⟩)
theorem clo_or {nc lv op U P : Nat} {cs : Nat → CN} (hU : cloP nc cs lv op U) (hP : cloP nc cs lv op P) : cloP nc cs lv op (U ||| P) := fun c hc hl ht j hj => by
  obtain ⟨i, hi⟩ := ne0_bit ht
  rw [Nat.testBit_and, Nat.testBit_or, Bool.and_eq_true, Bool.or_eq_true] at hi
  rw [Nat.testBit_or, Bool.or_eq_true]
  rcases hi.2 with q | q
  · exact Or.inl (hU c hc hl (ne0_and hi.1 q) j hj)
  · exact Or.inr (hP c hc hl (ne0_and hi.1 q) j hj)
theorem clo_op {nc lv op : Nat} {cs : Nat → CN} : cloP nc cs lv op op := fun c _ _ _ j hj => by
  rw [jnd_bit, Bool.and_eq_true] at hj; exact hj.2
theorem clo_sub {nc lv op U P : Nat} {cs : Nat → CN} (hU : cloP nc cs lv op U) (hP : cloP nc cs lv op P) (hs : subE U op) : cloP nc cs lv op (nAnd U P) := fun c hc hl ht j hj => by
  obtain ⟨i, hi⟩ := ne0_bit ht
  rw [Nat.testBit_and, nAnd_bit, Bool.and_eq_true, Bool.and_eq_true] at hi
  have hij : (jnd cs op c).testBit i = true := by rw [jnd_bit, hi.1, hs i hi.2.1]; rfl
  rw [nAnd_bit, hU c hc hl (ne0_and hi.1 hi.2.1) j hj]
  cases z : P.testBit j
  · rfl
  · have := hP c hc hl (ne0_and (by rw [jnd_bit, Bool.and_eq_true] at hj; exact hj.1) z) i hij
    rw [this] at hi; cases hi.2.2
theorem clo_grw {nc lv op S c : Nat} {cs : Nat → CN} (h : cloP nc cs lv op S) (hc : c < nc) : grwN cs lv op c S = S := by
  unfold grwN
  split
  · next q =>
    obtain ⟨i, hi⟩ := ne0_bit q.2
    rw [Nat.testBit_and, Bool.and_eq_true, jnd_bit, Bool.and_eq_true] at hi
    exact subE_eq (fun j hj => by
      rw [Nat.testBit_or, Bool.or_eq_true] at hj
      rcases hj with z | z
      · exact z
      · exact h c hc q.1 (ne0_and hi.1.1 hi.2) j z) (fun j hj => by rw [Nat.testBit_or, hj]; rfl)
  · rfl
theorem clo_least {nc lv op S v : Nat} {cs : Nat → CN} (h : cloP nc cs lv op S) (hv : op.testBit v = true) (hs : S.testBit v = true) : subE (itP nc cs lv op v 10) S := it_least hv hs (fun c hc => clo_grw h hc) 10
theorem it_sym {nc lv op j k : Nat} {cs : Nat → CN} (hop : op < 1024) (hj : op.testBit j = true) (hk : op.testBit k = true) (h : (itP nc cs lv op j 10).testBit k = true) : (itP nc cs lv op k 10).testBit j = true := by
  have lt : ∀ v, op.testBit v = true → v < 10 := fun v hv => by
    rcases Nat.lt_or_ge v 10 with q | q
    · exact q
    · rw [lo_bit (N := 10) hop q] at hv; cases hv
  cases z : (itP nc cs lv op k 10).testBit j
  · have hX := clo_sub (clo_it (nc := nc) (cs := cs) (lv := lv) hop (lt j hj)) (clo_it (nc := nc) (cs := cs) (lv := lv) hop (lt k hk)) (it_op hj 10)
    have := clo_least hX hj (by rw [nAnd_bit, itP_ne0, z]; rfl) k h
    rw [nAnd_bit, itP_ne0 (v := k), Bool.not_true, Bool.and_false] at this
    cases this
  · rfl
/-- a choice keeps all that touches a set -/
def okA (nc : Nat) (cs : Nat → CN) (lv se U d : Nat) : Bool := allB (fun c => okP nc cs lv se U d c) nc
theorem okP_iff {nc lv se U d c : Nat} {cs : Nat → CN} : okP nc cs lv se U d c = true ↔ (lv.testBit c = true → mbs (cs c) &&& U ≠ 0 → heldC (cs c) (d ||| se) = true) := by
  unfold okP
  cases lv.testBit c
  · simp
  · by_cases z : mbs (cs c) &&& U = 0
    · simp [z]
    · simp [z]
theorem okA_iff {nc lv se U d : Nat} {cs : Nat → CN} : okA nc cs lv se U d = true ↔ ∀ c, c < nc → lv.testBit c = true → mbs (cs c) &&& U ≠ 0 → heldC (cs c) (d ||| se) = true := by
  unfold okA
  rw [allB_iff]
  exact ⟨fun h c hc => okP_iff.mp (h c hc), fun h c hc => okP_iff.mpr (h c hc)⟩
theorem ok_split {nc lv se op U P d : Nat} {cs : Nat → CN} (hU : cloP nc cs lv op U) (hP : cloP nc cs lv op P) (su : subE U op) (sp : subE P op) (hd : subE d (U ||| P)) : okA nc cs lv se (U ||| P) d = (okA nc cs lv se U (d &&& U) && okA nc cs lv se P (d &&& P)) := by
  have sup : ∀ {j}, d.testBit j = true → op.testBit j = true := fun {j} hj => by
    have := hd j hj
    rw [Nat.testBit_or, Bool.or_eq_true] at this
    exact this.elim (su j) (sp j)
  have key : ∀ X, cloP nc cs lv op X → ∀ c, c < nc → lv.testBit c = true → mbs (cs c) &&& X ≠ 0 → heldC (cs c) (d ||| se) = heldC (cs c) ((d &&& X) ||| se) := fun X hX c hc hl ht => heldC_congr (fun j hj => by
    rw [Nat.testBit_or, Nat.testBit_or, Nat.testBit_and]
    cases z : d.testBit j
    · rfl
    · rw [hX c hc hl ht j (by rw [jnd_bit, hj, sup z]; rfl)]; rfl)
  apply Bool.eq_iff_iff.mpr
  rw [Bool.and_eq_true, okA_iff, okA_iff, okA_iff]
  constructor
  · intro h
    constructor
    · intro c hc hl ht
      obtain ⟨j, hj⟩ := ne0_bit ht
      rw [Nat.testBit_and, Bool.and_eq_true] at hj
      rw [← key U hU c hc hl ht]
      exact h c hc hl (ne0_and (j := j) hj.1 (by rw [Nat.testBit_or, hj.2]; rfl))
    · intro c hc hl ht
      obtain ⟨j, hj⟩ := ne0_bit ht
      rw [Nat.testBit_and, Bool.and_eq_true] at hj
      rw [← key P hP c hc hl ht]
      exact h c hc hl (ne0_and (j := j) hj.1 (by rw [Nat.testBit_or, hj.2, Bool.or_true]))
  · rintro ⟨h1, h2⟩ c hc hl ht
    obtain ⟨j, hj⟩ := ne0_bit ht
    rw [Nat.testBit_and, Nat.testBit_or, Bool.and_eq_true, Bool.or_eq_true] at hj
    rcases hj.2 with q | q
    · rw [key U hU c hc hl (ne0_and hj.1 q)]; exact h1 c hc hl (ne0_and hj.1 q)
    · rw [key P hP c hc hl (ne0_and hj.1 q)]; exact h2 c hc hl (ne0_and hj.1 q)
theorem cntP_is {n nc lv se pt : Nat} {cs : Nat → CN} (hn : n ≤ 10) (hp : pt < 2 ^ n) : cntP nc cs lv se pt = chT pt (okA nc cs lv se pt) n := by
  unfold cntP chcN
  rw [cnt_choices (g := fun z => metN cs nc (touchN cs lv nc pt) (z ||| (se &&& memN cs nc (touchN cs lv nc pt)))) hn hp]
  refine chT_congr (fun d _ _ => allB_congr (fun c hc => ?_))
  have tb : (touchN cs lv nc pt).testBit c = (decide (mbs (cs c) &&& pt ≠ 0) && lv.testBit c) := by
    unfold touchN; rw [bsum_bit, decide_eq_true hc, Bool.true_and]
  apply Bool.eq_iff_iff.mpr
  rw [okP_iff, tb]
  have key : lv.testBit c = true → mbs (cs c) &&& pt ≠ 0 → heldC (cs c) (d ||| (se &&& memN cs nc (touchN cs lv nc pt))) = heldC (cs c) (d ||| se) := fun hl ht => heldC_congr (fun j hj => by
    have hm : (memN cs nc (touchN cs lv nc pt)).testBit j = true := orS_bit.mpr ⟨c, hc, by rw [if_pos (by rw [tb, decide_eq_true ht, hl]; rfl)]; exact hj⟩
    rw [Nat.testBit_or, Nat.testBit_or, Nat.testBit_and, hm, Bool.and_true])
  constructor
  · intro h hl ht
    rw [hl, decide_eq_true ht] at h
    rw [← key hl ht]
    simpa using h
  · intro h
    cases hl : lv.testBit c
    · rw [Bool.and_false]; rfl
    · by_cases ht : mbs (cs c) &&& pt = 0
      · rw [decide_eq_false (fun q => q ht)]; rfl
      · rw [key hl ht, h hl ht, Bool.or_true]
theorem cntP_ref {n nc lv se pt : Nat} {cs : Nat → CN} (hn : n ≤ 10) (hp : pt < 2 ^ n) : cntP nc cs lv se pt = cnt (fun d => decide (nAnd d pt = 0) && allB (fun c => okP nc cs lv se pt d c) nc) (2 ^ n) := cntP_is hn hp
theorem mpr_inv {n nc lv se op : Nat} {cs : Nat → CN} (hn : n ≤ 10) (hop : op < 2 ^ n) : ∀ k, k ≤ n → cloP nc cs lv op (mprN nc cs lv se op k).2 ∧ subE (mprN nc cs lv se op k).2 op ∧ (∀ v, v < k → op.testBit v = true → (mprN nc cs lv se op k).2.testBit v = true) ∧ (mprN nc cs lv se op k).1 = chT (mprN nc cs lv se op k).2 (okA nc cs lv se (mprN nc cs lv se op k).2) n := by
  have h10 : op < 1024 := Nat.lt_of_lt_of_le hop (two_pow10 hn)
  intro k
  induction k with
  | zero =>
    intro _
    refine ⟨fun c _ _ ht => absurd (Nat.and_zero _) ht, fun j hj => (by rw [show (mprN nc cs lv se op 0).2 = 0 from rfl, Nat.zero_testBit] at hj; cases hj), fun v hv => absurd hv (by omega), ?_⟩
    show 1 = chT 0 (okA nc cs lv se 0) n
    rw [chT_0, if_pos (okA_iff.mpr (fun c _ _ ht => absurd (Nat.and_zero _) ht))]
  | succ k ih =>
    intro hk
    obtain ⟨i1, i2, i3, i4⟩ := ih (by omega)
    cases h : (nAnd op (mprN nc cs lv se op k).2).testBit k
    · rw [mprN_f h]
      refine ⟨i1, i2, fun v hv ho => ?_, i4⟩
      rcases Nat.lt_or_ge v k with q | q
      · exact i3 v q ho
      · have e : v = k := by omega
        subst e
        rw [nAnd_bit, ho, Bool.true_and] at h
        revert h; cases (mprN nc cs lv se op v).2.testBit v <;> simp
    · rw [mprN_t h]
      have hb := h
      rw [nAnd_bit, Bool.and_eq_true] at hb
      have hk10 : k < 10 := by omega
      have hcp := clo_it (nc := nc) (cs := cs) (lv := lv) h10 hk10
      have hsp := it_op (nc := nc) (cs := cs) (lv := lv) hb.1 10
      have hl := clo_least (clo_sub clo_op i1 (fun j hj => hj)) hb.1 h
      have hpn : itP nc cs lv op k 10 < 2 ^ n := by
        exact Nat.lt_of_le_of_lt (by
          have : itP nc cs lv op k 10 &&& op = itP nc cs lv op k 10 := Nat.eq_of_testBit_eq (fun j => by
            rw [Nat.testBit_and]
            cases z : (itP nc cs lv op k 10).testBit j
            · rfl
            · rw [hsp j z]; rfl)
          rw [← this]; exact Nat.and_le_right) hop
      refine ⟨clo_or i1 hcp, fun j hj => ?_, fun v hv ho => ?_, ?_⟩
      · have hj : ((mprN nc cs lv se op k).2 ||| itP nc cs lv op k 10).testBit j = true := hj
        rw [Nat.testBit_or, Bool.or_eq_true] at hj
        exact hj.elim (i2 j) (hsp j)
      · show ((mprN nc cs lv se op k).2 ||| itP nc cs lv op k 10).testBit v = true
        rw [Nat.testBit_or]
        rcases Nat.lt_or_ge v k with q | q
        · rw [i3 v q ho]; rfl
        · rw [show v = k by omega, itP_ne0, Bool.or_true]
      · show (mprN nc cs lv se op k).1 * cntP nc cs lv se (itP nc cs lv op k 10) = chT ((mprN nc cs lv se op k).2 ||| itP nc cs lv op k 10) _ n
        rw [i4, cntP_is hn hpn, ← chT_mul (fun j hu hp => by
          have := hl j hp
          rw [nAnd_bit, hu, Bool.not_true, Bool.and_false] at this; cases this) n]
        exact chT_congr (fun d _ hs => (ok_split i1 hcp i2 hsp hs).symm)
theorem models_parts {n nc lv sd se : Nat} {cs : Nat → CN} (hn : n ≤ 10) (hsd : sd < 2 ^ n) (hse : se &&& sd = se) : (if metN cs nc (nAnd lv (touchN cs lv nc (nAnd (2 ^ n - 1) sd))) se then (mprN nc cs lv se (nAnd (2 ^ n - 1) sd) n).1 else 0) = cnt (mdc sd se nc cs lv) (2 ^ n) := by
  have hopn : nAnd (2 ^ n - 1) sd < 2 ^ n := nAnd_lt (by have := Nat.two_pow_pos n; omega)
  have hsub : subE se sd := fun j hj => by
    rw [← hse, Nat.testBit_and, Bool.and_eq_true] at hj; exact hj.2
  obtain ⟨-, i2, i3, i4⟩ := mpr_inv (nc := nc) (cs := cs) (lv := lv) (se := se) hn hopn n (Nat.le_refl _)
  have hdone : (mprN nc cs lv se (nAnd (2 ^ n - 1) sd) n).2 = nAnd (2 ^ n - 1) sd := subE_eq i2 (fun j hj => i3 j (by rw [op_bit, Bool.and_eq_true] at hj; exact of_decide_eq_true hj.1) hj)
  rw [hdone] at i4
  have hseb : bsum se.testBit n = se := (bsum_ext (Nat.lt_of_le_of_lt (by rw [← hse]; exact Nat.and_le_right) hsd) (fun b _ => rfl)).symm
  have h1 := evT (op := nAnd (2 ^ n - 1) sd) hsub n (fun v hv => by rw [op_bit, decide_eq_true hv, Bool.true_and]) (metN cs nc lv)
  rw [hseb] at h1
  have h2 : cnt (mdc sd se nc cs lv) (2 ^ n) = chT (nAnd (2 ^ n - 1) sd) (fun d => metN cs nc lv (d ||| se)) n := by
    rw [← h1]
    exact cnt_congr (fun a _ => by rw [evB_iff hsd hse]; rfl)
  rw [h2, i4]
  have key : ∀ d, subE d (nAnd (2 ^ n - 1) sd) → metN cs nc lv (d ||| se) = (metN cs nc (nAnd lv (touchN cs lv nc (nAnd (2 ^ n - 1) sd))) se && okA nc cs lv se (nAnd (2 ^ n - 1) sd) d) := fun d hd => by
    apply Bool.eq_iff_iff.mpr
    rw [Bool.and_eq_true, okA_iff]
    unfold metN
    rw [allB_iff, allB_iff]
    have tb : ∀ c, c < nc → (nAnd lv (touchN cs lv nc (nAnd (2 ^ n - 1) sd))).testBit c = (lv.testBit c && !decide (mbs (cs c) &&& nAnd (2 ^ n - 1) sd ≠ 0)) := fun c hc => by
      rw [nAnd_bit]; unfold touchN; rw [bsum_bit, decide_eq_true hc, Bool.true_and]
      cases lv.testBit c <;> simp
    have un : ∀ c, mbs (cs c) &&& nAnd (2 ^ n - 1) sd = 0 → heldC (cs c) (d ||| se) = heldC (cs c) se := fun c ht => heldC_congr (fun j hj => by
      rw [Nat.testBit_or]
      cases z : d.testBit j
      · rfl
      · exact absurd ht (ne0_and hj (hd j z)))
    constructor
    · intro h
      refine ⟨fun c hc => ?_, fun c hc hl _ => ?_⟩
      · rw [tb c hc]
        have := h c hc
        by_cases ht : mbs (cs c) &&& nAnd (2 ^ n - 1) sd = 0
        · rw [un c ht] at this
          cases hl : lv.testBit c
          · rfl
          · rw [hl] at this; simpa [ht] using this
        · simp [ht]
      · have := h c hc
        rw [hl] at this; simpa using this
    · rintro ⟨ha, hb⟩ c hc
      cases hl : lv.testBit c
      · rfl
      · by_cases ht : mbs (cs c) &&& nAnd (2 ^ n - 1) sd = 0
        · rw [un c ht]
          have := ha c hc
          rw [tb c hc, hl] at this; simpa [ht] using this
        · rw [hb c hc hl ht]; rfl
  rw [chT_congr (fun d _ hd => key d hd)]
  cases metN cs nc (nAnd lv (touchN cs lv nc (nAnd (2 ^ n - 1) sd))) se
  · rw [if_neg (by decide)]
    exact (cnt_zero.mpr (fun d _ => by show (decide (nAnd d (nAnd (2 ^ n - 1) sd) = 0) && (false && okA nc cs lv se (nAnd (2 ^ n - 1) sd) d)) = false; rw [Bool.false_and, Bool.and_false])).symm
  · rw [if_pos rfl]
    exact chT_congr (fun d _ _ => (Bool.true_and _).symm)
theorem low_no {x n j : Nat} (h : j < lowN x n) : x.testBit j = false := by
  induction n with
  | zero => exact absurd h (by simp only [lowN]; omega)
  | succ k ih =>
    simp only [lowN] at h
    split at h
    · exact ih h
    · next q =>
      have hk : lowN x k = k := Nat.le_antisymm (lowN_le x k) (by omega)
      split at h
      · exact ih (by omega)
      · next z =>
        rcases Nat.lt_or_ge j k with y | y
        · exact ih (by omega)
        · rw [show j = k by omega]; exact Bool.eq_false_iff.mpr z
theorem prt_inv {n nc lv sd : Nat} {cs : Nat → CN} (hn : n ≤ 10) : ∀ k, k ≤ n → cloP nc cs lv (nAnd (2 ^ n - 1) sd) (prtN nc cs lv (nAnd (2 ^ n - 1) sd) k).2 ∧ (∀ v, v < k → (nAnd (2 ^ n - 1) sd).testBit v = true → (prtN nc cs lv (nAnd (2 ^ n - 1) sd) k).2.testBit v = true) ∧ (∀ j, (prtN nc cs lv (nAnd (2 ^ n - 1) sd) k).2.testBit j = true → ∃ v, v < k ∧ (nAnd (2 ^ n - 1) sd).testBit v = true ∧ (itP nc cs lv (nAnd (2 ^ n - 1) sd) v 10).testBit j = true) ∧ (prtN nc cs lv (nAnd (2 ^ n - 1) sd) k).1 = cnt (fun v => !sd.testBit v && decide (lowN (itP nc cs lv (nAnd (2 ^ n - 1) sd) v 10) n = v)) k := by
  have h10 : nAnd (2 ^ n - 1) sd < 1024 := Nat.lt_of_lt_of_le (nAnd_lt (n := n) (by have := Nat.two_pow_pos n; omega)) (two_pow10 hn)
  intro k
  induction k with
  | zero =>
    intro _
    exact ⟨fun c _ _ ht => absurd (Nat.and_zero _) ht, fun v hv => absurd hv (by omega), fun j hj => (by rw [show (prtN nc cs lv (nAnd (2 ^ n - 1) sd) 0).2 = 0 from rfl, Nat.zero_testBit] at hj; cases hj), rfl⟩
  | succ k ih =>
    intro hk
    obtain ⟨i1, i2, i3, i4⟩ := ih (by omega)
    cases h : (nAnd (nAnd (2 ^ n - 1) sd) (prtN nc cs lv (nAnd (2 ^ n - 1) sd) k).2).testBit k
    · rw [prtN_f h]
      refine ⟨i1, fun v hv ho => ?_, fun j hj => ?_, ?_⟩
      · rcases Nat.lt_or_ge v k with q | q
        · exact i2 v q ho
        · have e : v = k := by omega
          subst e
          rw [nAnd_bit, ho, Bool.true_and] at h
          revert h; cases (prtN nc cs lv (nAnd (2 ^ n - 1) sd) v).2.testBit v <;> simp
      · obtain ⟨v, h1, h2, h3⟩ := i3 j hj
        exact ⟨v, by omega, h2, h3⟩
      · rw [i4]
        refine (cnt_s0 ?_).symm
        cases hs : sd.testBit k
        · have ho : (nAnd (2 ^ n - 1) sd).testBit k = true := by rw [op_bit, hs, decide_eq_true (by omega)]; rfl
          rw [nAnd_bit, ho, Bool.true_and] at h
          have hd : (prtN nc cs lv (nAnd (2 ^ n - 1) sd) k).2.testBit k = true := by
            revert h; cases (prtN nc cs lv (nAnd (2 ^ n - 1) sd) k).2.testBit k <;> simp
          obtain ⟨v, h1, h2, h3⟩ := i3 k hd
          have hv := it_sym h10 h2 ho h3
          rw [decide_eq_false (fun e => by
            have := low_no (x := itP nc cs lv (nAnd (2 ^ n - 1) sd) k 10) (n := n) (j := v) (by omega)
            rw [hv] at this; cases this), Bool.and_false]
        · rfl
    · rw [prtN_t h]
      have hb := h
      rw [nAnd_bit, Bool.and_eq_true] at hb
      have hnd : (prtN nc cs lv (nAnd (2 ^ n - 1) sd) k).2.testBit k = false := by
        have := hb.2
        revert this; cases (prtN nc cs lv (nAnd (2 ^ n - 1) sd) k).2.testBit k <;> simp
      have hs : sd.testBit k = false := by
        have := hb.1
        rw [op_bit, Bool.and_eq_true] at this
        have := this.2
        revert this; cases sd.testBit k <;> simp
      have hcp := clo_it (nc := nc) (cs := cs) (lv := lv) h10 (show k < 10 by omega)
      refine ⟨clo_or i1 hcp, fun v hv ho => ?_, fun j hj => ?_, ?_⟩
      · show ((prtN nc cs lv (nAnd (2 ^ n - 1) sd) k).2 ||| itP nc cs lv (nAnd (2 ^ n - 1) sd) k 10).testBit v = true
        rw [Nat.testBit_or]
        rcases Nat.lt_or_ge v k with q | q
        · rw [i2 v q ho]; rfl
        · rw [show v = k by omega, itP_ne0, Bool.or_true]
      · have hj : ((prtN nc cs lv (nAnd (2 ^ n - 1) sd) k).2 ||| itP nc cs lv (nAnd (2 ^ n - 1) sd) k 10).testBit j = true := hj
        rw [Nat.testBit_or, Bool.or_eq_true] at hj
        rcases hj with q | q
        · obtain ⟨v, h1, h2, h3⟩ := i3 j q
          exact ⟨v, by omega, h2, h3⟩
        · exact ⟨k, by omega, hb.1, q⟩
      · show (prtN nc cs lv (nAnd (2 ^ n - 1) sd) k).1 + 1 = _
        rw [i4]
        refine (cnt_s1 ?_).symm
        rw [hs, decide_eq_true (lowN_is (by omega) (fun j hj => ?_) (Or.inr itP_ne0))]
        · rfl
        · cases z : (itP nc cs lv (nAnd (2 ^ n - 1) sd) k 10).testBit j
          · rfl
          · have hjo := it_op (nc := nc) (cs := cs) (lv := lv) hb.1 10 j z
            have := clo_least i1 hjo (i2 j hj hjo) k (it_sym h10 hb.1 hjo z)
            rw [hnd] at this; cases this
theorem parts_ref {n nc lv sd : Nat} {cs : Nat → CN} (hn : n ≤ 10) : (prtN nc cs lv (nAnd (2 ^ n - 1) sd) n).1 = cnt (fun v => !sd.testBit v && decide (lowN (itP nc cs lv (nAnd (2 ^ n - 1) sd) v 10) n = v)) n := (prt_inv hn n (Nat.le_refl _)).2.2.2
