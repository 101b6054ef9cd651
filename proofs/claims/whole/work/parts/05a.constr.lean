/-! CONSTRAINTS as numbers: kind (a sign), set, other set, least, greatest; and bits told by words -/
abbrev CN : Type := Nat × Nat × Nat × Nat × Nat
def mbs (c : CN) : Nat := c.2.1 ||| c.2.2.1
/-- what holds in an assignment -/
def heldC (c : CN) (a : Nat) : Bool :=
  if c.1 = 111 then decide ¬ (a &&& c.2.1 ||| nAnd c.2.2.1 a) = 0
  else if c.1 = 120 then decide (cnt (a &&& mbs c).testBit 10 % 2 = c.2.2.2.1)
  else decide (c.2.2.2.1 ≤ cnt (a &&& mbs c).testBit 10) && decide (cnt (a &&& mbs c).testBit 10 ≤ c.2.2.2.2)
def cobj (c : CN) : Nat × List Value :=
  if c.1 = 111 then (3, [.int (nI 111), .int (nI (mbs c)), .int (nI c.2.1), .int (nI c.2.2.1)])
  else if c.1 = 120 then (7, [.int (nI 120), .int (nI (mbs c)), .int (nI c.2.2.2.1)])
  else (1, [.int (nI 107), .int (nI (mbs c)), .int (nI c.2.2.2.1), .int (nI c.2.2.2.2)])
def okC (c : CN) : Prop := (c.1 = 111 ∨ c.1 = 120 ∨ c.1 = 107) ∧ c.2.1 < 1024 ∧ c.2.2.1 < 1024 ∧ c.2.2.2.1 < 1024 ∧ c.2.2.2.2 < 1024
/-- the told constraints stand in the world, behind the first 76 places; the row 'told' points at them -/
def conOK (w : va_W) (m : Nat) (tf : Nat → Option Nat) (cp ca : Nat → Nat) (cs : Nat → CN) : Prop :=
  m ≤ 20 ∧ (∀ c, c < m → tf c = some (ca c)) ∧ (∀ c, m ≤ c → tf c = none) ∧ ∀ c, c < m → 76 ≤ cp c ∧ w[cp c]? = some (ca c, .inr (cobj (cs c))) ∧ okC (cs c)
theorem conOK.kept {w u : va_W} {m : Nat} {tf : Nat → Option Nat} {cp ca : Nat → Nat} {cs : Nat → CN} {K : List Nat} (h : conOK w m tf cp ca cs) (hU : jU w u K) (hK : ∀ k ∈ K, k < 76) : conOK u m tf cp ca cs :=
  ⟨h.1, h.2.1, h.2.2.1, fun c hc => ⟨(h.2.2.2 c hc).1, hU.get (h.2.2.2 c hc).2.1 (fun hm => absurd (hK _ hm) (by have := (h.2.2.2 c hc).1; omega)), (h.2.2.2 c hc).2.2⟩⟩
theorem conOK.ok {w : va_W} {m : Nat} {tf : Nat → Option Nat} {cp ca : Nat → Nat} {cs : Nat → CN} (h : conOK w m tf cp ca cs) : ∀ c, c < m → okC (cs c) := fun c hc => (h.2.2.2 c hc).2.2
theorem mbs_lt {c : CN} (h : okC c) : mbs c < 1024 := Nat.or_lt_two_pow (n := 10) h.2.1 h.2.2.1
theorem and_lt10 {a b : Nat} (h : b < 1024) : a &&& b < 1024 := Nat.lt_of_le_of_lt Nat.and_le_right h
theorem and_lt10' {a b : Nat} (h : a < 1024) : a &&& b < 1024 := Nat.lt_of_le_of_lt Nat.and_le_left h
theorem cnt_10 {x : Nat} (h : x < 1024) : cnt x.testBit 32 = cnt x.testBit 10 := by
  rw [show 32 = 10 + 22 from rfl, cnt_add]
  have : cnt (fun j => x.testBit (10 + j)) 22 = 0 := cnt_zero.mpr (fun j _ => Nat.testBit_lt_two_pow (Nat.lt_of_lt_of_le (show x < 2 ^ 10 from h) (Nat.pow_le_pow_right (by decide) (by omega))))
  rw [this, Nat.add_zero]
theorem shr_and1 (x c : Nat) : (x >>> c) &&& 1 = if x.testBit c then 1 else 0 := by
  rw [Nat.and_one_is_mod, Nat.shiftRight_eq_div_pow]
  have h := Nat.testBit_eq_decide_div_mod_eq (x := x) (i := c)
  rw [h]
  by_cases e : x / 2 ^ c % 2 = 1
  · rw [e]; rfl
  · have : x / 2 ^ c % 2 = 0 := by omega
    rw [this]; rfl
theorem nI_bit (x c : Nat) : nI ((x >>> c) &&& 1) = bI (x.testBit c) := by rw [shr_and1, bI_nI]
theorem or_pow_add {x i : Nat} (h : x < 2 ^ i) : x ||| 2 ^ i = x + 2 ^ i := by
  rw [Nat.or_comm, Nat.add_comm]
  have := Nat.two_pow_add_eq_or_of_lt h 1
  rw [Nat.mul_one] at this
  exact this.symm
theorem bsum_or (g : Nat → Bool) (i : Nat) : bsum g i ||| 2 ^ i = bsum g i + 2 ^ i := or_pow_add (bsum_lt g i)
theorem bsum_and (g : Nat → Bool) (n x : Nat) : bsum g n &&& x = bsum (fun c => g c && x.testBit c) n := by
  apply Nat.eq_of_testBit_eq
  intro i
  rw [Nat.testBit_and, bsum_bit, bsum_bit]
  cases decide (i < n) <;> rfl
def orS (g : Nat → Nat) : Nat → Nat
  | 0 => 0
  | n + 1 => orS g n ||| g n
theorem orS_lt {g : Nat → Nat} {n k : Nat} (h : ∀ c, c < n → g c < 2 ^ k) : orS g n < 2 ^ k := by
  induction n with
  | zero => exact Nat.two_pow_pos k
  | succ n ih => exact Nat.or_lt_two_pow (ih (fun c hc => h c (by omega))) (h n (by omega))
theorem orS_bit {g : Nat → Nat} {n v : Nat} : (orS g n).testBit v = true ↔ ∃ c, c < n ∧ (g c).testBit v = true := by
  induction n with
  | zero => simp [orS]
  | succ n ih =>
    simp only [orS, Nat.testBit_or, Bool.or_eq_true, ih]
    constructor
    · rintro (⟨c, hc, h⟩ | h)
      · exact ⟨c, by omega, h⟩
      · exact ⟨n, by omega, h⟩
    · rintro ⟨c, hc, h⟩
      rcases Nat.lt_or_ge c n with q | q
      · exact Or.inl ⟨c, q, h⟩
      · rw [show c = n by omega] at h; exact Or.inr h
/-- the constraints that aren't dropped and have a variable of a set -/
def touchN (cs : Nat → CN) (lv m x : Nat) : Nat := bsum (fun c => decide ((mbs (cs c) &&& x) ≠ 0) && lv.testBit c) m
/-- the variables of some constraints -/
def memN (cs : Nat → CN) (m x : Nat) : Nat := orS (fun c => if x.testBit c then mbs (cs c) else 0) m
/-- some constraints hold -/
def metN (cs : Nat → CN) (m x a : Nat) : Bool := allB (fun c => !x.testBit c || heldC (cs c) a) m
theorem memN_lt {cs : Nat → CN} {m x : Nat} (h : ∀ c, c < m → okC (cs c)) : memN cs m x < 1024 := orS_lt (k := 10) (fun c hc => by split; exact mbs_lt (h c hc); decide)
theorem touchN_lt (cs : Nat → CN) (lv m x : Nat) : touchN cs lv m x < 2 ^ m := bsum_lt _ _
def rdO (f : Nat → Option Nat) (n : Nat) (i : Int32) : Option Nat := if 0 ≤ i.toInt ∧ i.toInt < n then f i.toNatClampNeg else none
theorem rdO_nI {f : Nat → Option Nat} {j n : Nat} (hj : j < n) (hn : n < 2 ^ 31) : rdO f n (nI j) = f j := by
  unfold rdO; rw [if_pos (in_nI hj hn), nI_clamp (by omega)]
section JC
variable {p : Program} {l : Launch} {e : Env} {R : Room} {s : State} {m : MethodId} {args : Array Value} {below : List Frame} {meth : Method} {c : Code} {H : Heap} {locs : List Loc} {cells slots : Nat} {Q : State → Prop}
variable {cc : ByteArray} {pc : Nat} {ls : Array Slot} {rest st : List Value} {D : va_G} {cy : Nat → ClassId} {A : Nat → Prop} {H0 : Heap} {w : va_W} {Ts : List Cond} {nL : Nat} {own : String}
theorem lv_topv_to {x y : Value} (h : x = y) (k : W p l e R s m args below meth c H locs cells slots Q (F0 m pc ls (y :: rest))) : W p l e R s m args below meth c H locs cells slots Q (F0 m pc ls (x :: rest)) := h ▸ k
/-- the abstract method -/
abbrev xMet : MethodName := ⟨"Countfall$Constraint", "isMetBy", "(I)Z"⟩
theorem j_callA {C : String} {index maxL mc ms n k b ci : Nat} {y : MethodName} {bytes : ByteArray} {ret : Option FieldType} {ws' : List Cond} {rm : Room} {As : List Value} {post : Option Value → va_W → Prop} {q : vw_C} {fs : List Value}
    (S : CallFix p m c cc nL s args Ts own) (hK : jK D cy s) (hA : ∀ q, H0.size ≤ q → A q) (hW : jW D A H0 w H locs)
    (hM : jM l y (Cond.code y bytes maxL ret :: ws') rm D cy w (.ref b :: As) mc ms post) (hG : GoodIn Ts (va_wsU own index C "Countfall$Constraint" xMet y (Cond.code y bytes maxL ret :: ws'))) (hn1 : n = 1)
    (he : w[k]? = some (b, .inr (ci, fs))) (hc : vwCl[ci]? = some q) (hq : q.1 = C)
    (hR : (rm.cells = mc ∧ rm.slots = ms) ∧ rm.frames + 1 ≤ R.frames ∧ 8 + (maxL + 11) + rm.locals ≤ R.locals) (hn : As.length = n) (hl : ls.size = nL) (hst : st = As.reverse ++ .ref b :: rest) (hcat : (rest.map fun v => v.category).sum ≤ 8)
    (hdg : decode cc pc = .ok (.invokevirtual index, 3)) (hf : cells + mc ≤ R.cells ∧ slots + ms ≤ R.slots)
    (kk : ∀ (v : Option Value) (u : va_W) (H1 : Heap) (locs1 : List Loc), post v u → jW D A H0 u H1 locs1 → W p l e R s m args below meth c H1 locs1 (cells + mc) (slots + ms) Q (F0 m (pc + 3) ls (v.toList ++ rest))) :
    W p l e R s m args below meth c H locs cells slots Q (F0 m pc ls st) := by
  subst hst
  subst hn1
  refine j_run (As := .ref b :: As) hA hW (va_runU (C := C) (owner := "Countfall$Constraint") (x := xMet) (As := As) (rest := rest) S (hM H.size) (va_cwA 1 S.2.2.2.2 hG rfl hR.1.1 hR.1.2 hK.2.1 (by decide +kernel) hR.2) ⟨jPre_blind, ?_, fun U hU hw => hW.pre hK hU hw⟩ rfl hn hl rfl (lv_room hcat) hdg hf) kk
  obtain ⟨cell, h1, h2, h3⟩ := hW.recv hK hc he
  exact ⟨cell, h1, h2, by rw [← hq]; exact h3⟩
end JC
