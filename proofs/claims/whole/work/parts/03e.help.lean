/-! SMALL HELP for the walks' ends, and ghost steps: a row's contents told otherwise -/
theorem bI_T {b : Bool} (h : b = true) : (some (Value.int (nI 1)) : Option Value) = some (.int (bI b)) := by subst h; rfl
theorem bI_F {b : Bool} (h : b = false) : (some (Value.int (nI 0)) : Option Value) = some (.int (bI b)) := by subst h; rfl
theorem vp_ext {cA : ClassId} {n : Nat} {f g : Nat → Value} (h : ∀ j, j < n → f j = g j) : arrV cA n f = arrV cA n g := by
  unfold arrV
  congr 1
  apply Array.ext
  · simp
  · intro i h1 h2
    simp only [Array.size_ofFn] at h1
    simp [h i h1]
section JG
variable {D : va_G} {A : Nat → Prop} {H0 H : Heap} {w : va_W} {locs : List Loc}
theorem j_ghost {q0 a : Nat} {e0 e1 : va_E} (hW : jW D A H0 w H locs) (ha : w[q0]? = some (a, e0)) (h : ∀ H, va_at D vwCl (a, e0) H → va_at D vwCl (a, e1) H) : ∃ w1 : va_W, jU w w1 [q0] ∧ w1[q0]? = some (a, e1) ∧ jW D A H0 w1 H locs :=
  ⟨w.set q0 (a, e1), jU.set, jset ha, hW.1.set hW.2.1 ha (h H (hW.1 q0 _ ha)) (fun _ _ => rfl), hW.2.1.set ha, hW.2.2⟩
theorem j_ghostJ {q0 a n : Nat} {cA : ClassId} {f : Nat → Int64} (g : Nat → Int64) (hW : jW D A H0 w H locs) (ha : w[q0]? = some (a, .inl (cA, n, .inr (.inl f)))) (h : ∀ j, j < n → f j = g j) : ∃ w1 : va_W, jU w w1 [q0] ∧ w1[q0]? = some (a, .inl (cA, n, .inr (.inl g))) ∧ jW D A H0 w1 H locs :=
  j_ghost hW ha (fun H hh => by
    have e : vp_cell cA (n, .inr (.inl f)) = vp_cell cA (n, .inr (.inl g)) := vp_ext (f := fun j => .long (f j)) (g := fun j => .long (g j)) (fun j hj => congrArg Value.long (h j hj))
    show H[a]? = some (vp_cell cA (n, .inr (.inl g)))
    rw [← e]; exact hh)
theorem j_ghostI {q0 a n : Nat} {cA : ClassId} {f : Nat → Int32} (g : Nat → Int32) (hW : jW D A H0 w H locs) (ha : w[q0]? = some (a, .inl (cA, n, .inl f))) (h : ∀ j, j < n → f j = g j) : ∃ w1 : va_W, jU w w1 [q0] ∧ w1[q0]? = some (a, .inl (cA, n, .inl g)) ∧ jW D A H0 w1 H locs :=
  j_ghost hW ha (fun H hh => by
    have e : vp_cell cA (n, .inl f) = vp_cell cA (n, .inl g) := vp_ext (f := fun j => .int (f j)) (g := fun j => .int (g j)) (fun j hj => congrArg Value.int (h j hj))
    show H[a]? = some (vp_cell cA (n, .inl g))
    rw [← e]; exact hh)
end JG
theorem wd_cnt (S : Nat → Bool) (i : Nat) : cnt S (64 * i) + cnt (wdN S i).testBit 64 = cnt S (64 * (i + 1)) := by
  rw [show 64 * (i + 1) = 64 * i + 64 by omega, cnt_add]
  congr 1
  exact cnt_congr (fun b hb => wdN_bit S i b hb)
theorem mixS_end {S T : Nat → Bool} {j : Nat} (h : j < 16) : wd (mixS 16 S T) j = wd S j := congrArg lN (wdN_congr (fun b hb => if_pos (by omega)))
theorem lN_eq64 {a b : Nat} (ha : a < 2 ^ 64) (hb : b < 2 ^ 64) : lN a = lN b ↔ a = b := by
  refine ⟨fun h => ?_, fun h => by rw [h]⟩
  have h1 : (lN a).toBitVec.toNat = (lN b).toBitVec.toNat := by rw [h]
  rwa [wb_tn ha, wb_tn hb] at h1
section JZ
variable {p : Program} {l : Launch} {e : Env} {R : Room} {s : State} {m : MethodId} {args : Array Value} {below : List Frame} {meth : Method} {c : Code} {H : Heap} {locs : List Loc} {cells slots : Nat} {Q : State → Prop}
variable {cc : ByteArray} {pc : Nat} {ls : Array Slot} {rest : List Value} {Ts : List Cond} {nL : Nat} {own : String} {a b : Nat} {off : Int} {tgt : Nat}
theorem jnz_eq (S : CallFix p m c cc nL s args Ts own) (ha : a < 2 ^ 64) (hb : b < 2 ^ 64) (hdg0 : decode cc pc = .ok (.lcmp, 1)) (hdg : decode cc (pc + 1) = .ok (.ifCond .eq off, 3)) (ht : ((pc + 1 : Nat) : Int) + off = (tgt : Int))
    (kt : a = b → W p l e R s m args below meth c H locs cells slots Q (F0 m tgt ls rest)) (kf : a ≠ b → W p l e R s m args below meth c H locs cells slots Q (F0 m (pc + 1 + 3) ls rest)) : W p l e R s m args below meth c H locs cells slots Q (F0 m pc ls (.long (lN b) :: .long (lN a) :: rest)) :=
  jl_eq S hdg0 hdg ht (fun h => kt ((lN_eq64 ha hb).mp h)) (fun h => kf (fun q => h ((lN_eq64 ha hb).mpr q)))
theorem jnz_ne (S : CallFix p m c cc nL s args Ts own) (ha : a < 2 ^ 64) (hb : b < 2 ^ 64) (hdg0 : decode cc pc = .ok (.lcmp, 1)) (hdg : decode cc (pc + 1) = .ok (.ifCond .ne off, 3)) (ht : ((pc + 1 : Nat) : Int) + off = (tgt : Int))
    (kt : a ≠ b → W p l e R s m args below meth c H locs cells slots Q (F0 m tgt ls rest)) (kf : a = b → W p l e R s m args below meth c H locs cells slots Q (F0 m (pc + 1 + 3) ls rest)) : W p l e R s m args below meth c H locs cells slots Q (F0 m pc ls (.long (lN b) :: .long (lN a) :: rest)) :=
  jl_ne S hdg0 hdg ht (fun h => kt (fun q => h ((lN_eq64 ha hb).mpr q))) (fun h => kf ((lN_eq64 ha hb).mp h))
end JZ
/-- two sets joined -/
def cmb (h : Nat) (x y : Bool) : Bool := if h = 97 then x && y else if h = 111 then x || y else x ^^ y
theorem wd_and (S T : Nat → Bool) (i b : Nat) (hb : b < 64) : (wdN S i &&& wdN T i).testBit b = (S (64 * i + b) && T (64 * i + b)) := by rw [Nat.testBit_and, wdN_bit _ _ _ hb, wdN_bit _ _ _ hb]
theorem wd_or (S T : Nat → Bool) (i b : Nat) (hb : b < 64) : (wdN S i ||| wdN T i).testBit b = (S (64 * i + b) || T (64 * i + b)) := by rw [Nat.testBit_or, wdN_bit _ _ _ hb, wdN_bit _ _ _ hb]
theorem wd_xor (S T : Nat → Bool) (i b : Nat) (hb : b < 64) : (wdN S i ^^^ wdN T i).testBit b = (S (64 * i + b) ^^ T (64 * i + b)) := by rw [Nat.testBit_xor, wdN_bit _ _ _ hb, wdN_bit _ _ _ hb]
theorem lN_xor {a b : Nat} (ha : a < 2 ^ 64) (hb : b < 2 ^ 64) : lN a ^^^ lN b = lN (a ^^^ b) := by
  apply wb_inj
  rw [Int64.toBitVec_xor, wb_tb, wb_tb, wb_tb]
  apply BitVec.eq_of_toNat_eq
  rw [BitVec.toNat_xor, BitVec.toNat_ofNat, BitVec.toNat_ofNat, BitVec.toNat_ofNat, Nat.mod_eq_of_lt ha, Nat.mod_eq_of_lt hb, Nat.mod_eq_of_lt (Nat.xor_lt_two_pow ha hb)]
