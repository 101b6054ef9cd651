/-! MY OWN ROWS, third part: what the walks' program names -/
section JM
variable {p : Program} {l : Launch} {e : Env} {R : Room} {s : State} {m : MethodId} {args : Array Value} {below : List Frame} {meth : Method} {c : Code} {H : Heap} {locs : List Loc} {cells slots : Nat} {Q : State → Prop}
variable {cc : ByteArray} {pc : Nat} {ls : Array Slot} {rest : List Value}
theorem lv_topi_to {x y : Int32} (h : x = y) (k : W p l e R s m args below meth c H locs cells slots Q (F0 m pc ls (.int y :: rest))) : W p l e R s m args below meth c H locs cells slots Q (F0 m pc ls (.int x :: rest)) := h ▸ k
theorem lv_topl_to {x y : Int64} (h : x = y) (k : W p l e R s m args below meth c H locs cells slots Q (F0 m pc ls (.long y :: rest))) : W p l e R s m args below meth c H locs cells slots Q (F0 m pc ls (.long x :: rest)) := h ▸ k
end JM
theorem nI_iincm {a : Nat} (h : 1 ≤ a) : nI a + Int32.ofInt (-1) = nI (a - 1) := by
  obtain ⟨b, rfl⟩ : ∃ b, a = b + 1 := ⟨a - 1, by omega⟩
  exact pk_m1 b
/-- words: what an object's own start asks -/
theorem woi_i : Cond.instanceMethod objectInit ∈ lw_good := jg_1 (List.mem_of_getElem? (i := 30) rfl) rfl
theorem woi_c : Cond.code objectInit ⟨#[0xb1]⟩ 1 none ∈ lw_good := jg_1 (List.mem_of_getElem? (i := 31) rfl) rfl
-- a row's place that may lie outside
def rdI (f : Nat → Int32) (n : Nat) (i : Int32) : Int32 := if 0 ≤ i.toInt ∧ i.toInt < n then f i.toNatClampNeg else nI 0
def wrI (f : Nat → Int32) (n : Nat) (i x : Int32) : Nat → Int32 := if 0 ≤ i.toInt ∧ i.toInt < n then upd f i.toNatClampNeg x else f
def rdL (f : Nat → Int64) (n : Nat) (i : Int32) : Int64 := if 0 ≤ i.toInt ∧ i.toInt < n then f i.toNatClampNeg else lN 0
def wrL (f : Nat → Int64) (n : Nat) (i : Int32) (x : Int64) : Nat → Int64 := if 0 ≤ i.toInt ∧ i.toInt < n then vp_updL f i.toNatClampNeg x else f
theorem in_neg {i : Int32} {n : Nat} (h : i < 0) : ¬ (0 ≤ i.toInt ∧ i.toInt < n) := fun q => by
  have := Int32.lt_iff_toInt_lt.mp h
  have h0 : (0 : Int32).toInt = 0 := rfl
  omega
theorem in_big {i : Int32} {n : Nat} (h : nI n ≤ i) (hn : n < 2 ^ 31) : ¬ (0 ≤ i.toInt ∧ i.toInt < n) := fun q => by
  have := Int32.le_iff_toInt_le.mp h
  rw [nI_toInt hn] at this
  omega
theorem in_mid {i : Int32} {n : Nat} (h1 : ¬ i < 0) (h2 : ¬ nI n ≤ i) (hn : n < 2 ^ 31) : 0 ≤ i.toInt ∧ i.toInt < n := by
  rw [Int32.lt_iff_toInt_lt] at h1
  rw [Int32.le_iff_toInt_le, nI_toInt hn] at h2
  have h0 : (0 : Int32).toInt = 0 := rfl
  omega
theorem vp_mid {i : Int32} {n : Nat} (h1 : ¬ i < 0) (h2 : ¬ nI n ≤ i) (hn : n < 2 ^ 31) : vp_in i n := vp_in_iff.mpr (in_mid h1 h2 hn)
theorem in_nI {j n : Nat} (hj : j < n) (hn : n < 2 ^ 31) : 0 ≤ (nI j).toInt ∧ (nI j).toInt < n := by rw [nI_toInt (by omega)]; omega
theorem rdI_nI {f : Nat → Int32} {j n : Nat} (hj : j < n) (hn : n < 2 ^ 31) : rdI f n (nI j) = f j := by
  unfold rdI; rw [if_pos (in_nI hj hn), nI_clamp (by omega)]
theorem wrI_nI {f : Nat → Int32} {j n : Nat} {x : Int32} (hj : j < n) (hn : n < 2 ^ 31) : wrI f n (nI j) x = upd f j x := by
  unfold wrI; rw [if_pos (in_nI hj hn), nI_clamp (by omega)]
theorem rdL_nI {f : Nat → Int64} {j n : Nat} (hj : j < n) (hn : n < 2 ^ 31) : rdL f n (nI j) = f j := by
  unfold rdL; rw [if_pos (in_nI hj hn), nI_clamp (by omega)]
theorem wrL_nI {f : Nat → Int64} {j n : Nat} {x : Int64} (hj : j < n) (hn : n < 2 ^ 31) : wrL f n (nI j) x = vp_updL f j x := by
  unfold wrL; rw [if_pos (in_nI hj hn), nI_clamp (by omega)]
theorem out_nI {j n : Nat} (hj : n ≤ j) (hb : j < 2 ^ 31) : ¬ (0 ≤ (nI j).toInt ∧ (nI j).toInt < n) := by rw [nI_toInt hb]; omega
theorem wrI_out {f : Nat → Int32} {j n : Nat} {x : Int32} (hj : n ≤ j) (hb : j < 2 ^ 31) : wrI f n (nI j) x = f := if_neg (out_nI hj hb)
theorem wrL_out {f : Nat → Int64} {j n : Nat} {x : Int64} (hj : n ≤ j) (hb : j < 2 ^ 31) : wrL f n (nI j) x = f := if_neg (out_nI hj hb)
