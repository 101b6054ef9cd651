/-! THE START: what the tables say (laid by wip/whole/tools, from the specs there) -/
theorem t1 {w : Cond} (h : w ∈ tables_1_1) : w ∈ lw_tbl := List.mem_append_right _ (List.mem_append_left _ h)
theorem t2 {w : Cond} (h : w ∈ tables_1_2) : w ∈ lw_tbl := List.mem_append_right _ (List.mem_append_right _ (List.mem_append_left _ h))
theorem t3 {w : Cond} (h : w ∈ tables_1_3) : w ∈ lw_tbl := List.mem_append_right _ (List.mem_append_right _ (List.mem_append_right _ (List.mem_append_left _ h)))
theorem t4 {w : Cond} (h : w ∈ tables_1_4) : w ∈ lw_tbl := List.mem_append_right _ (List.mem_append_right _ (List.mem_append_right _ (List.mem_append_right _ (List.mem_append_left _ h))))
theorem t5 {w : Cond} (h : w ∈ tables_1_5) : w ∈ lw_tbl := List.mem_append_right _ (List.mem_append_right _ (List.mem_append_right _ (List.mem_append_right _ (List.mem_append_right _ (List.mem_append_left _ h)))))
theorem t6 {w : Cond} (h : w ∈ tables_1_6) : w ∈ lw_tbl := List.mem_append_right _ (List.mem_append_right _ (List.mem_append_right _ (List.mem_append_right _ (List.mem_append_right _ (List.mem_append_right _ (h))))))
theorem vk_ex {own tx : String} {k : Nat} {Z : Array Value} {U : State} (h : (Cond.stringRef own k tx).before Z U = true) : ∃ a, vk_R own k tx a U := by
  have h0 : (Cond.stringRef own k tx).before #[] U = true := h
  have hcur : ∃ cur, U.vm.findClass own = some cur := by
    have h1 := h0
    simp only [Cond.before, Cond.holds, Cond.value] at h1
    cases hc : U.vm.findClass own with
    | none => simp [hc] at h1
    | some cur => exact ⟨cur, rfl⟩
  obtain ⟨cur, hcur⟩ := hcur
  obtain ⟨-, -, -, a, -, -, -, -, -, ha⟩ := Cond.stringRef_spec hcur h0
  exact ⟨a, h0, ha⟩
section JST
variable {s : State} {Z : Array Value}
theorem st_texts (hts : ∀ w ∈ lw_tbl, w.before Z s = true) : ∀ q ∈ jTexts, ∃ a, vk_R RX11 q.1 q.2 a s := List.forall_mem_cons.mpr ⟨vk_ex (hts _ (t2 (List.mem_of_getElem? (i := 212) rfl))), List.forall_mem_cons.mpr ⟨vk_ex (hts _ (t3 (List.mem_of_getElem? (i := 27) rfl))), List.forall_mem_cons.mpr ⟨vk_ex (hts _ (t3 (List.mem_of_getElem? (i := 43) rfl))), List.forall_mem_cons.mpr ⟨vk_ex (hts _ (t3 (List.mem_of_getElem? (i := 61) rfl))), List.forall_mem_cons.mpr ⟨vk_ex (hts _ (t3 (List.mem_of_getElem? (i := 66) rfl))), List.forall_mem_cons.mpr ⟨vk_ex (hts _ (t3 (List.mem_of_getElem? (i := 75) rfl))), List.forall_mem_cons.mpr ⟨vk_ex (hts _ (t3 (List.mem_of_getElem? (i := 123) rfl))), List.forall_mem_cons.mpr ⟨vk_ex (hts _ (t3 (List.mem_of_getElem? (i := 143) rfl))), List.forall_mem_cons.mpr ⟨vk_ex (hts _ (t3 (List.mem_of_getElem? (i := 171) rfl))), List.forall_mem_cons.mpr ⟨vk_ex (hts _ (t3 (List.mem_of_getElem? (i := 176) rfl))), List.forall_mem_cons.mpr ⟨vk_ex (hts _ (t3 (List.mem_of_getElem? (i := 195) rfl))), List.forall_mem_cons.mpr ⟨vk_ex (hts _ (t3 (List.mem_of_getElem? (i := 236) rfl))), List.forall_mem_cons.mpr ⟨vk_ex (hts _ (t4 (List.mem_of_getElem? (i := 38) rfl))), List.forall_mem_cons.mpr ⟨vk_ex (hts _ (t4 (List.mem_of_getElem? (i := 53) rfl))), List.forall_mem_cons.mpr ⟨vk_ex (hts _ (t4 (List.mem_of_getElem? (i := 54) rfl))), List.forall_mem_cons.mpr ⟨vk_ex (hts _ (t4 (List.mem_of_getElem? (i := 89) rfl))), List.forall_mem_cons.mpr ⟨vk_ex (hts _ (t4 (List.mem_of_getElem? (i := 97) rfl))), List.forall_mem_cons.mpr ⟨vk_ex (hts _ (t4 (List.mem_of_getElem? (i := 120) rfl))), List.forall_mem_cons.mpr ⟨vk_ex (hts _ (t4 (List.mem_of_getElem? (i := 139) rfl))), List.forall_mem_cons.mpr ⟨vk_ex (hts _ (t4 (List.mem_of_getElem? (i := 152) rfl))), List.forall_mem_cons.mpr ⟨vk_ex (hts _ (t4 (List.mem_of_getElem? (i := 161) rfl))), List.forall_mem_cons.mpr ⟨vk_ex (hts _ (t4 (List.mem_of_getElem? (i := 176) rfl))), List.forall_mem_cons.mpr ⟨vk_ex (hts _ (t5 (List.mem_of_getElem? (i := 5) rfl))), fun _ h => absurd h List.not_mem_nil⟩⟩⟩⟩⟩⟩⟩⟩⟩⟩⟩⟩⟩⟩⟩⟩⟩⟩⟩⟩⟩⟩⟩
theorem st_jXS (hts : ∀ w ∈ lw_tbl, w.before Z s = true) : jXS jTexts s := ⟨st_texts hts, List.forall_mem_cons.mpr ⟨va_Nw.of rfl (hts _ (t2 (List.mem_of_getElem? (i := 171) rfl))), List.forall_mem_cons.mpr ⟨va_Nw.of rfl (hts _ (t3 (List.mem_of_getElem? (i := 20) rfl))), List.forall_mem_cons.mpr ⟨va_Nw.of rfl (hts _ (t3 (List.mem_of_getElem? (i := 36) rfl))), List.forall_mem_cons.mpr ⟨va_Nw.of rfl (hts _ (t3 (List.mem_of_getElem? (i := 229) rfl))), List.forall_mem_cons.mpr ⟨va_Nw.of rfl (hts _ (t4 (List.mem_of_getElem? (i := 169) rfl))), fun _ h => absurd h List.not_mem_nil⟩⟩⟩⟩⟩, List.forall_mem_cons.mpr ⟨va_Nw.of rfl (hts _ (t2 (List.mem_of_getElem? (i := 173) rfl))), List.forall_mem_cons.mpr ⟨va_Nw.of rfl (hts _ (t2 (List.mem_of_getElem? (i := 175) rfl))), List.forall_mem_cons.mpr ⟨va_Nw.of rfl (hts _ (t2 (List.mem_of_getElem? (i := 177) rfl))), fun _ h => absurd h List.not_mem_nil⟩⟩⟩⟩
theorem st_jEnv (hts : ∀ w ∈ lw_tbl, w.before Z s = true) : jEnv s := ⟨va_Nw.of rfl (hts _ (t2 (List.mem_of_getElem? (i := 1) rfl))), ⟨va_Nw.of rfl (hts _ (t6 (List.mem_of_getElem? (i := 143) rfl))), va_Nw.of rfl (hts _ (t6 (List.mem_of_getElem? (i := 144) rfl))), va_Nw.of rfl (hts _ (t6 (List.mem_of_getElem? (i := 145) rfl)))⟩, ⟨va_Nw.of rfl (hts _ (t1 (List.mem_of_getElem? (i := 56) rfl))), va_Nw.of rfl (hts _ (t1 (List.mem_of_getElem? (i := 74) rfl))), va_Nw.of rfl (hts _ (t1 (List.mem_of_getElem? (i := 97) rfl))), va_Nw.of rfl (hts _ (t1 (List.mem_of_getElem? (i := 112) rfl))), va_Nw.of rfl (hts _ (t1 (List.mem_of_getElem? (i := 132) rfl)))⟩, va_AO.of (hts _ (t1 (List.mem_of_getElem? (i := 61) rfl))), va_AO.of (hts _ (t1 (List.mem_of_getElem? (i := 157) rfl))), hts _ (t5 (List.mem_of_getElem? (i := 35) rfl))⟩
theorem st_cls (hts : ∀ w ∈ lw_tbl, w.before Z s = true) : ∀ q ∈ vwCl, ∃ (cC : ClassId) (iS : Nat → Nat), u_Kn s q.1 q.2.1 q.2.2 cC iS := List.forall_mem_cons.mpr ⟨u_known (ws := lw_good) (fun w h => hts w (jg_tbl w h)) inG0 (hts _ (jg_tbl _ wmk_X0)), List.forall_mem_cons.mpr ⟨u_known (ws := lw_good) (fun w h => hts w (jg_tbl w h)) inG1 (hts _ (jg_tbl _ wmk_X1)), List.forall_mem_cons.mpr ⟨u_known (ws := lw_good) (fun w h => hts w (jg_tbl w h)) inG2 (hts _ (jg_tbl _ wmk_X2)), List.forall_mem_cons.mpr ⟨u_known (ws := lw_good) (fun w h => hts w (jg_tbl w h)) inG3 (hts _ (jg_tbl _ wmk_X3)), List.forall_mem_cons.mpr ⟨u_known (ws := lw_good) (fun w h => hts w (jg_tbl w h)) inG5 (hts _ (jg_tbl _ wmk_X5)), List.forall_mem_cons.mpr ⟨u_known (ws := lw_good) (fun w h => hts w (jg_tbl w h)) inG6 (hts _ (jg_tbl _ wmk_X6)), List.forall_mem_cons.mpr ⟨u_known (ws := lw_good) (fun w h => hts w (jg_tbl w h)) inG7 (hts _ (jg_tbl _ wmk_X7)), List.forall_mem_cons.mpr ⟨u_known (ws := lw_good) (fun w h => hts w (jg_tbl w h)) inG8 (hts _ (jg_tbl _ wmk_X8)), List.forall_mem_cons.mpr ⟨u_known (ws := lw_good) (fun w h => hts w (jg_tbl w h)) inG9 (hts _ (jg_tbl _ wmk_X9)), List.forall_mem_cons.mpr ⟨u_known (ws := lw_good) (fun w h => hts w (jg_tbl w h)) inG10 (hts _ (jg_tbl _ wmk_X10)), List.forall_mem_cons.mpr ⟨u_known (ws := lw_good) (fun w h => hts w (jg_tbl w h)) inG11 (hts _ (jg_tbl _ wmk_X11)), List.forall_mem_cons.mpr ⟨u_known (ws := lw_good) (fun w h => hts w (jg_tbl w h)) inG12 (hts _ (jg_tbl _ wmk_X12)), fun _ h => absurd h List.not_mem_nil⟩⟩⟩⟩⟩⟩⟩⟩⟩⟩⟩⟩
theorem st_prim {ty : FieldType} (h : (Cond.arrayClass ty).before Z s = true) : ∃ cA, ArrOfT s cA ty ∧ s.vm.findClass ("[" ++ ty.toString) = some cA := by
  obtain ⟨cA, kA, comp, h1, h2, h3⟩ := Cond.arrayClass_spec h
  exact ⟨cA, fun n z => ⟨fun k h => (by cases h), kA, h2, comp, h3⟩, h1⟩
theorem st_obj {C : String} (h : (Cond.arrayOver (.object C)).before Z s = true) : ∃ cA, ArrOfT s cA (.object C) ∧ va_RA s cA (.object C) := by
  obtain ⟨comp, cA, kA, h1, -, h2, h3, h4⟩ := Cond.arrayOver_spec h
  exact ⟨cA, fun n z => ⟨fun k h => (by cases h), kA, h2, comp, h3⟩, kA, comp, h2, h3, h1, h4⟩
theorem st_arr {ty : FieldType} (h : (Cond.arrayOver (.array ty)).before Z s = true) : ∃ cA, ArrOfT s cA (.array ty) ∧ s.vm.findClass ("[" ++ (FieldType.array ty).toString) = some cA := by
  obtain ⟨comp, cA, kA, h1, h2, h3, h4⟩ := Cond.arrayOver_specA h
  exact ⟨cA, fun n z => ⟨fun k h => (by cases h), kA, h2, comp, h3⟩, h4⟩
theorem st_jK (hts : ∀ w ∈ lw_tbl, w.before Z s = true) : ∃ (D : va_G) (cy : Nat → ClassId), jK D cy s := by
  have hall := st_cls hts
  obtain ⟨c0, i0, -⟩ := hall _ List.mem_cons_self
  have hc : ∀ c : Nat, ∃ x : ClassId × (Nat → Nat), ∀ q, vwCl[c]? = some q → u_Kn s q.1 q.2.1 q.2.2 x.1 x.2 := by
    intro c
    cases e : vwCl[c]? with
    | none => exact ⟨(c0, i0), fun q h => by cases h⟩
    | some q =>
      obtain ⟨cC, iS, h⟩ := hall q (List.mem_of_getElem? e)
      exact ⟨(cC, iS), fun q1 h1 => by cases h1; exact h⟩
  obtain ⟨f, hf⟩ := Classical.axiomOfChoice hc
  obtain ⟨y0, a0, b0⟩ := st_prim (s := s) (Z := Z) (hts _ (t1 (List.mem_of_getElem? (i := 42) rfl)))
  obtain ⟨y1, a1, b1⟩ := st_prim (s := s) (Z := Z) (hts _ (t1 (List.mem_of_getElem? (i := 53) rfl)))
  obtain ⟨y2, a2, b2⟩ := st_prim (s := s) (Z := Z) (hts _ (t5 (List.mem_of_getElem? (i := 88) rfl)))
  obtain ⟨y3, a3, b3⟩ := st_prim (s := s) (Z := Z) (hts _ (t5 (List.mem_of_getElem? (i := 89) rfl)))
  obtain ⟨y4, a4, b4⟩ := st_obj (s := s) (Z := Z) (hts _ (t1 (List.mem_of_getElem? (i := 157) rfl)))
  obtain ⟨y5, a5, b5⟩ := st_obj (s := s) (Z := Z) (hts _ (t1 (List.mem_of_getElem? (i := 61) rfl)))
  obtain ⟨y6, a6, b6⟩ := st_arr (s := s) (Z := Z) (hts _ (t5 (List.mem_of_getElem? (i := 35) rfl)))
  obtain ⟨y7, a7, b7⟩ := st_prim (s := s) (Z := Z) (hts _ (t6 (List.mem_of_getElem? (i := 122) rfl)))
  refine ⟨(fun c => (f c).1, fun c => (f c).2), fun k => [y0, y1, y2, y3, y4, y5, y6, y7].getD k y0, ⟨fun c q hq => hf c q hq, fun k q hq => ?_⟩, st_jEnv hts⟩
  have hk : k < 8 := (List.getElem?_eq_some_iff.mp hq).1
  rcases (show k = 0 ∨ k = 1 ∨ k = 2 ∨ k = 3 ∨ k = 4 ∨ k = 5 ∨ k = 6 ∨ k = 7 by omega) with rfl | rfl | rfl | rfl | rfl | rfl | rfl | rfl
  · cases hq; exact ⟨a0, b0⟩
  · cases hq; exact ⟨a1, b1⟩
  · cases hq; exact ⟨a2, b2⟩
  · cases hq; exact ⟨a3, b3⟩
  · cases hq; exact ⟨a4, b4⟩
  · cases hq; exact ⟨a5, b5⟩
  · cases hq; exact ⟨a6, b6⟩
  · cases hq; exact ⟨a7, b7⟩
end JST
theorem st_nc {Fl : List Cond} (h : ∀ X ∈ jExc, ∀ Y ∈ jExc, X ≠ Y → Cond.not (.castable X Y) ∈ Fl) {Z : Array Value} {s : State} (hflat : ∀ w ∈ Fl, w.before Z s = true) : jNC s := fun X hX Y hY hn => va_Nc.of (hflat _ (h X hX Y hY hn))
