/-! COUNTFALL: circuits of the models (laid by wip/whole/tools, from the specs there) -/
/-! COUNTFALL: slots. kv: the number of variables that a slot keeps (-1: nothing), kx: what it keeps -/
def slOK (w : va_W) (ad : Nat → Nat) (cy : Nat → ClassId) (kv : Nat → Int32) (kx : Nat → Nat → Bool) : Prop :=
  ∀ j, j < 4 → w[43 + 3 * j]? = some (ad (43 + 3 * j), .inr (0, [.ref (ad (44 + 3 * j)), .int (kv j)])) ∧ w[44 + 3 * j]? = some (ad (44 + 3 * j), .inr (6, [.ref (ad (45 + 3 * j))])) ∧ w[45 + 3 * j]? = some (ad (45 + 3 * j), .inl (cy 1, 16, .inr (.inl (wd (kx j)))))
theorem slOK.kept {w u : va_W} {ad : Nat → Nat} {cy : Nat → ClassId} {kv : Nat → Int32} {kx : Nat → Nat → Bool} {K : List Nat} (h : slOK w ad cy kv kx) (hU : jU w u K) (hK : ∀ k ∈ K, k < 43 ∨ 54 < k) : slOK u ad cy kv kx := fun j hj => by
  obtain ⟨a, b, c⟩ := h j hj
  exact ⟨hU.get a (fun q => by have := hK _ q; omega), hU.get b (fun q => by have := hK _ q; omega), hU.get c (fun q => by have := hK _ q; omega)⟩
/-- what is kept lies within its variables -/
def kvI (kv : Nat → Int32) (kx : Nat → Nat → Bool) : Prop := ∀ j, j < 4 → kv j = -1 ∨ ∃ m, m ≤ 10 ∧ kv j = nI m ∧ ∀ a, 2 ^ m ≤ a → kx j a = false
theorem kvI_hi {kv : Nat → Int32} {kx : Nat → Nat → Bool} {j n : Nat} (h : kvI kv kx) (hj : j < 4) (hn : n ≤ 10) (hk : kv j = nI n) : ∀ a, 2 ^ n ≤ a → kx j a = false := by
  rcases h j hj with q | ⟨m, h1, h2, h3⟩
  · rw [hk] at q; exact absurd q (by have := nI_toInt (show n < 2 ^ 31 by omega); intro e; rw [e] at this; have c : (-1 : Int32).toInt = -1 := (by decide); omega)
  · have : m = n := (nI_eq (by omega) (by omega)).mp (h2.symm.trans hk)
    rw [← this]; exact h3
theorem nI_nm1 {n : Nat} (h : n ≤ 10) : nI n ≠ -1 := fun e => by
  have := nI_toInt (show n < 2 ^ 31 by omega)
  rw [e] at this
  have c : (-1 : Int32).toInt = -1 := by decide
  omega
/-- a way to join -/
def howB (h : Nat) : Prop := h = 97 ∨ h = 111 ∨ h = 120
/-- the last one's number among those that are hit, or 0 -/
def lstN (h : Nat → Bool) (f : Nat → Nat) : Nat → Nat
  | 0 => 0
  | k + 1 => if h k then f k else lstN h f k
theorem lstN_t {h : Nat → Bool} {f : Nat → Nat} {k : Nat} (e : h k = true) : lstN h f (k + 1) = f k := if_pos e
theorem lstN_f {h : Nat → Bool} {f : Nat → Nat} {k : Nat} (e : h k = false) : lstN h f (k + 1) = lstN h f k := if_neg (by rw [e]; decide)
/-- nodes -/
theorem c_X11_nodes (l : Launch) (D : va_G) (cy : Nat → ClassId) {w : va_W} (ad : Nat → Nat) (n sd se : Nat) (fr : Bool) (nc lv : Nat) (tf : Nat → Option Nat) (cp ca : Nat → Nat) (cs : Nat → CN) (mv : Int32) (MX : Nat → Bool) (sz : Nat) (tp fw tw yw pcn od : Nat → Nat) (hO : w[0]? = some (ad 0, .inr (10, [.int (nI n), .ref (ad 1), .ref (ad 3), .ref (ad 5), .int (nI sd), .int (nI se), .ref (ad 7), .ref (ad 9), .ref (ad 11), .ref (ad 20), .int (bI fr), .ref (ad 23), .ref (ad 26), .ref (ad 31), .ref (ad 42)]))) (hMo : w[20]? = some (ad 20, .inr (0, [.ref (ad 21), .int mv]))) (hMl : w[21]? = some (ad 21, .inr (6, [.ref (ad 22)]))) (hMa : w[22]? = some (ad 22, .inl (cy 1, 16, .inr (.inl (wd MX))))) (hC : w[9]? = some (ad 9, .inr (4, [.ref (ad 10), .int (nI nc), .int (nI lv)]))) (hT : w[10]? = some (ad 10, .inl (cy 5, 20, .inr (.inr (.inr (.inr tf)))))) (hX : w[31]? = some (ad 31, .inr (2, [.ref (ad 32), .ref (ad 34), .ref (ad 36), .ref (ad 38), .ref (ad 40), .int (nI sz)]))) (hXto : w[32]? = some (ad 32, .inr (5, [.ref (ad 33)]))) (hXta : w[33]? = some (ad 33, .inl (cy 0, 1024, .inl (nf tp)))) (hXfo : w[34]? = some (ad 34, .inr (5, [.ref (ad 35)]))) (hXfa : w[35]? = some (ad 35, .inl (cy 0, 272, .inl (nf fw)))) (hXwo : w[36]? = some (ad 36, .inr (5, [.ref (ad 37)]))) (hXwa : w[37]? = some (ad 37, .inl (cy 0, 272, .inl (nf tw)))) (hXyo : w[38]? = some (ad 38, .inr (5, [.ref (ad 39)]))) (hXya : w[39]? = some (ad 39, .inl (cy 0, 272, .inl (nf yw)))) (hXpo : w[40]? = some (ad 40, .inr (5, [.ref (ad 41)]))) (hXpa : w[41]? = some (ad 41, .inl (cy 0, 10, .inl (nf pcn)))) (hOo : w[7]? = some (ad 7, .inr (5, [.ref (ad 8)]))) (hOa : w[8]? = some (ad 8, .inl (cy 0, 10, .inl (nf od)))) (hcon : conOK w nc tf cp ca cs) (hn : n ≤ 10) (hsd : sd < 1024) (hse : se < 1024) (hlv : lv < 2 ^ 20) (hfr : fr = true → mv = nI n ∧ MX = mdl n sd se nc cs lv) (hod : ∀ j, od j < 10) (hf : ∀ a, fw a < 272) (ht : ∀ a, tw a < 272) : jM l yX11_nodes (jws yX11_nodes cX11_nodes 1 (some .int)) (jR 6 0 0) D cy w [.ref (ad 0)] 0 0 (fun vv uu => ∃ (sz1 : Nat), ∃ (tp1 : Nat → Nat), ∃ (fw1 : Nat → Nat), ∃ (tw1 : Nat → Nat), ∃ (yw1 : Nat → Nat), ∃ (pcn1 : Nat → Nat), vv = some (.int (nI (sumN (nodesB (fun d => (mdl n sd se nc cs lv) (layP n od d n)) n) n))) ∧ ((∀ a, fw1 a < 272) ∧ (∀ a, tw1 a < 272)) ∧ jU w uu [0, 20, 22, 31, 33, 35, 37, 39, 41] ∧ uu[0]? = some (ad 0, .inr (10, [.int (nI n), .ref (ad 1), .ref (ad 3), .ref (ad 5), .int (nI sd), .int (nI se), .ref (ad 7), .ref (ad 9), .ref (ad 11), .ref (ad 20), .int (bI true), .ref (ad 23), .ref (ad 26), .ref (ad 31), .ref (ad 42)])) ∧ uu[20]? = some (ad 20, .inr (0, [.ref (ad 21), .int (nI n)])) ∧ uu[22]? = some (ad 22, .inl (cy 1, 16, .inr (.inl (wd (mdl n sd se nc cs lv))))) ∧ uu[31]? = some (ad 31, .inr (2, [.ref (ad 32), .ref (ad 34), .ref (ad 36), .ref (ad 38), .ref (ad 40), .int (nI sz1)])) ∧ uu[33]? = some (ad 33, .inl (cy 0, 1024, .inl (nf tp1))) ∧ uu[35]? = some (ad 35, .inl (cy 0, 272, .inl (nf fw1))) ∧ uu[37]? = some (ad 37, .inl (cy 0, 272, .inl (nf tw1))) ∧ uu[39]? = some (ad 39, .inl (cy 0, 272, .inl (nf yw1))) ∧ uu[41]? = some (ad 41, .inl (cy 0, 10, .inl (nf pcn1)))) := by
  refine j_of (by decide) rfl (Nat.le_of_ble_eq_true rfl) ?_
  intro p e s m args below meth c A ls Q hQ S hr hK hA H locs hW hl
  have hl : lv_has ls 1 [(0, .ref (ad 0))] := hl
  refine lv_aload_n S.1 S.2.1 dX11_nodes_0 rfl (lv_at hl 0 rfl) ?_
  refine lv_aload_n S.1 S.2.1 dX11_nodes_1 rfl (lv_at hl 0 rfl) ?_
  refine j_callV (k := 0) (ci := 10) (q := (RX11, TX11, 15)) (As := []) (rest := [.ref (ad 0)]) S hK hA hW (c_X11_freshModels l D cy ad n sd se fr nc lv tf cp ca cs mv MX hO hMo hMl hMa hC hT hcon  (by omega) (by omega) (by omega) (by omega) (by first | omega | exact fun _ => ⟨rfl, rfl⟩)) (jgo wm_X11_199) yk_X11_freshModels hO rfl rfl ⟨⟨rfl, rfl⟩, by decide, by decide⟩ rfl hl.1 rfl (Nat.le_of_ble_eq_true rfl) dX11_nodes_2 ⟨Nat.le_of_ble_eq_true rfl, Nat.le_of_ble_eq_true rfl⟩ (fun v w_ H locs hp hW => ?_)
  obtain ⟨rfl, hU1, hN1, hN2, hN3⟩ := hp
  have hU : jU w w_ [0, 20, 22, 31, 33, 35, 37, 39, 41] := jU.mono hU1 (by decide)
  have hX_ := hU1.get hX (by decide)
  have hXta_ := hU1.get hXta (by decide)
  have hXfa_ := hU1.get hXfa (by decide)
  have hXwa_ := hU1.get hXwa (by decide)
  have hXya_ := hU1.get hXya (by decide)
  have hXpa_ := hU1.get hXpa (by decide)
  have hO_ : w_[0]? = some (ad 0, .inr (10, [.int (nI n), .ref (ad 1), .ref (ad 3), .ref (ad 5), .int (nI sd), .int (nI se), .ref (ad 7), .ref (ad 9), .ref (ad 11), .ref (ad 20), .int (bI true), .ref (ad 23), .ref (ad 26), .ref (ad 31), .ref (ad 42)])) := hN1
  have hMo_ : w_[20]? = some (ad 20, .inr (0, [.ref (ad 21), .int (nI n)])) := hN2
  have hMa_ : w_[22]? = some (ad 22, .inl (cy 1, 16, .inr (.inl (wd (mdl n sd se nc cs lv))))) := hN3
  clear hU1 hN1 hN2 hN3
  refine W.eq (g2 := F0 m 5 ls [.ref (ad 20), .ref (ad 0)]) rfl ?_
  refine j_callV (k := 0) (ci := 10) (q := (RX11, TX11, 15)) (As := [.ref (ad 20)]) (rest := []) S hK hA hW (c_X11_countNodes l D cy 20 21 22 (ad 20) (ad 21) (ad 22) n (mdl n sd se nc cs lv) ad sd se true sz tp fw tw yw pcn od hMo_ (hU.get hMl (by decide)) hMa_ hO_ hX_ (hU.get hXto (by decide)) hXta_ (hU.get hXfo (by decide)) hXfa_ (hU.get hXwo (by decide)) hXwa_ (hU.get hXyo (by decide)) hXya_ (hU.get hXpo (by decide)) hXpa_ (hU.get hOo (by decide)) (hU.get hOa (by decide))   (by omega) (hod) (hf) (ht) (by omega)) (jgo wm_X11_260) yk_X11_countNodes hO_ rfl rfl ⟨⟨rfl, rfl⟩, by decide, by decide⟩ rfl hl.1 rfl (Nat.le_of_ble_eq_true rfl) dX11_nodes_5 ⟨Nat.le_of_ble_eq_true rfl, Nat.le_of_ble_eq_true rfl⟩ (fun v w_ H locs hp hW => ?_)
  obtain ⟨sz1_5, tp1_5, fw1_5, tw1_5, yw1_5, pcn1_5, rfl, hp5_0, hU1, hN1, hN2, hN3, hN4, hN5, hN6⟩ := hp
  have hU := hU.then hU1 (by decide)
  have hO_ := hU1.get hO_ (by decide)
  have hMo_ := hU1.get hMo_ (by decide)
  have hMa_ := hU1.get hMa_ (by decide)
  have hX_ : w_[31]? = some (ad 31, .inr (2, [.ref (ad 32), .ref (ad 34), .ref (ad 36), .ref (ad 38), .ref (ad 40), .int (nI sz1_5)])) := hN1
  have hXta_ : w_[33]? = some (ad 33, .inl (cy 0, 1024, .inl (nf tp1_5))) := hN2
  have hXfa_ : w_[35]? = some (ad 35, .inl (cy 0, 272, .inl (nf fw1_5))) := hN3
  have hXwa_ : w_[37]? = some (ad 37, .inl (cy 0, 272, .inl (nf tw1_5))) := hN4
  have hXya_ : w_[39]? = some (ad 39, .inl (cy 0, 272, .inl (nf yw1_5))) := hN5
  have hXpa_ : w_[41]? = some (ad 41, .inl (cy 0, 10, .inl (nf pcn1_5))) := hN6
  clear hU1 hN1 hN2 hN3 hN4 hN5 hN6
  refine W.eq (g2 := F0 m 8 ls [.int (nI (sumN (nodesB (fun d => (mdl n sd se nc cs lv) (layP n od d n)) n) n))]) rfl ?_
  subst hQ
  exact j_iret (u := w_) S hr (rfl) hK hW dX11_nodes_8 ⟨by decide, by decide⟩ (⟨_, _, _, _, _, _, rfl, hp5_0, hU, hO_, hMo_, hMa_, hX_, hXta_, hXfa_, hXwa_, hXya_, hXpa_⟩)
/-- nodesFor -/
theorem c_X11_nodesFor (l : Launch) (htr : l.stackTraces = false) (D : va_G) (cy : Nat → ClassId) {w : va_W} (ad : Nat → Nat) (n sd se : Nat) (fr : Bool) (nc lv : Nat) (tf : Nat → Option Nat) (cp ca : Nat → Nat) (cs : Nat → CN) (mv : Int32) (MX : Nat → Bool) (sz : Nat) (tp fw tw yw pcn od : Nat → Nat) (v : Int32) (hO : w[0]? = some (ad 0, .inr (10, [.int (nI n), .ref (ad 1), .ref (ad 3), .ref (ad 5), .int (nI sd), .int (nI se), .ref (ad 7), .ref (ad 9), .ref (ad 11), .ref (ad 20), .int (bI fr), .ref (ad 23), .ref (ad 26), .ref (ad 31), .ref (ad 42)]))) (hMo : w[20]? = some (ad 20, .inr (0, [.ref (ad 21), .int mv]))) (hMl : w[21]? = some (ad 21, .inr (6, [.ref (ad 22)]))) (hMa : w[22]? = some (ad 22, .inl (cy 1, 16, .inr (.inl (wd MX))))) (hC : w[9]? = some (ad 9, .inr (4, [.ref (ad 10), .int (nI nc), .int (nI lv)]))) (hT : w[10]? = some (ad 10, .inl (cy 5, 20, .inr (.inr (.inr (.inr tf)))))) (hX : w[31]? = some (ad 31, .inr (2, [.ref (ad 32), .ref (ad 34), .ref (ad 36), .ref (ad 38), .ref (ad 40), .int (nI sz)]))) (hXto : w[32]? = some (ad 32, .inr (5, [.ref (ad 33)]))) (hXta : w[33]? = some (ad 33, .inl (cy 0, 1024, .inl (nf tp)))) (hXfo : w[34]? = some (ad 34, .inr (5, [.ref (ad 35)]))) (hXfa : w[35]? = some (ad 35, .inl (cy 0, 272, .inl (nf fw)))) (hXwo : w[36]? = some (ad 36, .inr (5, [.ref (ad 37)]))) (hXwa : w[37]? = some (ad 37, .inl (cy 0, 272, .inl (nf tw)))) (hXyo : w[38]? = some (ad 38, .inr (5, [.ref (ad 39)]))) (hXya : w[39]? = some (ad 39, .inl (cy 0, 272, .inl (nf yw)))) (hXpo : w[40]? = some (ad 40, .inr (5, [.ref (ad 41)]))) (hXpa : w[41]? = some (ad 41, .inl (cy 0, 10, .inl (nf pcn)))) (hOo : w[7]? = some (ad 7, .inr (5, [.ref (ad 8)]))) (hOa : w[8]? = some (ad 8, .inl (cy 0, 10, .inl (nf od)))) (hcon : conOK w nc tf cp ca cs) (hn : n ≤ 10) (hsd : sd < 1024) (hse : se < 1024) (hlv : lv < 2 ^ 20) (hfr : fr = true → mv = nI n ∧ MX = mdl n sd se nc cs lv) (hod : ∀ j, od j < 10) (hf : ∀ a, fw a < 272) (ht : ∀ a, tw a < 272) : jMx jTexts l yX11_nodesFor (jws yX11_nodesFor cX11_nodesFor 4 (some .int)) (jR 9 1 6) D cy w [.ref (ad 0), .int v] 1 6 (fun vv uu => ∃ (sz1 : Nat), ∃ (tp1 : Nat → Nat), ∃ (fw1 : Nat → Nat), ∃ (tw1 : Nat → Nat), ∃ (yw1 : Nat → Nat), ∃ (pcn1 : Nat → Nat), ∃ (x : Nat), vv = some (.int (nI (lstN (fun q => decide (od q = x)) (nodesB (fun d => (mdl n sd se nc cs lv) (layP n od d n)) n) n))) ∧ ((∀ a, fw1 a < 272) ∧ (∀ a, tw1 a < 272)) ∧ x < n ∧ v = nI x ∧ jU w uu [0, 20, 22, 31, 33, 35, 37, 39, 41] ∧ uu[0]? = some (ad 0, .inr (10, [.int (nI n), .ref (ad 1), .ref (ad 3), .ref (ad 5), .int (nI sd), .int (nI se), .ref (ad 7), .ref (ad 9), .ref (ad 11), .ref (ad 20), .int (bI true), .ref (ad 23), .ref (ad 26), .ref (ad 31), .ref (ad 42)])) ∧ uu[20]? = some (ad 20, .inr (0, [.ref (ad 21), .int (nI n)])) ∧ uu[22]? = some (ad 22, .inl (cy 1, 16, .inr (.inl (wd (mdl n sd se nc cs lv))))) ∧ uu[31]? = some (ad 31, .inr (2, [.ref (ad 32), .ref (ad 34), .ref (ad 36), .ref (ad 38), .ref (ad 40), .int (nI sz1)])) ∧ uu[33]? = some (ad 33, .inl (cy 0, 1024, .inl (nf tp1))) ∧ uu[35]? = some (ad 35, .inl (cy 0, 272, .inl (nf fw1))) ∧ uu[37]? = some (ad 37, .inl (cy 0, 272, .inl (nf tw1))) ∧ uu[39]? = some (ad 39, .inl (cy 0, 272, .inl (nf yw1))) ∧ uu[41]? = some (ad 41, .inl (cy 0, 10, .inl (nf pcn1)))) (fun EE uu => ((EE = "java/lang/IndexOutOfBoundsException" ∧ (vB v n = false))) ∧ w = uu) := by
  refine jx_of (by decide) rfl (Nat.le_of_ble_eq_true rfl) ?_
  intro p e s m args below meth c A ls Q hQ S hr hK hA H locs hW hl htab hx
  have hl : lv_has ls 4 [(0, .ref (ad 0)), (1, .int v)] := hl
  refine lv_aload_n S.1 S.2.1 dX11_nodesFor_0 rfl (lv_at hl 0 rfl) ?_
  refine lv_iload_n S.1 S.2.1 dX11_nodesFor_1 rfl (lv_at hl 1 rfl) ?_
  refine jx_callq (k := 0) (ci := 10) (q := (RX11, TX11, 15)) (As := [.int v]) (rest := []) S hK hA hW hQ htab hr hx (c_X11_checkVariable l htr D cy ad n sd se fr v hO   (by omega)) (jgo wm_X11_98) yk_X11_checkVariable hO rfl rfl ⟨⟨rfl, rfl⟩, by decide, by decide⟩ rfl hl.1 rfl (Nat.le_of_ble_eq_true rfl) dX11_nodesFor_2 ⟨Nat.le_of_ble_eq_true rfl, Nat.le_of_ble_eq_true rfl⟩ ⟨by decide, by decide⟩ (fun E u h => by obtain ⟨⟨e1, h⟩, e⟩ := h; exact ⟨⟨e1, by first | exact h | exact Or.inl h | exact Or.inr h | exact Or.inr (Or.inl h) | exact Or.inr (Or.inr h) | omega | (simp at h ⊢; omega)⟩, e⟩) (fun v u H locs hp hW => ?_)
  obtain ⟨xN_2, rfl, hp2_0, hp2_1, rfl⟩ := hp
  refine W.eq (g2 := F0 m 5 ls []) rfl ?_
  subst hp2_1
  refine lv_aload_n S.1 S.2.1 dX11_nodesFor_5 rfl (lv_at hl 0 rfl) ?_
  refine j_get (ci := 10) (C := RX11) (T := TX11) (N := 15) (v := .ref (ad 31)) S (fun w h => List.mem_cons_of_mem _ (inG11 w h)) hK hW hO rfl 13 (by decide) (List.mem_cons_of_mem _ wfl_X11_65) (fun _ h9 => h9) rfl dX11_nodesFor_6 ?_
  refine lv_aload_n S.1 S.2.1 dX11_nodesFor_9 rfl (lv_at hl 0 rfl) ?_
  refine j_callV (k := 0) (ci := 10) (q := (RX11, TX11, 15)) (As := []) (rest := [.ref (ad 31)]) S hK hA hW (c_X11_freshModels l D cy ad n sd se fr nc lv tf cp ca cs mv MX hO hMo hMl hMa hC hT hcon  (by omega) (by omega) (by omega) (by omega) (by first | omega | exact fun _ => ⟨rfl, rfl⟩)) (jgo wm_X11_199) yk_X11_freshModels hO rfl rfl ⟨⟨rfl, rfl⟩, by decide, by decide⟩ rfl hl.1 rfl (Nat.le_of_ble_eq_true rfl) dX11_nodesFor_10 ⟨Nat.le_of_ble_eq_true rfl, Nat.le_of_ble_eq_true rfl⟩ (fun v w_ H locs hp hW => ?_)
  obtain ⟨rfl, hU1, hN1, hN2, hN3⟩ := hp
  have hU : jU w w_ [0, 20, 22, 31, 33, 35, 37, 39, 41] := jU.mono hU1 (by decide)
  have hX_ := hU1.get hX (by decide)
  have hXta_ := hU1.get hXta (by decide)
  have hXfa_ := hU1.get hXfa (by decide)
  have hXwa_ := hU1.get hXwa (by decide)
  have hXya_ := hU1.get hXya (by decide)
  have hXpa_ := hU1.get hXpa (by decide)
  have hO_ : w_[0]? = some (ad 0, .inr (10, [.int (nI n), .ref (ad 1), .ref (ad 3), .ref (ad 5), .int (nI sd), .int (nI se), .ref (ad 7), .ref (ad 9), .ref (ad 11), .ref (ad 20), .int (bI true), .ref (ad 23), .ref (ad 26), .ref (ad 31), .ref (ad 42)])) := hN1
  have hMo_ : w_[20]? = some (ad 20, .inr (0, [.ref (ad 21), .int (nI n)])) := hN2
  have hMa_ : w_[22]? = some (ad 22, .inl (cy 1, 16, .inr (.inl (wd (mdl n sd se nc cs lv))))) := hN3
  clear hU1 hN1 hN2 hN3
  refine W.eq (g2 := F0 m 13 ls [.ref (ad 20), .ref (ad 31)]) rfl ?_
  refine lv_aload_n S.1 S.2.1 dX11_nodesFor_13 rfl (lv_at hl 0 rfl) ?_
  refine j_get (ci := 10) (C := RX11) (T := TX11) (N := 15) (v := .ref (ad 7)) S (fun w h => List.mem_cons_of_mem _ (inG11 w h)) hK hW hO_ rfl 6 (by decide) (List.mem_cons_of_mem _ wfl_X11_28) (fun _ h9 => h9) rfl dX11_nodesFor_14 ?_
  refine j_callV (k := 31) (ci := 2) (q := (RX2, TX2, 6)) (As := [.ref (ad 20), .ref (ad 7)]) (rest := []) S hK hA hW (c_X2_make l D cy 20 21 22 (ad 20) (ad 21) (ad 22) n (mdl n sd se nc cs lv) ad sz tp fw tw yw pcn od hMo_ (hU.get hMl (by decide)) hMa_ hX_ (hU.get hXto (by decide)) hXta_ (hU.get hXfo (by decide)) hXfa_ (hU.get hXwo (by decide)) hXwa_ (hU.get hXyo (by decide)) hXya_ (hU.get hXpo (by decide)) hXpa_ (hU.get hOo (by decide)) (hU.get hOa (by decide))   (by omega) (hod) (hf) (ht) (by omega)) (jgo wm_X11_264) yk_X2_make hX_ rfl rfl ⟨⟨rfl, rfl⟩, by decide, by decide⟩ rfl hl.1 rfl (Nat.le_of_ble_eq_true rfl) dX11_nodesFor_17 ⟨Nat.le_of_ble_eq_true rfl, Nat.le_of_ble_eq_true rfl⟩ (fun v w_ H locs hp hW => ?_)
  obtain ⟨sz1_17, tp1_17, fw1_17, tw1_17, yw1_17, pcn1_17, rfl, hp17_0, hU1, hN1, hN2, hN3, hN4, hN5, hN6⟩ := hp
  have hU := hU.then hU1 (by decide)
  have hO_ := hU1.get hO_ (by decide)
  have hMo_ := hU1.get hMo_ (by decide)
  have hMa_ := hU1.get hMa_ (by decide)
  have hX_ : w_[31]? = some (ad 31, .inr (2, [.ref (ad 32), .ref (ad 34), .ref (ad 36), .ref (ad 38), .ref (ad 40), .int (nI sz1_17)])) := hN1
  have hXta_ : w_[33]? = some (ad 33, .inl (cy 0, 1024, .inl (nf tp1_17))) := hN2
  have hXfa_ : w_[35]? = some (ad 35, .inl (cy 0, 272, .inl (nf fw1_17))) := hN3
  have hXwa_ : w_[37]? = some (ad 37, .inl (cy 0, 272, .inl (nf tw1_17))) := hN4
  have hXya_ : w_[39]? = some (ad 39, .inl (cy 0, 272, .inl (nf yw1_17))) := hN5
  have hXpa_ : w_[41]? = some (ad 41, .inl (cy 0, 10, .inl (nf pcn1_17))) := hN6
  clear hU1 hN1 hN2 hN3 hN4 hN5 hN6
  refine W.eq (g2 := F0 m 20 ls []) rfl ?_
  refine lv_iconst (v := nI 0) S.1 S.2.1 dX11_nodesFor_20 (by decide) ?_
  refine lv_istore_n (lv' := [(2, .int (nI 0)), (0, .ref (ad 0)), (1, .int (nI xN_2))]) S.1 S.2.1 dX11_nodesFor_21 rfl hl (by decide) rfl (fun ls hl => ?_)
  refine lv_iconst (v := nI 0) S.1 S.2.1 dX11_nodesFor_22 (by decide) ?_
  refine lv_istore_n (lv' := [(3, .int (nI 0)), (2, .int (nI 0)), (0, .ref (ad 0)), (1, .int (nI xN_2))]) S.1 S.2.1 dX11_nodesFor_23 rfl hl (by decide) rfl (fun ls hl => ?_)
  have L24 : ∀ (k : Nat) (i : Nat), n - i = k → (i ≤ n) → ∀ (H : Heap) (locs : List Loc) (ls : Array Slot), jW D A s.heap w_ H locs → lv_has ls 4 [(0, .ref (ad 0)), (1, .int (nI xN_2)), (2, .int (nI (lstN (fun q => decide (od q = xN_2)) (nodesB (fun d => (mdl n sd se nc cs lv) (layP n od d n)) n) i))), (3, .int (nI i))] → W p l e (jR 9 1 6) s m args below meth c H locs 1 6 Q (F0 m 24 ls []) := by
    intro k
    induction k using Nat.strongRecOn with
    | ind k ih24 =>
    intro i hk hi H locs ls hW hl
    subst hk
    refine lv_iload_n S.1 S.2.1 dX11_nodesFor_24 rfl (lv_at hl 3 rfl) ?_
    refine lv_aload_n S.1 S.2.1 dX11_nodesFor_25 rfl (lv_at hl 0 rfl) ?_
    refine j_get (ci := 10) (C := RX11) (T := TX11) (N := 15) (v := .int (nI n)) S (fun w h => List.mem_cons_of_mem _ (inG11 w h)) hK hW hO_ rfl 0 (by decide) (List.mem_cons_of_mem _ wfl_X11_77) (fun _ h9 => h9) rfl dX11_nodesFor_26 ?_
    refine jn_cmp_ge (tgt := 59) S (by omega) (by omega) dX11_nodesFor_29 (by decide) (fun c_29 => ?_) (fun c_29 => ?_)
    · refine lv_iload_n S.1 S.2.1 dX11_nodesFor_59 rfl (lv_at hl 2 rfl) ?_
      subst hQ
      refine vx_ret ?_
      refine j_iret (u := w_) S hr (rfl) hK hW dX11_nodesFor_60 ⟨by decide, by decide⟩ ?_
      have ei : i = n := by omega
      subst ei
      exact ⟨_, _, _, _, _, _, xN_2, rfl, ⟨hp17_0.2.2.2.2.1, hp17_0.2.2.2.2.2⟩, hp2_0, rfl, hU, hO_, hMo_, hMa_, hX_, hXta_, hXfa_, hXwa_, hXya_, hXpa_⟩
    · have ho1 := hod i
      refine lv_aload_n S.1 S.2.1 dX11_nodesFor_32 rfl (lv_at hl 0 rfl) ?_
      refine j_get (ci := 10) (C := RX11) (T := TX11) (N := 15) (v := .ref (ad 7)) S (fun w h => List.mem_cons_of_mem _ (inG11 w h)) hK hW hO_ rfl 6 (by decide) (List.mem_cons_of_mem _ wfl_X11_28) (fun _ h9 => h9) rfl dX11_nodesFor_33 ?_
      refine lv_iload_n S.1 S.2.1 dX11_nodesFor_36 rfl (lv_at hl 3 rfl) ?_
      refine j_callV (k := 7) (ci := 5) (q := (RX6, TX6, 1)) (As := [.int (nI i)]) (rest := []) S hK hA hW (c_X6_atN l D cy 7 8 (ad 7) (ad 8) 10 i od (hU.get hOo (by decide)) (hU.get hOa (by decide))   (by omega) (by decide)) (jgo wm_X11_106) yk_X6_at (hU.get hOo (by decide)) rfl rfl ⟨⟨rfl, rfl⟩, by decide, by decide⟩ rfl hl.1 rfl (Nat.le_of_ble_eq_true rfl) dX11_nodesFor_37 ⟨Nat.le_of_ble_eq_true rfl, Nat.le_of_ble_eq_true rfl⟩ (fun v u H locs hp hW => ?_)
      obtain ⟨rfl, rfl⟩ := hp
      refine W.eq (g2 := F0 m 40 ls [.int (nI (od i))]) rfl ?_
      refine lv_iload_n S.1 S.2.1 dX11_nodesFor_40 rfl (lv_at hl 1 rfl) ?_
      refine jn_cmp_ne (tgt := 53) S (by omega) (by omega) dX11_nodesFor_41 (by decide) (fun c_41 => ?_) (fun c_41 => ?_)
      · have e0 : lstN (fun q => decide (od q = xN_2)) (nodesB (fun d => (mdl n sd se nc cs lv) (layP n od d n)) n) (i + 1) = lstN (fun q => decide (od q = xN_2)) (nodesB (fun d => (mdl n sd se nc cs lv) (layP n od d n)) n) i := lstN_f (decide_eq_false c_41)
        have hl : lv_has ls 4 [(0, .ref (ad 0)), (1, .int (nI xN_2)), (2, .int (nI (lstN (fun q => decide (od q = xN_2)) (nodesB (fun d => (mdl n sd se nc cs lv) (layP n od d n)) n) (i + 1)))), (3, .int (nI i))] := by rw [e0]; exact lv_sub hl [0, 1, 2, 3] rfl
        refine lv_iinc (v := nI (i + 1)) (lv' := [(3, .int (nI (i + 1))), (0, .ref (ad 0)), (1, .int (nI xN_2)), (2, .int (nI (lstN (fun q => decide (od q = xN_2)) (nodesB (fun d => (mdl n sd se nc cs lv) (layP n od d n)) n) (i + 1))))]) S.1 S.2.1 dX11_nodesFor_53 hl (k := 3) rfl (nI_add _ 1) (by decide) rfl (fun ls hl => ?_)
        refine lv_goto (tgt := 24) S.1 S.2.1 dX11_nodesFor_56 (by decide) ?_
        exact ih24 _ (by omega) (i + 1) rfl (by omega) H locs ls hW (lv_sub hl [1, 2, 3, 0] rfl)
      · refine lv_aload_n S.1 S.2.1 dX11_nodesFor_44 rfl (lv_at hl 0 rfl) ?_
        refine j_get (ci := 10) (C := RX11) (T := TX11) (N := 15) (v := .ref (ad 31)) S (fun w h => List.mem_cons_of_mem _ (inG11 w h)) hK hW hO_ rfl 13 (by decide) (List.mem_cons_of_mem _ wfl_X11_65) (fun _ h9 => h9) rfl dX11_nodesFor_45 ?_
        refine lv_iload_n S.1 S.2.1 dX11_nodesFor_48 rfl (lv_at hl 3 rfl) ?_
        refine j_callV (k := 31) (ci := 2) (q := (RX2, TX2, 6)) (As := [.int (nI i)]) (rest := []) S hK hA hW (c_X2_nodesAtPlace l D cy ad sz1_17 pcn1_17 i hX_ (hU.get hXpo (by decide)) hXpa_   (by omega)) (jgo wm_X11_268) yk_X2_nodesAtPlace hX_ rfl rfl ⟨⟨rfl, rfl⟩, by decide, by decide⟩ rfl hl.1 rfl (Nat.le_of_ble_eq_true rfl) dX11_nodesFor_49 ⟨Nat.le_of_ble_eq_true rfl, Nat.le_of_ble_eq_true rfl⟩ (fun v u H locs hp hW => ?_)
        obtain ⟨rfl, rfl⟩ := hp
        refine W.eq (g2 := F0 m 52 ls [.int (nI (pcn1_17 i))]) rfl ?_
        refine lv_topi_to (y := nI (nodesB (fun d => (mdl n sd se nc cs lv) (layP n od d n)) n i)) (congrArg nI (hp17_0.2.2.2.1 i (Nat.zero_le _) (by omega))) ?_
        refine lv_istore_n (lv' := [(2, .int (nI (nodesB (fun d => (mdl n sd se nc cs lv) (layP n od d n)) n i))), (0, .ref (ad 0)), (1, .int (nI xN_2)), (3, .int (nI i))]) S.1 S.2.1 dX11_nodesFor_52 rfl hl (by decide) rfl (fun ls hl => ?_)
        have e0 : lstN (fun q => decide (od q = xN_2)) (nodesB (fun d => (mdl n sd se nc cs lv) (layP n od d n)) n) (i + 1) = nodesB (fun d => (mdl n sd se nc cs lv) (layP n od d n)) n i := lstN_t (decide_eq_true c_41)
        have hl : lv_has ls 4 [(0, .ref (ad 0)), (1, .int (nI xN_2)), (2, .int (nI (lstN (fun q => decide (od q = xN_2)) (nodesB (fun d => (mdl n sd se nc cs lv) (layP n od d n)) n) (i + 1)))), (3, .int (nI i))] := by rw [e0]; exact lv_sub hl [1, 2, 0, 3] rfl
        refine lv_iinc (v := nI (i + 1)) (lv' := [(3, .int (nI (i + 1))), (0, .ref (ad 0)), (1, .int (nI xN_2)), (2, .int (nI (lstN (fun q => decide (od q = xN_2)) (nodesB (fun d => (mdl n sd se nc cs lv) (layP n od d n)) n) (i + 1))))]) S.1 S.2.1 dX11_nodesFor_53 hl (k := 3) rfl (nI_add _ 1) (by decide) rfl (fun ls hl => ?_)
        refine lv_goto (tgt := 24) S.1 S.2.1 dX11_nodesFor_56 (by decide) ?_
        exact ih24 _ (by omega) (i + 1) rfl (by omega) H locs ls hW (lv_sub hl [1, 2, 3, 0] rfl)
  exact L24 _ 0 rfl (Nat.zero_le _) H locs ls hW (lv_sub hl [2, 3, 1, 0] rfl)
/-- ways -/
theorem c_X11_ways (l : Launch) (D : va_G) (cy : Nat → ClassId) {w : va_W} (ad : Nat → Nat) (n sd se : Nat) (fr : Bool) (nc lv : Nat) (tf : Nat → Option Nat) (cp ca : Nat → Nat) (cs : Nat → CN) (mv : Int32) (MX : Nat → Bool) (sz : Nat) (tp fw tw yw pcn od : Nat → Nat) (hO : w[0]? = some (ad 0, .inr (10, [.int (nI n), .ref (ad 1), .ref (ad 3), .ref (ad 5), .int (nI sd), .int (nI se), .ref (ad 7), .ref (ad 9), .ref (ad 11), .ref (ad 20), .int (bI fr), .ref (ad 23), .ref (ad 26), .ref (ad 31), .ref (ad 42)]))) (hMo : w[20]? = some (ad 20, .inr (0, [.ref (ad 21), .int mv]))) (hMl : w[21]? = some (ad 21, .inr (6, [.ref (ad 22)]))) (hMa : w[22]? = some (ad 22, .inl (cy 1, 16, .inr (.inl (wd MX))))) (hC : w[9]? = some (ad 9, .inr (4, [.ref (ad 10), .int (nI nc), .int (nI lv)]))) (hT : w[10]? = some (ad 10, .inl (cy 5, 20, .inr (.inr (.inr (.inr tf)))))) (hX : w[31]? = some (ad 31, .inr (2, [.ref (ad 32), .ref (ad 34), .ref (ad 36), .ref (ad 38), .ref (ad 40), .int (nI sz)]))) (hXto : w[32]? = some (ad 32, .inr (5, [.ref (ad 33)]))) (hXta : w[33]? = some (ad 33, .inl (cy 0, 1024, .inl (nf tp)))) (hXfo : w[34]? = some (ad 34, .inr (5, [.ref (ad 35)]))) (hXfa : w[35]? = some (ad 35, .inl (cy 0, 272, .inl (nf fw)))) (hXwo : w[36]? = some (ad 36, .inr (5, [.ref (ad 37)]))) (hXwa : w[37]? = some (ad 37, .inl (cy 0, 272, .inl (nf tw)))) (hXyo : w[38]? = some (ad 38, .inr (5, [.ref (ad 39)]))) (hXya : w[39]? = some (ad 39, .inl (cy 0, 272, .inl (nf yw)))) (hXpo : w[40]? = some (ad 40, .inr (5, [.ref (ad 41)]))) (hXpa : w[41]? = some (ad 41, .inl (cy 0, 10, .inl (nf pcn)))) (hOo : w[7]? = some (ad 7, .inr (5, [.ref (ad 8)]))) (hOa : w[8]? = some (ad 8, .inl (cy 0, 10, .inl (nf od)))) (hcon : conOK w nc tf cp ca cs) (hn : n ≤ 10) (hsd : sd < 1024) (hse : se < 1024) (hlv : lv < 2 ^ 20) (hfr : fr = true → mv = nI n ∧ MX = mdl n sd se nc cs lv) (hod : ∀ j, od j < 10) (hf : ∀ a, fw a < 272) (ht : ∀ a, tw a < 272) : jM l yX11_ways (jws yX11_ways cX11_ways 1 (some .long)) (jR 6 0 0) D cy w [.ref (ad 0)] 0 0 (fun vv uu => ∃ (sz1 : Nat), ∃ (tp1 : Nat → Nat), ∃ (fw1 : Nat → Nat), ∃ (tw1 : Nat → Nat), ∃ (yw1 : Nat → Nat), ∃ (pcn1 : Nat → Nat), vv = some (.long (lN (waysH (fun d => (mdl n sd se nc cs lv) (layP n od d n)) n 0))) ∧ ((∀ a, fw1 a < 272) ∧ (∀ a, tw1 a < 272)) ∧ jU w uu [0, 20, 22, 31, 33, 35, 37, 39, 41] ∧ uu[0]? = some (ad 0, .inr (10, [.int (nI n), .ref (ad 1), .ref (ad 3), .ref (ad 5), .int (nI sd), .int (nI se), .ref (ad 7), .ref (ad 9), .ref (ad 11), .ref (ad 20), .int (bI true), .ref (ad 23), .ref (ad 26), .ref (ad 31), .ref (ad 42)])) ∧ uu[20]? = some (ad 20, .inr (0, [.ref (ad 21), .int (nI n)])) ∧ uu[22]? = some (ad 22, .inl (cy 1, 16, .inr (.inl (wd (mdl n sd se nc cs lv))))) ∧ uu[31]? = some (ad 31, .inr (2, [.ref (ad 32), .ref (ad 34), .ref (ad 36), .ref (ad 38), .ref (ad 40), .int (nI sz1)])) ∧ uu[33]? = some (ad 33, .inl (cy 0, 1024, .inl (nf tp1))) ∧ uu[35]? = some (ad 35, .inl (cy 0, 272, .inl (nf fw1))) ∧ uu[37]? = some (ad 37, .inl (cy 0, 272, .inl (nf tw1))) ∧ uu[39]? = some (ad 39, .inl (cy 0, 272, .inl (nf yw1))) ∧ uu[41]? = some (ad 41, .inl (cy 0, 10, .inl (nf pcn1)))) := by
  refine j_of (by decide) rfl (Nat.le_of_ble_eq_true rfl) ?_
  intro p e s m args below meth c A ls Q hQ S hr hK hA H locs hW hl
  have hl : lv_has ls 1 [(0, .ref (ad 0))] := hl
  refine lv_aload_n S.1 S.2.1 dX11_ways_0 rfl (lv_at hl 0 rfl) ?_
  refine j_get (ci := 10) (C := RX11) (T := TX11) (N := 15) (v := .ref (ad 31)) S (fun w h => List.mem_cons_of_mem _ (inG11 w h)) hK hW hO rfl 13 (by decide) (List.mem_cons_of_mem _ wfl_X11_65) (fun _ h9 => h9) rfl dX11_ways_1 ?_
  refine lv_aload_n S.1 S.2.1 dX11_ways_4 rfl (lv_at hl 0 rfl) ?_
  refine j_callV (k := 0) (ci := 10) (q := (RX11, TX11, 15)) (As := []) (rest := [.ref (ad 31)]) S hK hA hW (c_X11_freshModels l D cy ad n sd se fr nc lv tf cp ca cs mv MX hO hMo hMl hMa hC hT hcon  (by omega) (by omega) (by omega) (by omega) (by first | omega | exact fun _ => ⟨rfl, rfl⟩)) (jgo wm_X11_199) yk_X11_freshModels hO rfl rfl ⟨⟨rfl, rfl⟩, by decide, by decide⟩ rfl hl.1 rfl (Nat.le_of_ble_eq_true rfl) dX11_ways_5 ⟨Nat.le_of_ble_eq_true rfl, Nat.le_of_ble_eq_true rfl⟩ (fun v w_ H locs hp hW => ?_)
  obtain ⟨rfl, hU1, hN1, hN2, hN3⟩ := hp
  have hU : jU w w_ [0, 20, 22, 31, 33, 35, 37, 39, 41] := jU.mono hU1 (by decide)
  have hX_ := hU1.get hX (by decide)
  have hXta_ := hU1.get hXta (by decide)
  have hXfa_ := hU1.get hXfa (by decide)
  have hXwa_ := hU1.get hXwa (by decide)
  have hXya_ := hU1.get hXya (by decide)
  have hXpa_ := hU1.get hXpa (by decide)
  have hO_ : w_[0]? = some (ad 0, .inr (10, [.int (nI n), .ref (ad 1), .ref (ad 3), .ref (ad 5), .int (nI sd), .int (nI se), .ref (ad 7), .ref (ad 9), .ref (ad 11), .ref (ad 20), .int (bI true), .ref (ad 23), .ref (ad 26), .ref (ad 31), .ref (ad 42)])) := hN1
  have hMo_ : w_[20]? = some (ad 20, .inr (0, [.ref (ad 21), .int (nI n)])) := hN2
  have hMa_ : w_[22]? = some (ad 22, .inl (cy 1, 16, .inr (.inl (wd (mdl n sd se nc cs lv))))) := hN3
  clear hU1 hN1 hN2 hN3
  refine W.eq (g2 := F0 m 8 ls [.ref (ad 20), .ref (ad 31)]) rfl ?_
  refine lv_aload_n S.1 S.2.1 dX11_ways_8 rfl (lv_at hl 0 rfl) ?_
  refine j_get (ci := 10) (C := RX11) (T := TX11) (N := 15) (v := .ref (ad 7)) S (fun w h => List.mem_cons_of_mem _ (inG11 w h)) hK hW hO_ rfl 6 (by decide) (List.mem_cons_of_mem _ wfl_X11_28) (fun _ h9 => h9) rfl dX11_ways_9 ?_
  refine j_callV (k := 31) (ci := 2) (q := (RX2, TX2, 6)) (As := [.ref (ad 20), .ref (ad 7)]) (rest := []) S hK hA hW (c_X2_make l D cy 20 21 22 (ad 20) (ad 21) (ad 22) n (mdl n sd se nc cs lv) ad sz tp fw tw yw pcn od hMo_ (hU.get hMl (by decide)) hMa_ hX_ (hU.get hXto (by decide)) hXta_ (hU.get hXfo (by decide)) hXfa_ (hU.get hXwo (by decide)) hXwa_ (hU.get hXyo (by decide)) hXya_ (hU.get hXpo (by decide)) hXpa_ (hU.get hOo (by decide)) (hU.get hOa (by decide))   (by omega) (hod) (hf) (ht) (by omega)) (jgo wm_X11_264) yk_X2_make hX_ rfl rfl ⟨⟨rfl, rfl⟩, by decide, by decide⟩ rfl hl.1 rfl (Nat.le_of_ble_eq_true rfl) dX11_ways_12 ⟨Nat.le_of_ble_eq_true rfl, Nat.le_of_ble_eq_true rfl⟩ (fun v w_ H locs hp hW => ?_)
  obtain ⟨sz1_12, tp1_12, fw1_12, tw1_12, yw1_12, pcn1_12, rfl, hp12_0, hU1, hN1, hN2, hN3, hN4, hN5, hN6⟩ := hp
  have hU := hU.then hU1 (by decide)
  have hO_ := hU1.get hO_ (by decide)
  have hMo_ := hU1.get hMo_ (by decide)
  have hMa_ := hU1.get hMa_ (by decide)
  have hX_ : w_[31]? = some (ad 31, .inr (2, [.ref (ad 32), .ref (ad 34), .ref (ad 36), .ref (ad 38), .ref (ad 40), .int (nI sz1_12)])) := hN1
  have hXta_ : w_[33]? = some (ad 33, .inl (cy 0, 1024, .inl (nf tp1_12))) := hN2
  have hXfa_ : w_[35]? = some (ad 35, .inl (cy 0, 272, .inl (nf fw1_12))) := hN3
  have hXwa_ : w_[37]? = some (ad 37, .inl (cy 0, 272, .inl (nf tw1_12))) := hN4
  have hXya_ : w_[39]? = some (ad 39, .inl (cy 0, 272, .inl (nf yw1_12))) := hN5
  have hXpa_ : w_[41]? = some (ad 41, .inl (cy 0, 10, .inl (nf pcn1_12))) := hN6
  clear hU1 hN1 hN2 hN3 hN4 hN5 hN6
  refine W.eq (g2 := F0 m 15 ls []) rfl ?_
  have hw0 := hp12_0.2.1 0 (by decide)
  rw [Nat.sub_zero] at hw0
  have hwl := waysH_le (fun d => (mdl n sd se nc cs lv) (layP n od d n)) n 0
  have hp2 := two_pow10 hn
  have hal := nodes_all (fun d => (mdl n sd se nc cs lv) (layP n od d n)) hn
  have hsz2 := hp12_0.2.2.1
  rw [show sumN (nodesB (fun d => (mdl n sd se nc cs lv) (layP n od d n)) n) 0 = 0 from rfl] at hsz2
  refine lv_aload_n S.1 S.2.1 dX11_ways_15 rfl (lv_at hl 0 rfl) ?_
  refine j_get (ci := 10) (C := RX11) (T := TX11) (N := 15) (v := .ref (ad 31)) S (fun w h => List.mem_cons_of_mem _ (inG11 w h)) hK hW hO_ rfl 13 (by decide) (List.mem_cons_of_mem _ wfl_X11_65) (fun _ h9 => h9) rfl dX11_ways_16 ?_
  refine j_callV (k := 31) (ci := 2) (q := (RX2, TX2, 6)) (As := []) (rest := []) S hK hA hW (c_X2_waysToYes l D cy ad sz1_12 tp1_12 yw1_12 hX_ (hU.get hXto (by decide)) hXta_ (hU.get hXyo (by decide)) hXya_   (by omega)) (jgo wm_X11_271) yk_X2_waysToYes hX_ rfl rfl ⟨⟨rfl, rfl⟩, by decide, by decide⟩ rfl hl.1 rfl (Nat.le_of_ble_eq_true rfl) dX11_ways_19 ⟨Nat.le_of_ble_eq_true rfl, Nat.le_of_ble_eq_true rfl⟩ (fun v u H locs hp hW => ?_)
  obtain ⟨rfl, rfl⟩ := hp
  refine W.eq (g2 := F0 m 22 ls [.int (nI (yw1_12 (tp1_12 0)))]) rfl ?_
  refine lv_topi_to (y := nI (waysH (fun d => (mdl n sd se nc cs lv) (layP n od d n)) n 0)) (congrArg nI hw0.2) ?_
  refine lv_i2l (v := lN (waysH (fun d => (mdl n sd se nc cs lv) (layP n od d n)) n 0)) S.1 S.2.1 dX11_ways_22 (nI_l (by omega)) ?_
  subst hQ
  exact j_lret (u := w_) S hr hK hW dX11_ways_23 ⟨by decide, by decide⟩ (⟨_, _, _, _, _, _, rfl, ⟨hp12_0.2.2.2.2.1, hp12_0.2.2.2.2.2⟩, hU, hO_, hMo_, hMa_, hX_, hXta_, hXfa_, hXwa_, hXya_, hXpa_⟩)
/-- exchange -/
theorem c_X11_exchange (l : Launch) (htr : l.stackTraces = false) (D : va_G) (cy : Nat → ClassId) {w : va_W} (ad : Nat → Nat) (n sd se : Nat) (fr : Bool) (nc lv : Nat) (tf : Nat → Option Nat) (cp ca : Nat → Nat) (cs : Nat → CN) (mv : Int32) (MX : Nat → Bool) (sz : Nat) (tp fw tw yw pcn od : Nat → Nat) (v u1 : Int32) (hO : w[0]? = some (ad 0, .inr (10, [.int (nI n), .ref (ad 1), .ref (ad 3), .ref (ad 5), .int (nI sd), .int (nI se), .ref (ad 7), .ref (ad 9), .ref (ad 11), .ref (ad 20), .int (bI fr), .ref (ad 23), .ref (ad 26), .ref (ad 31), .ref (ad 42)]))) (hMo : w[20]? = some (ad 20, .inr (0, [.ref (ad 21), .int mv]))) (hMl : w[21]? = some (ad 21, .inr (6, [.ref (ad 22)]))) (hMa : w[22]? = some (ad 22, .inl (cy 1, 16, .inr (.inl (wd MX))))) (hC : w[9]? = some (ad 9, .inr (4, [.ref (ad 10), .int (nI nc), .int (nI lv)]))) (hT : w[10]? = some (ad 10, .inl (cy 5, 20, .inr (.inr (.inr (.inr tf)))))) (hX : w[31]? = some (ad 31, .inr (2, [.ref (ad 32), .ref (ad 34), .ref (ad 36), .ref (ad 38), .ref (ad 40), .int (nI sz)]))) (hXto : w[32]? = some (ad 32, .inr (5, [.ref (ad 33)]))) (hXta : w[33]? = some (ad 33, .inl (cy 0, 1024, .inl (nf tp)))) (hXfo : w[34]? = some (ad 34, .inr (5, [.ref (ad 35)]))) (hXfa : w[35]? = some (ad 35, .inl (cy 0, 272, .inl (nf fw)))) (hXwo : w[36]? = some (ad 36, .inr (5, [.ref (ad 37)]))) (hXwa : w[37]? = some (ad 37, .inl (cy 0, 272, .inl (nf tw)))) (hXyo : w[38]? = some (ad 38, .inr (5, [.ref (ad 39)]))) (hXya : w[39]? = some (ad 39, .inl (cy 0, 272, .inl (nf yw)))) (hXpo : w[40]? = some (ad 40, .inr (5, [.ref (ad 41)]))) (hXpa : w[41]? = some (ad 41, .inl (cy 0, 10, .inl (nf pcn)))) (hOo : w[7]? = some (ad 7, .inr (5, [.ref (ad 8)]))) (hOa : w[8]? = some (ad 8, .inl (cy 0, 10, .inl (nf od)))) (hcon : conOK w nc tf cp ca cs) (hn : n ≤ 10) (hsd : sd < 1024) (hse : se < 1024) (hlv : lv < 2 ^ 20) (hfr : fr = true → mv = nI n ∧ MX = mdl n sd se nc cs lv) (hod : ∀ j, od j < 10) (hf : ∀ a, fw a < 272) (ht : ∀ a, tw a < 272) : jMx jTexts l yX11_exchange (jws yX11_exchange cX11_exchange 4 (some .int)) (jR 9 2 12) D cy w [.ref (ad 0), .int v, .int u1] 2 12 (fun vv uu => ∃ (sz1 : Nat), ∃ (tp1 : Nat → Nat), ∃ (fw1 : Nat → Nat), ∃ (tw1 : Nat → Nat), ∃ (yw1 : Nat → Nat), ∃ (pcn1 : Nat → Nat), ∃ (x : Nat), ∃ (y : Nat), vv = some (.int (nI (sumN (nodesB (fun d => (mdl n sd se nc cs lv) (layP n (upB (upB od x (od y)) y (od x)) d n)) n) n))) ∧ ((∀ a, fw1 a < 272) ∧ (∀ a, tw1 a < 272)) ∧ x < n ∧ v = nI x ∧ y < n ∧ u1 = nI y ∧ jU w uu [0, 20, 22, 31, 33, 35, 37, 39, 41, 8] ∧ uu[0]? = some (ad 0, .inr (10, [.int (nI n), .ref (ad 1), .ref (ad 3), .ref (ad 5), .int (nI sd), .int (nI se), .ref (ad 7), .ref (ad 9), .ref (ad 11), .ref (ad 20), .int (bI true), .ref (ad 23), .ref (ad 26), .ref (ad 31), .ref (ad 42)])) ∧ uu[20]? = some (ad 20, .inr (0, [.ref (ad 21), .int (nI n)])) ∧ uu[22]? = some (ad 22, .inl (cy 1, 16, .inr (.inl (wd (mdl n sd se nc cs lv))))) ∧ uu[31]? = some (ad 31, .inr (2, [.ref (ad 32), .ref (ad 34), .ref (ad 36), .ref (ad 38), .ref (ad 40), .int (nI sz1)])) ∧ uu[33]? = some (ad 33, .inl (cy 0, 1024, .inl (nf tp1))) ∧ uu[35]? = some (ad 35, .inl (cy 0, 272, .inl (nf fw1))) ∧ uu[37]? = some (ad 37, .inl (cy 0, 272, .inl (nf tw1))) ∧ uu[39]? = some (ad 39, .inl (cy 0, 272, .inl (nf yw1))) ∧ uu[41]? = some (ad 41, .inl (cy 0, 10, .inl (nf pcn1))) ∧ uu[8]? = some (ad 8, .inl (cy 0, 10, .inl (nf (upB (upB od x (od y)) y (od x)))))) (fun EE uu => ((EE = "java/lang/IndexOutOfBoundsException" ∧ (vB v n = false ∨ vB u1 n = false))) ∧ w = uu) := by
  refine jx_of (by decide) rfl (Nat.le_of_ble_eq_true rfl) ?_
  intro p e s m args below meth c A ls Q hQ S hr hK hA H locs hW hl htab hx
  have hl : lv_has ls 4 [(0, .ref (ad 0)), (1, .int v), (2, .int u1)] := hl
  refine lv_aload_n S.1 S.2.1 dX11_exchange_0 rfl (lv_at hl 0 rfl) ?_
  refine lv_iload_n S.1 S.2.1 dX11_exchange_1 rfl (lv_at hl 1 rfl) ?_
  refine jx_callq (k := 0) (ci := 10) (q := (RX11, TX11, 15)) (As := [.int v]) (rest := []) S hK hA hW hQ htab hr hx (c_X11_checkPlace l htr D cy ad n sd se fr v hO   (by omega)) (jgo wm_X11_274) yk_X11_checkPlace hO rfl rfl ⟨⟨rfl, rfl⟩, by decide, by decide⟩ rfl hl.1 rfl (Nat.le_of_ble_eq_true rfl) dX11_exchange_2 ⟨Nat.le_of_ble_eq_true rfl, Nat.le_of_ble_eq_true rfl⟩ ⟨by decide, by decide⟩ (fun E u h => by obtain ⟨⟨e1, h⟩, e⟩ := h; exact ⟨⟨e1, Or.inl h⟩, e⟩) (fun v u H locs hp hW => ?_)
  obtain ⟨xN_2, rfl, hp2_0, hp2_1, rfl⟩ := hp
  refine W.eq (g2 := F0 m 5 ls []) rfl ?_
  subst hp2_1
  refine lv_aload_n S.1 S.2.1 dX11_exchange_5 rfl (lv_at hl 0 rfl) ?_
  refine lv_iload_n S.1 S.2.1 dX11_exchange_6 rfl (lv_at hl 2 rfl) ?_
  refine jx_callq (k := 0) (ci := 10) (q := (RX11, TX11, 15)) (As := [.int u1]) (rest := []) S hK hA hW hQ htab hr hx (c_X11_checkPlace l htr D cy ad n sd se fr u1 hO   (by omega)) (jgo wm_X11_274) yk_X11_checkPlace hO rfl rfl ⟨⟨rfl, rfl⟩, by decide, by decide⟩ rfl hl.1 rfl (Nat.le_of_ble_eq_true rfl) dX11_exchange_7 ⟨Nat.le_of_ble_eq_true rfl, Nat.le_of_ble_eq_true rfl⟩ ⟨by decide, by decide⟩ (fun E u h => by obtain ⟨⟨e1, h⟩, e⟩ := h; exact ⟨⟨e1, Or.inr h⟩, e⟩) (fun v u H locs hp hW => ?_)
  obtain ⟨xN_7, rfl, hp7_0, hp7_1, rfl⟩ := hp
  refine W.eq (g2 := F0 m 10 ls []) rfl ?_
  subst hp7_1
  refine lv_aload_n S.1 S.2.1 dX11_exchange_10 rfl (lv_at hl 0 rfl) ?_
  refine j_get (ci := 10) (C := RX11) (T := TX11) (N := 15) (v := .ref (ad 7)) S (fun w h => List.mem_cons_of_mem _ (inG11 w h)) hK hW hO rfl 6 (by decide) (List.mem_cons_of_mem _ wfl_X11_28) (fun _ h9 => h9) rfl dX11_exchange_11 ?_
  refine lv_iload_n S.1 S.2.1 dX11_exchange_14 rfl (lv_at hl 1 rfl) ?_
  refine j_callV (k := 7) (ci := 5) (q := (RX6, TX6, 1)) (As := [.int (nI xN_2)]) (rest := []) S hK hA hW (c_X6_atN l D cy 7 8 (ad 7) (ad 8) 10 xN_2 od hOo hOa   (by omega) (by decide)) (jgo wm_X11_106) yk_X6_at hOo rfl rfl ⟨⟨rfl, rfl⟩, by decide, by decide⟩ rfl hl.1 rfl (Nat.le_of_ble_eq_true rfl) dX11_exchange_15 ⟨Nat.le_of_ble_eq_true rfl, Nat.le_of_ble_eq_true rfl⟩ (fun v u H locs hp hW => ?_)
  obtain ⟨rfl, rfl⟩ := hp
  refine W.eq (g2 := F0 m 18 ls [.int (nI (od xN_2))]) rfl ?_
  refine lv_istore_n (lv' := [(3, .int (nI (od xN_2))), (0, .ref (ad 0)), (1, .int (nI xN_2)), (2, .int (nI xN_7))]) S.1 S.2.1 dX11_exchange_18 rfl hl (by decide) rfl (fun ls hl => ?_)
  refine lv_aload_n S.1 S.2.1 dX11_exchange_19 rfl (lv_at hl 1 rfl) ?_
  refine j_get (ci := 10) (C := RX11) (T := TX11) (N := 15) (v := .ref (ad 7)) S (fun w h => List.mem_cons_of_mem _ (inG11 w h)) hK hW hO rfl 6 (by decide) (List.mem_cons_of_mem _ wfl_X11_28) (fun _ h9 => h9) rfl dX11_exchange_20 ?_
  refine lv_iload_n S.1 S.2.1 dX11_exchange_23 rfl (lv_at hl 2 rfl) ?_
  refine lv_aload_n S.1 S.2.1 dX11_exchange_24 rfl (lv_at hl 1 rfl) ?_
  refine j_get (ci := 10) (C := RX11) (T := TX11) (N := 15) (v := .ref (ad 7)) S (fun w h => List.mem_cons_of_mem _ (inG11 w h)) hK hW hO rfl 6 (by decide) (List.mem_cons_of_mem _ wfl_X11_28) (fun _ h9 => h9) rfl dX11_exchange_25 ?_
  refine lv_iload_n S.1 S.2.1 dX11_exchange_28 rfl (lv_at hl 3 rfl) ?_
  refine j_callV (k := 7) (ci := 5) (q := (RX6, TX6, 1)) (As := [.int (nI xN_7)]) (rest := [.int (nI xN_2), .ref (ad 7)]) S hK hA hW (c_X6_atN l D cy 7 8 (ad 7) (ad 8) 10 xN_7 od hOo hOa   (by omega) (by decide)) (jgo wm_X11_106) yk_X6_at hOo rfl rfl ⟨⟨rfl, rfl⟩, by decide, by decide⟩ rfl hl.1 rfl (Nat.le_of_ble_eq_true rfl) dX11_exchange_29 ⟨Nat.le_of_ble_eq_true rfl, Nat.le_of_ble_eq_true rfl⟩ (fun v u H locs hp hW => ?_)
  obtain ⟨rfl, rfl⟩ := hp
  refine W.eq (g2 := F0 m 32 ls [.int (nI (od xN_7)), .int (nI xN_2), .ref (ad 7)]) rfl ?_
  refine j_callV (k := 7) (ci := 5) (q := (RX6, TX6, 1)) (As := [.int (nI xN_2), .int (nI (od xN_7))]) (rest := []) S hK hA hW (c_X6_putN l D cy 7 8 (ad 7) (ad 8) 10 xN_2 od (od xN_7) hOo hOa   (by omega) (by decide)) (jgo wm_X11_88) yk_X6_put hOo rfl rfl ⟨⟨rfl, rfl⟩, by decide, by decide⟩ rfl hl.1 rfl (Nat.le_of_ble_eq_true rfl) dX11_exchange_32 ⟨Nat.le_of_ble_eq_true rfl, Nat.le_of_ble_eq_true rfl⟩ (fun v w_ H locs hp hW => ?_)
  obtain ⟨rfl, hU1, hN1⟩ := hp
  have hU : jU w w_ [0, 20, 22, 31, 33, 35, 37, 39, 41, 8] := jU.mono hU1 (by decide)
  have hO_ := hU1.get hO (by decide)
  have hMo_ := hU1.get hMo (by decide)
  have hMa_ := hU1.get hMa (by decide)
  have hX_ := hU1.get hX (by decide)
  have hXta_ := hU1.get hXta (by decide)
  have hXfa_ := hU1.get hXfa (by decide)
  have hXwa_ := hU1.get hXwa (by decide)
  have hXya_ := hU1.get hXya (by decide)
  have hXpa_ := hU1.get hXpa (by decide)
  have hOa_ : w_[8]? = some (ad 8, .inl (cy 0, 10, .inl (nf (upB od xN_2 (od xN_7))))) := hN1
  clear hU1 hN1
  refine W.eq (g2 := F0 m 35 ls []) rfl ?_
  refine lv_aload_n S.1 S.2.1 dX11_exchange_35 rfl (lv_at hl 1 rfl) ?_
  refine j_get (ci := 10) (C := RX11) (T := TX11) (N := 15) (v := .ref (ad 7)) S (fun w h => List.mem_cons_of_mem _ (inG11 w h)) hK hW hO_ rfl 6 (by decide) (List.mem_cons_of_mem _ wfl_X11_28) (fun _ h9 => h9) rfl dX11_exchange_36 ?_
  refine lv_iload_n S.1 S.2.1 dX11_exchange_39 rfl (lv_at hl 3 rfl) ?_
  refine lv_iload_n S.1 S.2.1 dX11_exchange_40 rfl (lv_at hl 0 rfl) ?_
  refine j_callV (k := 7) (ci := 5) (q := (RX6, TX6, 1)) (As := [.int (nI xN_7), .int (nI (od xN_2))]) (rest := []) S hK hA hW (c_X6_putN l D cy 7 8 (ad 7) (ad 8) 10 xN_7 (upB od xN_2 (od xN_7)) (od xN_2) (hU.get hOo (by decide)) hOa_   (by omega) (by decide)) (jgo wm_X11_88) yk_X6_put (hU.get hOo (by decide)) rfl rfl ⟨⟨rfl, rfl⟩, by decide, by decide⟩ rfl hl.1 rfl (Nat.le_of_ble_eq_true rfl) dX11_exchange_41 ⟨Nat.le_of_ble_eq_true rfl, Nat.le_of_ble_eq_true rfl⟩ (fun v w_ H locs hp hW => ?_)
  obtain ⟨rfl, hU1, hN1⟩ := hp
  have hU := hU.then hU1 (by decide)
  have hO_ := hU1.get hO_ (by decide)
  have hMo_ := hU1.get hMo_ (by decide)
  have hMa_ := hU1.get hMa_ (by decide)
  have hX_ := hU1.get hX_ (by decide)
  have hXta_ := hU1.get hXta_ (by decide)
  have hXfa_ := hU1.get hXfa_ (by decide)
  have hXwa_ := hU1.get hXwa_ (by decide)
  have hXya_ := hU1.get hXya_ (by decide)
  have hXpa_ := hU1.get hXpa_ (by decide)
  have hOa_ : w_[8]? = some (ad 8, .inl (cy 0, 10, .inl (nf (upB (upB od xN_2 (od xN_7)) xN_7 (od xN_2))))) := hN1
  clear hU1 hN1
  refine W.eq (g2 := F0 m 44 ls []) rfl ?_
  refine lv_aload_n S.1 S.2.1 dX11_exchange_44 rfl (lv_at hl 1 rfl) ?_
  refine lv_aload_n S.1 S.2.1 dX11_exchange_45 rfl (lv_at hl 1 rfl) ?_
  refine j_callV (k := 0) (ci := 10) (q := (RX11, TX11, 15)) (As := []) (rest := [.ref (ad 0)]) S hK hA hW (c_X11_freshModels l D cy ad n sd se fr nc lv tf cp ca cs mv MX hO_ hMo_ (hU.get hMl (by decide)) hMa_ (hU.get hC (by decide)) (hU.get hT (by decide)) (hcon.kept hU (by decide))  (by omega) (by omega) (by omega) (by omega) (by first | omega | exact fun _ => ⟨rfl, rfl⟩)) (jgo wm_X11_199) yk_X11_freshModels hO_ rfl rfl ⟨⟨rfl, rfl⟩, by decide, by decide⟩ rfl hl.1 rfl (Nat.le_of_ble_eq_true rfl) dX11_exchange_46 ⟨Nat.le_of_ble_eq_true rfl, Nat.le_of_ble_eq_true rfl⟩ (fun v w_ H locs hp hW => ?_)
  obtain ⟨rfl, hU1, hN1, hN2, hN3⟩ := hp
  have hU := hU.then hU1 (by decide)
  have hX_ := hU1.get hX_ (by decide)
  have hXta_ := hU1.get hXta_ (by decide)
  have hXfa_ := hU1.get hXfa_ (by decide)
  have hXwa_ := hU1.get hXwa_ (by decide)
  have hXya_ := hU1.get hXya_ (by decide)
  have hXpa_ := hU1.get hXpa_ (by decide)
  have hOa_ := hU1.get hOa_ (by decide)
  have hO_ : w_[0]? = some (ad 0, .inr (10, [.int (nI n), .ref (ad 1), .ref (ad 3), .ref (ad 5), .int (nI sd), .int (nI se), .ref (ad 7), .ref (ad 9), .ref (ad 11), .ref (ad 20), .int (bI true), .ref (ad 23), .ref (ad 26), .ref (ad 31), .ref (ad 42)])) := hN1
  have hMo_ : w_[20]? = some (ad 20, .inr (0, [.ref (ad 21), .int (nI n)])) := hN2
  have hMa_ : w_[22]? = some (ad 22, .inl (cy 1, 16, .inr (.inl (wd (mdl n sd se nc cs lv))))) := hN3
  clear hU1 hN1 hN2 hN3
  refine W.eq (g2 := F0 m 49 ls [.ref (ad 20), .ref (ad 0)]) rfl ?_
  refine j_callV (k := 0) (ci := 10) (q := (RX11, TX11, 15)) (As := [.ref (ad 20)]) (rest := []) S hK hA hW (c_X11_countNodes l D cy 20 21 22 (ad 20) (ad 21) (ad 22) n (mdl n sd se nc cs lv) ad sd se true sz tp fw tw yw pcn (upB (upB od xN_2 (od xN_7)) xN_7 (od xN_2)) hMo_ (hU.get hMl (by decide)) hMa_ hO_ hX_ (hU.get hXto (by decide)) hXta_ (hU.get hXfo (by decide)) hXfa_ (hU.get hXwo (by decide)) hXwa_ (hU.get hXyo (by decide)) hXya_ (hU.get hXpo (by decide)) hXpa_ (hU.get hOo (by decide)) hOa_   (by omega) (fun j => by unfold upB; split; exact hod _; split; exact hod _; exact hod _) (hf) (ht) (by omega)) (jgo wm_X11_260) yk_X11_countNodes hO_ rfl rfl ⟨⟨rfl, rfl⟩, by decide, by decide⟩ rfl hl.1 rfl (Nat.le_of_ble_eq_true rfl) dX11_exchange_49 ⟨Nat.le_of_ble_eq_true rfl, Nat.le_of_ble_eq_true rfl⟩ (fun v w_ H locs hp hW => ?_)
  obtain ⟨sz1_49, tp1_49, fw1_49, tw1_49, yw1_49, pcn1_49, rfl, hp49_0, hU1, hN1, hN2, hN3, hN4, hN5, hN6⟩ := hp
  have hU := hU.then hU1 (by decide)
  have hO_ := hU1.get hO_ (by decide)
  have hMo_ := hU1.get hMo_ (by decide)
  have hMa_ := hU1.get hMa_ (by decide)
  have hOa_ := hU1.get hOa_ (by decide)
  have hX_ : w_[31]? = some (ad 31, .inr (2, [.ref (ad 32), .ref (ad 34), .ref (ad 36), .ref (ad 38), .ref (ad 40), .int (nI sz1_49)])) := hN1
  have hXta_ : w_[33]? = some (ad 33, .inl (cy 0, 1024, .inl (nf tp1_49))) := hN2
  have hXfa_ : w_[35]? = some (ad 35, .inl (cy 0, 272, .inl (nf fw1_49))) := hN3
  have hXwa_ : w_[37]? = some (ad 37, .inl (cy 0, 272, .inl (nf tw1_49))) := hN4
  have hXya_ : w_[39]? = some (ad 39, .inl (cy 0, 272, .inl (nf yw1_49))) := hN5
  have hXpa_ : w_[41]? = some (ad 41, .inl (cy 0, 10, .inl (nf pcn1_49))) := hN6
  clear hU1 hN1 hN2 hN3 hN4 hN5 hN6
  refine W.eq (g2 := F0 m 52 ls [.int (nI (sumN (nodesB (fun d => (mdl n sd se nc cs lv) (layP n (upB (upB od xN_2 (od xN_7)) xN_7 (od xN_2)) d n)) n) n))]) rfl ?_
  subst hQ
  refine vx_ret ?_
  exact j_iret (u := w_) S hr (rfl) hK hW dX11_exchange_52 ⟨by decide, by decide⟩ (⟨_, _, _, _, _, _, xN_2, xN_7, rfl, hp49_0, hp2_0, rfl, hp7_0, rfl, hU, hO_, hMo_, hMa_, hX_, hXta_, hXfa_, hXwa_, hXya_, hXpa_, hOa_⟩)
/-- orderAt -/
theorem c_X11_orderAt (l : Launch) (htr : l.stackTraces = false) (D : va_G) (cy : Nat → ClassId) {w : va_W} (ad : Nat → Nat) (n sd se : Nat) (fr : Bool) (od : Nat → Nat) (v : Int32) (hO : w[0]? = some (ad 0, .inr (10, [.int (nI n), .ref (ad 1), .ref (ad 3), .ref (ad 5), .int (nI sd), .int (nI se), .ref (ad 7), .ref (ad 9), .ref (ad 11), .ref (ad 20), .int (bI fr), .ref (ad 23), .ref (ad 26), .ref (ad 31), .ref (ad 42)]))) (hOo : w[7]? = some (ad 7, .inr (5, [.ref (ad 8)]))) (hOa : w[8]? = some (ad 8, .inl (cy 0, 10, .inl (nf od)))) (hn : n ≤ 10) : jMx jTexts l yX11_orderAt (jws yX11_orderAt cX11_orderAt 2 (some .int)) (jR 9 1 6) D cy w [.ref (ad 0), .int v] 1 6 (fun vv uu => ∃ (x : Nat), vv = some (.int (nI (od x))) ∧ x < n ∧ v = nI x ∧ w = uu) (fun EE uu => ((EE = "java/lang/IndexOutOfBoundsException" ∧ (vB v n = false))) ∧ w = uu) := by
  refine jx_of (by decide) rfl (Nat.le_of_ble_eq_true rfl) ?_
  intro p e s m args below meth c A ls Q hQ S hr hK hA H locs hW hl htab hx
  have hl : lv_has ls 2 [(0, .ref (ad 0)), (1, .int v)] := hl
  refine lv_aload_n S.1 S.2.1 dX11_orderAt_0 rfl (lv_at hl 0 rfl) ?_
  refine lv_iload_n S.1 S.2.1 dX11_orderAt_1 rfl (lv_at hl 1 rfl) ?_
  refine jx_callq (k := 0) (ci := 10) (q := (RX11, TX11, 15)) (As := [.int v]) (rest := []) S hK hA hW hQ htab hr hx (c_X11_checkPlace l htr D cy ad n sd se fr v hO   (by omega)) (jgo wm_X11_274) yk_X11_checkPlace hO rfl rfl ⟨⟨rfl, rfl⟩, by decide, by decide⟩ rfl hl.1 rfl (Nat.le_of_ble_eq_true rfl) dX11_orderAt_2 ⟨Nat.le_of_ble_eq_true rfl, Nat.le_of_ble_eq_true rfl⟩ ⟨by decide, by decide⟩ (fun E u h => by obtain ⟨⟨e1, h⟩, e⟩ := h; exact ⟨⟨e1, by first | exact h | exact Or.inl h | exact Or.inr h | exact Or.inr (Or.inl h) | exact Or.inr (Or.inr h) | omega | (simp at h ⊢; omega)⟩, e⟩) (fun v u H locs hp hW => ?_)
  obtain ⟨xN_2, rfl, hp2_0, hp2_1, rfl⟩ := hp
  refine W.eq (g2 := F0 m 5 ls []) rfl ?_
  subst hp2_1
  refine lv_aload_n S.1 S.2.1 dX11_orderAt_5 rfl (lv_at hl 0 rfl) ?_
  refine j_get (ci := 10) (C := RX11) (T := TX11) (N := 15) (v := .ref (ad 7)) S (fun w h => List.mem_cons_of_mem _ (inG11 w h)) hK hW hO rfl 6 (by decide) (List.mem_cons_of_mem _ wfl_X11_28) (fun _ h9 => h9) rfl dX11_orderAt_6 ?_
  refine lv_iload_n S.1 S.2.1 dX11_orderAt_9 rfl (lv_at hl 1 rfl) ?_
  refine j_callV (k := 7) (ci := 5) (q := (RX6, TX6, 1)) (As := [.int (nI xN_2)]) (rest := []) S hK hA hW (c_X6_atN l D cy 7 8 (ad 7) (ad 8) 10 xN_2 od hOo hOa   (by omega) (by decide)) (jgo wm_X11_106) yk_X6_at hOo rfl rfl ⟨⟨rfl, rfl⟩, by decide, by decide⟩ rfl hl.1 rfl (Nat.le_of_ble_eq_true rfl) dX11_orderAt_10 ⟨Nat.le_of_ble_eq_true rfl, Nat.le_of_ble_eq_true rfl⟩ (fun v u H locs hp hW => ?_)
  obtain ⟨rfl, rfl⟩ := hp
  refine W.eq (g2 := F0 m 13 ls [.int (nI (od xN_2))]) rfl ?_
  subst hQ
  refine vx_ret ?_
  exact j_iret (u := w) S hr (rfl) hK hW dX11_orderAt_13 ⟨by decide, by decide⟩ (⟨xN_2, rfl, hp2_0, rfl, rfl⟩)
