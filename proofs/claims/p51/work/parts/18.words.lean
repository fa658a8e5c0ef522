theorem i_J0 : ∀ w ∈ u_ws RJ0 TJ0 4, w ∈ tb := by decide +kernel
theorem str_fit : ∀ i, i < 40 → ∀ j, j < 60 → fits .byte (.int ((strB.getD i []).getD j 0)) = true := by decide +kernel
theorem bF_cat {f t : Nat → Int32} {n k : Nat} (h : bF t) (hf : ∀ j, j < k → fits .byte (.int (f j)) = true) : bF (va_cpy f t 0 n k) := by
  intro j
  unfold va_cpy
  split
  · exact hf _ (by omega)
  · exact h j
theorem cat_lo {f t : Nat → Int32} {n k j : Nat} (h : j < n) : va_cpy f t 0 n k j = t j := by
  unfold va_cpy
  rw [if_neg (by omega)]
theorem cat_hi {f t : Nat → Int32} {n k j : Nat} (h : j < k) : va_cpy f t 0 n k (n + j) = f j := by
  unfold va_cpy
  rw [if_pos ⟨by omega, by omega⟩]
  congr 1
  omega
theorem pv_tx {s : State} {H : Heap} {D : va_G} {G : GA} {B0 : Nat} {X : Nat → Nat → Nat} {x y cap n : Nat} {t : Nat → Int32} {ml : Int32} {A : Nat → Prop} {As : List Value} {i : Nat} (hi : i < 40) (hK : KK D G s) (hP : va_P D vwCl (lb G x y cap t n ml) H) (hD : va_D A (lb G x y cap t n ml)) (hAB : ∀ q, A q → B0 ≤ q) (hE : EN B0 X s H) : PreV s H RJ0 (X 2 i) (va_Pc (.ref (X 2 i) :: As) (LBp D G B0 X x y cap t n ml H.size)) As :=
  ⟨fun A U g mk q => ⟨q.1, q.2.1, q.2.2.1, va_K.moved (Vm.Alike.refl U.vm) q.2.2.2.1, q.2.2.2.2.1, EN.warm (s := U) (State.WarmedH.refl U) q.2.2.2.2.2⟩, by obtain ⟨cell, a, b, c, -⟩ := (hE.s.2.1 i hi).1; exact ⟨cell, a, b, c⟩, fun U hU hW => ⟨rfl, by rw [hU], by rw [hU]; exact hP, va_K.moved hW.alike hK, hD.weaken (fun _ q _ h => hAB q.1 h), by rw [hU]; exact hE.warm hW⟩⟩
theorem arr_fit {cA : ClassId} {n : Nat} {t : Nat → Int32} (h : bF t) : ∀ (i : Nat) (v : Value), (vp_cell cA (n, .inl t)).slots[i]? = some v → fits .byte v = true := by
  intro i v hv
  have hv : (arrV cA n (fun j => .int (t j))).slots[i]? = some v := hv
  unfold arrV at hv
  obtain ⟨hlt, rfl⟩ := Array.getElem?_eq_some_iff.mp hv
  simp only [Array.getElem_ofFn]
  exact h _
/-- a text that is made: q itself, v its bytes -/
def stw (G : GA) (q v n : Nat) (t : Nat → Int32) : va_W := [(q, .inr (0, [.ref v, .int 0, .int 0, .int 0])), (v, .inl (G 4, n, .inl t))]
abbrev TSp (D : va_G) (G : GA) (B0 : Nat) (X : Nat → Nat → Nat) (q x y cap : Nat) (t : Nat → Int32) (n : Nat) (ml : Int32) (sz : Nat) (U : State) : Prop := U.heap.size = sz ∧ va_P D vwCl ((q, .inr (0, [.null, .int 0, .int 0, .int 0])) :: lb G x y cap t n ml) U.heap ∧ KK D G U ∧ va_D (bA B0) ((q, .inr (0, [.null, .int 0, .int 0, .int 0])) :: lb G x y cap t n ml) ∧ EN B0 X U U.heap
theorem pi_ts {s : State} {H : Heap} {D : va_G} {G : GA} {B0 : Nat} {X : Nat → Nat → Nat} {q x y cap n : Nat} {t : Nat → Int32} {ml : Int32} {A : Nat → Prop} {As : List Value} (hK : KK D G s) (hP : va_P D vwCl ((q, .inr (0, [.null, .int 0, .int 0, .int 0])) :: lb G x y cap t n ml) H) (hD : va_D A ((q, .inr (0, [.null, .int 0, .int 0, .int 0])) :: lb G x y cap t n ml)) (hAB : ∀ q, A q → B0 ≤ q) (hE : EN B0 X s H) : PreS s H (va_Pc As (TSp D G B0 X q x y cap t n ml H.size)) As :=
  ⟨fun A U g mk q => ⟨q.1, q.2.1, q.2.2.1, va_K.moved (Vm.Alike.refl U.vm) q.2.2.2.1, q.2.2.2.2.1, EN.warm (s := U) (State.WarmedH.refl U) q.2.2.2.2.2⟩, fun U hU hW => ⟨rfl, by rw [hU], by rw [hU]; exact hP, va_K.moved hW.alike hK, hD.weaken (fun _ q _ h => hAB q.1 h), by rw [hU]; exact hE.warm hW⟩⟩

set_option maxRecDepth 100000 in
set_option maxHeartbeats 4000000 in
theorem c_J0_getBytes_840e7 (l : Launch) (D : va_G) (G : GA) (B0 : Nat) (X : Nat → Nat → Nat) (x y cap : Nat) (t : Nat → Int32) (n : Nat) (ml : Int32) (hn : n ≤ cap) (hcap : cap ≤ 202) (hf : bF t) (i : Nat) (hi : i < 40) (h5 : n + strL.getD i 0 ≤ cap) (sz : Nat) : Met l yJ0_getBytes_840e7 (wA yJ0_getBytes_840e7 cJ0_getBytes_840e7 4 none) ({ frames := 1, cells := 0, slots := 0, locals := 40 } : Room) (va_Pc [.ref (X 2 i), .ref y, .int (nI n), .int 0] (LBp D G B0 X x y cap t n ml sz)) (va_Qv (fun u : BR => (∀ j, j < n → u.2.2 j = t j) ∧ (∀ j, j < strL.getD i 0 → u.2.2 (n + j) = (strB.getD i []).getD j 0) ∧ bF u.2.2 ∧ n + strL.getD i 0 ≤ u.2.1 ∧ u.2.1 ≤ 202 ∧ u.1 = y ∧ u.2.1 = cap) (fun u t9 => va_P D vwCl (lb G x u.1 u.2.1 u.2.2 n ml) t9.heap ∧ va_D (va_A (lb G x y cap t n ml) sz) (lb G x u.1 u.2.1 u.2.2 n ml)) (va_A (lb G x y cap t n ml) sz)) 0 0 (va_A (lb G x y cap t n ml) sz) := by
  refine Met.ofW (cc := cJ0_getBytes_840e7) (maxL := 4) (ret := none) (by decide) rfl ?_
  intro p9 e s m args below meth c9 s₁ B hml hv
  obtain ⟨rfl, hsz, hP, hK, hDB, hE⟩ := hv
  have hx := B.exec
  have hb := B.bytes
  have hr := B.returns
  have hts : ∀ w9 ∈ tb, w9.before ([.ref (X 2 i), .ref y, .int (nI n), .int 0] : List Value).toArray s = true := fun w9 h9 => atoms_spec (ws := (wA yJ0_getBytes_840e7 cJ0_getBytes_840e7 4 none)) B.pre w9 (List.mem_cons_of_mem _ h9)
  have hown : s.vm.findClass RJ0 = some m.cls := findClass_of_methodNamed B.named
  have hlocks := B.notSynchronized
  subst hsz
  have hD := hDB.self (sz := s.heap.size)
  have hAB := A_sub hDB hE.1
  generalize hAe : va_A (lb G x y cap t n ml) s.heap.size = A at hD hAB ⊢
  have hA : ∀ q : Nat, s.heap.size ≤ q → A q := fun q h => by rw [← hAe]; exact Or.inr h
  have hS : va_S A s.heap s.heap [] := va_S.rf
  have hl := lv_entry ([.ref (X 2 i), .ref y, .int (nI n), .int 0]) (n := 4) (Nat.le_of_ble_eq_true rfl)
  rw [lg_entry_eq]
  generalize (lg_sl ([.ref (X 2 i), .ref y, .int (nI n), .int 0]) ++ List.replicate (4 - (lg_sl ([.ref (X 2 i), .ref y, .int (nI n), .int 0])).length) Slot.unset).toArray = ls at hl ⊢
  have hl : lv_has ls 4 [(0, .ref (X 2 i)), (1, .ref y), (2, .int (nI n)), (3, .int 0)] := hl
  have hsl := strL_le i hi
  refine lv_aload_n hx hb dJ0_getBytes_840e7_0 rfl (lv_at hl 0 rfl) ?_
  refine vp_callSi (va_runV (As := []) (rest := []) ⟨hx, hb, hml, hown, hts⟩ (c_J0_coder_7d493 l (X 2 i) (X 3 i) (strL.getD i 0) (fun j => (strB.getD i []).getD j 0)) (cwV 0 hts (gV kw_776 kw_777 kw_778 kw_33 kw_779) rfl rfl rfl (by decide +kernel) ⟨Nat.le_of_ble_eq_true rfl, Nat.le_of_ble_eq_true rfl⟩) (pv_st ((hE.at hS hAB).str (i := i) hi) (JZ.of (hE.at hS hAB))) rfl rfl hl.1 rfl (lv_room (Nat.le_of_ble_eq_true rfl)) dJ0_getBytes_840e7_1 ⟨Nat.le_of_ble_eq_true rfl, Nat.le_of_ble_eq_true rfl⟩).run (nm_e ?_)
  refine lv_iload_n hx hb dJ0_getBytes_840e7_4 rfl (lv_at hl 3 rfl) ?_
  refine lv_icmp_ne (tgt := 28) hx hb dJ0_getBytes_840e7_5 (by decide) (fun c_1 => absurd rfl c_1) (fun _ => ?_)
  refine lv_aload_n hx hb dJ0_getBytes_840e7_8 rfl (lv_at hl 0 rfl) ?_
  refine vk_getf (o := "java/lang/String") (n := "value") (d := "[B") (v := .ref (X 3 i)) hx hb ((hE.s.2.1 i hi).2.2.1) (S_weak hS hAB) hown (hts _ kw_1217) (fun _ h9 => h9) dJ0_getBytes_840e7_9 ?_
  refine lv_iconst (v := 0) hx hb dJ0_getBytes_840e7_12 (by decide) ?_
  refine lv_aload_n hx hb dJ0_getBytes_840e7_13 rfl (lv_at hl 1 rfl) ?_
  refine lv_iload_n hx hb dJ0_getBytes_840e7_14 rfl (lv_at hl 2 rfl) ?_
  refine lv_iload_n hx hb dJ0_getBytes_840e7_15 rfl (lv_at hl 3 rfl) ?_
  refine lv_ishl hx hb dJ0_getBytes_840e7_16 ?_
  rw [sc_shl0]
  refine lv_aload_n hx hb dJ0_getBytes_840e7_17 rfl (lv_at hl 0 rfl) ?_
  refine vk_getf (o := "java/lang/String") (n := "value") (d := "[B") (v := .ref (X 3 i)) hx hb ((hE.s.2.1 i hi).2.2.1) (S_weak hS hAB) hown (hts _ kw_1217) (fun _ h9 => h9) dJ0_getBytes_840e7_18 ?_
  refine va_tlen (v := nI (strL.getD i 0)) hx hb ((hE.s.2.1 i hi).2.2.2) (S_weak hS hAB) rfl dJ0_getBytes_840e7_21 ?_
  refine vk_copyt hx hb (hml.trans hl.1.symm) hown (hts _ kw_1137) (hts _ kw_1083) (hts _ kw_1082) (hts _ kw_55) hK hP hD hS (va_T.narrow (hE.s.2.1 i hi).2.2.2 hAB) 1 4 rfl rfl (by decide) (nI_pos (n := n) (by omega)) (nI_pos (n := strL.getD i 0) (by omega)) (by rw [cl0, nI_clamp (by omega)]; omega) (by rw [nI_clamp (n := n) (by omega), nI_clamp (n := strL.getD i 0) (by omega)]; omega) (fun j hj => by rw [nI_clamp (n := strL.getD i 0) (by omega)] at hj; rw [cl0, Nat.zero_add]; exact str_fit i hi j (by omega)) (Nat.le_of_ble_eq_true rfl) (Nat.le_of_ble_eq_true rfl) dJ0_getBytes_840e7_22 (fun H locs hP hD hS => ?_)
  rw [cl0, nI_clamp (n := n) (by omega), nI_clamp (n := strL.getD i 0) (by omega)] at hP hD
  have hP : va_P D vwCl (lb G x y cap (va_cpy (fun j => (strB.getD i []).getD j 0) t 0 n (strL.getD i 0)) n ml) H := hP
  have hD : va_D A (lb G x y cap (va_cpy (fun j => (strB.getD i []).getD j 0) t 0 n (strL.getD i 0)) n ml) := hD
  refine lv_goto (tgt := 43) hx hb dJ0_getBytes_840e7_25 (by decide) ?_
  refine W.widen (k := 0) (n := 0) (by omega) (by omega) ?_
  have hP9 : va_P D vwCl (lb G x y cap (va_cpy (fun j => (strB.getD i []).getD j 0) t 0 n (strL.getD i 0)) n ml) H := hP
  have hD9 : va_D A (lb G x y cap (va_cpy (fun j => (strB.getD i []).getD j 0) t 0 n (strL.getD i 0)) n ml) := lbD hD
  exact W.vret hx hb hr (fun t8 ht hW => ⟨⟨(y, cap, va_cpy (fun j => (strB.getD i []).getD j 0) t 0 n (strL.getD i 0)), rfl, ⟨fun j hj => cat_lo (f := (fun j => (strB.getD i []).getD j 0)) (t := t) (k := strL.getD i 0) hj, fun j hj => cat_hi (f := (fun j => (strB.getD i []).getD j 0)) hj, bF_cat hf (fun j hj => str_fit i hi j (by omega)), h5, hcap, rfl, rfl⟩, by rw [ht]; exact hP9, hD9⟩, hS.F ht⟩) hS.2.2 dJ0_getBytes_840e7_43
set_option maxRecDepth 100000 in
set_option maxHeartbeats 4000000 in
theorem c_J5_inflateIfNeededFor_a7421 (l : Launch) (D : va_G) (G : GA) (B0 : Nat) (X : Nat → Nat → Nat) (x y cap : Nat) (t : Nat → Int32) (n : Nat) (ml : Int32) (hn : n ≤ cap) (hcap : cap ≤ 202) (hf : bF t) (i : Nat) (hi : i < 40) : Met l yJ5_inflateIfNeededFor_a7421 (wA yJ5_inflateIfNeededFor_a7421 cJ5_inflateIfNeededFor_a7421 2 none) ({ frames := 1, cells := 0, slots := 0, locals := 20 } : Room) (va_Pc [.ref x, .ref (X 2 i)] (LRp D G B0 X x y cap t n ml)) (va_Sv (fun _ => True)) 0 0 (fun _ => False) := by
  refine Met.ofW (cc := cJ5_inflateIfNeededFor_a7421) (maxL := 2) (ret := none) (by decide) rfl ?_
  intro p9 e s m args below meth c9 s₁ B hml hv
  obtain ⟨rfl, hP, hK, hE⟩ := hv
  have hx := B.exec
  have hb := B.bytes
  have hr := B.returns
  have hts : ∀ w9 ∈ tb, w9.before ([.ref x, .ref (X 2 i)] : List Value).toArray s = true := fun w9 h9 => atoms_spec (ws := (wA yJ5_inflateIfNeededFor_a7421 cJ5_inflateIfNeededFor_a7421 2 none)) B.pre w9 (List.mem_cons_of_mem _ h9)
  have hown : s.vm.findClass RJ5 = some m.cls := findClass_of_methodNamed B.named
  have hlocks := B.notSynchronized
  have hl := lv_entry ([.ref x, .ref (X 2 i)]) (n := 2) (Nat.le_of_ble_eq_true rfl)
  rw [lg_entry_eq]
  generalize (lg_sl ([.ref x, .ref (X 2 i)]) ++ List.replicate (2 - (lg_sl ([.ref x, .ref (X 2 i)])).length) Slot.unset).toArray = ls at hl ⊢
  have hl : lv_has ls 2 [(0, .ref x), (1, .ref (X 2 i))] := hl
  refine va_gets (C := "java/lang/String") (n := "COMPACT_STRINGS") (d := "Z") (v := .int 1) hx hb hE.j.1 va_S.rf hown (hts _ kw_204) (fun _ h9 => h9) dJ5_inflateIfNeededFor_a7421_0 ?_
  refine lv_if_eq (tgt := 21) hx hb dJ5_inflateIfNeededFor_a7421_3 (by decide) (fun c_1 => absurd c_1 (by decide)) (fun _ => ?_)
  refine lv_aload_n hx hb dJ5_inflateIfNeededFor_a7421_6 rfl (lv_at hl 0 rfl) ?_
  refine va_get (D := D) (ci := 1) (v := .int 0) (C := RJ4) (T := TJ4) (N := 4) hx hb hts i_J4 hown hK hP 0 rfl rfl 1 (by decide) (hts _ kw_214) (fun _ h9 => h9) rfl dJ5_inflateIfNeededFor_a7421_7 ?_
  refine lv_aload_n hx hb dJ5_inflateIfNeededFor_a7421_10 rfl (lv_at hl 1 rfl) ?_
  refine vp_callSi (va_runV (As := []) (rest := [.int 0]) ⟨hx, hb, hml, hown, hts⟩ (c_J0_coder_7d493 l (X 2 i) (X 3 i) (strL.getD i 0) (fun j => (strB.getD i []).getD j 0)) (cwV 0 hts (gV kw_1113 kw_777 kw_778 kw_33 kw_779) rfl rfl rfl (by decide +kernel) ⟨Nat.le_of_ble_eq_true rfl, Nat.le_of_ble_eq_true rfl⟩) (pv_st (hE.str (i := i) hi) (JZ.of hE)) rfl rfl hl.1 rfl (lv_room (Nat.le_of_ble_eq_true rfl)) dJ5_inflateIfNeededFor_a7421_11 ⟨Nat.le_of_ble_eq_true rfl, Nat.le_of_ble_eq_true rfl⟩).run (nm_e ?_)
  refine lv_icmp_eq (tgt := 21) hx hb dJ5_inflateIfNeededFor_a7421_14 (by decide) (fun _ => ?_) (fun c_2 => absurd rfl c_2)
  exact W.vret hx hb hr (fun t ht hW => ⟨rfl, trivial, ht⟩) (fun q h => absurd h List.not_mem_nil) dJ5_inflateIfNeededFor_a7421_21
set_option maxRecDepth 100000 in
set_option maxHeartbeats 4000000 in
theorem c_J5_putStringAt_47b60 (l : Launch) (D : va_G) (G : GA) (B0 : Nat) (X : Nat → Nat → Nat) (x y cap : Nat) (t : Nat → Int32) (n : Nat) (ml : Int32) (hn : n ≤ cap) (hcap : cap ≤ 202) (hf : bF t) (i : Nat) (hi : i < 40) (h5 : n + strL.getD i 0 ≤ cap) (sz : Nat) : Met l yJ5_putStringAt_47b60 (wA yJ5_putStringAt_47b60 cJ5_putStringAt_47b60 3 none) ({ frames := 2, cells := 0, slots := 0, locals := 63 } : Room) (va_Pc [.ref x, .int (nI n), .ref (X 2 i)] (LBp D G B0 X x y cap t n ml sz)) (va_Qv (fun u : BR => (∀ j, j < n → u.2.2 j = t j) ∧ (∀ j, j < strL.getD i 0 → u.2.2 (n + j) = (strB.getD i []).getD j 0) ∧ bF u.2.2 ∧ n + strL.getD i 0 ≤ u.2.1 ∧ u.2.1 ≤ 202 ∧ u.1 = y ∧ u.2.1 = cap) (fun u t9 => va_P D vwCl (lb G x u.1 u.2.1 u.2.2 n ml) t9.heap ∧ va_D (va_A (lb G x y cap t n ml) sz) (lb G x u.1 u.2.1 u.2.2 n ml)) (va_A (lb G x y cap t n ml) sz)) 0 0 (va_A (lb G x y cap t n ml) sz) := by
  refine Met.ofW (cc := cJ5_putStringAt_47b60) (maxL := 3) (ret := none) (by decide) rfl ?_
  intro p9 e s m args below meth c9 s₁ B hml hv
  obtain ⟨rfl, hsz, hP, hK, hDB, hE⟩ := hv
  have hx := B.exec
  have hb := B.bytes
  have hr := B.returns
  have hts : ∀ w9 ∈ tb, w9.before ([.ref x, .int (nI n), .ref (X 2 i)] : List Value).toArray s = true := fun w9 h9 => atoms_spec (ws := (wA yJ5_putStringAt_47b60 cJ5_putStringAt_47b60 3 none)) B.pre w9 (List.mem_cons_of_mem _ h9)
  have hown : s.vm.findClass RJ5 = some m.cls := findClass_of_methodNamed B.named
  have hlocks := B.notSynchronized
  subst hsz
  have hD := hDB.self (sz := s.heap.size)
  have hAB := A_sub hDB hE.1
  generalize hAe : va_A (lb G x y cap t n ml) s.heap.size = A at hD hAB ⊢
  have hA : ∀ q : Nat, s.heap.size ≤ q → A q := fun q h => by rw [← hAe]; exact Or.inr h
  have hS : va_S A s.heap s.heap [] := va_S.rf
  have hl := lv_entry ([.ref x, .int (nI n), .ref (X 2 i)]) (n := 3) (Nat.le_of_ble_eq_true rfl)
  rw [lg_entry_eq]
  generalize (lg_sl ([.ref x, .int (nI n), .ref (X 2 i)]) ++ List.replicate (3 - (lg_sl ([.ref x, .int (nI n), .ref (X 2 i)])).length) Slot.unset).toArray = ls at hl ⊢
  have hl : lv_has ls 3 [(0, .ref x), (1, .int (nI n)), (2, .ref (X 2 i))] := hl
  have hsl := strL_le i hi
  refine lv_aload_n hx hb dJ5_putStringAt_47b60_0 rfl (lv_at hl 0 rfl) ?_
  refine lv_aload_n hx hb dJ5_putStringAt_47b60_1 rfl (lv_at hl 2 rfl) ?_
  refine va_csv (va_runU (As := [.ref (X 2 i)]) (rest := []) ⟨hx, hb, hml, hown, hts⟩ (c_J5_inflateIfNeededFor_a7421 l D G B0 X x y cap t n ml (by omega) (by omega) hf i hi) (va_cwU 1 hts (gU kw_1109 kw_1494 kwx_3 kw_1111 kw_31 kw_1112) rfl rfl rfl rfl (by decide +kernel) ⟨Nat.le_of_ble_eq_true rfl, Nat.le_of_ble_eq_true rfl⟩) (pv_lr hK hP (hE.at hS hAB)) rfl rfl hl.1 rfl (lv_room (Nat.le_of_ble_eq_true rfl)) dJ5_putStringAt_47b60_2 ⟨Nat.le_of_ble_eq_true rfl, Nat.le_of_ble_eq_true rfl⟩).run (fun _ => ?_)
  refine lv_aload_n hx hb dJ5_putStringAt_47b60_5 rfl (lv_at hl 2 rfl) ?_
  refine lv_aload_n hx hb dJ5_putStringAt_47b60_6 rfl (lv_at hl 0 rfl) ?_
  refine va_get (D := D) (ci := 1) (v := .ref y) (C := RJ4) (T := TJ4) (N := 4) hx hb hts i_J4 hown hK hP 0 rfl rfl 0 (by decide) (hts _ kw_213) (fun _ h9 => h9) rfl dJ5_putStringAt_47b60_7 ?_
  refine lv_iload_n hx hb dJ5_putStringAt_47b60_10 rfl (lv_at hl 1 rfl) ?_
  refine lv_aload_n hx hb dJ5_putStringAt_47b60_11 rfl (lv_at hl 0 rfl) ?_
  refine va_get (D := D) (ci := 1) (v := .int 0) (C := RJ4) (T := TJ4) (N := 4) hx hb hts i_J4 hown hK hP 0 rfl rfl 1 (by decide) (hts _ kw_214) (fun _ h9 => h9) rfl dJ5_putStringAt_47b60_12 ?_
  have hFc := freeC hD hS hA
  refine va_callv (va_runV (As := [.ref y, .int (nI n), .int 0]) (rest := []) ⟨hx, hb, hml, hown, hts⟩ (c_J0_getBytes_840e7 l D G B0 X x y cap t n ml hn hcap hf i hi h5 s.heap.size) (cwV 3 hts (gV kw_1133 kw_1134 kw_1135 kw_33 kw_1136) rfl rfl rfl (by decide +kernel) ⟨Nat.le_of_ble_eq_true rfl, Nat.le_of_ble_eq_true rfl⟩) (pv_tx hi hK hP hD hAB (hE.at hS hAB)) rfl rfl hl.1 rfl (lv_room (Nat.le_of_ble_eq_true rfl)) dJ5_putStringAt_47b60_15 ⟨Nat.le_of_ble_eq_true rfl, Nat.le_of_ble_eq_true rfl⟩) hS (fun q _ h => hFc q h) hFc (fun u1 t9 H locs ht hvm hw hB hz1 hk1 hS => ?_)
  obtain ⟨hB, hB2⟩ := hB
  rw [ht] at hB
  obtain ⟨f1_0, f1_1, f1_2, f1_3, f1_4, f1_5, f1_6⟩ := hw
  have hP : va_P D vwCl (lb G x u1.1 u1.2.1 u1.2.2 n ml) H := hB
  have hD : va_D A (lb G x u1.1 u1.2.1 u1.2.2 n ml) := hB2.weaken (fun _ _ _ h9 => hFc _ h9)
  refine W.widen (k := 0) (n := 0) (by omega) (by omega) ?_
  have hP9 : va_P D vwCl (lb G x u1.1 u1.2.1 u1.2.2 n ml) H := hP
  have hD9 : va_D A (lb G x u1.1 u1.2.1 u1.2.2 n ml) := lbD hD
  exact W.vret hx hb hr (fun t8 ht hW => ⟨⟨(u1.1, u1.2.1, u1.2.2), rfl, ⟨f1_0, f1_1, f1_2, f1_3, f1_4, f1_5, f1_6⟩, by rw [ht]; exact hP9, hD9⟩, hS.F ht⟩) hS.2.2 dJ5_putStringAt_47b60_18
set_option maxRecDepth 100000 in
set_option maxHeartbeats 4000000 in
theorem c_J5_append_cf1ce (l : Launch) (D : va_G) (G : GA) (B0 : Nat) (X : Nat → Nat → Nat) (x y cap : Nat) (t : Nat → Int32) (n : Nat) (ml : Int32) (hn : n ≤ cap) (hcap : cap ≤ 202) (hf : bF t) (i : Nat) (hi : i < 40) (h5 : n + strL.getD i 0 ≤ 100) (sz : Nat) : Met l yJ5_append_cf1ce (wA yJ5_append_cf1ce cJ5_append_cf1ce 3 (some (.object "java/lang/AbstractStringBuilder"))) ({ frames := 4, cells := 1, slots := 202, locals := 91 } : Room) (va_Pc [.ref x, .ref (X 2 i)] (LBp D G B0 X x y cap t n ml sz)) (va_Qr (fun u : BR => (∀ j, j < n → u.2.2 j = t j) ∧ (∀ j, j < strL.getD i 0 → u.2.2 (n + j) = (strB.getD i []).getD j 0) ∧ bF u.2.2 ∧ n + strL.getD i 0 ≤ u.2.1 ∧ u.2.1 ≤ 202) (fun u q9 t9 => q9 = x ∧ va_P D vwCl (lb G x u.1 u.2.1 u.2.2 (n + strL.getD i 0) ml) t9.heap ∧ va_D (va_A (lb G x y cap t n ml) sz) (lb G x u.1 u.2.1 u.2.2 (n + strL.getD i 0) ml)) (va_A (lb G x y cap t n ml) sz)) 1 202 (va_A (lb G x y cap t n ml) sz) := by
  refine Met.ofW (cc := cJ5_append_cf1ce) (maxL := 3) (ret := (some (.object "java/lang/AbstractStringBuilder"))) (by decide) rfl ?_
  intro p9 e s m args below meth c9 s₁ B hml hv
  obtain ⟨rfl, hsz, hP, hK, hDB, hE⟩ := hv
  have hx := B.exec
  have hb := B.bytes
  have hr := B.returns
  have hts : ∀ w9 ∈ tb, w9.before ([.ref x, .ref (X 2 i)] : List Value).toArray s = true := fun w9 h9 => atoms_spec (ws := (wA yJ5_append_cf1ce cJ5_append_cf1ce 3 (some (.object "java/lang/AbstractStringBuilder")))) B.pre w9 (List.mem_cons_of_mem _ h9)
  have hown : s.vm.findClass RJ5 = some m.cls := findClass_of_methodNamed B.named
  have hlocks := B.notSynchronized
  subst hsz
  have hD := hDB.self (sz := s.heap.size)
  have hAB := A_sub hDB hE.1
  generalize hAe : va_A (lb G x y cap t n ml) s.heap.size = A at hD hAB ⊢
  have hA : ∀ q : Nat, s.heap.size ≤ q → A q := fun q h => by rw [← hAe]; exact Or.inr h
  have hS : va_S A s.heap s.heap [] := va_S.rf
  have hl := lv_entry ([.ref x, .ref (X 2 i)]) (n := 3) (Nat.le_of_ble_eq_true rfl)
  rw [lg_entry_eq]
  generalize (lg_sl ([.ref x, .ref (X 2 i)]) ++ List.replicate (3 - (lg_sl ([.ref x, .ref (X 2 i)])).length) Slot.unset).toArray = ls at hl ⊢
  have hl : lv_has ls 3 [(0, .ref x), (1, .ref (X 2 i))] := hl
  have hsl := strL_le i hi
  refine lv_aload_n hx hb dJ5_append_cf1ce_0 rfl (lv_at hl 1 rfl) ?_
  refine lv_ifnonnull (tgt := 9) hx hb dJ5_append_cf1ce_1 (by decide) ?_
  refine lv_aload_n hx hb dJ5_append_cf1ce_9 rfl (lv_at hl 1 rfl) ?_
  refine vp_callSi (va_runV (As := []) (rest := []) ⟨hx, hb, hml, hown, hts⟩ (c_J0_length_8abf5 l (X 2 i) (X 3 i) (strL.getD i 0) (fun j => (strB.getD i []).getD j 0) (by have := strL_le i hi; omega)) (cwV 0 hts (gV kw_1104 kw_773 kw_774 kw_33 kw_775) rfl rfl rfl (by decide +kernel) ⟨Nat.le_of_ble_eq_true rfl, Nat.le_of_ble_eq_true rfl⟩) (pv_st ((hE.at hS hAB).str (i := i) hi) (JZ.of (hE.at hS hAB))) rfl rfl hl.1 rfl (lv_room (Nat.le_of_ble_eq_true rfl)) dJ5_append_cf1ce_10 ⟨Nat.le_of_ble_eq_true rfl, Nat.le_of_ble_eq_true rfl⟩).run (nm_e ?_)
  refine lv_istore_n (lv' := [(2, .int (nI (strL.getD i 0))), (0, .ref x), (1, .ref (X 2 i))]) hx hb dJ5_append_cf1ce_13 rfl hl (by decide) rfl (fun ls hl => ?_)
  refine lv_aload_n hx hb dJ5_append_cf1ce_14 rfl (lv_at hl 1 rfl) ?_
  refine lv_aload_n hx hb dJ5_append_cf1ce_15 rfl (lv_at hl 1 rfl) ?_
  refine va_get (D := D) (ci := 1) (v := .int (nI n)) (C := RJ4) (T := TJ4) (N := 4) hx hb hts i_J4 hown hK hP 0 rfl rfl 3 (by decide) (hts _ kw_217) (fun _ h9 => h9) rfl dJ5_append_cf1ce_16 ?_
  refine lv_iload_n hx hb dJ5_append_cf1ce_19 rfl (lv_at hl 0 rfl) ?_
  refine lv_iadd hx hb dJ5_append_cf1ce_20 ?_
  rw [show ((nI n) + (nI (strL.getD i 0)) : Int32) = nI (n + (strL.getD i 0)) from nI_add _ _]
  have hFc := freeC hD hS hA
  refine va_callv (va_runU (As := [.int (nI (n + (strL.getD i 0)))]) (rest := []) ⟨hx, hb, hml, hown, hts⟩ (c_J5_ensureCapacityInternal_d00df l D G B0 X x y cap t n ml (by omega) (by omega) hf (n + (strL.getD i 0)) (by omega) s.heap.size) (va_cwU 1 hts (gU kw_1053 kw_1491 kwx_0 kw_1055 kw_31 kw_1056) rfl rfl rfl rfl (by decide +kernel) ⟨Nat.le_of_ble_eq_true rfl, Nat.le_of_ble_eq_true rfl⟩) (pv_lb hK hP hD hAB (hE.at hS hAB)) rfl rfl hl.1 rfl (lv_room (Nat.le_of_ble_eq_true rfl)) dJ5_append_cf1ce_21 ⟨Nat.le_of_ble_eq_true rfl, Nat.le_of_ble_eq_true rfl⟩) hS (fun q _ h => hFc q h) hFc (fun u1 t9 H locs ht hvm hw hB hz1 hk1 hS => ?_)
  obtain ⟨hB, hB2⟩ := hB
  rw [ht] at hB
  obtain ⟨f1_0, f1_1, f1_2, f1_3, f1_4⟩ := hw
  have hP : va_P D vwCl (lb G x u1.1 u1.2.1 u1.2.2 n ml) H := hB
  have hD : va_D A (lb G x u1.1 u1.2.1 u1.2.2 n ml) := hB2.weaken (fun _ _ _ h9 => hFc _ h9)
  refine lv_aload_n hx hb dJ5_append_cf1ce_24 rfl (lv_at hl 1 rfl) ?_
  refine lv_aload_n hx hb dJ5_append_cf1ce_25 rfl (lv_at hl 1 rfl) ?_
  refine va_get (D := D) (ci := 1) (v := .int (nI n)) (C := RJ4) (T := TJ4) (N := 4) hx hb hts i_J4 hown hK hP 0 rfl rfl 3 (by decide) (hts _ kw_217) (fun _ h9 => h9) rfl dJ5_append_cf1ce_26 ?_
  refine lv_aload_n hx hb dJ5_append_cf1ce_29 rfl (lv_at hl 2 rfl) ?_
  have hFc := freeC hD hS hA
  refine va_callv (va_runU (As := [.int (nI n), .ref (X 2 i)]) (rest := []) ⟨hx, hb, hml, hown, hts⟩ (c_J5_putStringAt_47b60 l D G B0 X x u1.1 u1.2.1 u1.2.2 n ml (by omega) (by omega) f1_1 i hi (by omega) H.size) (va_cwU 2 hts (gU kw_1105 kw_1493 kwx_2 kw_1107 kw_31 kw_1108) rfl rfl rfl rfl (by decide +kernel) ⟨Nat.le_of_ble_eq_true rfl, Nat.le_of_ble_eq_true rfl⟩) (pv_lb hK hP hD hAB (hE.at hS hAB)) rfl rfl hl.1 rfl (lv_room (Nat.le_of_ble_eq_true rfl)) dJ5_append_cf1ce_30 ⟨Nat.le_of_ble_eq_true rfl, Nat.le_of_ble_eq_true rfl⟩) hS (fun q _ h => hFc q h) hFc (fun u2 t9 H locs ht hvm hw hB hz1 hk1 hS => ?_)
  obtain ⟨hB, hB2⟩ := hB
  rw [ht] at hB
  obtain ⟨f2_0, f2_1, f2_2, f2_3, f2_4, f2_5, f2_6⟩ := hw
  have hP : va_P D vwCl (lb G x u2.1 u2.2.1 u2.2.2 n ml) H := hB
  have hD : va_D A (lb G x u2.1 u2.2.1 u2.2.2 n ml) := hB2.weaken (fun _ _ _ h9 => hFc _ h9)
  refine lv_aload_n hx hb dJ5_append_cf1ce_33 rfl (lv_at hl 1 rfl) ?_
  refine lv_dup hx hb dJ5_append_cf1ce_34 rfl ?_
  refine va_get (D := D) (ci := 1) (v := .int (nI n)) (C := RJ4) (T := TJ4) (N := 4) hx hb hts i_J4 hown hK hP 0 rfl rfl 3 (by decide) (hts _ kw_217) (fun _ h9 => h9) rfl dJ5_append_cf1ce_35 ?_
  refine lv_iload_n hx hb dJ5_append_cf1ce_38 rfl (lv_at hl 0 rfl) ?_
  refine lv_iadd hx hb dJ5_append_cf1ce_39 ?_
  rw [show ((nI n) + (nI (strL.getD i 0)) : Int32) = nI (n + (strL.getD i 0)) from nI_add _ _]
  refine va_put (D := D) (ci := 1) (v := .int (nI (n + (strL.getD i 0)))) (ty := .int) (C := RJ4) (T := TJ4) (N := 4) hx hb hts i_J4 tyJ4 tyJ4_ok nmJ4 hown hK hP hD hS 0 rfl rfl 3 (by decide) (hts _ kw_217) (fun _ h9 => h9) rfl (by decide +kernel) rfl rfl (Nat.le_of_ble_eq_true rfl) dJ5_append_cf1ce_40 (fun H locs hP hD hS => ?_)
  have hP : va_P D vwCl (lb G x u2.1 u2.2.1 u2.2.2 (n + (strL.getD i 0)) ml) H := hP
  have hD : va_D A (lb G x u2.1 u2.2.1 u2.2.2 (n + (strL.getD i 0)) ml) := hD
  refine lv_aload_n hx hb dJ5_append_cf1ce_43 rfl (lv_at hl 1 rfl) ?_
  refine W.widen (k := 1) (n := 202) (by omega) (by omega) ?_
  have hP9 : va_P D vwCl (lb G x u2.1 u2.2.1 u2.2.2 (n + strL.getD i 0) ml) H := hP
  have hD9 : va_D A (lb G x u2.1 u2.2.1 u2.2.2 (n + strL.getD i 0) ml) := lbD hD
  exact W.aret (v := .ref x) hx hb hr (Or.inl ⟨_, rfl⟩) (Or.inr ⟨_, rfl⟩) (fun t8 ht hW => ⟨⟨(u2.1, u2.2.1, u2.2.2), x, rfl, ⟨fun j hj => (f2_0 j hj).trans (f1_0 j (by omega)), f2_1, f2_2, by omega, f2_4⟩, rfl, by rw [ht]; exact hP9, hD9⟩, hS.F ht⟩) hS.2.2 dJ5_append_cf1ce_44
set_option maxRecDepth 100000 in
set_option maxHeartbeats 4000000 in
theorem c_J4_append_15ec4 (l : Launch) (D : va_G) (G : GA) (B0 : Nat) (X : Nat → Nat → Nat) (x y cap : Nat) (t : Nat → Int32) (n : Nat) (ml : Int32) (hn : n ≤ cap) (hcap : cap ≤ 202) (hf : bF t) (i : Nat) (hi : i < 40) (h5 : n + strL.getD i 0 ≤ 100) (sz : Nat) : Met l yJ4_append_15ec4 (wA yJ4_append_15ec4 cJ4_append_15ec4 2 (some (.object "java/lang/StringBuilder"))) ({ frames := 5, cells := 1, slots := 202, locals := 113 } : Room) (va_Pc [.ref x, .ref (X 2 i)] (LBp D G B0 X x y cap t n ml sz)) (va_Qr (fun u : BR => (∀ j, j < n → u.2.2 j = t j) ∧ (∀ j, j < strL.getD i 0 → u.2.2 (n + j) = (strB.getD i []).getD j 0) ∧ bF u.2.2 ∧ n + strL.getD i 0 ≤ u.2.1 ∧ u.2.1 ≤ 202) (fun u q9 t9 => q9 = x ∧ va_P D vwCl (lb G x u.1 u.2.1 u.2.2 (n + strL.getD i 0) ml) t9.heap ∧ va_D (va_A (lb G x y cap t n ml) sz) (lb G x u.1 u.2.1 u.2.2 (n + strL.getD i 0) ml)) (va_A (lb G x y cap t n ml) sz)) 1 202 (va_A (lb G x y cap t n ml) sz) := by
  refine Met.ofW (cc := cJ4_append_15ec4) (maxL := 2) (ret := (some (.object "java/lang/StringBuilder"))) (by decide) rfl ?_
  intro p9 e s m args below meth c9 s₁ B hml hv
  obtain ⟨rfl, hsz, hP, hK, hDB, hE⟩ := hv
  have hx := B.exec
  have hb := B.bytes
  have hr := B.returns
  have hts : ∀ w9 ∈ tb, w9.before ([.ref x, .ref (X 2 i)] : List Value).toArray s = true := fun w9 h9 => atoms_spec (ws := (wA yJ4_append_15ec4 cJ4_append_15ec4 2 (some (.object "java/lang/StringBuilder")))) B.pre w9 (List.mem_cons_of_mem _ h9)
  have hown : s.vm.findClass RJ4 = some m.cls := findClass_of_methodNamed B.named
  have hlocks := B.notSynchronized
  subst hsz
  have hD := hDB.self (sz := s.heap.size)
  have hAB := A_sub hDB hE.1
  generalize hAe : va_A (lb G x y cap t n ml) s.heap.size = A at hD hAB ⊢
  have hA : ∀ q : Nat, s.heap.size ≤ q → A q := fun q h => by rw [← hAe]; exact Or.inr h
  have hS : va_S A s.heap s.heap [] := va_S.rf
  have hl := lv_entry ([.ref x, .ref (X 2 i)]) (n := 2) (Nat.le_of_ble_eq_true rfl)
  rw [lg_entry_eq]
  generalize (lg_sl ([.ref x, .ref (X 2 i)]) ++ List.replicate (2 - (lg_sl ([.ref x, .ref (X 2 i)])).length) Slot.unset).toArray = ls at hl ⊢
  have hl : lv_has ls 2 [(0, .ref x), (1, .ref (X 2 i))] := hl
  refine lv_aload_n hx hb dJ4_append_15ec4_0 rfl (lv_at hl 0 rfl) ?_
  refine lv_aload_n hx hb dJ4_append_15ec4_1 rfl (lv_at hl 1 rfl) ?_
  have hFc := freeC hD hS hA
  refine va_callr (va_runSU (As := [.ref (X 2 i)]) (rest := []) (hK.1 1 _ rfl).2 ⟨hx, hb, hml, hown, hts⟩ (c_J5_append_cf1ce l D G B0 X x y cap t n ml (by omega) (by omega) hf i hi h5 s.heap.size) (va_cwSU 1 hts (gSU kw_1046 kw_1489 kw_226 kw_1047 kw_31 kw_1048) rfl rfl rfl (by decide +kernel) ⟨Nat.le_of_ble_eq_true rfl, Nat.le_of_ble_eq_true rfl⟩) (pv_lb hK hP hD hAB (hE.at hS hAB)) rfl rfl hl.1 rfl (lv_room (Nat.le_of_ble_eq_true rfl)) dJ4_append_15ec4_2 ⟨Nat.le_of_ble_eq_true rfl, Nat.le_of_ble_eq_true rfl⟩) hS (fun q _ h => hFc q h) hFc (fun u1 q9 t9 H locs ht hvm hw hB hz1 hk1 hS => ?_)
  obtain ⟨e9, hB, hB2⟩ := hB
  have e9 := e9.symm
  subst e9
  rw [ht] at hB
  obtain ⟨f1_0, f1_1, f1_2, f1_3, f1_4⟩ := hw
  have hP : va_P D vwCl (lb G x u1.1 u1.2.1 u1.2.2 (n + strL.getD i 0) ml) H := hB
  have hD : va_D A (lb G x u1.1 u1.2.1 u1.2.2 (n + strL.getD i 0) ml) := hB2.weaken (fun _ _ _ h9 => hFc _ h9)
  refine lv_pop hx hb dJ4_append_15ec4_5 rfl ?_
  refine lv_aload_n hx hb dJ4_append_15ec4_6 rfl (lv_at hl 0 rfl) ?_
  refine W.widen (k := 1) (n := 202) (by omega) (by omega) ?_
  have hP9 : va_P D vwCl (lb G x u1.1 u1.2.1 u1.2.2 (n + strL.getD i 0) ml) H := hP
  have hD9 : va_D A (lb G x u1.1 u1.2.1 u1.2.2 (n + strL.getD i 0) ml) := lbD hD
  exact W.aret (v := .ref x) hx hb hr (Or.inl ⟨_, rfl⟩) (Or.inr ⟨_, rfl⟩) (fun t8 ht hW => ⟨⟨(u1.1, u1.2.1, u1.2.2), x, rfl, ⟨f1_0, f1_1, f1_2, f1_3, f1_4⟩, rfl, by rw [ht]; exact hP9, hD9⟩, hS.F ht⟩) hS.2.2 dJ4_append_15ec4_7
set_option maxRecDepth 100000 in
set_option maxHeartbeats 4000000 in
theorem c_J7_checkLength_df160 (l : Launch)  (n : Nat) (h1 : n < 1000) : Met l yJ7_checkLength_df160 (wA yJ7_checkLength_df160 cJ7_checkLength_df160 2 none) ({ frames := 0, cells := 0, slots := 0, locals := 0 } : Room) (va_Pc [.int 0, .int (nI n)] (JZp)) (va_Sv (fun _ => True)) 0 0 (fun _ => False) := by
  refine Met.ofW (cc := cJ7_checkLength_df160) (maxL := 2) (ret := none) (by decide) rfl ?_
  intro p e s m args below meth c s₁ B hml hv
  obtain ⟨rfl, hZ⟩ := hv
  have hx := B.exec
  have hb := B.bytes
  have hr := B.returns
  have hts : ∀ w9 ∈ tb, w9.before ([.int 0, .int (nI n)] : List Value).toArray s = true := fun w9 h9 => atoms_spec (ws := (wA yJ7_checkLength_df160 cJ7_checkLength_df160 2 none)) B.pre w9 (List.mem_cons_of_mem _ h9)
  have hown : s.vm.findClass RJ7 = some m.cls := findClass_of_methodNamed B.named
  have hlocks := B.notSynchronized
  have hl := lv_entry ([.int 0, .int (nI n)]) (n := 2) (Nat.le_of_ble_eq_true rfl)
  rw [lg_entry_eq]
  generalize (lg_sl ([.int 0, .int (nI n)]) ++ List.replicate (2 - (lg_sl ([.int 0, .int (nI n)])).length) Slot.unset).toArray = ls at hl ⊢
  have hl : lv_has ls 2 [(0, .int 0), (1, .int (nI n))] := hl
  refine lv_iload_n hx hb dJ7_checkLength_df160_0 rfl (lv_at hl 1 rfl) ?_
  refine lv_iload_n hx hb dJ7_checkLength_df160_1 rfl (lv_at hl 0 rfl) ?_
  refine lv_icmp_ge (tgt := 37) hx hb dJ7_checkLength_df160_2 (by decide) (fun _ => ?_) (fun c_1 => absurd (nI_le (a := 0) (b := n) (by omega) (by omega)) c_1)
  exact W.vret hx hb hr (fun t ht hW => ⟨rfl, trivial, ht⟩) (fun q h => absurd h List.not_mem_nil) dJ7_checkLength_df160_37
set_option maxRecDepth 100000 in
set_option maxHeartbeats 4000000 in
theorem c_J7_copyOfRangeByte_39247 (l : Launch) (D : va_G) (G : GA) (B0 : Nat) (X : Nat → Nat → Nat) (y cap : Nat) (t : Nat → Int32) (hf : bF t) (n : Nat) (h1 : n < cap) (h2 : cap ≤ 202) (sz : Nat) : Met l yJ7_copyOfRangeByte_39247 (wA yJ7_copyOfRangeByte_39247 cJ7_copyOfRangeByte_39247 5 (some (.array .byte))) ({ frames := 1, cells := 1, slots := 202, locals := 40 } : Room) (va_Pc [.ref y, .int 0, .int (nI n)] (MKp D G B0 X ((y, .inl (G 4, cap, .inl t)) : Nat × va_E) sz)) (va_Qr (fun u : Nat → Int32 => ∀ j, j < n → u j = t j) (fun u q9 t9 => va_P D vwCl [((q9, .inl (G 4, n, .inl u)) : Nat × va_E)] t9.heap ∧ va_D (va_A [((y, .inl (G 4, cap, .inl t)) : Nat × va_E)] sz) [((q9, .inl (G 4, n, .inl u)) : Nat × va_E)]) (va_A [((y, .inl (G 4, cap, .inl t)) : Nat × va_E)] sz)) 1 202 (va_A [((y, .inl (G 4, cap, .inl t)) : Nat × va_E)] sz) := by
  refine Met.ofW (cc := cJ7_copyOfRangeByte_39247) (maxL := 5) (ret := (some (.array .byte))) (by decide) rfl ?_
  intro p9 e s m args below meth c9 s₁ B hml hv
  obtain ⟨rfl, hsz, hP, hK, hB0, hE⟩ := hv
  have hx := B.exec
  have hb := B.bytes
  have hr := B.returns
  have hts : ∀ w9 ∈ tb, w9.before ([.ref y, .int 0, .int (nI n)] : List Value).toArray s = true := fun w9 h9 => atoms_spec (ws := (wA yJ7_copyOfRangeByte_39247 cJ7_copyOfRangeByte_39247 5 (some (.array .byte)))) B.pre w9 (List.mem_cons_of_mem _ h9)
  have hown : s.vm.findClass RJ7 = some m.cls := findClass_of_methodNamed B.named
  have hlocks := B.notSynchronized
  subst hsz
  have hD : va_D (va_A [((y, .inl (G 4, cap, .inl t)) : Nat × va_E)] s.heap.size) [((y, .inl (G 4, cap, .inl t)) : Nat × va_E)] := D_1 _ _
  have hAB := A_B (c := ((y, .inl (G 4, cap, .inl t)) : Nat × va_E)) hB0 hE.1
  generalize hAe : va_A [((y, .inl (G 4, cap, .inl t)) : Nat × va_E)] s.heap.size = A at hD hAB ⊢
  have hA : ∀ q : Nat, s.heap.size ≤ q → A q := fun q h => by rw [← hAe]; exact Or.inr h
  have hS : va_S A s.heap s.heap [] := va_S.rf
  have hl := lv_entry ([.ref y, .int 0, .int (nI n)]) (n := 5) (Nat.le_of_ble_eq_true rfl)
  rw [lg_entry_eq]
  generalize (lg_sl ([.ref y, .int 0, .int (nI n)]) ++ List.replicate (5 - (lg_sl ([.ref y, .int 0, .int (nI n)])).length) Slot.unset).toArray = ls at hl ⊢
  have hl : lv_has ls 5 [(0, .ref y), (1, .int 0), (2, .int (nI n))] := hl
  refine lv_iload_n hx hb dJ7_copyOfRangeByte_39247_0 rfl (lv_at hl 1 rfl) ?_
  refine lv_iload_n hx hb dJ7_copyOfRangeByte_39247_1 rfl (lv_at hl 2 rfl) ?_
  refine va_csv (va_runS (As := [.int 0, .int (nI n)]) (rest := []) ⟨hx, hb, hml, hown, hts⟩ (c_J7_checkLength_df160 l n (by omega)) (va_cwS 2 hts (gS kw_1196 kw_1197 kw_54 kw_1198) rfl rfl rfl (by decide +kernel) ⟨Nat.le_of_ble_eq_true rfl, Nat.le_of_ble_eq_true rfl⟩) (ps_z (JZ.of (hE.at hS hAB))) rfl rfl hl.1 rfl (lv_room (Nat.le_of_ble_eq_true rfl)) dJ7_copyOfRangeByte_39247_2 ⟨Nat.le_of_ble_eq_true rfl, Nat.le_of_ble_eq_true rfl⟩).run (fun _ => ?_)
  refine lv_iload_n hx hb dJ7_copyOfRangeByte_39247_5 rfl (lv_at hl 2 rfl) ?_
  refine lv_iload_n hx hb dJ7_copyOfRangeByte_39247_6 rfl (lv_at hl 1 rfl) ?_
  refine lv_isub hx hb dJ7_copyOfRangeByte_39247_7 ?_
  rw [show ((nI n) - 0 : Int32) = nI n from Int32.sub_zero _]
  refine lv_istore_n (lv' := [(3, .int (nI n)), (0, .ref y), (1, .int 0), (2, .int (nI n))]) hx hb dJ7_copyOfRangeByte_39247_8 rfl hl (by decide) rfl (fun ls hl => ?_)
  refine lv_iload_n hx hb dJ7_copyOfRangeByte_39247_9 rfl (lv_at hl 0 rfl) ?_
  refine va_newa hx hb (atype := .byte) (hts _ kw_227) (ty := .byte) rfl hK hP hD hS hA (a0 := (n, .inl (fun _ => 0))) (fun _ => rfl) (N' := n) (nI_pos (n := n) (by omega)) (nI_clamp (n := n) (by omega)) (by show n * 1 ≤ 536870912; omega) (show 0 + 1 ≤ 1 by omega) (show 0 + n ≤ 202 by omega) dJ7_copyOfRangeByte_39247_10 (fun q1 cA H hK2 hP hD hS => ?_)
  rw [row_id (i := 4) (g := G 4) hK2 rfl] at hP hD
  clear hK2 cA
  refine W.widen (k := 1) (n := 202) (by omega) (by omega) ?_
  have hP : va_P D vwCl ([((y, .inl (G 4, cap, .inl t)) : Nat × va_E), (q1, .inl (G 4, n, .inl (fun _ => 0)))] : va_W) H := hP
  have hD : va_D A ([((y, .inl (G 4, cap, .inl t)) : Nat × va_E), (q1, .inl (G 4, n, .inl (fun _ => 0)))] : va_W) := hD
  refine lv_astore (x := q1) (lv' := [(4, .ref q1), (3, .int (nI n)), (0, .ref y), (1, .int 0), (2, .int (nI n))]) hx hb dJ7_copyOfRangeByte_39247_12 hl (by decide) rfl (fun ls hl => ?_)
  refine lv_aload_n hx hb dJ7_copyOfRangeByte_39247_14 rfl (lv_at hl 2 rfl) ?_
  refine lv_iload_n hx hb dJ7_copyOfRangeByte_39247_15 rfl (lv_at hl 3 rfl) ?_
  refine lv_aload hx hb dJ7_copyOfRangeByte_39247_16 (lv_at hl 0 rfl) ?_
  refine lv_iconst (v := 0) hx hb dJ7_copyOfRangeByte_39247_18 (by decide) ?_
  refine lv_aload_n hx hb dJ7_copyOfRangeByte_39247_19 rfl (lv_at hl 2 rfl) ?_
  refine va_alen (v := nI cap) hx hb hK hP 0 4 rfl rfl rfl dJ7_copyOfRangeByte_39247_20 ?_
  refine lv_iload_n hx hb dJ7_copyOfRangeByte_39247_21 rfl (lv_at hl 3 rfl) ?_
  refine lv_isub hx hb dJ7_copyOfRangeByte_39247_22 ?_
  rw [show ((nI cap) - 0 : Int32) = nI cap from Int32.sub_zero _]
  refine lv_iload_n hx hb dJ7_copyOfRangeByte_39247_23 rfl (lv_at hl 1 rfl) ?_
  refine va_mmin hx hb (hml.trans hl.1.symm) hown (hts _ kw_1080) (hts _ kw_694) (hts _ kw_46) (hts _ kw_695) (Nat.le_of_ble_eq_true rfl) (Nat.le_of_ble_eq_true rfl) (Nat.le_of_ble_eq_true rfl) (Nat.le_of_ble_eq_true rfl) dJ7_copyOfRangeByte_39247_24 ?_
  rw [if_pos (nI_lt (a := n) (b := cap) (by omega) (by omega))]
  refine va_copyi hx hb (hml.trans hl.1.symm) hown (hts _ kw_1081) (hts _ kw_1083) (hts _ kw_1082) (hts _ kw_55) hK hP hD hS 0 1 4 4 rfl rfl rfl rfl rfl (by decide) (by decide) (nI_pos (n := n) (by omega)) (by rw [cl0, nI_clamp (by omega)]; omega) (by rw [cl0, nI_clamp (by omega)]; omega) (fun i _ => hf _) (Nat.le_of_ble_eq_true rfl) (Nat.le_of_ble_eq_true rfl) dJ7_copyOfRangeByte_39247_27 (fun H locs hP hD hS => ?_)
  rw [cl0, nI_clamp (n := n) (by omega)] at hP hD
  have hP : va_P D vwCl ([((y, .inl (G 4, cap, .inl t)) : Nat × va_E), (q1, .inl (G 4, n, .inl (va_cpy t (fun _ => 0) 0 0 n)))] : va_W) H := hP
  have hD : va_D A ([((y, .inl (G 4, cap, .inl t)) : Nat × va_E), (q1, .inl (G 4, n, .inl (va_cpy t (fun _ => 0) 0 0 n)))] : va_W) := hD
  refine lv_aload hx hb dJ7_copyOfRangeByte_39247_30 (lv_at hl 0 rfl) ?_
  have hP9 := P_one hP (k := 1) rfl
  have hA9 : A q1 := hD.2 1 _ rfl
  exact W.aret (v := .ref q1) hx hb hr (Or.inr ⟨_, rfl⟩) (Or.inr ⟨_, rfl⟩) (fun t8 ht hW => ⟨⟨_, q1, rfl, fun j hj => cpy_at hj, by rw [ht]; exact hP9, D_of (by simp) (fun z hz => by rw [List.mem_singleton.mp hz]; exact hA9)⟩, hS.F ht⟩) hS.2.2 dJ7_copyOfRangeByte_39247_32
set_option maxRecDepth 100000 in
set_option maxHeartbeats 4000000 in
theorem c_J7_copyOfRange_39247 (l : Launch) (D : va_G) (G : GA) (B0 : Nat) (X : Nat → Nat → Nat) (y cap : Nat) (t : Nat → Int32) (hf : bF t) (n : Nat) (h1 : n ≤ cap) (h2 : cap ≤ 202) (sz : Nat) : Met l yJ7_copyOfRange_39247 (wA yJ7_copyOfRange_39247 cJ7_copyOfRange_39247 3 (some (.array .byte))) ({ frames := 2, cells := 1, slots := 202, locals := 64 } : Room) (va_Pc [.ref y, .int 0, .int (nI n)] (MKp D G B0 X ((y, .inl (G 4, cap, .inl t)) : Nat × va_E) sz)) (va_Qr (fun u : Nat → Int32 => ∀ j, j < n → u j = t j) (fun u q9 t9 => va_P D vwCl [((q9, .inl (G 4, n, .inl u)) : Nat × va_E)] t9.heap ∧ va_D (va_A [((y, .inl (G 4, cap, .inl t)) : Nat × va_E)] sz) [((q9, .inl (G 4, n, .inl u)) : Nat × va_E)]) (va_A [((y, .inl (G 4, cap, .inl t)) : Nat × va_E)] sz)) 1 202 (va_A [((y, .inl (G 4, cap, .inl t)) : Nat × va_E)] sz) := by
  refine Met.ofW (cc := cJ7_copyOfRange_39247) (maxL := 3) (ret := (some (.array .byte))) (by decide) rfl ?_
  intro p9 e s m args below meth c9 s₁ B hml hv
  obtain ⟨rfl, hsz, hP, hK, hB0, hE⟩ := hv
  have hx := B.exec
  have hb := B.bytes
  have hr := B.returns
  have hts : ∀ w9 ∈ tb, w9.before ([.ref y, .int 0, .int (nI n)] : List Value).toArray s = true := fun w9 h9 => atoms_spec (ws := (wA yJ7_copyOfRange_39247 cJ7_copyOfRange_39247 3 (some (.array .byte)))) B.pre w9 (List.mem_cons_of_mem _ h9)
  have hown : s.vm.findClass RJ7 = some m.cls := findClass_of_methodNamed B.named
  have hlocks := B.notSynchronized
  subst hsz
  have hD : va_D (va_A [((y, .inl (G 4, cap, .inl t)) : Nat × va_E)] s.heap.size) [((y, .inl (G 4, cap, .inl t)) : Nat × va_E)] := D_1 _ _
  have hAB := A_B (c := ((y, .inl (G 4, cap, .inl t)) : Nat × va_E)) hB0 hE.1
  generalize hAe : va_A [((y, .inl (G 4, cap, .inl t)) : Nat × va_E)] s.heap.size = A at hD hAB ⊢
  have hA : ∀ q : Nat, s.heap.size ≤ q → A q := fun q h => by rw [← hAe]; exact Or.inr h
  have hS : va_S A s.heap s.heap [] := va_S.rf
  have hl := lv_entry ([.ref y, .int 0, .int (nI n)]) (n := 3) (Nat.le_of_ble_eq_true rfl)
  rw [lg_entry_eq]
  generalize (lg_sl ([.ref y, .int 0, .int (nI n)]) ++ List.replicate (3 - (lg_sl ([.ref y, .int 0, .int (nI n)])).length) Slot.unset).toArray = ls at hl ⊢
  have hl : lv_has ls 3 [(0, .ref y), (1, .int 0), (2, .int (nI n))] := hl
  refine lv_iload_n hx hb dJ7_copyOfRange_39247_0 rfl (lv_at hl 1 rfl) ?_
  refine lv_if_ne (tgt := 10) hx hb dJ7_copyOfRange_39247_1 (by decide) (fun c_1 => absurd (by decide) c_1) (fun _ => ?_)
  refine lv_iload_n hx hb dJ7_copyOfRange_39247_4 rfl (lv_at hl 2 rfl) ?_
  refine lv_aload_n hx hb dJ7_copyOfRange_39247_5 rfl (lv_at hl 0 rfl) ?_
  refine va_alen (v := nI cap) hx hb hK hP 0 4 rfl rfl rfl dJ7_copyOfRange_39247_6 ?_
  refine lv_icmp_eq (tgt := 17) hx hb dJ7_copyOfRange_39247_7 (by decide) (fun c_2 => ?_) (fun c_2 => ?_)
  · skip
    have h3 : n = cap := (nI_eq (a := n) (b := cap) (by omega) (by omega)).mp c_2
    refine lv_aload_n hx hb dJ7_copyOfRange_39247_17 rfl (lv_at hl 0 rfl) ?_
    have hnm : s.vm.findClass "[B" = some (G 4) := (hK.2 4 _ rfl).2
    refine va_clone hx hb (hml.trans hl.1.symm) (ad := "[B") hown (hts _ kw_1073) (hts _ kw_1074) (hts _ kw_1075) (hts _ kw_1076) (hts _ kw_1077) (nw_1078 hE.nw) hK hP hD hS hA 0 4 rfl rfl hnm (arr_fit hf) (Nat.le_of_ble_eq_true rfl) (Nat.le_of_ble_eq_true rfl) (show 0 + 1 ≤ 1 by omega) (show 0 + cap ≤ 202 by omega) dJ7_copyOfRange_39247_18 (fun q1 H hK2 hP hD hS => ?_)
    clear hK2
    refine W.widen (k := 1) (n := 202) (by omega) (show 0 + cap ≤ 202 by omega) ?_
    have hP : va_P D vwCl ([((y, .inl (G 4, cap, .inl t)) : Nat × va_E), (q1, .inl (G 4, cap, .inl t))] : va_W) H := hP
    have hD : va_D A ([((y, .inl (G 4, cap, .inl t)) : Nat × va_E), (q1, .inl (G 4, cap, .inl t))] : va_W) := hD
    refine va_castA hx hb (nm := "[B") hown (hts _ kw_1079) hP 1 rfl hnm dJ7_copyOfRange_39247_21 ?_
    have hP9 := P_one hP (k := 1) rfl
    have hA9 : A q1 := hD.2 1 _ rfl
    subst h3
    exact W.aret (v := .ref q1) hx hb hr (Or.inr ⟨_, rfl⟩) (Or.inr ⟨_, rfl⟩) (fun t8 ht hW => ⟨⟨t, q1, rfl, fun j hj => rfl, by rw [ht]; exact hP9, D_of (by simp) (fun z hz => by rw [List.mem_singleton.mp hz]; exact hA9)⟩, hS.F ht⟩) hS.2.2 dJ7_copyOfRange_39247_24
  · skip
    have h3 : n < cap := Nat.lt_of_le_of_ne h1 (fun h9 => c_2 (by rw [h9]))
    refine lv_aload_n hx hb dJ7_copyOfRange_39247_10 rfl (lv_at hl 0 rfl) ?_
    refine lv_iload_n hx hb dJ7_copyOfRange_39247_11 rfl (lv_at hl 1 rfl) ?_
    refine lv_iload_n hx hb dJ7_copyOfRange_39247_12 rfl (lv_at hl 2 rfl) ?_
    have hFc := free_end (W := ([] : va_W)) (c := ((y, .inl (G 4, cap, .inl t)) : Nat × va_E)) hD hS hA
    refine va_callr (va_runS (As := [.ref y, .int 0, .int (nI n)]) (rest := []) ⟨hx, hb, hml, hown, hts⟩ (c_J7_copyOfRangeByte_39247 l D G B0 X y cap t hf n h3 h2 s.heap.size) (va_cwS 3 hts (gS kw_1193 kw_1194 kw_54 kw_1195) rfl rfl rfl (by decide +kernel) ⟨Nat.le_of_ble_eq_true rfl, Nat.le_of_ble_eq_true rfl⟩) (pi_mk (W := ([] : va_W)) (c := ((y, .inl (G 4, cap, .inl t)) : Nat × va_E)) hK hP hB0 (hE.at hS hAB)) rfl rfl hl.1 rfl (lv_room (Nat.le_of_ble_eq_true rfl)) dJ7_copyOfRange_39247_13 ⟨Nat.le_of_ble_eq_true rfl, Nat.le_of_ble_eq_true rfl⟩) hS (fun q _ h => hFc q h) hFc (fun u q1 t9 H locs ht hvm hw hB hz1 hk1 hS => ?_)
    obtain ⟨hB1, hB2⟩ := hB
    rw [ht] at hB1
    exact W.aret (v := .ref q1) hx hb hr (Or.inr ⟨_, rfl⟩) (Or.inr ⟨_, rfl⟩) (fun t8 ht hW => ⟨⟨u, q1, rfl, hw, by rw [ht]; exact hB1, hB2.weaken (fun _ _ _ h9 => hFc _ h9)⟩, hS.F ht⟩) hS.2.2 dJ7_copyOfRange_39247_16
set_option maxRecDepth 100000 in
set_option maxHeartbeats 4000000 in
theorem c_J5_getValue_6d5f1 (l : Launch) (D : va_G) (G : GA) (B0 : Nat) (X : Nat → Nat → Nat) (x y cap : Nat) (t : Nat → Int32) (n : Nat) (ml : Int32) (hn : n ≤ cap) (hcap : cap ≤ 202) (hf : bF t) : Met l yJ5_getValue_6d5f1 (wA yJ5_getValue_6d5f1 cJ5_getValue_6d5f1 1 (some (.array .byte))) ({ frames := 0, cells := 0, slots := 0, locals := 0 } : Room) (va_Pc [.ref x] (LRp D G B0 X x y cap t n ml)) (va_Sr (fun _ : Nat => True) (fun _ => .ref y)) 0 0 (fun _ => False) := by
  refine Met.ofW (cc := cJ5_getValue_6d5f1) (maxL := 1) (ret := (some (.array .byte))) (by decide) rfl ?_
  intro p9 e s m args below meth c9 s₁ B hml hv
  obtain ⟨rfl, hP, hK, hE⟩ := hv
  have hx := B.exec
  have hb := B.bytes
  have hr := B.returns
  have hts : ∀ w9 ∈ tb, w9.before ([.ref x] : List Value).toArray s = true := fun w9 h9 => atoms_spec (ws := (wA yJ5_getValue_6d5f1 cJ5_getValue_6d5f1 1 (some (.array .byte)))) B.pre w9 (List.mem_cons_of_mem _ h9)
  have hown : s.vm.findClass RJ5 = some m.cls := findClass_of_methodNamed B.named
  have hlocks := B.notSynchronized
  have hl := lv_entry ([.ref x]) (n := 1) (Nat.le_of_ble_eq_true rfl)
  rw [lg_entry_eq]
  generalize (lg_sl ([.ref x]) ++ List.replicate (1 - (lg_sl ([.ref x])).length) Slot.unset).toArray = ls at hl ⊢
  have hl : lv_has ls 1 [(0, .ref x)] := hl
  refine lv_aload_n hx hb dJ5_getValue_6d5f1_0 rfl (lv_at hl 0 rfl) ?_
  refine va_get (D := D) (ci := 1) (v := .ref y) (C := RJ4) (T := TJ4) (N := 4) hx hb hts i_J4 hown hK hP 0 rfl rfl 0 (by decide) (hts _ kw_213) (fun _ h9 => h9) rfl dJ5_getValue_6d5f1_1 ?_
  exact W.aret (v := .ref y) hx hb hr (Or.inr ⟨_, rfl⟩) (Or.inr ⟨_, rfl⟩) (fun t ht hW => ⟨0, rfl, trivial, ht⟩) (fun q h => absurd h List.not_mem_nil) dJ5_getValue_6d5f1_4
set_option maxRecDepth 100000 in
set_option maxHeartbeats 4000000 in
theorem c_J0_init_db425 (l : Launch) (D : va_G) (G : GA) (B0 : Nat) (X : Nat → Nat → Nat) (q x y cap : Nat) (t : Nat → Int32) (n : Nat) (ml : Int32) (hn : n ≤ cap) (hcap : cap ≤ 202) (hf : bF t) (sz : Nat) : Met l yJ0_init_db425 (wA yJ0_init_db425 cJ0_init_db425 5 none) ({ frames := 3, cells := 1, slots := 202, locals := 86 } : Room) (va_Pc [.ref q, .ref x, .null] (TSp D G B0 X q x y cap t n ml sz)) (va_Qv (fun u : Nat × (Nat → Int32) => ∀ j, j < n → u.2 j = t j) (fun u t9 => va_P D vwCl (stw G q u.1 n u.2) t9.heap ∧ va_D (va_A ((q, .inr (0, [.null, .int 0, .int 0, .int 0])) :: lb G x y cap t n ml) sz) (stw G q u.1 n u.2)) (va_A ((q, .inr (0, [.null, .int 0, .int 0, .int 0])) :: lb G x y cap t n ml) sz)) 1 202 (va_A ((q, .inr (0, [.null, .int 0, .int 0, .int 0])) :: lb G x y cap t n ml) sz) := by
  refine Met.ofW (cc := cJ0_init_db425) (maxL := 5) (ret := none) (by decide) rfl ?_
  intro p9 e s m args below meth c9 s₁ B hml hv
  obtain ⟨rfl, hsz, hP, hK, hDB, hE⟩ := hv
  have hx := B.exec
  have hb := B.bytes
  have hr := B.returns
  have hts : ∀ w9 ∈ tb, w9.before ([.ref q, .ref x, .null] : List Value).toArray s = true := fun w9 h9 => atoms_spec (ws := (wA yJ0_init_db425 cJ0_init_db425 5 none)) B.pre w9 (List.mem_cons_of_mem _ h9)
  have hown : s.vm.findClass RJ0 = some m.cls := findClass_of_methodNamed B.named
  have hlocks := B.notSynchronized
  have hin : meth.name = "<init>" := (name_of_methodNamed B.named B.method).1
  subst hsz
  have hD := hDB.self (sz := s.heap.size)
  have hAB := A_sub hDB hE.1
  generalize hAe : va_A ((q, .inr (0, [.null, .int 0, .int 0, .int 0])) :: lb G x y cap t n ml) s.heap.size = A at hD hAB ⊢
  have hA : ∀ q : Nat, s.heap.size ≤ q → A q := fun q h => by rw [← hAe]; exact Or.inr h
  have hS : va_S A s.heap s.heap [] := va_S.rf
  have hPL : va_P D vwCl (lb G x y cap t n ml) s.heap := P_subset (fun _ h9 => List.mem_cons_of_mem _ h9) hP
  have hl := lv_entry ([.ref q, .ref x, .null]) (n := 5) (Nat.le_of_ble_eq_true rfl)
  rw [lg_entry_eq]
  generalize (lg_sl ([.ref q, .ref x, .null]) ++ List.replicate (5 - (lg_sl ([.ref q, .ref x, .null])).length) Slot.unset).toArray = ls at hl ⊢
  have hl : lv_has ls 5 [(0, .ref q), (1, .ref x), (2, .null)] := hl
  refine lv_aload_n hx hb dJ0_init_db425_0 rfl (lv_at hl 0 rfl) ?_
  refine W.objInit hx hb hown (hts _ kw_1175) (hts _ kw_63) (hts _ kw_64) rfl (by rw [hml]; exact hl.1) rfl dJ0_init_db425_1 (Nat.le_of_ble_eq_true rfl) (Nat.le_of_ble_eq_true rfl) ?_
  refine W.eq (g2 := F0 m 4 ls []) rfl ?_
  refine lv_aload_n hx hb dJ0_init_db425_4 rfl (lv_at hl 1 rfl) ?_
  refine va_csr (va_runU (As := []) (rest := []) ⟨hx, hb, hml, hown, hts⟩ (c_J5_getValue_6d5f1 l D G B0 X x y cap t n ml hn hcap hf) (va_cwU 0 hts (gU kw_1176 kw_1178 kw_1179 kw_1177 kw_31 kw_1180) rfl rfl rfl rfl (by decide +kernel) ⟨Nat.le_of_ble_eq_true rfl, Nat.le_of_ble_eq_true rfl⟩) (pv_lr hK hPL (hE.at hS hAB)) rfl rfl hl.1 rfl (lv_room (Nat.le_of_ble_eq_true rfl)) dJ0_init_db425_5 ⟨Nat.le_of_ble_eq_true rfl, Nat.le_of_ble_eq_true rfl⟩).run (fun _ _ => ?_)
  refine lv_astore_n (x := y) (lv' := [(3, .ref y), (0, .ref q), (1, .ref x), (2, .null)]) hx hb dJ0_init_db425_8 rfl hl (by decide) rfl (fun ls hl => ?_)
  refine lv_aload_n hx hb dJ0_init_db425_9 rfl (lv_at hl 2 rfl) ?_
  refine vp_callSi (va_runU (As := []) (rest := []) ⟨hx, hb, hml, hown, hts⟩ (c_J4_length_8abf5 l D G B0 X x y cap t n ml hn hcap hf) (va_cwO 0 hts (gO kw_1181 kw_1183 kw_1182 kw_1184 kw_1185 kw_32 kw_1186) rfl rfl rfl kw_1188 (by decide +kernel) ⟨Nat.le_of_ble_eq_true rfl, Nat.le_of_ble_eq_true rfl⟩) (pv_lr hK hPL (hE.at hS hAB)) rfl rfl hl.1 rfl (lv_room (Nat.le_of_ble_eq_true rfl)) dJ0_init_db425_10 ⟨Nat.le_of_ble_eq_true rfl, Nat.le_of_ble_eq_true rfl⟩).run (nm_e ?_)
  refine lv_istore (lv' := [(4, .int (nI n)), (3, .ref y), (0, .ref q), (1, .ref x), (2, .null)]) hx hb dJ0_init_db425_13 hl (by decide) rfl (fun ls hl => ?_)
  refine lv_aload_n hx hb dJ0_init_db425_15 rfl (lv_at hl 3 rfl) ?_
  refine vp_callSi (va_runU (As := []) (rest := []) ⟨hx, hb, hml, hown, hts⟩ (c_J5_isLatin1_aae02 l D G B0 X x y cap t n ml hn hcap hf) (va_cwU 0 hts (gU kw_1189 kw_1086 kw_1087 kw_1085 kw_31 kw_1088) rfl rfl rfl rfl (by decide +kernel) ⟨Nat.le_of_ble_eq_true rfl, Nat.le_of_ble_eq_true rfl⟩) (pv_lr hK hPL (hE.at hS hAB)) rfl rfl hl.1 rfl (lv_room (Nat.le_of_ble_eq_true rfl)) dJ0_init_db425_16 ⟨Nat.le_of_ble_eq_true rfl, Nat.le_of_ble_eq_true rfl⟩).run (nm_e ?_)
  refine lv_if_eq (tgt := 41) hx hb dJ0_init_db425_19 (by decide) (fun c_1 => absurd c_1 (by decide)) (fun _ => ?_)
  refine lv_aload_n hx hb dJ0_init_db425_22 rfl (lv_at hl 2 rfl) ?_
  refine lv_iconst (v := 0) hx hb dJ0_init_db425_23 (by decide) ?_
  refine va_putF (D := D) (ci := 0) (v := .int 0) (ty := .byte) (C := RJ0) (T := TJ0) (N := 4) hx hb hts i_J0 tyJ0 tyJ0_ok nmJ0 hown hK hP hD hS 0 rfl rfl 1 (by decide) (hts _ kw_1218) (fun _ h9 => h9) rfl hin rfl (by decide +kernel) rfl rfl (Nat.le_of_ble_eq_true rfl) dJ0_init_db425_24 (fun H locs hP hD hS => ?_)
  have hP : va_P D vwCl ((q, .inr (0, [.null, .int 0, .int 0, .int 0])) :: lb G x y cap t n ml : va_W) H := hP
  have hD : va_D A ((q, .inr (0, [.null, .int 0, .int 0, .int 0])) :: lb G x y cap t n ml : va_W) := hD
  have hPL : va_P D vwCl (lb G x y cap t n ml) H := P_subset (fun _ h9 => List.mem_cons_of_mem _ h9) hP
  refine lv_aload_n hx hb dJ0_init_db425_27 rfl (lv_at hl 2 rfl) ?_
  refine lv_aload_n hx hb dJ0_init_db425_28 rfl (lv_at hl 1 rfl) ?_
  refine lv_iconst (v := 0) hx hb dJ0_init_db425_29 (by decide) ?_
  refine lv_iload hx hb dJ0_init_db425_30 (lv_at hl 0 rfl) ?_
  have hFc := free_end (W := ([(q, .inr (0, [.null, .int 0, .int 0, .int 0])), (x, .inr (1, [.ref y, .int 0, .int (z01 ml), .int (nI n)]))] : va_W)) (c := ((y, .inl (G 4, cap, .inl t)) : Nat × va_E)) hD hS hA
  have hBc := B_end (W := ([(q, .inr (0, [.null, .int 0, .int 0, .int 0])), (x, .inr (1, [.ref y, .int 0, .int (z01 ml), .int (nI n)]))] : va_W)) (c := ((y, .inl (G 4, cap, .inl t)) : Nat × va_E)) hD hAB
  refine va_callr (va_runS (As := [.ref y, .int 0, .int (nI n)]) (rest := [.ref q]) ⟨hx, hb, hml, hown, hts⟩ (c_J7_copyOfRange_39247 l D G B0 X y cap t hf n hn hcap H.size) (va_cwS 3 hts (gS kw_1190 kw_1191 kw_54 kw_1192) rfl rfl rfl (by decide +kernel) ⟨Nat.le_of_ble_eq_true rfl, Nat.le_of_ble_eq_true rfl⟩) (pi_mk (W := ([(q, .inr (0, [.null, .int 0, .int 0, .int 0])), (x, .inr (1, [.ref y, .int 0, .int (z01 ml), .int (nI n)]))] : va_W)) (c := ((y, .inl (G 4, cap, .inl t)) : Nat × va_E)) hK hP hBc (hE.at hS hAB)) rfl rfl hl.1 rfl (lv_room (Nat.le_of_ble_eq_true rfl)) dJ0_init_db425_32 ⟨Nat.le_of_ble_eq_true rfl, Nat.le_of_ble_eq_true rfl⟩) hS (fun q _ h => hFc q h) hFc (fun u q9 t9 H1 locs ht hvm hw hB hz1 hk1 hS => ?_)
  obtain ⟨hB1, hB2⟩ := hB
  rw [ht] at hB1
  obtain ⟨hP, hD⟩ := W_end (W := ([(q, .inr (0, [.null, .int 0, .int 0, .int 0])), (x, .inr (1, [.ref y, .int 0, .int (z01 ml), .int (nI n)]))] : va_W)) (q0 := ((y, .inl (G 4, cap, .inl t)) : Nat × va_E)) hP hD hFc hk1 hB1 hB2
  obtain ⟨H, rfl⟩ : ∃ z, z = H1 := ⟨_, rfl⟩
  refine va_putF (D := D) (ci := 0) (v := .ref q9) (ty := .array .byte) (C := RJ0) (T := TJ0) (N := 4) hx hb hts i_J0 tyJ0 tyJ0_ok nmJ0 hown hK hP hD hS 0 rfl rfl 0 (by decide) (hts _ kw_1217) (fun _ h9 => h9) rfl hin rfl (by decide +kernel) rfl rfl (Nat.le_of_ble_eq_true rfl) dJ0_init_db425_35 (fun H locs hP hD hS => ?_)
  have hP : va_P D vwCl ((q, .inr (0, [.ref q9, .int 0, .int 0, .int 0])) :: [(x, .inr (1, [.ref y, .int 0, .int (z01 ml), .int (nI n)])), (q9, .inl (G 4, n, .inl u))] : va_W) H := hP
  have hD : va_D A ((q, .inr (0, [.ref q9, .int 0, .int 0, .int 0])) :: [(x, .inr (1, [.ref y, .int 0, .int (z01 ml), .int (nI n)])), (q9, .inl (G 4, n, .inl u))] : va_W) := hD
  refine lv_goto (tgt := 97) hx hb dJ0_init_db425_38 (by decide) ?_
  refine W.widen (k := 1) (n := 202) (by omega) (by omega) ?_
  have hP9 : va_P D vwCl (stw G q q9 n u) H := hP.sub [0, 2] rfl
  have hD9 : va_D A (stw G q q9 n u) := hD.sub [0, 2] (by decide) rfl
  exact W.vret hx hb hr (fun t8 ht hW => ⟨⟨(q9, u), rfl, hw, by rw [ht]; exact hP9, hD9⟩, hS.F ht⟩) hS.2.2 dJ0_init_db425_97
set_option maxRecDepth 100000 in
set_option maxHeartbeats 4000000 in
theorem c_J0_init_81219 (l : Launch) (D : va_G) (G : GA) (B0 : Nat) (X : Nat → Nat → Nat) (q x y cap : Nat) (t : Nat → Int32) (n : Nat) (ml : Int32) (hn : n ≤ cap) (hcap : cap ≤ 202) (hf : bF t) (sz : Nat) : Met l yJ0_init_81219 (wA yJ0_init_81219 cJ0_init_81219 2 none) ({ frames := 4, cells := 1, slots := 202, locals := 110 } : Room) (va_Pc [.ref q, .ref x] (TSp D G B0 X q x y cap t n ml sz)) (va_Qv (fun u : Nat × (Nat → Int32) => ∀ j, j < n → u.2 j = t j) (fun u t9 => va_P D vwCl (stw G q u.1 n u.2) t9.heap ∧ va_D (va_A ((q, .inr (0, [.null, .int 0, .int 0, .int 0])) :: lb G x y cap t n ml) sz) (stw G q u.1 n u.2)) (va_A ((q, .inr (0, [.null, .int 0, .int 0, .int 0])) :: lb G x y cap t n ml) sz)) 1 202 (va_A ((q, .inr (0, [.null, .int 0, .int 0, .int 0])) :: lb G x y cap t n ml) sz) := by
  refine Met.ofW (cc := cJ0_init_81219) (maxL := 2) (ret := none) (by decide) rfl ?_
  intro p9 e s m args below meth c9 s₁ B hml hv
  obtain ⟨rfl, hsz, hP, hK, hDB, hE⟩ := hv
  have hx := B.exec
  have hb := B.bytes
  have hr := B.returns
  have hts : ∀ w9 ∈ tb, w9.before ([.ref q, .ref x] : List Value).toArray s = true := fun w9 h9 => atoms_spec (ws := (wA yJ0_init_81219 cJ0_init_81219 2 none)) B.pre w9 (List.mem_cons_of_mem _ h9)
  have hown : s.vm.findClass RJ0 = some m.cls := findClass_of_methodNamed B.named
  have hlocks := B.notSynchronized
  have hin : meth.name = "<init>" := (name_of_methodNamed B.named B.method).1
  subst hsz
  have hD := hDB.self (sz := s.heap.size)
  have hAB := A_sub hDB hE.1
  generalize hAe : va_A ((q, .inr (0, [.null, .int 0, .int 0, .int 0])) :: lb G x y cap t n ml) s.heap.size = A at hD hAB ⊢
  have hA : ∀ q : Nat, s.heap.size ≤ q → A q := fun q h => by rw [← hAe]; exact Or.inr h
  have hS : va_S A s.heap s.heap [] := va_S.rf
  have hPL : va_P D vwCl (lb G x y cap t n ml) s.heap := P_subset (fun _ h9 => List.mem_cons_of_mem _ h9) hP
  have hl := lv_entry ([.ref q, .ref x]) (n := 2) (Nat.le_of_ble_eq_true rfl)
  rw [lg_entry_eq]
  generalize (lg_sl ([.ref q, .ref x]) ++ List.replicate (2 - (lg_sl ([.ref q, .ref x])).length) Slot.unset).toArray = ls at hl ⊢
  have hl : lv_has ls 2 [(0, .ref q), (1, .ref x)] := hl
  refine lv_aload_n hx hb dJ0_init_81219_0 rfl (lv_at hl 0 rfl) ?_
  refine lv_aload_n hx hb dJ0_init_81219_1 rfl (lv_at hl 1 rfl) ?_
  refine lv_null hx hb dJ0_init_81219_2 ?_
  have hFc := freeC hD hS hA
  refine va_callv (va_runI (As := [.ref x, .null]) (rest := []) ⟨hx, hb, hml, hown, hts⟩ (c_J0_init_db425 l D G B0 X q x y cap t n ml hn hcap hf s.heap.size) (cwI 2 hts (gI kw_1174) rfl rfl rfl (hts _ kw_33) (hts _ kw_1172) (hts _ kw_1173) rfl (by decide +kernel) ⟨Nat.le_of_ble_eq_true rfl, Nat.le_of_ble_eq_true rfl⟩) (pi_ts hK hP hD hAB (hE.at hS hAB)) rfl rfl hl.1 rfl (lv_room (Nat.le_of_ble_eq_true rfl)) dJ0_init_81219_3 ⟨Nat.le_of_ble_eq_true rfl, Nat.le_of_ble_eq_true rfl⟩) hS (fun q _ h => hFc q h) hFc (fun u t9 H locs ht hvm hw hB hz1 hk1 hS => ?_)
  obtain ⟨hB1, hB2⟩ := hB
  rw [ht] at hB1
  refine W.widen (k := 1) (n := 202) (by omega) (by omega) ?_
  exact W.vret hx hb hr (fun t8 ht hW => ⟨⟨u, rfl, hw, by rw [ht]; exact hB1, hB2.weaken (fun _ _ _ h9 => hFc _ h9)⟩, hS.F ht⟩) hS.2.2 dJ0_init_81219_6
set_option maxRecDepth 100000 in
set_option maxHeartbeats 4000000 in
theorem c_J4_toString_0e30d (l : Launch) (D : va_G) (G : GA) (B0 : Nat) (X : Nat → Nat → Nat) (x y cap : Nat) (t : Nat → Int32) (n : Nat) (ml : Int32) (hn : n ≤ cap) (hcap : cap ≤ 202) (hf : bF t) (sz : Nat) : Met l yJ4_toString_0e30d (wA yJ4_toString_0e30d cJ4_toString_0e30d 1 (some (.object "java/lang/String"))) ({ frames := 5, cells := 2, slots := 206, locals := 131 } : Room) (va_Pc [.ref x] (LBp D G B0 X x y cap t n ml sz)) (va_Qr (fun u : Nat × (Nat → Int32) => ∀ j, j < n → u.2 j = t j) (fun u q9 t9 => va_P D vwCl (stw G q9 u.1 n u.2) t9.heap ∧ va_D (va_A (lb G x y cap t n ml) sz) (stw G q9 u.1 n u.2)) (va_A (lb G x y cap t n ml) sz)) 2 206 (va_A (lb G x y cap t n ml) sz) := by
  refine Met.ofW (cc := cJ4_toString_0e30d) (maxL := 1) (ret := (some (.object "java/lang/String"))) (by decide) rfl ?_
  intro p9 e s m args below meth c9 s₁ B hml hv
  obtain ⟨rfl, hsz, hP, hK, hDB, hE⟩ := hv
  have hx := B.exec
  have hb := B.bytes
  have hr := B.returns
  have hts : ∀ w9 ∈ tb, w9.before ([.ref x] : List Value).toArray s = true := fun w9 h9 => atoms_spec (ws := (wA yJ4_toString_0e30d cJ4_toString_0e30d 1 (some (.object "java/lang/String")))) B.pre w9 (List.mem_cons_of_mem _ h9)
  have hown : s.vm.findClass RJ4 = some m.cls := findClass_of_methodNamed B.named
  have hlocks := B.notSynchronized
  subst hsz
  have hD := hDB.self (sz := s.heap.size)
  have hAB := A_sub hDB hE.1
  generalize hAe : va_A (lb G x y cap t n ml) s.heap.size = A at hD hAB ⊢
  have hA : ∀ q : Nat, s.heap.size ≤ q → A q := fun q h => by rw [← hAe]; exact Or.inr h
  have hS : va_S A s.heap s.heap [] := va_S.rf
  have hl := lv_entry ([.ref x]) (n := 1) (Nat.le_of_ble_eq_true rfl)
  rw [lg_entry_eq]
  generalize (lg_sl ([.ref x]) ++ List.replicate (1 - (lg_sl ([.ref x])).length) Slot.unset).toArray = ls at hl ⊢
  have hl : lv_has ls 1 [(0, .ref x)] := hl
  refine va_new (D := D) (ci := 0) (fs := [.null, .int 0, .int 0, .int 0]) (C := RJ0) (T := TJ0) (N := 4) hx hb hts i_J0 tyJ0 tyJ0_ok hown (hts _ kw_1168) (hts _ kw_595) (hts _ kw_33) hK hP hD hS hA rfl (fun j hj => by rcases (show j = 0 ∨ j = 1 ∨ j = 2 ∨ j = 3 by omega) with rfl | rfl | rfl | rfl <;> rfl) (show 0 + 1 ≤ 2 by omega) (show 0 + 4 ≤ 206 by omega) dJ4_toString_0e30d_0 (fun q1 H hP hD hS => ?_)
  have hP : va_P D vwCl ((q1, .inr (0, [.null, .int 0, .int 0, .int 0])) :: lb G x y cap t n ml : va_W) H := hP.sub [2, 0, 1] rfl
  have hD : va_D A ((q1, .inr (0, [.null, .int 0, .int 0, .int 0])) :: lb G x y cap t n ml : va_W) := hD.sub [2, 0, 1] (by decide) rfl
  refine lv_dup hx hb dJ4_toString_0e30d_3 rfl ?_
  refine lv_aload_n hx hb dJ4_toString_0e30d_4 rfl (lv_at hl 0 rfl) ?_
  have hFc := freeC hD hS hA
  refine va_callv (va_runI (As := [.ref x]) (rest := [.ref q1]) ⟨hx, hb, hml, hown, hts⟩ (c_J0_init_81219 l D G B0 X q1 x y cap t n ml hn hcap hf H.size) (cwI 1 hts (gI kw_1171) rfl rfl rfl (hts _ kw_33) (hts _ kw_1169) (hts _ kw_1170) rfl (by decide +kernel) ⟨Nat.le_of_ble_eq_true rfl, Nat.le_of_ble_eq_true rfl⟩) (pi_ts hK hP hD hAB (hE.at hS hAB)) rfl rfl hl.1 rfl (lv_room (Nat.le_of_ble_eq_true rfl)) dJ4_toString_0e30d_5 ⟨Nat.le_of_ble_eq_true rfl, Nat.le_of_ble_eq_true rfl⟩) hS (fun q _ h => hFc q h) hFc (fun u t9 H locs ht hvm hw hB hz1 hk1 hS => ?_)
  obtain ⟨hB1, hB2⟩ := hB
  rw [ht] at hB1
  refine W.widen (k := 2) (n := 206) (by omega) (by omega) ?_
  exact W.aret (v := .ref q1) hx hb hr (Or.inl ⟨_, rfl⟩) (Or.inr ⟨_, rfl⟩) (fun t8 ht hW => ⟨⟨u, q1, rfl, hw, by rw [ht]; exact hB1, hB2.weaken (fun _ _ _ h9 => hFc _ h9)⟩, hS.F ht⟩) hS.2.2 dJ4_toString_0e30d_8
