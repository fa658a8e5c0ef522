/-! NEW CELLS: a constructor changes its own cell and makes others behind; the caller's world goes on -/
theorem row_id {D : va_G} {cl : List vw_C} {tys : List (ClassId × FieldType)} {cA g : ClassId} {ty : FieldType} {U : State} {i : Nat} (h : va_K D cl (tys ++ [(cA, ty)]) U) (hi : tys[i]? = some (g, ty)) : cA = g := by
  have hl := (List.getElem?_eq_some_iff.mp hi).1
  have h1 := (h.2 tys.length (cA, ty) (by rw [List.getElem?_append_right (Nat.le_refl _), Nat.sub_self]; rfl)).2
  have h2 := (h.2 i (g, ty) (by rw [List.getElem?_append_left hl]; exact hi)).2
  have e : ∀ c : ClassId, va_RA U c ty → U.vm.findClass ("[" ++ ty.toString) = some c := by
    intro c hc
    cases ty with
    | object C => exact hc.choose_spec.choose_spec.2.2.2
    | _ => exact hc
  have e1 := e _ h1
  rw [e _ h2] at e1
  exact (Option.some.inj e1).symm
theorem W_end {D : va_G} {cl : List vw_C} {A : Nat → Prop} {W C1 : va_W} {q0 : Nat × va_E} {H H1 : Heap} (hP : va_P D cl (W ++ [q0]) H) (hD : va_D A (W ++ [q0])) (hF : ∀ x, va_A [q0] H.size x → A x) (hk : ∀ q : Nat, q < H.size → ¬ va_A [q0] H.size q → H1[q]? = H[q]?) (hP1 : va_P D cl C1 H1) (hD1 : va_D (va_A [q0] H.size) C1) : va_P D cl (W ++ C1) H1 ∧ va_D A (W ++ C1) := by
  obtain ⟨dW, d0, dj⟩ := D_apart hD
  have hW : va_P D cl W H := P_subset (fun q hq => List.mem_append_left _ hq) hP
  have far : ∀ q ∈ W, ¬ va_A [q0] H.size q.1 := by
    intro q hq h
    rcases A_one h with h | h
    · exact dj q hq q0 (List.mem_singleton.mpr rfl) h
    · have := (P_mem hW hq).lt
      omega
  refine ⟨P_of (fun q hq => ?_), D_app dW (hD1.weaken (fun _ _ _ h => hF _ h)) (fun p hp q hq e => far p hp (by rw [e]; exact D_in hD1 hq))⟩
  rcases List.mem_append.mp hq with h | h
  · exact P_mem (P_keep hW hk far) h
  · exact P_mem hP1 h
abbrev MKp (D : va_G) (G : GA) (B0 : Nat) (X : Nat → Nat → Nat) (c : Nat × va_E) (sz : Nat) (U : State) : Prop := U.heap.size = sz ∧ va_P D vwCl [c] U.heap ∧ KK D G U ∧ B0 ≤ c.1 ∧ EN B0 X U U.heap
theorem pi_mk {s : State} {H : Heap} {D : va_G} {G : GA} {B0 : Nat} {X : Nat → Nat → Nat} {W : va_W} {c : Nat × va_E} {As : List Value} (hK : KK D G s) (hP : va_P D vwCl (W ++ [c]) H) (hB : B0 ≤ c.1) (hE : EN B0 X s H) : PreS s H (va_Pc As (MKp D G B0 X c H.size)) As :=
  ⟨fun A U g mk q => ⟨q.1, q.2.1, q.2.2.1, va_K.moved (Vm.Alike.refl U.vm) q.2.2.2.1, q.2.2.2.2.1, EN.warm (s := U) (State.WarmedH.refl U) q.2.2.2.2.2⟩, fun U hU hW => ⟨rfl, by rw [hU], by rw [hU]; exact P_subset (fun q hq => List.mem_append_right _ hq) hP, va_K.moved hW.alike hK, hB, by rw [hU]; exact hE.warm hW⟩⟩
theorem D_1 (c : Nat × va_E) (sz : Nat) : va_D (va_A [c] sz) [c] := D_of (by simp) (fun q hq => A_of hq)
theorem A_B {c : Nat × va_E} {B0 sz : Nat} (h : B0 ≤ c.1) (hz : B0 ≤ sz) : ∀ q, va_A [c] sz q → B0 ≤ q := by
  intro q hq
  rcases A_one hq with h1 | h1
  · rw [h1]; exact h
  · exact Nat.le_trans hz h1
theorem B_end {A : Nat → Prop} {B0 : Nat} {W : va_W} {c : Nat × va_E} (hD : va_D A (W ++ [c])) (hAB : ∀ q, A q → B0 ≤ q) : B0 ≤ c.1 := hAB _ (D_in hD (List.mem_append_right _ (List.mem_singleton.mpr rfl)))
theorem free_end {A0 : Nat → Prop} {W : va_W} {c : Nat × va_E} {H0 H : Heap} {locs : List Loc} (hD : va_D A0 (W ++ [c])) (hS : va_S A0 H0 H locs) (hA : ∀ q, H0.size ≤ q → A0 q) : ∀ x, va_A [c] H.size x → A0 x := by
  intro x h
  rcases A_one h with h | h
  · rw [h]; exact D_in hD (List.mem_append_right _ (List.mem_singleton.mpr rfl))
  · exact hA x (Nat.le_trans hS.1 h)
/-- an empty cargo -/
def st0 : CS := (fun _ => nb, fun _ => 0, fun _ => 0)
def rwk (b : Nat → Nat) (k : Nat) : Nat → Option Nat := fun i => if i < k then some (b i) else none
theorem rwk_s (b : Nat → Nat) (k q : Nat) : va_up (rwk b k) k (some q) = rwk (va_up b k q) (k + 1) := by
  funext i
  by_cases h : i = k
  · simp [va_up, rwk, h]
  · by_cases h2 : i < k
    · have h3 : i < k + 1 := by omega
      simp [va_up, rwk, h, h2, h3]
    · have h3 : ¬ i < k + 1 := by omega
      simp [va_up, rwk, h, h2, h3]
theorem tl_s {α β : Type} (F : α → β) (b : Nat → α) (k : Nat) (q : α) : (List.range k).map (fun i => F (b i)) ++ [F q] = (List.range (k + 1)).map (fun i => F (va_up b k q i)) := by
  rw [List.range_succ, List.map_append]
  congr 1
  · apply List.map_congr_left
    intro i hi
    have := List.mem_range.mp hi
    rw [va_up_ne _ _ (by omega)]
  · show [F q] = [F (va_up b k q k)]
    rw [va_up_self]
/-- the addresses of a cargo whose cells are h, its row r, nobody z, limits m and the items b -/
def adr (h r z m : Nat) (b : Nat → Nat) : Nat → Nat := fun i => if i = 0 then h else if i = 1 then r else if i = 2 then m else if i = 15 then z else b (i - 3)
theorem cw_made (G : GA) (h r z m : Nat) (b : Nat → Nat) : ((h, .inr (4, [.ref r, .ref z, .ref m, .int 0, .int 0, .int 0, .int 0])) :: (r, .inl (G 0, 12, .inr (.inr (.inr (.inr (rwk b 12)))))) :: (z, .inr (6, itV nb)) :: (m, .inl (G 1, 3, .inl (fun _ => 0))) :: (List.range 12).map (fun i => itC (b i) nb) : va_W).Perm ((h, .inr (4, [.ref r, .ref z, .ref m, .int 0, .int 0, .int 0, .int 0])) :: (r, .inl (G 0, 12, .inr (.inr (.inr (.inr (rwk b 12)))))) :: (m, .inl (G 1, 3, .inl (fun _ => 0))) :: ((List.range 12).map (fun i => itC (b i) nb) ++ [(z, .inr (6, itV nb))])) := by
  refine (List.Perm.cons _ (List.Perm.cons _ ?_))
  refine (List.Perm.swap _ _ _).trans (List.Perm.cons _ ?_)
  exact (List.perm_append_comm (l₁ := ([(z, .inr (6, itV nb))] : va_W)))
theorem cw_made2 (G : GA) (h r z m : Nat) (b : Nat → Nat) : cw G (adr h r z m b) st0 = (h, .inr (4, [.ref r, .ref z, .ref m, .int 0, .int 0, .int 0, .int 0])) :: (r, .inl (G 0, 12, .inr (.inr (.inr (.inr (cwR (adr h r z m b))))))) :: (m, .inl (G 1, 3, .inl (fun _ => 0))) :: ((List.range 12).map (fun i => itC (b i) nb) ++ [(z, .inr (6, itV nb))]) := rfl
theorem P_perm {D : va_G} {cl : List vw_C} {ws wc : va_W} {H : Heap} (h : ws.Perm wc) (hP : va_P D cl ws H) : va_P D cl wc H := P_subset (fun _ hq => h.mem_iff.mpr hq) hP
theorem D_perm {A : Nat → Prop} {ws wc : va_W} (h : ws.Perm wc) (hD : va_D A ws) : va_D A wc := D_of ((h.map _).nodup_iff.mp (D_nodup hD)) (fun q hq => D_in hD (h.mem_iff.mpr hq))
theorem P_row {D : va_G} {cl : List vw_C} {ws : va_W} {H : Heap} {k r n : Nat} {cA : ClassId} {f g : Nat → Option Nat} (h : ∀ j, j < n → f j = g j) (hk : k < ws.length) (hP : va_P D cl (ws.set k (r, .inl (cA, n, .inr (.inr (.inr (.inr f)))))) H) : va_P D cl (ws.set k (r, .inl (cA, n, .inr (.inr (.inr (.inr g)))))) H := by
  intro i q hi
  by_cases e : i = k
  · subst e
    rw [List.getElem?_set_self hk] at hi
    cases hi
    have h2 : H[r]? = some (vp_cell cA (n, .inr (.inr (.inr (.inr f))))) := hP i _ (List.getElem?_set_self hk)
    show H[r]? = some (vp_cell cA (n, .inr (.inr (.inr (.inr g)))))
    rw [h2, cell_ref h]
  · have h3 := hP i q
    rw [List.getElem?_set_ne (Ne.symm e)] at hi h3
    exact h3 hi
theorem made_cargo {D : va_G} {A : Nat → Prop} {G : GA} {h r z m : Nat} {b : Nat → Nat} {H : Heap} (hP : va_P D vwCl ((h, .inr (4, [.ref r, .ref z, .ref m, .int 0, .int 0, .int 0, .int 0])) :: (r, .inl (G 0, 12, .inr (.inr (.inr (.inr (rwk b 12)))))) :: (z, .inr (6, itV nb)) :: (m, .inl (G 1, 3, .inl (fun _ => 0))) :: (List.range 12).map (fun i => itC (b i) nb)) H) (hD : va_D A ((h, .inr (4, [.ref r, .ref z, .ref m, .int 0, .int 0, .int 0, .int 0])) :: (r, .inl (G 0, 12, .inr (.inr (.inr (.inr (rwk b 12)))))) :: (z, .inr (6, itV nb)) :: (m, .inl (G 1, 3, .inl (fun _ => 0))) :: (List.range 12).map (fun i => itC (b i) nb))) :
    va_P D vwCl (cw G (adr h r z m b) st0) H ∧ va_D A (cw G (adr h r z m b) st0) := by
  have hP := P_perm (cw_made G h r z m b) hP
  have hD := D_perm (cw_made G h r z m b) hD
  rw [cw_made2]
  refine ⟨P_row (k := 1) (fun j hj => ?_) (Nat.le_of_ble_eq_true rfl) (ws := (h, .inr (4, [.ref r, .ref z, .ref m, .int 0, .int 0, .int 0, .int 0])) :: (r, .inl (G 0, 12, .inr (.inr (.inr (.inr (rwk b 12)))))) :: (m, .inl (G 1, 3, .inl (fun _ => 0))) :: ((List.range 12).map (fun i => itC (b i) nb) ++ [(z, .inr (6, itV nb))])) hP, D_addr hD rfl⟩
  unfold rwk
  rw [if_pos hj]
  unfold cwR adr
  rw [if_neg (by omega), if_neg (by omega), if_neg (by omega), if_neg (by omega), Nat.add_sub_cancel_left]
theorem gi_X4_init : GoodIn tb (wA yX4_init cX4_init 1 none) := gI kw_76
set_option maxRecDepth 100000 in
set_option maxHeartbeats 4000000 in
theorem c_X4_init (l : Launch) (D : va_G) (G : GA) (B0 : Nat) (X : Nat → Nat → Nat) (h : Nat) (sz : Nat) : Met l yX4_init (wA yX4_init cX4_init 1 none) ({ frames := 1, cells := 0, slots := 0, locals := 12 } : Room) (va_Pc [.ref h] (MKp D G B0 X (h, .inr (6, itV (fun _ => 0))) sz)) (va_Qv (fun u : Unit => True) (fun u t9 => va_P D vwCl ([itC h nb]) t9.heap ∧ va_D (va_A [(h, .inr (6, itV (fun _ => 0)))] sz) ([itC h nb])) (va_A [(h, .inr (6, itV (fun _ => 0)))] sz)) 0 0 (va_A [(h, .inr (6, itV (fun _ => 0)))] sz) := by
  refine Met.ofW (cc := cX4_init) (maxL := 1) (ret := none) (by decide) rfl ?_
  intro p e s m args below meth c s₁ B hml hv
  obtain ⟨rfl, hsz, hP, hK, hB0, hE⟩ := hv
  have hx := B.exec
  have hb := B.bytes
  have hr := B.returns
  have hts : ∀ w9 ∈ tb, w9.before ([.ref h] : List Value).toArray s = true := fun w9 h9 => atoms_spec (ws := (wA yX4_init cX4_init 1 none)) B.pre w9 (List.mem_cons_of_mem _ h9)
  have hown : s.vm.findClass RX4 = some m.cls := findClass_of_methodNamed B.named
  have hlocks := B.notSynchronized
  have hin : meth.name = "<init>" := (name_of_methodNamed B.named B.method).1
  subst hsz
  have hD : va_D (va_A [(h, .inr (6, itV (fun _ => 0)))] s.heap.size) [(h, .inr (6, itV (fun _ => 0)))] := D_1 _ _
  have hAB := A_B (c := (h, .inr (6, itV (fun _ => 0)))) hB0 hE.1
  generalize hAe : va_A [(h, .inr (6, itV (fun _ => 0)))] s.heap.size = A at hD hAB ⊢
  have hA : ∀ q : Nat, s.heap.size ≤ q → A q := fun q h => by rw [← hAe]; exact Or.inr h
  have hS : va_S A s.heap s.heap [] := va_S.rf
  have hl := lv_entry ([.ref h]) (n := 1) (Nat.le_of_ble_eq_true rfl)
  rw [lg_entry_eq]
  generalize (lg_sl ([.ref h]) ++ List.replicate (1 - (lg_sl ([.ref h])).length) Slot.unset).toArray = ls at hl ⊢
  have hl : lv_has ls 1 [(0, .ref h)] := hl
  have hP : va_P D vwCl (((h, .inr (6, itV (fun _ => 0))) : Nat × va_E) :: [] : va_W) s.heap := hP
  have hD : va_D A (((h, .inr (6, itV (fun _ => 0))) : Nat × va_E) :: [] : va_W) := hD
  refine lv_aload_n hx hb dX4_init_0 rfl (lv_at hl 0 rfl) ?_
  refine W.objInit hx hb hown (hts _ kw_77) (hts _ kw_63) (hts _ kw_64) rfl (by rw [hml]; exact hl.1) rfl dX4_init_1 (Nat.le_of_ble_eq_true rfl) (Nat.le_of_ble_eq_true rfl) ?_
  refine W.eq (g2 := F0 m 4 ls []) rfl ?_
  refine lv_aload_n hx hb dX4_init_4 rfl (lv_at hl 0 rfl) ?_
  refine lv_bipush (v := -2) hx hb dX4_init_5 (by decide) ?_
  refine va_put (D := D) (ci := 6) (v := .int (-2)) (ty := .int) (C := RX4) (T := TX4) (N := 8) hx hb hts i_X4 tyX4 tyX4_ok nmX4 hown hK hP hD hS 0 rfl rfl 5 (by decide) (hts _ kw_93) (fun _ h9 => h9) rfl (by decide +kernel) rfl rfl (Nat.le_of_ble_eq_true rfl) dX4_init_7 (fun H locs hP hD hS => ?_)
  have hP : va_P D vwCl (((h, .inr (6, itV nb)) : Nat × va_E) :: [] : va_W) H := hP
  have hD : va_D A (((h, .inr (6, itV nb)) : Nat × va_E) :: [] : va_W) := hD
  have hP9 : va_P D vwCl [itC h nb] H := hP
  have hD9 : va_D A [itC h nb] := hD
  refine W.widen (k := 0) (n := 0) (by omega) (by omega) ?_
  exact W.vret hx hb hr (fun t ht hW => ⟨⟨(), rfl, trivial, by rw [ht]; exact hP9, hD9⟩, hS.F ht⟩) hS.2.2 dX4_init_10
set_option maxRecDepth 100000 in
set_option maxHeartbeats 4000000 in
theorem c_X1_init (l : Launch) (D : va_G) (G : GA) (B0 : Nat) (X : Nat → Nat → Nat) (h : Nat) (sz : Nat) : Met l yX1_init (wA yX1_init cX1_init 2 none) ({ frames := 2, cells := 15, slots := 119, locals := 32 } : Room) (va_Pc [.ref h] (MKp D G B0 X (h, .inr (4, [.null, .null, .null, .int 0, .int 0, .int 0, .int 0])) sz)) (va_Qv (fun u : Nat → Nat => u 0 = h) (fun u t9 => va_P D vwCl (cw G u st0) t9.heap ∧ va_D (va_A [(h, .inr (4, [.null, .null, .null, .int 0, .int 0, .int 0, .int 0]))] sz) (cw G u st0)) (va_A [(h, .inr (4, [.null, .null, .null, .int 0, .int 0, .int 0, .int 0]))] sz)) 15 119 (va_A [(h, .inr (4, [.null, .null, .null, .int 0, .int 0, .int 0, .int 0]))] sz) := by
  refine Met.ofW (cc := cX1_init) (maxL := 2) (ret := none) (by decide) rfl ?_
  intro p e s m args below meth c s₁ B hml hv
  obtain ⟨rfl, hsz, hP, hK, hB0, hE⟩ := hv
  have hx := B.exec
  have hb := B.bytes
  have hr := B.returns
  have hts : ∀ w9 ∈ tb, w9.before ([.ref h] : List Value).toArray s = true := fun w9 h9 => atoms_spec (ws := (wA yX1_init cX1_init 2 none)) B.pre w9 (List.mem_cons_of_mem _ h9)
  have hown : s.vm.findClass RX1 = some m.cls := findClass_of_methodNamed B.named
  have hlocks := B.notSynchronized
  have hin : meth.name = "<init>" := (name_of_methodNamed B.named B.method).1
  subst hsz
  have hD : va_D (va_A [(h, .inr (4, [.null, .null, .null, .int 0, .int 0, .int 0, .int 0]))] s.heap.size) [(h, .inr (4, [.null, .null, .null, .int 0, .int 0, .int 0, .int 0]))] := D_1 _ _
  have hAB := A_B (c := (h, .inr (4, [.null, .null, .null, .int 0, .int 0, .int 0, .int 0]))) hB0 hE.1
  generalize hAe : va_A [(h, .inr (4, [.null, .null, .null, .int 0, .int 0, .int 0, .int 0]))] s.heap.size = A at hD hAB ⊢
  have hA : ∀ q : Nat, s.heap.size ≤ q → A q := fun q h => by rw [← hAe]; exact Or.inr h
  have hS : va_S A s.heap s.heap [] := va_S.rf
  have hl := lv_entry ([.ref h]) (n := 2) (Nat.le_of_ble_eq_true rfl)
  rw [lg_entry_eq]
  generalize (lg_sl ([.ref h]) ++ List.replicate (2 - (lg_sl ([.ref h])).length) Slot.unset).toArray = ls at hl ⊢
  have hl : lv_has ls 2 [(0, .ref h)] := hl
  have hP : va_P D vwCl (((h, .inr (4, [.null, .null, .null, .int 0, .int 0, .int 0, .int 0])) : Nat × va_E) :: [] : va_W) s.heap := hP
  have hD : va_D A (((h, .inr (4, [.null, .null, .null, .int 0, .int 0, .int 0, .int 0])) : Nat × va_E) :: [] : va_W) := hD
  refine lv_aload_n hx hb dX1_init_0 rfl (lv_at hl 0 rfl) ?_
  refine W.objInit hx hb hown (hts _ kw_70) (hts _ kw_63) (hts _ kw_64) rfl (by rw [hml]; exact hl.1) rfl dX1_init_1 (Nat.le_of_ble_eq_true rfl) (Nat.le_of_ble_eq_true rfl) ?_
  refine W.eq (g2 := F0 m 4 ls []) rfl ?_
  refine lv_aload_n hx hb dX1_init_4 rfl (lv_at hl 0 rfl) ?_
  refine lv_bipush (v := 12) hx hb dX1_init_5 (by decide) ?_
  refine va_newq hx hb hown (C := "CourierBags$Item") (hts _ kw_71) hE.aoI hK hP hD hS hA (n := 12) (N' := 12) (by decide) (by decide) (by decide) (show 0 + 1 ≤ 15 by omega) (show 0 + 12 ≤ 119 by omega) dX1_init_7 (fun r1 cA H hK2 hP hD hS => ?_)
  rw [row_id (i := 0) (g := G 0) hK2 rfl] at hP hD
  clear hK2 cA
  refine W.widen (k := 1) (n := 12) (by omega) (by omega) ?_
  have hP : va_P D vwCl (((h, .inr (4, [.null, .null, .null, .int 0, .int 0, .int 0, .int 0])) : Nat × va_E) :: [(r1, .inl (G 0, 12, .inr (.inr (.inr (.inr (fun _ => none))))))] : va_W) H := hP
  have hD : va_D A (((h, .inr (4, [.null, .null, .null, .int 0, .int 0, .int 0, .int 0])) : Nat × va_E) :: [(r1, .inl (G 0, 12, .inr (.inr (.inr (.inr (fun _ => none))))))] : va_W) := hD
  refine va_putF (D := D) (ci := 4) (v := .ref r1) (ty := .array (.object "CourierBags$Item")) (C := RX1) (T := TX1) (N := 7) hx hb hts i_X1 tyX1 tyX1_ok nmX1 hown hK hP hD hS 0 rfl rfl 0 (by decide) (hts _ kw_118) (fun _ h9 => h9) rfl hin rfl (by decide +kernel) rfl rfl (Nat.le_of_ble_eq_true rfl) dX1_init_10 (fun H locs hP hD hS => ?_)
  have hP : va_P D vwCl (((h, .inr (4, [.ref r1, .null, .null, .int 0, .int 0, .int 0, .int 0])) : Nat × va_E) :: [(r1, .inl (G 0, 12, .inr (.inr (.inr (.inr (fun _ => none))))))] : va_W) H := hP
  have hD : va_D A (((h, .inr (4, [.ref r1, .null, .null, .int 0, .int 0, .int 0, .int 0])) : Nat × va_E) :: [(r1, .inl (G 0, 12, .inr (.inr (.inr (.inr (fun _ => none))))))] : va_W) := hD
  refine lv_aload_n hx hb dX1_init_13 rfl (lv_at hl 0 rfl) ?_
  refine va_new (D := D) (ci := 6) (fs := itV (fun _ => 0)) (C := RX4) (T := TX4) (N := 8) hx hb hts i_X4 tyX4 tyX4_ok hown (hts _ kw_71) (hts _ kw_73) (hts _ kw_26) hK hP hD hS hA rfl (fun j hj => by rcases (show j = 0 ∨ j = 1 ∨ j = 2 ∨ j = 3 ∨ j = 4 ∨ j = 5 ∨ j = 6 ∨ j = 7 by omega) with rfl | rfl | rfl | rfl | rfl | rfl | rfl | rfl <;> rfl) (show 1 + 1 ≤ 15 by omega) (show 12 + 8 ≤ 119 by omega) dX1_init_14 (fun o2 H hP hD hS => ?_)
  refine W.widen (k := 2) (n := 20) (by omega) (by omega) ?_
  refine lv_dup hx hb dX1_init_17 rfl ?_
  have hFc := free_end (W := ((((h, .inr (4, [.ref r1, .null, .null, .int 0, .int 0, .int 0, .int 0])) : Nat × va_E) :: [(r1, .inl (G 0, 12, .inr (.inr (.inr (.inr (fun _ => none))))))] : va_W) : va_W)) (c := ((o2, .inr (6, itV (fun _ => 0))) : Nat × va_E)) hD hS hA
  have hBc := B_end (W := ((((h, .inr (4, [.ref r1, .null, .null, .int 0, .int 0, .int 0, .int 0])) : Nat × va_E) :: [(r1, .inl (G 0, 12, .inr (.inr (.inr (.inr (fun _ => none))))))] : va_W) : va_W)) (c := ((o2, .inr (6, itV (fun _ => 0))) : Nat × va_E)) hD hAB
  refine va_callv (va_runIN (As := []) (rest := [.ref o2, .ref h]) ⟨hx, hb, hml, hown, hts⟩ (c_X4_init l D G B0 X o2 H.size) ⟨va_cnB 0 hts gi_X4_init rfl rfl rfl (nw_74 hE.nw) (hts _ kw_26) (by decide +kernel) ⟨Nat.le_of_ble_eq_true rfl, Nat.le_of_ble_eq_true rfl⟩, rfl, hts _ kw_75⟩ (pi_mk (W := ((((h, .inr (4, [.ref r1, .null, .null, .int 0, .int 0, .int 0, .int 0])) : Nat × va_E) :: [(r1, .inl (G 0, 12, .inr (.inr (.inr (.inr (fun _ => none))))))] : va_W) : va_W)) (c := ((o2, .inr (6, itV (fun _ => 0))) : Nat × va_E)) hK hP hBc (hE.at hS hAB)) rfl rfl hl.1 rfl (lv_room (Nat.le_of_ble_eq_true rfl)) dX1_init_18 ⟨(show 2 + 0 ≤ 15 by omega), (show 20 + 0 ≤ 119 by omega)⟩) hS (fun q _ h => hFc q h) hFc (fun u t H1 locs ht hvm hw hB hz1 hk1 hS => ?_)
  obtain ⟨hB1, hB2⟩ := hB
  rw [ht] at hB1
  obtain ⟨hP, hD⟩ := W_end (W := ((((h, .inr (4, [.ref r1, .null, .null, .int 0, .int 0, .int 0, .int 0])) : Nat × va_E) :: [(r1, .inl (G 0, 12, .inr (.inr (.inr (.inr (fun _ => none))))))] : va_W) : va_W)) (q0 := ((o2, .inr (6, itV (fun _ => 0))) : Nat × va_E)) hP hD hFc hk1 hB1 hB2
  obtain ⟨H, rfl⟩ : ∃ z, z = H1 := ⟨_, rfl⟩
  obtain ⟨u3, rfl⟩ : ∃ z, z = u := ⟨_, rfl⟩
  have hpx_u3 := hw
  refine W.widen (k := 2) (n := 20) (by omega) (by omega) ?_
  have hP : va_P D vwCl (((h, .inr (4, [.ref r1, .null, .null, .int 0, .int 0, .int 0, .int 0])) : Nat × va_E) :: ([(r1, .inl (G 0, 12, .inr (.inr (.inr (.inr (fun _ => none))))))] ++ ([itC o2 nb])) : va_W) H := hP
  have hD : va_D A (((h, .inr (4, [.ref r1, .null, .null, .int 0, .int 0, .int 0, .int 0])) : Nat × va_E) :: ([(r1, .inl (G 0, 12, .inr (.inr (.inr (.inr (fun _ => none))))))] ++ ([itC o2 nb])) : va_W) := hD
  refine va_putF (D := D) (ci := 4) (v := .ref o2) (ty := .object "CourierBags$Item") (C := RX1) (T := TX1) (N := 7) hx hb hts i_X1 tyX1 tyX1_ok nmX1 hown hK hP hD hS 0 rfl rfl 1 (by decide) (hts _ kw_119) (fun _ h9 => h9) rfl hin rfl (by decide +kernel) rfl rfl (Nat.le_of_ble_eq_true rfl) dX1_init_21 (fun H locs hP hD hS => ?_)
  have hP : va_P D vwCl (((h, .inr (4, [.ref r1, .ref o2, .null, .int 0, .int 0, .int 0, .int 0])) : Nat × va_E) :: ([(r1, .inl (G 0, 12, .inr (.inr (.inr (.inr (fun _ => none))))))] ++ ([itC o2 nb])) : va_W) H := hP
  have hD : va_D A (((h, .inr (4, [.ref r1, .ref o2, .null, .int 0, .int 0, .int 0, .int 0])) : Nat × va_E) :: ([(r1, .inl (G 0, 12, .inr (.inr (.inr (.inr (fun _ => none))))))] ++ ([itC o2 nb])) : va_W) := hD
  refine lv_aload_n hx hb dX1_init_24 rfl (lv_at hl 0 rfl) ?_
  refine lv_iconst (v := 3) hx hb dX1_init_25 (by decide) ?_
  refine va_newa hx hb (atype := .int) (hts _ kw_143) (ty := .int) rfl hK hP hD hS hA (a0 := (3, .inl (fun _ => 0))) (fun _ => rfl) (N' := 3) (by decide) (by decide) (by decide) (show 2 + 1 ≤ 15 by omega) (show 20 + 3 ≤ 119 by omega) dX1_init_26 (fun r4 cA H hK2 hP hD hS => ?_)
  rw [row_id (i := 1) (g := G 1) hK2 rfl] at hP hD
  clear hK2 cA
  refine W.widen (k := 3) (n := 23) (by omega) (by omega) ?_
  have hP : va_P D vwCl (((h, .inr (4, [.ref r1, .ref o2, .null, .int 0, .int 0, .int 0, .int 0])) : Nat × va_E) :: (([(r1, .inl (G 0, 12, .inr (.inr (.inr (.inr (fun _ => none))))))] ++ ([itC o2 nb])) ++ [(r4, .inl (G 1, 3, .inl (fun _ => 0)))]) : va_W) H := hP
  have hD : va_D A (((h, .inr (4, [.ref r1, .ref o2, .null, .int 0, .int 0, .int 0, .int 0])) : Nat × va_E) :: (([(r1, .inl (G 0, 12, .inr (.inr (.inr (.inr (fun _ => none))))))] ++ ([itC o2 nb])) ++ [(r4, .inl (G 1, 3, .inl (fun _ => 0)))]) : va_W) := hD
  refine va_putF (D := D) (ci := 4) (v := .ref r4) (ty := .array .int) (C := RX1) (T := TX1) (N := 7) hx hb hts i_X1 tyX1 tyX1_ok nmX1 hown hK hP hD hS 0 rfl rfl 2 (by decide) (hts _ kw_120) (fun _ h9 => h9) rfl hin rfl (by decide +kernel) rfl rfl (Nat.le_of_ble_eq_true rfl) dX1_init_28 (fun H locs hP hD hS => ?_)
  have hP : va_P D vwCl (((h, .inr (4, [.ref r1, .ref o2, .ref r4, .int 0, .int 0, .int 0, .int 0])) : Nat × va_E) :: (([(r1, .inl (G 0, 12, .inr (.inr (.inr (.inr (fun _ => none))))))] ++ ([itC o2 nb])) ++ [(r4, .inl (G 1, 3, .inl (fun _ => 0)))]) : va_W) H := hP
  have hD : va_D A (((h, .inr (4, [.ref r1, .ref o2, .ref r4, .int 0, .int 0, .int 0, .int 0])) : Nat × va_E) :: (([(r1, .inl (G 0, 12, .inr (.inr (.inr (.inr (fun _ => none))))))] ++ ([itC o2 nb])) ++ [(r4, .inl (G 1, 3, .inl (fun _ => 0)))]) : va_W) := hD
  refine lv_iconst (v := 0) hx hb dX1_init_31 (by decide) ?_
  refine lv_istore_n (lv' := [(1, .int 0), (0, .ref h)]) hx hb dX1_init_32 rfl hl (by decide) rfl (fun ls hl => ?_)
  skip
  have L33 : ∀ (n k : Nat), k + n = 12 → ∀ (b : Nat → Nat) (H : Heap) (locs : List Loc), va_P D vwCl (((h, .inr (4, [.ref r1, .ref o2, .ref r4, .int 0, .int 0, .int 0, .int 0])) : Nat × va_E) :: ((r1, .inl (G 0, 12, .inr (.inr (.inr (.inr (rwk b k)))))) :: (o2, .inr (6, itV nb)) :: (r4, .inl (G 1, 3, .inl (fun _ => 0))) :: (List.range k).map (fun i => itC (b i) nb)) : va_W) H → va_D A (((h, .inr (4, [.ref r1, .ref o2, .ref r4, .int 0, .int 0, .int 0, .int 0])) : Nat × va_E) :: ((r1, .inl (G 0, 12, .inr (.inr (.inr (.inr (rwk b k)))))) :: (o2, .inr (6, itV nb)) :: (r4, .inl (G 1, 3, .inl (fun _ => 0))) :: (List.range k).map (fun i => itC (b i) nb)) : va_W) → va_S A s.heap H locs → ∀ ls : Array Slot, lv_has ls 2 [(1, .int (nI k)), (0, .ref h)] → W p l e (headSpec (wA yX1_init cX1_init 2 none) ({ frames := 2, cells := 15, slots := 119, locals := 32 } : Room)).room s m ([.ref h] : List Value).toArray below meth c H locs (3 + 1 * k) (23 + 8 * k) (MQ below (va_Qv (fun u : Nat → Nat => u 0 = h) (fun u t9 => va_P D vwCl (cw G u st0) t9.heap ∧ va_D A (cw G u st0)) A) ([.ref h] : List Value).toArray s 15 119 A) (F0 m 33 ls []) := by
    intro n
    induction n with
    | zero =>
      intro k hk0 b H locs hP hD hS ls hl
      obtain rfl : k = 12 := by omega
      refine lv_iload_n hx hb dX1_init_33 rfl (lv_at hl 0 rfl) ?_
      refine lv_aload_n hx hb dX1_init_34 rfl (lv_at hl 1 rfl) ?_
      refine va_get (D := D) (ci := 4) (v := .ref r1) (C := RX1) (T := TX1) (N := 7) hx hb hts i_X1 hown hK hP 0 rfl rfl 0 (by decide) (hts _ kw_118) (fun _ h9 => h9) rfl dX1_init_35 ?_
      refine va_alen (v := nI 12) hx hb hK hP 1 0 rfl rfl rfl dX1_init_38 ?_
      refine lv_icmp_ge (tgt := 61) hx hb dX1_init_39 (by decide) (fun _ => ?_) (fun c_5 => absurd (by decide) c_5)
      obtain ⟨hP9, hD9⟩ := made_cargo (G := G) (h := h) (r := r1) (z := o2) (m := r4) (b := b) hP hD
      refine W.widen (k := 15) (n := 119) (by omega) (by omega) ?_
      exact W.vret hx hb hr (fun t ht hW => ⟨⟨(adr h r1 o2 r4 b), rfl, rfl, by rw [ht]; exact hP9, hD9⟩, hS.F ht⟩) hS.2.2 dX1_init_61
    | succ n ih =>
      intro k hk0 b H locs hP hD hS ls hl
      refine lv_iload_n hx hb dX1_init_33 rfl (lv_at hl 0 rfl) ?_
      refine lv_aload_n hx hb dX1_init_34 rfl (lv_at hl 1 rfl) ?_
      refine va_get (D := D) (ci := 4) (v := .ref r1) (C := RX1) (T := TX1) (N := 7) hx hb hts i_X1 hown hK hP 0 rfl rfl 0 (by decide) (hts _ kw_118) (fun _ h9 => h9) rfl dX1_init_35 ?_
      refine va_alen (v := nI 12) hx hb hK hP 1 0 rfl rfl rfl dX1_init_38 ?_
      refine lv_icmp_ge (tgt := 61) hx hb dX1_init_39 (by decide) (fun c_6 => absurd c_6 (nI_ge (a := k) (b := 12) (by omega) (by omega))) (fun _ => ?_)
      refine lv_aload_n hx hb dX1_init_42 rfl (lv_at hl 1 rfl) ?_
      refine va_get (D := D) (ci := 4) (v := .ref r1) (C := RX1) (T := TX1) (N := 7) hx hb hts i_X1 hown hK hP 0 rfl rfl 0 (by decide) (hts _ kw_118) (fun _ h9 => h9) rfl dX1_init_43 ?_
      refine lv_iload_n hx hb dX1_init_46 rfl (lv_at hl 0 rfl) ?_
      refine va_new (D := D) (ci := 6) (fs := itV (fun _ => 0)) (C := RX4) (T := TX4) (N := 8) hx hb hts i_X4 tyX4 tyX4_ok hown (hts _ kw_71) (hts _ kw_73) (hts _ kw_26) hK hP hD hS hA rfl (fun j hj => by rcases (show j = 0 ∨ j = 1 ∨ j = 2 ∨ j = 3 ∨ j = 4 ∨ j = 5 ∨ j = 6 ∨ j = 7 by omega) with rfl | rfl | rfl | rfl | rfl | rfl | rfl | rfl <;> rfl) (show 3 + 1 * k + 1 ≤ 15 by omega) (show 23 + 8 * k + 8 ≤ 119 by omega) dX1_init_47 (fun o7 H hP hD hS => ?_)
      refine W.widen (k := 3 + 1 * k + 1) (n := 23 + 8 * k + 8) (by omega) (by omega) ?_
      refine lv_dup hx hb dX1_init_50 rfl ?_
      have hFc := free_end (W := ((((h, .inr (4, [.ref r1, .ref o2, .ref r4, .int 0, .int 0, .int 0, .int 0])) : Nat × va_E) :: ((r1, .inl (G 0, 12, .inr (.inr (.inr (.inr (rwk b k)))))) :: (o2, .inr (6, itV nb)) :: (r4, .inl (G 1, 3, .inl (fun _ => 0))) :: (List.range k).map (fun i => itC (b i) nb)) : va_W) : va_W)) (c := ((o7, .inr (6, itV (fun _ => 0))) : Nat × va_E)) hD hS hA
      have hBc := B_end (W := ((((h, .inr (4, [.ref r1, .ref o2, .ref r4, .int 0, .int 0, .int 0, .int 0])) : Nat × va_E) :: ((r1, .inl (G 0, 12, .inr (.inr (.inr (.inr (rwk b k)))))) :: (o2, .inr (6, itV nb)) :: (r4, .inl (G 1, 3, .inl (fun _ => 0))) :: (List.range k).map (fun i => itC (b i) nb)) : va_W) : va_W)) (c := ((o7, .inr (6, itV (fun _ => 0))) : Nat × va_E)) hD hAB
      refine va_callv (va_runIN (As := []) (rest := [.ref o7, .int (nI k), .ref r1]) ⟨hx, hb, hml, hown, hts⟩ (c_X4_init l D G B0 X o7 H.size) ⟨va_cnB 0 hts gi_X4_init rfl rfl rfl (nw_74 hE.nw) (hts _ kw_26) (by decide +kernel) ⟨Nat.le_of_ble_eq_true rfl, Nat.le_of_ble_eq_true rfl⟩, rfl, hts _ kw_75⟩ (pi_mk (W := ((((h, .inr (4, [.ref r1, .ref o2, .ref r4, .int 0, .int 0, .int 0, .int 0])) : Nat × va_E) :: ((r1, .inl (G 0, 12, .inr (.inr (.inr (.inr (rwk b k)))))) :: (o2, .inr (6, itV nb)) :: (r4, .inl (G 1, 3, .inl (fun _ => 0))) :: (List.range k).map (fun i => itC (b i) nb)) : va_W) : va_W)) (c := ((o7, .inr (6, itV (fun _ => 0))) : Nat × va_E)) hK hP hBc (hE.at hS hAB)) rfl rfl hl.1 rfl (lv_room (Nat.le_of_ble_eq_true rfl)) dX1_init_51 ⟨(show 3 + 1 * k + 1 + 0 ≤ 15 by omega), (show 23 + 8 * k + 8 + 0 ≤ 119 by omega)⟩) hS (fun q _ h => hFc q h) hFc (fun u t H1 locs ht hvm hw hB hz1 hk1 hS => ?_)
      obtain ⟨hB1, hB2⟩ := hB
      rw [ht] at hB1
      obtain ⟨hP, hD⟩ := W_end (W := ((((h, .inr (4, [.ref r1, .ref o2, .ref r4, .int 0, .int 0, .int 0, .int 0])) : Nat × va_E) :: ((r1, .inl (G 0, 12, .inr (.inr (.inr (.inr (rwk b k)))))) :: (o2, .inr (6, itV nb)) :: (r4, .inl (G 1, 3, .inl (fun _ => 0))) :: (List.range k).map (fun i => itC (b i) nb)) : va_W) : va_W)) (q0 := ((o7, .inr (6, itV (fun _ => 0))) : Nat × va_E)) hP hD hFc hk1 hB1 hB2
      obtain ⟨H, rfl⟩ : ∃ z, z = H1 := ⟨_, rfl⟩
      obtain ⟨u8, rfl⟩ : ∃ z, z = u := ⟨_, rfl⟩
      have hpx_u8 := hw
      refine W.widen (k := 3 + 1 * k + 1 + 0) (n := 23 + 8 * k + 8 + 0) (by omega) (by omega) ?_
      have hP : va_P D vwCl (((h, .inr (4, [.ref r1, .ref o2, .ref r4, .int 0, .int 0, .int 0, .int 0])) : Nat × va_E) :: (((r1, .inl (G 0, 12, .inr (.inr (.inr (.inr (rwk b k)))))) :: (o2, .inr (6, itV nb)) :: (r4, .inl (G 1, 3, .inl (fun _ => 0))) :: (List.range k).map (fun i => itC (b i) nb)) ++ ([itC o7 nb])) : va_W) H := hP
      have hD : va_D A (((h, .inr (4, [.ref r1, .ref o2, .ref r4, .int 0, .int 0, .int 0, .int 0])) : Nat × va_E) :: (((r1, .inl (G 0, 12, .inr (.inr (.inr (.inr (rwk b k)))))) :: (o2, .inr (6, itV nb)) :: (r4, .inl (G 1, 3, .inl (fun _ => 0))) :: (List.range k).map (fun i => itC (b i) nb)) ++ ([itC o7 nb])) : va_W) := hD
      obtain ⟨k7, hk7⟩ : ∃ k7, ((((h, .inr (4, [.ref r1, .ref o2, .ref r4, .int 0, .int 0, .int 0, .int 0])) : Nat × va_E) :: (((r1, .inl (G 0, 12, .inr (.inr (.inr (.inr (rwk b k)))))) :: (o2, .inr (6, itV nb)) :: (r4, .inl (G 1, 3, .inl (fun _ => 0))) :: (List.range k).map (fun i => itC (b i) nb)) ++ ([itC o7 nb])) : va_W) : va_W)[k7]? = some ((o7, .inr (6, itV nb)) : Nat × va_E) := List.getElem?_of_mem (List.mem_append_right (((h, .inr (4, [.ref r1, .ref o2, .ref r4, .int 0, .int 0, .int 0, .int 0])) : Nat × va_E) :: ((r1, .inl (G 0, 12, .inr (.inr (.inr (.inr (rwk b k)))))) :: (o2, .inr (6, itV nb)) :: (r4, .inl (G 1, 3, .inl (fun _ => 0))) :: (List.range k).map (fun i => itC (b i) nb))) (List.mem_singleton.mpr rfl))
      refine va_astq hx hb hK hP hD hS 1 0 k7 6 rfl rfl hk7 rfl (vp_in_nI (n := k) (by omega) (by decide)) dX1_init_54 (fun H locs hP hD hS => ?_)
      rw [nI_clamp (n := k) (by omega)] at hP hD
      have hP : va_P D vwCl (((h, .inr (4, [.ref r1, .ref o2, .ref r4, .int 0, .int 0, .int 0, .int 0])) : Nat × va_E) :: ((r1, .inl (G 0, 12, .inr (.inr (.inr (.inr (va_up (rwk b k) k (some o7))))))) :: (o2, .inr (6, itV nb)) :: (r4, .inl (G 1, 3, .inl (fun _ => 0))) :: ((List.range k).map (fun i => itC (b i) nb) ++ [itC o7 nb])) : va_W) H := hP
      have hD : va_D A (((h, .inr (4, [.ref r1, .ref o2, .ref r4, .int 0, .int 0, .int 0, .int 0])) : Nat × va_E) :: ((r1, .inl (G 0, 12, .inr (.inr (.inr (.inr (va_up (rwk b k) k (some o7))))))) :: (o2, .inr (6, itV nb)) :: (r4, .inl (G 1, 3, .inl (fun _ => 0))) :: ((List.range k).map (fun i => itC (b i) nb) ++ [itC o7 nb])) : va_W) := hD
      rw [rwk_s, tl_s (fun a => itC a nb)] at hP hD
      refine lv_iinc (v := nI (k + 1)) (lv' := [(1, .int (nI (k + 1))), (0, .ref h)]) hx hb dX1_init_55 hl (k := 0) rfl (by exact nI_1 k) (by decide) rfl (fun ls hl => ?_)
      refine lv_goto (tgt := 33) hx hb dX1_init_58 (by decide) ?_
      refine W.widen (k := 3 + 1 * (k + 1)) (n := 23 + 8 * (k + 1)) (by omega) (by omega) ?_
      exact ih (k + 1) (by omega) (va_up b k o7) _ _ hP hD hS ls (lv_sub hl [0, 1] rfl)
  exact L33 12 0 rfl (fun _ => 0) _ _ hP hD hS ls (lv_sub hl [0, 1] rfl)
