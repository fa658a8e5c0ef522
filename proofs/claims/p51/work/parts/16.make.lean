/-! NEW CELLS: a constructor changes its own cell and makes others behind; the caller's world goes on -/
theorem row_id {D : va_G} {cl : List vw_C} {tys : List (ClassId × FieldType)} {cA g : ClassId} {ty : FieldType} {U : State} {i : Nat} (h : va_K D cl (tys ++ [(cA, ty)]) U) (hi : tys[i]? = some (g, ty)) : cA = g := by
  have hl := (List.getElem?_eq_some_iff.mp hi).1
  have h1 := (h.2 tys.length (cA, ty) (by rw [List.getElem?_append_right (Nat.le_refl _), Nat.sub_self]; rfl)).2
  have h2 := (h.2 i (g, ty) (by rw [List.getElem?_append_left hl]; exact hi)).2
  have e : ∀ c : ClassId, va_RA U c ty → U.vm.findClass ("[" ++ ty.toString) = some c := by
    intro c hc
    cases ty with
    | object C => exact hc.choose_spec.choose_spec.2.2.2
    | _ => exact hc
  have e1 := e _ h1
  rw [e _ h2] at e1
  exact (Option.some.inj e1).symm
theorem W_end {D : va_G} {cl : List vw_C} {A : Nat → Prop} {W C1 : va_W} {q0 : Nat × va_E} {H H1 : Heap} (hP : va_P D cl (W ++ [q0]) H) (hD : va_D A (W ++ [q0])) (hF : ∀ x, va_A [q0] H.size x → A x) (hk : ∀ q : Nat, q < H.size → ¬ va_A [q0] H.size q → H1[q]? = H[q]?) (hP1 : va_P D cl C1 H1) (hD1 : va_D (va_A [q0] H.size) C1) : va_P D cl (W ++ C1) H1 ∧ va_D A (W ++ C1) := by
  obtain ⟨dW, d0, dj⟩ := D_apart hD
  have hW : va_P D cl W H := P_subset (fun q hq => List.mem_append_left _ hq) hP
  have far : ∀ q ∈ W, ¬ va_A [q0] H.size q.1 := by
    intro q hq h
    rcases A_one h with h | h
    · exact dj q hq q0 (List.mem_singleton.mpr rfl) h
    · have := (P_mem hW hq).lt
      omega
  refine ⟨P_of (fun q hq => ?_), D_app dW (hD1.weaken (fun _ _ _ h => hF _ h)) (fun p hp q hq e => far p hp (by rw [e]; exact D_in hD1 hq))⟩
  rcases List.mem_append.mp hq with h | h
  · exact P_mem (P_keep hW hk far) h
  · exact P_mem hP1 h
abbrev MKp (D : va_G) (G : GA) (B0 : Nat) (X : Nat → Nat → Nat) (c : Nat × va_E) (sz : Nat) (U : State) : Prop := U.heap.size = sz ∧ va_P D vwCl [c] U.heap ∧ KK D G U ∧ B0 ≤ c.1 ∧ EN B0 X U U.heap
theorem pi_mk {s : State} {H : Heap} {D : va_G} {G : GA} {B0 : Nat} {X : Nat → Nat → Nat} {W : va_W} {c : Nat × va_E} {As : List Value} (hK : KK D G s) (hP : va_P D vwCl (W ++ [c]) H) (hB : B0 ≤ c.1) (hE : EN B0 X s H) : PreS s H (va_Pc As (MKp D G B0 X c H.size)) As :=
  ⟨fun A U g mk q => ⟨q.1, q.2.1, q.2.2.1, va_K.moved (Vm.Alike.refl U.vm) q.2.2.2.1, q.2.2.2.2.1, EN.warm (s := U) (State.WarmedH.refl U) q.2.2.2.2.2⟩, fun U hU hW => ⟨rfl, by rw [hU], by rw [hU]; exact P_subset (fun q hq => List.mem_append_right _ hq) hP, va_K.moved hW.alike hK, hB, by rw [hU]; exact hE.warm hW⟩⟩
theorem D_1 (c : Nat × va_E) (sz : Nat) : va_D (va_A [c] sz) [c] := D_of (by simp) (fun q hq => A_of hq)
theorem A_B {c : Nat × va_E} {B0 sz : Nat} (h : B0 ≤ c.1) (hz : B0 ≤ sz) : ∀ q, va_A [c] sz q → B0 ≤ q := by
  intro q hq
  rcases A_one hq with h1 | h1
  · rw [h1]; exact h
  · exact Nat.le_trans hz h1
theorem B_end {A : Nat → Prop} {B0 : Nat} {W : va_W} {c : Nat × va_E} (hD : va_D A (W ++ [c])) (hAB : ∀ q, A q → B0 ≤ q) : B0 ≤ c.1 := hAB _ (D_in hD (List.mem_append_right _ (List.mem_singleton.mpr rfl)))
theorem free_end {A0 : Nat → Prop} {W : va_W} {c : Nat × va_E} {H0 H : Heap} {locs : List Loc} (hD : va_D A0 (W ++ [c])) (hS : va_S A0 H0 H locs) (hA : ∀ q, H0.size ≤ q → A0 q) : ∀ x, va_A [c] H.size x → A0 x := by
  intro x h
  rcases A_one h with h | h
  · rw [h]; exact D_in hD (List.mem_append_right _ (List.mem_singleton.mpr rfl))
  · exact hA x (Nat.le_trans hS.1 h)
/-- an empty cargo -/
def st0 : CS := (fun _ => nb, fun _ => 0, fun _ => 0)
def rwk (b : Nat → Nat) (k : Nat) : Nat → Option Nat := fun i => if i < k then some (b i) else none
theorem rwk_s (b : Nat → Nat) (k q : Nat) : va_up (rwk b k) k (some q) = rwk (va_up b k q) (k + 1) := by
  funext i
  by_cases h : i = k
  · simp [va_up, rwk, h]
  · by_cases h2 : i < k
    · have h3 : i < k + 1 := by omega
      simp [va_up, rwk, h, h2, h3]
    · have h3 : ¬ i < k + 1 := by omega
      simp [va_up, rwk, h, h2, h3]
theorem tl_s {α β : Type} (F : α → β) (b : Nat → α) (k : Nat) (q : α) : (List.range k).map (fun i => F (b i)) ++ [F q] = (List.range (k + 1)).map (fun i => F (va_up b k q i)) := by
  rw [List.range_succ, List.map_append]
  congr 1
  · apply List.map_congr_left
    intro i hi
    have := List.mem_range.mp hi
    rw [va_up_ne _ _ (by omega)]
  · show [F q] = [F (va_up b k q k)]
    rw [va_up_self]
/-- the addresses of a cargo whose cells are h, its row r, nobody z, limits m and the items b -/
def adr (h r z m : Nat) (b : Nat → Nat) : Nat → Nat := fun i => if i = 0 then h else if i = 1 then r else if i = 2 then m else if i = 15 then z else b (i - 3)
theorem cw_made (G : GA) (h r z m : Nat) (b : Nat → Nat) : ((h, .inr (4, [.ref r, .ref z, .ref m, .int 0, .int 0, .int 0, .int 0])) :: (r, .inl (G 0, 12, .inr (.inr (.inr (.inr (rwk b 12)))))) :: (z, .inr (6, itV nb)) :: (m, .inl (G 1, 3, .inl (fun _ => 0))) :: (List.range 12).map (fun i => itC (b i) nb) : va_W).Perm ((h, .inr (4, [.ref r, .ref z, .ref m, .int 0, .int 0, .int 0, .int 0])) :: (r, .inl (G 0, 12, .inr (.inr (.inr (.inr (rwk b 12)))))) :: (m, .inl (G 1, 3, .inl (fun _ => 0))) :: ((List.range 12).map (fun i => itC (b i) nb) ++ [(z, .inr (6, itV nb))])) := by
  refine (List.Perm.cons _ (List.Perm.cons _ ?_))
  refine (List.Perm.swap _ _ _).trans (List.Perm.cons _ ?_)
  exact (List.perm_append_comm (l₁ := ([(z, .inr (6, itV nb))] : va_W)))
theorem cw_made2 (G : GA) (h r z m : Nat) (b : Nat → Nat) : cw G (adr h r z m b) st0 = (h, .inr (4, [.ref r, .ref z, .ref m, .int 0, .int 0, .int 0, .int 0])) :: (r, .inl (G 0, 12, .inr (.inr (.inr (.inr (cwR (adr h r z m b))))))) :: (m, .inl (G 1, 3, .inl (fun _ => 0))) :: ((List.range 12).map (fun i => itC (b i) nb) ++ [(z, .inr (6, itV nb))]) := rfl
theorem P_perm {D : va_G} {cl : List vw_C} {ws wc : va_W} {H : Heap} (h : ws.Perm wc) (hP : va_P D cl ws H) : va_P D cl wc H := P_subset (fun _ hq => h.mem_iff.mpr hq) hP
theorem D_perm {A : Nat → Prop} {ws wc : va_W} (h : ws.Perm wc) (hD : va_D A ws) : va_D A wc := D_of ((h.map _).nodup_iff.mp (D_nodup hD)) (fun q hq => D_in hD (h.mem_iff.mpr hq))
theorem P_row {D : va_G} {cl : List vw_C} {ws : va_W} {H : Heap} {k r n : Nat} {cA : ClassId} {f g : Nat → Option Nat} (h : ∀ j, j < n → f j = g j) (hk : k < ws.length) (hP : va_P D cl (ws.set k (r, .inl (cA, n, .inr (.inr (.inr (.inr f)))))) H) : va_P D cl (ws.set k (r, .inl (cA, n, .inr (.inr (.inr (.inr g)))))) H := by
  intro i q hi
  by_cases e : i = k
  · subst e
    rw [List.getElem?_set_self hk] at hi
    cases hi
    have h2 : H[r]? = some (vp_cell cA (n, .inr (.inr (.inr (.inr f))))) := hP i _ (List.getElem?_set_self hk)
    show H[r]? = some (vp_cell cA (n, .inr (.inr (.inr (.inr g)))))
    rw [h2, cell_ref h]
  · have h3 := hP i q
    rw [List.getElem?_set_ne (Ne.symm e)] at hi h3
    exact h3 hi
theorem made_cargo {D : va_G} {A : Nat → Prop} {G : GA} {h r z m : Nat} {b : Nat → Nat} {H : Heap} (hP : va_P D vwCl ((h, .inr (4, [.ref r, .ref z, .ref m, .int 0, .int 0, .int 0, .int 0])) :: (r, .inl (G 0, 12, .inr (.inr (.inr (.inr (rwk b 12)))))) :: (z, .inr (6, itV nb)) :: (m, .inl (G 1, 3, .inl (fun _ => 0))) :: (List.range 12).map (fun i => itC (b i) nb)) H) (hD : va_D A ((h, .inr (4, [.ref r, .ref z, .ref m, .int 0, .int 0, .int 0, .int 0])) :: (r, .inl (G 0, 12, .inr (.inr (.inr (.inr (rwk b 12)))))) :: (z, .inr (6, itV nb)) :: (m, .inl (G 1, 3, .inl (fun _ => 0))) :: (List.range 12).map (fun i => itC (b i) nb))) :
    va_P D vwCl (cw G (adr h r z m b) st0) H ∧ va_D A (cw G (adr h r z m b) st0) := by
  have hP := P_perm (cw_made G h r z m b) hP
  have hD := D_perm (cw_made G h r z m b) hD
  rw [cw_made2]
  refine ⟨P_row (k := 1) (fun j hj => ?_) (Nat.le_of_ble_eq_true rfl) (ws := (h, .inr (4, [.ref r, .ref z, .ref m, .int 0, .int 0, .int 0, .int 0])) :: (r, .inl (G 0, 12, .inr (.inr (.inr (.inr (rwk b 12)))))) :: (m, .inl (G 1, 3, .inl (fun _ => 0))) :: ((List.range 12).map (fun i => itC (b i) nb) ++ [(z, .inr (6, itV nb))])) hP, D_addr hD rfl⟩
  unfold rwk
  rw [if_pos hj]
  unfold cwR adr
  rw [if_neg (by omega), if_neg (by omega), if_neg (by omega), if_neg (by omega), Nat.add_sub_cancel_left]
theorem i_J4 : ∀ w ∈ u_ws RJ4 TJ4 4, w ∈ tb := by decide +kernel
theorem i_X7 : ∀ w ∈ u_ws RX7 TX7 12, w ∈ tb := by decide +kernel
theorem rwk_s2 (b : Nat → Nat → Nat) (k q : Nat) (u : Nat → Nat) (h : u 0 = q) : va_up (rwk (fun i => b i 0) k) k (some q) = rwk (fun i => va_up b k u i 0) (k + 1) := by
  rw [← h, rwk_s]
  congr 1
  funext i
  by_cases e : i = k
  · simp [va_up, e]
  · simp [va_up, e]
theorem tl_f (G : GA) (b : Nat → Nat → Nat) (k : Nat) (u : Nat → Nat) : ((List.range k).map (fun i => cw G (b i) st0)).flatten ++ cw G u st0 = ((List.range (k + 1)).map (fun i => cw G (va_up b k u i) st0)).flatten := by
  rw [← tl_s (fun a => cw G a st0), List.flatten_append]
  congr 1
  all_goals (show cw G u st0 = cw G u st0 ++ []; rw [List.append_nil])
theorem made_hist {D : va_G} {A : Nat → Prop} {G : GA} {h r : Nat} {b : Nat → Nat → Nat} {H : Heap} (hP : va_P D vwCl ((h, .inr (5, [.ref r, .int 0])) :: (r, .inl (G 2, 8, .inr (.inr (.inr (.inr (rwk (fun i => b i 0) 8)))))) :: ((List.range 8).map (fun i => cw G (b i) st0)).flatten) H) (hD : va_D A ((h, .inr (5, [.ref r, .int 0])) :: (r, .inl (G 2, 8, .inr (.inr (.inr (.inr (rwk (fun i => b i 0) 8)))))) :: ((List.range 8).map (fun i => cw G (b i) st0)).flatten)) :
    va_P D vwCl (HBL G h r (hR b) (nI 0) b (fun _ => st0)).flatten H ∧ va_D A (HBL G h r (hR b) (nI 0) b (fun _ => st0)).flatten := by
  refine ⟨P_row (k := 1) (fun j hj => ?_) (Nat.le_of_ble_eq_true rfl) (ws := (h, .inr (5, [.ref r, .int 0])) :: (r, .inl (G 2, 8, .inr (.inr (.inr (.inr (rwk (fun i => b i 0) 8)))))) :: ((List.range 8).map (fun i => cw G (b i) st0)).flatten) hP, D_addr hD rfl⟩
  unfold rwk hR
  rw [if_pos hj]
/-- a builder of text: x itself, y its bytes -/
def lb (G : GA) (x y cap : Nat) (tx : Nat → Int32) (n : Nat) (ml : Int32) : va_W := [(x, .inr (1, [.ref y, .int 0, .int (z01 ml), .int (nI n)])), (y, .inl (G 4, cap, .inl tx))]
abbrev AD : Type := (Nat → Nat → Nat) × (Nat → Nat → Nat) × Nat
abbrev SV : Type := (Nat → Int32) × (Nat → Int32) × Nat × Nat × Nat × Int32 × Nat
abbrev LV : Type := Nat × (Nat → Int32) × Nat × Int32
/-- the whole of a packer, block by block -/
def CBL (G : GA) (X : Nat → Nat → Nat) (ad : AD) (c0 c1 c2 : CS) (hS : Nat → CS) (hn : Nat) (sv : SV) (lv : LV) (bs fl : Nat → Int32) : List va_W :=
  [[(ad.1 3 0, .inr (8, [.ref (ad.1 0 0), .ref (ad.1 1 0), .ref (ad.1 2 0), .ref (ad.1 3 1), .ref (ad.1 3 3), .ref (ad.1 3 6), .ref (ad.1 3 8), .int (z01 (fl 0)), .int (fl 1), .int (fl 2), .int (fl 3), .int (fl 4)]))],
   cw G (ad.1 0) c0, cw G (ad.1 1) c1, cw G (ad.1 2) c2, (HBL G (ad.1 3 1) (ad.1 3 2) (hR ad.2.1) (nI hn) ad.2.1 hS).flatten,
   sw G X (ad.1 3 3) (ad.1 3 4) (ad.1 3 5) sv.1 sv.2.1 sv.2.2.1 sv.2.2.2.1 sv.2.2.2.2.1 sv.2.2.2.2.2.1 sv.2.2.2.2.2.2, lb G (ad.1 3 6) ad.2.2 lv.1 lv.2.1 lv.2.2.1 lv.2.2.2, [(ad.1 3 8, .inl (G 1, 100, .inl bs))]]
def sv0 : SV := (fun _ => 0, fun _ => 0, 0, 0, 0, 0, 6)
def lv0 : LV := (16, fun _ => 0, 0, 0)
def fl0 : Nat → Int32 := fun i => if i = 0 then 0 else if i = 1 then 0 else -1
def adMk (u1 u2 u3 : Nat → Nat) (l : List Nat) : Nat → Nat → Nat := fun i => if i = 0 then u1 else if i = 1 then u2 else if i = 2 then u3 else fun j => l.getD j 0
theorem gi_X4_init : GoodIn tb (wA yX4_init cX4_init 1 none) := gI kw_76
theorem gi_X1_init : GoodIn tb (wA yX1_init cX1_init 2 none) := gI kw_69
theorem gi_J5_init_d00df : GoodIn tb (wA yJ5_init_d00df cJ5_init_d00df 2 none) := gI kw_202
theorem gi_X3_init : GoodIn tb (wA yX3_init cX3_init 2 none) := gI kw_148
theorem gi_X6_init : GoodIn tb (wA yX6_init cX6_init 1 none) := gI kw_165
theorem gi_J4_init_da8c8 : GoodIn tb (wA yJ4_init_da8c8 cJ4_init_da8c8 1 none) := gI kw_199
set_option maxRecDepth 100000 in
set_option maxHeartbeats 4000000 in
theorem c_X4_init (l : Launch) (D : va_G) (G : GA) (B0 : Nat) (X : Nat → Nat → Nat) (h : Nat) (sz : Nat) : Met l yX4_init (wA yX4_init cX4_init 1 none) ({ frames := 1, cells := 0, slots := 0, locals := 12 } : Room) (va_Pc [.ref h] (MKp D G B0 X (h, .inr (6, itV (fun _ => 0))) sz)) (va_Qv (fun u : Unit => True) (fun u t9 => va_P D vwCl ([itC h nb]) t9.heap ∧ va_D (va_A [(h, .inr (6, itV (fun _ => 0)))] sz) ([itC h nb])) (va_A [(h, .inr (6, itV (fun _ => 0)))] sz)) 0 0 (va_A [(h, .inr (6, itV (fun _ => 0)))] sz) := by
  refine Met.ofW (cc := cX4_init) (maxL := 1) (ret := none) (by decide) rfl ?_
  intro p e s m args below meth c s₁ B hml hv
  obtain ⟨rfl, hsz, hP, hK, hB0, hE⟩ := hv
  have hx := B.exec
  have hb := B.bytes
  have hr := B.returns
  have hts : ∀ w9 ∈ tb, w9.before ([.ref h] : List Value).toArray s = true := fun w9 h9 => atoms_spec (ws := (wA yX4_init cX4_init 1 none)) B.pre w9 (List.mem_cons_of_mem _ h9)
  have hown : s.vm.findClass RX4 = some m.cls := findClass_of_methodNamed B.named
  have hlocks := B.notSynchronized
  have hin : meth.name = "<init>" := (name_of_methodNamed B.named B.method).1
  subst hsz
  have hD : va_D (va_A [(h, .inr (6, itV (fun _ => 0)))] s.heap.size) [(h, .inr (6, itV (fun _ => 0)))] := D_1 _ _
  have hAB := A_B (c := (h, .inr (6, itV (fun _ => 0)))) hB0 hE.1
  generalize hAe : va_A [(h, .inr (6, itV (fun _ => 0)))] s.heap.size = A at hD hAB ⊢
  have hA : ∀ q : Nat, s.heap.size ≤ q → A q := fun q h => by rw [← hAe]; exact Or.inr h
  have hS : va_S A s.heap s.heap [] := va_S.rf
  have hl := lv_entry ([.ref h]) (n := 1) (Nat.le_of_ble_eq_true rfl)
  rw [lg_entry_eq]
  generalize (lg_sl ([.ref h]) ++ List.replicate (1 - (lg_sl ([.ref h])).length) Slot.unset).toArray = ls at hl ⊢
  have hl : lv_has ls 1 [(0, .ref h)] := hl
  have hP : va_P D vwCl (((h, .inr (6, itV (fun _ => 0))) : Nat × va_E) :: [] : va_W) s.heap := hP
  have hD : va_D A (((h, .inr (6, itV (fun _ => 0))) : Nat × va_E) :: [] : va_W) := hD
  refine lv_aload_n hx hb dX4_init_0 rfl (lv_at hl 0 rfl) ?_
  refine W.objInit hx hb hown (hts _ kw_77) (hts _ kw_63) (hts _ kw_64) rfl (by rw [hml]; exact hl.1) rfl dX4_init_1 (Nat.le_of_ble_eq_true rfl) (Nat.le_of_ble_eq_true rfl) ?_
  refine W.eq (g2 := F0 m 4 ls []) rfl ?_
  refine lv_aload_n hx hb dX4_init_4 rfl (lv_at hl 0 rfl) ?_
  refine lv_bipush (v := -2) hx hb dX4_init_5 (by decide) ?_
  refine va_put (D := D) (ci := 6) (v := .int (-2)) (ty := .int) (C := RX4) (T := TX4) (N := 8) hx hb hts i_X4 tyX4 tyX4_ok nmX4 hown hK hP hD hS 0 rfl rfl 5 (by decide) (hts _ kw_93) (fun _ h9 => h9) rfl (by decide +kernel) rfl rfl (Nat.le_of_ble_eq_true rfl) dX4_init_7 (fun H locs hP hD hS => ?_)
  have hP : va_P D vwCl (((h, .inr (6, itV nb)) : Nat × va_E) :: [] : va_W) H := hP
  have hD : va_D A (((h, .inr (6, itV nb)) : Nat × va_E) :: [] : va_W) := hD
  have hP9 : va_P D vwCl [itC h nb] H := hP
  have hD9 : va_D A [itC h nb] := hD
  refine W.widen (k := 0) (n := 0) (by omega) (by omega) ?_
  exact W.vret hx hb hr (fun t ht hW => ⟨⟨(), rfl, trivial, by rw [ht]; exact hP9, hD9⟩, hS.F ht⟩) hS.2.2 dX4_init_10
set_option maxRecDepth 100000 in
set_option maxHeartbeats 4000000 in
theorem c_X1_init (l : Launch) (D : va_G) (G : GA) (B0 : Nat) (X : Nat → Nat → Nat) (h : Nat) (sz : Nat) : Met l yX1_init (wA yX1_init cX1_init 2 none) ({ frames := 2, cells := 15, slots := 119, locals := 32 } : Room) (va_Pc [.ref h] (MKp D G B0 X (h, .inr (4, [.null, .null, .null, .int 0, .int 0, .int 0, .int 0])) sz)) (va_Qv (fun u : Nat → Nat => u 0 = h) (fun u t9 => va_P D vwCl (cw G u st0) t9.heap ∧ va_D (va_A [(h, .inr (4, [.null, .null, .null, .int 0, .int 0, .int 0, .int 0]))] sz) (cw G u st0)) (va_A [(h, .inr (4, [.null, .null, .null, .int 0, .int 0, .int 0, .int 0]))] sz)) 15 119 (va_A [(h, .inr (4, [.null, .null, .null, .int 0, .int 0, .int 0, .int 0]))] sz) := by
  refine Met.ofW (cc := cX1_init) (maxL := 2) (ret := none) (by decide) rfl ?_
  intro p e s m args below meth c s₁ B hml hv
  obtain ⟨rfl, hsz, hP, hK, hB0, hE⟩ := hv
  have hx := B.exec
  have hb := B.bytes
  have hr := B.returns
  have hts : ∀ w9 ∈ tb, w9.before ([.ref h] : List Value).toArray s = true := fun w9 h9 => atoms_spec (ws := (wA yX1_init cX1_init 2 none)) B.pre w9 (List.mem_cons_of_mem _ h9)
  have hown : s.vm.findClass RX1 = some m.cls := findClass_of_methodNamed B.named
  have hlocks := B.notSynchronized
  have hin : meth.name = "<init>" := (name_of_methodNamed B.named B.method).1
  subst hsz
  have hD : va_D (va_A [(h, .inr (4, [.null, .null, .null, .int 0, .int 0, .int 0, .int 0]))] s.heap.size) [(h, .inr (4, [.null, .null, .null, .int 0, .int 0, .int 0, .int 0]))] := D_1 _ _
  have hAB := A_B (c := (h, .inr (4, [.null, .null, .null, .int 0, .int 0, .int 0, .int 0]))) hB0 hE.1
  generalize hAe : va_A [(h, .inr (4, [.null, .null, .null, .int 0, .int 0, .int 0, .int 0]))] s.heap.size = A at hD hAB ⊢
  have hA : ∀ q : Nat, s.heap.size ≤ q → A q := fun q h => by rw [← hAe]; exact Or.inr h
  have hS : va_S A s.heap s.heap [] := va_S.rf
  have hl := lv_entry ([.ref h]) (n := 2) (Nat.le_of_ble_eq_true rfl)
  rw [lg_entry_eq]
  generalize (lg_sl ([.ref h]) ++ List.replicate (2 - (lg_sl ([.ref h])).length) Slot.unset).toArray = ls at hl ⊢
  have hl : lv_has ls 2 [(0, .ref h)] := hl
  have hP : va_P D vwCl (((h, .inr (4, [.null, .null, .null, .int 0, .int 0, .int 0, .int 0])) : Nat × va_E) :: [] : va_W) s.heap := hP
  have hD : va_D A (((h, .inr (4, [.null, .null, .null, .int 0, .int 0, .int 0, .int 0])) : Nat × va_E) :: [] : va_W) := hD
  refine lv_aload_n hx hb dX1_init_0 rfl (lv_at hl 0 rfl) ?_
  refine W.objInit hx hb hown (hts _ kw_70) (hts _ kw_63) (hts _ kw_64) rfl (by rw [hml]; exact hl.1) rfl dX1_init_1 (Nat.le_of_ble_eq_true rfl) (Nat.le_of_ble_eq_true rfl) ?_
  refine W.eq (g2 := F0 m 4 ls []) rfl ?_
  refine lv_aload_n hx hb dX1_init_4 rfl (lv_at hl 0 rfl) ?_
  refine lv_bipush (v := 12) hx hb dX1_init_5 (by decide) ?_
  refine va_newq hx hb hown (C := "CourierBags$Item") (hts _ kw_71) hE.aoI hK hP hD hS hA (n := 12) (N' := 12) (by decide) (by decide) (by decide) (show 0 + 1 ≤ 15 by omega) (show 0 + 12 ≤ 119 by omega) dX1_init_7 (fun r1 cA H hK2 hP hD hS => ?_)
  rw [row_id (i := 0) (g := G 0) hK2 rfl] at hP hD
  clear hK2 cA
  refine W.widen (k := 1) (n := 12) (by omega) (by omega) ?_
  have hP : va_P D vwCl (((h, .inr (4, [.null, .null, .null, .int 0, .int 0, .int 0, .int 0])) : Nat × va_E) :: [(r1, .inl (G 0, 12, .inr (.inr (.inr (.inr (fun _ => none))))))] : va_W) H := hP
  have hD : va_D A (((h, .inr (4, [.null, .null, .null, .int 0, .int 0, .int 0, .int 0])) : Nat × va_E) :: [(r1, .inl (G 0, 12, .inr (.inr (.inr (.inr (fun _ => none))))))] : va_W) := hD
  refine va_putF (D := D) (ci := 4) (v := .ref r1) (ty := .array (.object "CourierBags$Item")) (C := RX1) (T := TX1) (N := 7) hx hb hts i_X1 tyX1 tyX1_ok nmX1 hown hK hP hD hS 0 rfl rfl 0 (by decide) (hts _ kw_118) (fun _ h9 => h9) rfl hin rfl (by decide +kernel) rfl rfl (Nat.le_of_ble_eq_true rfl) dX1_init_10 (fun H locs hP hD hS => ?_)
  have hP : va_P D vwCl (((h, .inr (4, [.ref r1, .null, .null, .int 0, .int 0, .int 0, .int 0])) : Nat × va_E) :: [(r1, .inl (G 0, 12, .inr (.inr (.inr (.inr (fun _ => none))))))] : va_W) H := hP
  have hD : va_D A (((h, .inr (4, [.ref r1, .null, .null, .int 0, .int 0, .int 0, .int 0])) : Nat × va_E) :: [(r1, .inl (G 0, 12, .inr (.inr (.inr (.inr (fun _ => none))))))] : va_W) := hD
  refine lv_aload_n hx hb dX1_init_13 rfl (lv_at hl 0 rfl) ?_
  refine va_new (D := D) (ci := 6) (fs := itV (fun _ => 0)) (C := RX4) (T := TX4) (N := 8) hx hb hts i_X4 tyX4 tyX4_ok hown (hts _ kw_71) (hts _ kw_73) (hts _ kw_26) hK hP hD hS hA rfl (fun j hj => by rcases (show j = 0 ∨ j = 1 ∨ j = 2 ∨ j = 3 ∨ j = 4 ∨ j = 5 ∨ j = 6 ∨ j = 7 by omega) with rfl | rfl | rfl | rfl | rfl | rfl | rfl | rfl <;> rfl) (show 1 + 1 ≤ 15 by omega) (show 12 + 8 ≤ 119 by omega) dX1_init_14 (fun o2 H hP hD hS => ?_)
  refine W.widen (k := 2) (n := 20) (by omega) (by omega) ?_
  refine lv_dup hx hb dX1_init_17 rfl ?_
  have hFc := free_end (W := ((((h, .inr (4, [.ref r1, .null, .null, .int 0, .int 0, .int 0, .int 0])) : Nat × va_E) :: [(r1, .inl (G 0, 12, .inr (.inr (.inr (.inr (fun _ => none))))))] : va_W) : va_W)) (c := ((o2, .inr (6, itV (fun _ => 0))) : Nat × va_E)) hD hS hA
  have hBc := B_end (W := ((((h, .inr (4, [.ref r1, .null, .null, .int 0, .int 0, .int 0, .int 0])) : Nat × va_E) :: [(r1, .inl (G 0, 12, .inr (.inr (.inr (.inr (fun _ => none))))))] : va_W) : va_W)) (c := ((o2, .inr (6, itV (fun _ => 0))) : Nat × va_E)) hD hAB
  refine va_callv (va_runIN (As := []) (rest := [.ref o2, .ref h]) ⟨hx, hb, hml, hown, hts⟩ (c_X4_init l D G B0 X o2 H.size) ⟨va_cnB 0 hts gi_X4_init rfl rfl rfl (nw_74 hE.nw) (hts _ kw_26) (by decide +kernel) ⟨Nat.le_of_ble_eq_true rfl, Nat.le_of_ble_eq_true rfl⟩, rfl, hts _ kw_75⟩ (pi_mk (W := ((((h, .inr (4, [.ref r1, .null, .null, .int 0, .int 0, .int 0, .int 0])) : Nat × va_E) :: [(r1, .inl (G 0, 12, .inr (.inr (.inr (.inr (fun _ => none))))))] : va_W) : va_W)) (c := ((o2, .inr (6, itV (fun _ => 0))) : Nat × va_E)) hK hP hBc (hE.at hS hAB)) rfl rfl hl.1 rfl (lv_room (Nat.le_of_ble_eq_true rfl)) dX1_init_18 ⟨(show 2 + 0 ≤ 15 by omega), (show 20 + 0 ≤ 119 by omega)⟩) hS (fun q _ h => hFc q h) hFc (fun u t H1 locs ht hvm hw hB hz1 hk1 hS => ?_)
  obtain ⟨hB1, hB2⟩ := hB
  rw [ht] at hB1
  obtain ⟨hP7, hD7⟩ := W_end (W := ((((h, .inr (4, [.ref r1, .null, .null, .int 0, .int 0, .int 0, .int 0])) : Nat × va_E) :: [(r1, .inl (G 0, 12, .inr (.inr (.inr (.inr (fun _ => none))))))] : va_W) : va_W)) (q0 := ((o2, .inr (6, itV (fun _ => 0))) : Nat × va_E)) hP hD hFc hk1 hB1 hB2
  obtain ⟨H, rfl⟩ : ∃ z, z = H1 := ⟨_, rfl⟩
  obtain ⟨u3, rfl⟩ : ∃ z, z = u := ⟨_, rfl⟩
  have hpx_u3 := hw
  refine W.widen (k := 2) (n := 20) (by omega) (by omega) ?_
  have hP : va_P D vwCl (((h, .inr (4, [.ref r1, .null, .null, .int 0, .int 0, .int 0, .int 0])) : Nat × va_E) :: ([(r1, .inl (G 0, 12, .inr (.inr (.inr (.inr (fun _ => none))))))] ++ ([itC o2 nb])) : va_W) H := hP7
  have hD : va_D A (((h, .inr (4, [.ref r1, .null, .null, .int 0, .int 0, .int 0, .int 0])) : Nat × va_E) :: ([(r1, .inl (G 0, 12, .inr (.inr (.inr (.inr (fun _ => none))))))] ++ ([itC o2 nb])) : va_W) := hD7
  refine va_putF (D := D) (ci := 4) (v := .ref o2) (ty := .object "CourierBags$Item") (C := RX1) (T := TX1) (N := 7) hx hb hts i_X1 tyX1 tyX1_ok nmX1 hown hK hP hD hS 0 rfl rfl 1 (by decide) (hts _ kw_119) (fun _ h9 => h9) rfl hin rfl (by decide +kernel) rfl rfl (Nat.le_of_ble_eq_true rfl) dX1_init_21 (fun H locs hP hD hS => ?_)
  have hP : va_P D vwCl (((h, .inr (4, [.ref r1, .ref o2, .null, .int 0, .int 0, .int 0, .int 0])) : Nat × va_E) :: ([(r1, .inl (G 0, 12, .inr (.inr (.inr (.inr (fun _ => none))))))] ++ ([itC o2 nb])) : va_W) H := hP
  have hD : va_D A (((h, .inr (4, [.ref r1, .ref o2, .null, .int 0, .int 0, .int 0, .int 0])) : Nat × va_E) :: ([(r1, .inl (G 0, 12, .inr (.inr (.inr (.inr (fun _ => none))))))] ++ ([itC o2 nb])) : va_W) := hD
  refine lv_aload_n hx hb dX1_init_24 rfl (lv_at hl 0 rfl) ?_
  refine lv_iconst (v := 3) hx hb dX1_init_25 (by decide) ?_
  refine va_newa hx hb (atype := .int) (hts _ kw_143) (ty := .int) rfl hK hP hD hS hA (a0 := (3, .inl (fun _ => 0))) (fun _ => rfl) (N' := 3) (by decide) (by decide) (by decide) (show 2 + 1 ≤ 15 by omega) (show 20 + 3 ≤ 119 by omega) dX1_init_26 (fun r4 cA H hK2 hP hD hS => ?_)
  rw [row_id (i := 1) (g := G 1) hK2 rfl] at hP hD
  clear hK2 cA
  refine W.widen (k := 3) (n := 23) (by omega) (by omega) ?_
  have hP : va_P D vwCl (((h, .inr (4, [.ref r1, .ref o2, .null, .int 0, .int 0, .int 0, .int 0])) : Nat × va_E) :: (([(r1, .inl (G 0, 12, .inr (.inr (.inr (.inr (fun _ => none))))))] ++ ([itC o2 nb])) ++ [(r4, .inl (G 1, 3, .inl (fun _ => 0)))]) : va_W) H := hP
  have hD : va_D A (((h, .inr (4, [.ref r1, .ref o2, .null, .int 0, .int 0, .int 0, .int 0])) : Nat × va_E) :: (([(r1, .inl (G 0, 12, .inr (.inr (.inr (.inr (fun _ => none))))))] ++ ([itC o2 nb])) ++ [(r4, .inl (G 1, 3, .inl (fun _ => 0)))]) : va_W) := hD
  refine va_putF (D := D) (ci := 4) (v := .ref r4) (ty := .array .int) (C := RX1) (T := TX1) (N := 7) hx hb hts i_X1 tyX1 tyX1_ok nmX1 hown hK hP hD hS 0 rfl rfl 2 (by decide) (hts _ kw_120) (fun _ h9 => h9) rfl hin rfl (by decide +kernel) rfl rfl (Nat.le_of_ble_eq_true rfl) dX1_init_28 (fun H locs hP hD hS => ?_)
  have hP : va_P D vwCl (((h, .inr (4, [.ref r1, .ref o2, .ref r4, .int 0, .int 0, .int 0, .int 0])) : Nat × va_E) :: (([(r1, .inl (G 0, 12, .inr (.inr (.inr (.inr (fun _ => none))))))] ++ ([itC o2 nb])) ++ [(r4, .inl (G 1, 3, .inl (fun _ => 0)))]) : va_W) H := hP
  have hD : va_D A (((h, .inr (4, [.ref r1, .ref o2, .ref r4, .int 0, .int 0, .int 0, .int 0])) : Nat × va_E) :: (([(r1, .inl (G 0, 12, .inr (.inr (.inr (.inr (fun _ => none))))))] ++ ([itC o2 nb])) ++ [(r4, .inl (G 1, 3, .inl (fun _ => 0)))]) : va_W) := hD
  refine lv_iconst (v := 0) hx hb dX1_init_31 (by decide) ?_
  refine lv_istore_n (lv' := [(1, .int 0), (0, .ref h)]) hx hb dX1_init_32 rfl hl (by decide) rfl (fun ls hl => ?_)
  skip
  have L33 : ∀ (n k : Nat), k + n = 12 → ∀ (b : Nat → Nat) (H : Heap) (locs : List Loc), va_P D vwCl (((h, .inr (4, [.ref r1, .ref o2, .ref r4, .int 0, .int 0, .int 0, .int 0])) : Nat × va_E) :: ((r1, .inl (G 0, 12, .inr (.inr (.inr (.inr (rwk b k)))))) :: (o2, .inr (6, itV nb)) :: (r4, .inl (G 1, 3, .inl (fun _ => 0))) :: (List.range k).map (fun i => itC (b i) nb)) : va_W) H → va_D A (((h, .inr (4, [.ref r1, .ref o2, .ref r4, .int 0, .int 0, .int 0, .int 0])) : Nat × va_E) :: ((r1, .inl (G 0, 12, .inr (.inr (.inr (.inr (rwk b k)))))) :: (o2, .inr (6, itV nb)) :: (r4, .inl (G 1, 3, .inl (fun _ => 0))) :: (List.range k).map (fun i => itC (b i) nb)) : va_W) → va_S A s.heap H locs → ∀ ls : Array Slot, lv_has ls 2 [(1, .int (nI k)), (0, .ref h)] → W p l e (headSpec (wA yX1_init cX1_init 2 none) ({ frames := 2, cells := 15, slots := 119, locals := 32 } : Room)).room s m ([.ref h] : List Value).toArray below meth c H locs (3 + 1 * k) (23 + 8 * k) (MQ below (va_Qv (fun u : Nat → Nat => u 0 = h) (fun u t9 => va_P D vwCl (cw G u st0) t9.heap ∧ va_D A (cw G u st0)) A) ([.ref h] : List Value).toArray s 15 119 A) (F0 m 33 ls []) := by
    intro n
    induction n with
    | zero =>
      intro k hk0 b H locs hP hD hS ls hl
      obtain rfl : k = 12 := by omega
      refine lv_iload_n hx hb dX1_init_33 rfl (lv_at hl 0 rfl) ?_
      refine lv_aload_n hx hb dX1_init_34 rfl (lv_at hl 1 rfl) ?_
      refine va_get (D := D) (ci := 4) (v := .ref r1) (C := RX1) (T := TX1) (N := 7) hx hb hts i_X1 hown hK hP 0 rfl rfl 0 (by decide) (hts _ kw_118) (fun _ h9 => h9) rfl dX1_init_35 ?_
      refine va_alen (v := nI 12) hx hb hK hP 1 0 rfl rfl rfl dX1_init_38 ?_
      refine lv_icmp_ge (tgt := 61) hx hb dX1_init_39 (by decide) (fun _ => ?_) (fun c_5 => absurd (by decide) c_5)
      obtain ⟨hP9, hD9⟩ := made_cargo (G := G) (h := h) (r := r1) (z := o2) (m := r4) (b := b) hP hD
      refine W.widen (k := 15) (n := 119) (by omega) (by omega) ?_
      exact W.vret hx hb hr (fun t ht hW => ⟨⟨(adr h r1 o2 r4 b), rfl, rfl, by rw [ht]; exact hP9, hD9⟩, hS.F ht⟩) hS.2.2 dX1_init_61
    | succ n ih =>
      intro k hk0 b H locs hP hD hS ls hl
      refine lv_iload_n hx hb dX1_init_33 rfl (lv_at hl 0 rfl) ?_
      refine lv_aload_n hx hb dX1_init_34 rfl (lv_at hl 1 rfl) ?_
      refine va_get (D := D) (ci := 4) (v := .ref r1) (C := RX1) (T := TX1) (N := 7) hx hb hts i_X1 hown hK hP 0 rfl rfl 0 (by decide) (hts _ kw_118) (fun _ h9 => h9) rfl dX1_init_35 ?_
      refine va_alen (v := nI 12) hx hb hK hP 1 0 rfl rfl rfl dX1_init_38 ?_
      refine lv_icmp_ge (tgt := 61) hx hb dX1_init_39 (by decide) (fun c_6 => absurd c_6 (nI_ge (a := k) (b := 12) (by omega) (by omega))) (fun _ => ?_)
      refine lv_aload_n hx hb dX1_init_42 rfl (lv_at hl 1 rfl) ?_
      refine va_get (D := D) (ci := 4) (v := .ref r1) (C := RX1) (T := TX1) (N := 7) hx hb hts i_X1 hown hK hP 0 rfl rfl 0 (by decide) (hts _ kw_118) (fun _ h9 => h9) rfl dX1_init_43 ?_
      refine lv_iload_n hx hb dX1_init_46 rfl (lv_at hl 0 rfl) ?_
      refine va_new (D := D) (ci := 6) (fs := itV (fun _ => 0)) (C := RX4) (T := TX4) (N := 8) hx hb hts i_X4 tyX4 tyX4_ok hown (hts _ kw_71) (hts _ kw_73) (hts _ kw_26) hK hP hD hS hA rfl (fun j hj => by rcases (show j = 0 ∨ j = 1 ∨ j = 2 ∨ j = 3 ∨ j = 4 ∨ j = 5 ∨ j = 6 ∨ j = 7 by omega) with rfl | rfl | rfl | rfl | rfl | rfl | rfl | rfl <;> rfl) (show 3 + 1 * k + 1 ≤ 15 by omega) (show 23 + 8 * k + 8 ≤ 119 by omega) dX1_init_47 (fun o7 H hP hD hS => ?_)
      refine W.widen (k := 3 + 1 * k + 1) (n := 23 + 8 * k + 8) (by omega) (by omega) ?_
      refine lv_dup hx hb dX1_init_50 rfl ?_
      have hFc := free_end (W := ((((h, .inr (4, [.ref r1, .ref o2, .ref r4, .int 0, .int 0, .int 0, .int 0])) : Nat × va_E) :: ((r1, .inl (G 0, 12, .inr (.inr (.inr (.inr (rwk b k)))))) :: (o2, .inr (6, itV nb)) :: (r4, .inl (G 1, 3, .inl (fun _ => 0))) :: (List.range k).map (fun i => itC (b i) nb)) : va_W) : va_W)) (c := ((o7, .inr (6, itV (fun _ => 0))) : Nat × va_E)) hD hS hA
      have hBc := B_end (W := ((((h, .inr (4, [.ref r1, .ref o2, .ref r4, .int 0, .int 0, .int 0, .int 0])) : Nat × va_E) :: ((r1, .inl (G 0, 12, .inr (.inr (.inr (.inr (rwk b k)))))) :: (o2, .inr (6, itV nb)) :: (r4, .inl (G 1, 3, .inl (fun _ => 0))) :: (List.range k).map (fun i => itC (b i) nb)) : va_W) : va_W)) (c := ((o7, .inr (6, itV (fun _ => 0))) : Nat × va_E)) hD hAB
      refine va_callv (va_runIN (As := []) (rest := [.ref o7, .int (nI k), .ref r1]) ⟨hx, hb, hml, hown, hts⟩ (c_X4_init l D G B0 X o7 H.size) ⟨va_cnB 0 hts gi_X4_init rfl rfl rfl (nw_74 hE.nw) (hts _ kw_26) (by decide +kernel) ⟨Nat.le_of_ble_eq_true rfl, Nat.le_of_ble_eq_true rfl⟩, rfl, hts _ kw_75⟩ (pi_mk (W := ((((h, .inr (4, [.ref r1, .ref o2, .ref r4, .int 0, .int 0, .int 0, .int 0])) : Nat × va_E) :: ((r1, .inl (G 0, 12, .inr (.inr (.inr (.inr (rwk b k)))))) :: (o2, .inr (6, itV nb)) :: (r4, .inl (G 1, 3, .inl (fun _ => 0))) :: (List.range k).map (fun i => itC (b i) nb)) : va_W) : va_W)) (c := ((o7, .inr (6, itV (fun _ => 0))) : Nat × va_E)) hK hP hBc (hE.at hS hAB)) rfl rfl hl.1 rfl (lv_room (Nat.le_of_ble_eq_true rfl)) dX1_init_51 ⟨(show 3 + 1 * k + 1 + 0 ≤ 15 by omega), (show 23 + 8 * k + 8 + 0 ≤ 119 by omega)⟩) hS (fun q _ h => hFc q h) hFc (fun u t H1 locs ht hvm hw hB hz1 hk1 hS => ?_)
      obtain ⟨hB1, hB2⟩ := hB
      rw [ht] at hB1
      obtain ⟨hP7, hD7⟩ := W_end (W := ((((h, .inr (4, [.ref r1, .ref o2, .ref r4, .int 0, .int 0, .int 0, .int 0])) : Nat × va_E) :: ((r1, .inl (G 0, 12, .inr (.inr (.inr (.inr (rwk b k)))))) :: (o2, .inr (6, itV nb)) :: (r4, .inl (G 1, 3, .inl (fun _ => 0))) :: (List.range k).map (fun i => itC (b i) nb)) : va_W) : va_W)) (q0 := ((o7, .inr (6, itV (fun _ => 0))) : Nat × va_E)) hP hD hFc hk1 hB1 hB2
      obtain ⟨H, rfl⟩ : ∃ z, z = H1 := ⟨_, rfl⟩
      obtain ⟨u8, rfl⟩ : ∃ z, z = u := ⟨_, rfl⟩
      have hpx_u8 := hw
      refine W.widen (k := 3 + 1 * k + 1 + 0) (n := 23 + 8 * k + 8 + 0) (by omega) (by omega) ?_
      have hP : va_P D vwCl (((h, .inr (4, [.ref r1, .ref o2, .ref r4, .int 0, .int 0, .int 0, .int 0])) : Nat × va_E) :: (((r1, .inl (G 0, 12, .inr (.inr (.inr (.inr (rwk b k)))))) :: (o2, .inr (6, itV nb)) :: (r4, .inl (G 1, 3, .inl (fun _ => 0))) :: (List.range k).map (fun i => itC (b i) nb)) ++ ([itC o7 nb])) : va_W) H := hP7
      have hD : va_D A (((h, .inr (4, [.ref r1, .ref o2, .ref r4, .int 0, .int 0, .int 0, .int 0])) : Nat × va_E) :: (((r1, .inl (G 0, 12, .inr (.inr (.inr (.inr (rwk b k)))))) :: (o2, .inr (6, itV nb)) :: (r4, .inl (G 1, 3, .inl (fun _ => 0))) :: (List.range k).map (fun i => itC (b i) nb)) ++ ([itC o7 nb])) : va_W) := hD7
      obtain ⟨k7, hk7⟩ : ∃ k7, ((((h, .inr (4, [.ref r1, .ref o2, .ref r4, .int 0, .int 0, .int 0, .int 0])) : Nat × va_E) :: (((r1, .inl (G 0, 12, .inr (.inr (.inr (.inr (rwk b k)))))) :: (o2, .inr (6, itV nb)) :: (r4, .inl (G 1, 3, .inl (fun _ => 0))) :: (List.range k).map (fun i => itC (b i) nb)) ++ ([itC o7 nb])) : va_W) : va_W)[k7]? = some ((o7, .inr (6, itV nb)) : Nat × va_E) := List.getElem?_of_mem (List.mem_append_right (((h, .inr (4, [.ref r1, .ref o2, .ref r4, .int 0, .int 0, .int 0, .int 0])) : Nat × va_E) :: ((r1, .inl (G 0, 12, .inr (.inr (.inr (.inr (rwk b k)))))) :: (o2, .inr (6, itV nb)) :: (r4, .inl (G 1, 3, .inl (fun _ => 0))) :: (List.range k).map (fun i => itC (b i) nb))) (List.mem_singleton.mpr rfl))
      refine va_astq hx hb hK hP hD hS 1 0 k7 6 rfl rfl hk7 rfl (vp_in_nI (n := k) (by omega) (by decide)) dX1_init_54 (fun H locs hP hD hS => ?_)
      rw [nI_clamp (n := k) (by omega)] at hP hD
      have hP : va_P D vwCl (((h, .inr (4, [.ref r1, .ref o2, .ref r4, .int 0, .int 0, .int 0, .int 0])) : Nat × va_E) :: ((r1, .inl (G 0, 12, .inr (.inr (.inr (.inr (va_up (rwk b k) k (some o7))))))) :: (o2, .inr (6, itV nb)) :: (r4, .inl (G 1, 3, .inl (fun _ => 0))) :: ((List.range k).map (fun i => itC (b i) nb) ++ [itC o7 nb])) : va_W) H := hP
      have hD : va_D A (((h, .inr (4, [.ref r1, .ref o2, .ref r4, .int 0, .int 0, .int 0, .int 0])) : Nat × va_E) :: ((r1, .inl (G 0, 12, .inr (.inr (.inr (.inr (va_up (rwk b k) k (some o7))))))) :: (o2, .inr (6, itV nb)) :: (r4, .inl (G 1, 3, .inl (fun _ => 0))) :: ((List.range k).map (fun i => itC (b i) nb) ++ [itC o7 nb])) : va_W) := hD
      rw [rwk_s, tl_s (fun a => itC a nb)] at hP hD
      refine lv_iinc (v := nI (k + 1)) (lv' := [(1, .int (nI (k + 1))), (0, .ref h)]) hx hb dX1_init_55 hl (k := 0) rfl (by exact nI_1 k) (by decide) rfl (fun ls hl => ?_)
      refine lv_goto (tgt := 33) hx hb dX1_init_58 (by decide) ?_
      refine W.widen (k := 3 + 1 * (k + 1)) (n := 23 + 8 * (k + 1)) (by omega) (by omega) ?_
      exact ih (k + 1) (by omega) (va_up b k o7) _ _ hP hD hS ls (lv_sub hl [0, 1] rfl)
  exact L33 12 0 rfl (fun _ => 0) _ _ hP hD hS ls (lv_sub hl [0, 1] rfl)
set_option maxRecDepth 100000 in
set_option maxHeartbeats 4000000 in
theorem c_X3_init (l : Launch) (D : va_G) (G : GA) (B0 : Nat) (X : Nat → Nat → Nat) (h : Nat) (sz : Nat) : Met l yX3_init (wA yX3_init cX3_init 2 none) ({ frames := 3, cells := 129, slots := 1016, locals := 53 } : Room) (va_Pc [.ref h] (MKp D G B0 X (h, .inr (5, [.null, .int 0])) sz)) (va_Qv (fun u : Nat × (Nat → Nat → Nat) => True) (fun u t9 => va_P D vwCl ((HBL G h u.1 (hR u.2) (nI 0) u.2 (fun _ => st0)).flatten) t9.heap ∧ va_D (va_A [(h, .inr (5, [.null, .int 0]))] sz) ((HBL G h u.1 (hR u.2) (nI 0) u.2 (fun _ => st0)).flatten)) (va_A [(h, .inr (5, [.null, .int 0]))] sz)) 129 1016 (va_A [(h, .inr (5, [.null, .int 0]))] sz) := by
  refine Met.ofW (cc := cX3_init) (maxL := 2) (ret := none) (by decide) rfl ?_
  intro p e s m args below meth c s₁ B hml hv
  obtain ⟨rfl, hsz, hP, hK, hB0, hE⟩ := hv
  have hx := B.exec
  have hb := B.bytes
  have hr := B.returns
  have hts : ∀ w9 ∈ tb, w9.before ([.ref h] : List Value).toArray s = true := fun w9 h9 => atoms_spec (ws := (wA yX3_init cX3_init 2 none)) B.pre w9 (List.mem_cons_of_mem _ h9)
  have hown : s.vm.findClass RX3 = some m.cls := findClass_of_methodNamed B.named
  have hlocks := B.notSynchronized
  have hin : meth.name = "<init>" := (name_of_methodNamed B.named B.method).1
  subst hsz
  have hD : va_D (va_A [(h, .inr (5, [.null, .int 0]))] s.heap.size) [(h, .inr (5, [.null, .int 0]))] := D_1 _ _
  have hAB := A_B (c := (h, .inr (5, [.null, .int 0]))) hB0 hE.1
  generalize hAe : va_A [(h, .inr (5, [.null, .int 0]))] s.heap.size = A at hD hAB ⊢
  have hA : ∀ q : Nat, s.heap.size ≤ q → A q := fun q h => by rw [← hAe]; exact Or.inr h
  have hS : va_S A s.heap s.heap [] := va_S.rf
  have hl := lv_entry ([.ref h]) (n := 2) (Nat.le_of_ble_eq_true rfl)
  rw [lg_entry_eq]
  generalize (lg_sl ([.ref h]) ++ List.replicate (2 - (lg_sl ([.ref h])).length) Slot.unset).toArray = ls at hl ⊢
  have hl : lv_has ls 2 [(0, .ref h)] := hl
  have hP : va_P D vwCl (((h, .inr (5, [.null, .int 0])) : Nat × va_E) :: [] : va_W) s.heap := hP
  have hD : va_D A (((h, .inr (5, [.null, .int 0])) : Nat × va_E) :: [] : va_W) := hD
  refine lv_aload_n hx hb dX3_init_0 rfl (lv_at hl 0 rfl) ?_
  refine W.objInit hx hb hown (hts _ kw_149) (hts _ kw_63) (hts _ kw_64) rfl (by rw [hml]; exact hl.1) rfl dX3_init_1 (Nat.le_of_ble_eq_true rfl) (Nat.le_of_ble_eq_true rfl) ?_
  refine W.eq (g2 := F0 m 4 ls []) rfl ?_
  refine lv_aload_n hx hb dX3_init_4 rfl (lv_at hl 0 rfl) ?_
  refine lv_bipush (v := 8) hx hb dX3_init_5 (by decide) ?_
  refine va_newq hx hb hown (C := "CourierBags$Cargo") (hts _ kw_150) hE.aoC hK hP hD hS hA (n := 8) (N' := 8) (by decide) (by decide) (by decide) (show 0 + 1 ≤ 129 by omega) (show 0 + 8 ≤ 1016 by omega) dX3_init_7 (fun r1 cA H hK2 hP hD hS => ?_)
  rw [row_id (i := 2) (g := G 2) hK2 rfl] at hP hD
  clear hK2 cA
  refine W.widen (k := 1) (n := 8) (by omega) (by omega) ?_
  have hP : va_P D vwCl (((h, .inr (5, [.null, .int 0])) : Nat × va_E) :: [(r1, .inl (G 2, 8, .inr (.inr (.inr (.inr (fun _ => none))))))] : va_W) H := hP
  have hD : va_D A (((h, .inr (5, [.null, .int 0])) : Nat × va_E) :: [(r1, .inl (G 2, 8, .inr (.inr (.inr (.inr (fun _ => none))))))] : va_W) := hD
  refine va_putF (D := D) (ci := 5) (v := .ref r1) (ty := .array (.object "CourierBags$Cargo")) (C := RX3) (T := TX3) (N := 2) hx hb hts i_X3 tyX3 tyX3_ok nmX3 hown hK hP hD hS 0 rfl rfl 0 (by decide) (hts _ kw_153) (fun _ h9 => h9) rfl hin rfl (by decide +kernel) rfl rfl (Nat.le_of_ble_eq_true rfl) dX3_init_10 (fun H locs hP hD hS => ?_)
  have hP : va_P D vwCl (((h, .inr (5, [.ref r1, .int 0])) : Nat × va_E) :: [(r1, .inl (G 2, 8, .inr (.inr (.inr (.inr (fun _ => none))))))] : va_W) H := hP
  have hD : va_D A (((h, .inr (5, [.ref r1, .int 0])) : Nat × va_E) :: [(r1, .inl (G 2, 8, .inr (.inr (.inr (.inr (fun _ => none))))))] : va_W) := hD
  refine lv_iconst (v := 0) hx hb dX3_init_13 (by decide) ?_
  refine lv_istore_n (lv' := [(1, .int 0), (0, .ref h)]) hx hb dX3_init_14 rfl hl (by decide) rfl (fun ls hl => ?_)
  skip
  have L15 : ∀ (n k : Nat), k + n = 8 → ∀ (b : Nat → Nat → Nat) (H : Heap) (locs : List Loc), va_P D vwCl (((h, .inr (5, [.ref r1, .int 0])) : Nat × va_E) :: ((r1, .inl (G 2, 8, .inr (.inr (.inr (.inr (rwk (fun i => b i 0) k)))))) :: ((List.range k).map (fun i => cw G (b i) st0)).flatten) : va_W) H → va_D A (((h, .inr (5, [.ref r1, .int 0])) : Nat × va_E) :: ((r1, .inl (G 2, 8, .inr (.inr (.inr (.inr (rwk (fun i => b i 0) k)))))) :: ((List.range k).map (fun i => cw G (b i) st0)).flatten) : va_W) → va_S A s.heap H locs → ∀ ls : Array Slot, lv_has ls 2 [(1, .int (nI k)), (0, .ref h)] → W p l e (headSpec (wA yX3_init cX3_init 2 none) ({ frames := 3, cells := 129, slots := 1016, locals := 53 } : Room)).room s m ([.ref h] : List Value).toArray below meth c H locs (1 + 16 * k) (8 + 126 * k) (MQ below (va_Qv (fun u : Nat × (Nat → Nat → Nat) => True) (fun u t9 => va_P D vwCl ((HBL G h u.1 (hR u.2) (nI 0) u.2 (fun _ => st0)).flatten) t9.heap ∧ va_D A ((HBL G h u.1 (hR u.2) (nI 0) u.2 (fun _ => st0)).flatten)) A) ([.ref h] : List Value).toArray s 129 1016 A) (F0 m 15 ls []) := by
    intro n
    induction n with
    | zero =>
      intro k hk0 b H locs hP hD hS ls hl
      obtain rfl : k = 8 := by omega
      refine lv_iload_n hx hb dX3_init_15 rfl (lv_at hl 0 rfl) ?_
      refine lv_aload_n hx hb dX3_init_16 rfl (lv_at hl 1 rfl) ?_
      refine va_get (D := D) (ci := 5) (v := .ref r1) (C := RX3) (T := TX3) (N := 2) hx hb hts i_X3 hown hK hP 0 rfl rfl 0 (by decide) (hts _ kw_153) (fun _ h9 => h9) rfl dX3_init_17 ?_
      refine va_alen (v := nI 8) hx hb hK hP 1 2 rfl rfl rfl dX3_init_20 ?_
      refine lv_icmp_ge (tgt := 43) hx hb dX3_init_21 (by decide) (fun _ => ?_) (fun c_2 => absurd (by decide) c_2)
      obtain ⟨hP9, hD9⟩ := made_hist (G := G) (h := h) (r := r1) (b := b) hP hD
      refine W.widen (k := 129) (n := 1016) (by omega) (by omega) ?_
      exact W.vret hx hb hr (fun t ht hW => ⟨⟨(r1, b), rfl, trivial, by rw [ht]; exact hP9, hD9⟩, hS.F ht⟩) hS.2.2 dX3_init_43
    | succ n ih =>
      intro k hk0 b H locs hP hD hS ls hl
      refine lv_iload_n hx hb dX3_init_15 rfl (lv_at hl 0 rfl) ?_
      refine lv_aload_n hx hb dX3_init_16 rfl (lv_at hl 1 rfl) ?_
      refine va_get (D := D) (ci := 5) (v := .ref r1) (C := RX3) (T := TX3) (N := 2) hx hb hts i_X3 hown hK hP 0 rfl rfl 0 (by decide) (hts _ kw_153) (fun _ h9 => h9) rfl dX3_init_17 ?_
      refine va_alen (v := nI 8) hx hb hK hP 1 2 rfl rfl rfl dX3_init_20 ?_
      refine lv_icmp_ge (tgt := 43) hx hb dX3_init_21 (by decide) (fun c_3 => absurd c_3 (nI_ge (a := k) (b := 8) (by omega) (by omega))) (fun _ => ?_)
      refine lv_aload_n hx hb dX3_init_24 rfl (lv_at hl 1 rfl) ?_
      refine va_get (D := D) (ci := 5) (v := .ref r1) (C := RX3) (T := TX3) (N := 2) hx hb hts i_X3 hown hK hP 0 rfl rfl 0 (by decide) (hts _ kw_153) (fun _ h9 => h9) rfl dX3_init_25 ?_
      refine lv_iload_n hx hb dX3_init_28 rfl (lv_at hl 0 rfl) ?_
      refine va_new (D := D) (ci := 4) (fs := [.null, .null, .null, .int 0, .int 0, .int 0, .int 0]) (C := RX1) (T := TX1) (N := 7) hx hb hts i_X1 tyX1 tyX1_ok hown (hts _ kw_150) (hts _ kw_66) (hts _ kw_25) hK hP hD hS hA rfl (fun j hj => by rcases (show j = 0 ∨ j = 1 ∨ j = 2 ∨ j = 3 ∨ j = 4 ∨ j = 5 ∨ j = 6 by omega) with rfl | rfl | rfl | rfl | rfl | rfl | rfl <;> rfl) (show 1 + 16 * k + 1 ≤ 129 by omega) (show 8 + 126 * k + 7 ≤ 1016 by omega) dX3_init_29 (fun o4 H hP hD hS => ?_)
      refine W.widen (k := 1 + 16 * k + 1) (n := 8 + 126 * k + 7) (by omega) (by omega) ?_
      refine lv_dup hx hb dX3_init_32 rfl ?_
      have hFc := free_end (W := ((((h, .inr (5, [.ref r1, .int 0])) : Nat × va_E) :: ((r1, .inl (G 2, 8, .inr (.inr (.inr (.inr (rwk (fun i => b i 0) k)))))) :: ((List.range k).map (fun i => cw G (b i) st0)).flatten) : va_W) : va_W)) (c := ((o4, .inr (4, [.null, .null, .null, .int 0, .int 0, .int 0, .int 0])) : Nat × va_E)) hD hS hA
      have hBc := B_end (W := ((((h, .inr (5, [.ref r1, .int 0])) : Nat × va_E) :: ((r1, .inl (G 2, 8, .inr (.inr (.inr (.inr (rwk (fun i => b i 0) k)))))) :: ((List.range k).map (fun i => cw G (b i) st0)).flatten) : va_W) : va_W)) (c := ((o4, .inr (4, [.null, .null, .null, .int 0, .int 0, .int 0, .int 0])) : Nat × va_E)) hD hAB
      refine va_callv (va_runI (As := []) (rest := [.ref o4, .int (nI k), .ref r1]) ⟨hx, hb, hml, hown, hts⟩ (c_X1_init l D G B0 X o4 H.size) (cwI 0 hts gi_X1_init rfl rfl rfl (hts _ kw_25) (hts _ kw_152) (hts _ kw_68) rfl (by decide +kernel) ⟨Nat.le_of_ble_eq_true rfl, Nat.le_of_ble_eq_true rfl⟩) (pi_mk (W := ((((h, .inr (5, [.ref r1, .int 0])) : Nat × va_E) :: ((r1, .inl (G 2, 8, .inr (.inr (.inr (.inr (rwk (fun i => b i 0) k)))))) :: ((List.range k).map (fun i => cw G (b i) st0)).flatten) : va_W) : va_W)) (c := ((o4, .inr (4, [.null, .null, .null, .int 0, .int 0, .int 0, .int 0])) : Nat × va_E)) hK hP hBc (hE.at hS hAB)) rfl rfl hl.1 rfl (lv_room (Nat.le_of_ble_eq_true rfl)) dX3_init_33 ⟨(show 1 + 16 * k + 1 + 15 ≤ 129 by omega), (show 8 + 126 * k + 7 + 119 ≤ 1016 by omega)⟩) hS (fun q _ h => hFc q h) hFc (fun u t H1 locs ht hvm hw hB hz1 hk1 hS => ?_)
      obtain ⟨hB1, hB2⟩ := hB
      rw [ht] at hB1
      obtain ⟨hP7, hD7⟩ := W_end (W := ((((h, .inr (5, [.ref r1, .int 0])) : Nat × va_E) :: ((r1, .inl (G 2, 8, .inr (.inr (.inr (.inr (rwk (fun i => b i 0) k)))))) :: ((List.range k).map (fun i => cw G (b i) st0)).flatten) : va_W) : va_W)) (q0 := ((o4, .inr (4, [.null, .null, .null, .int 0, .int 0, .int 0, .int 0])) : Nat × va_E)) hP hD hFc hk1 hB1 hB2
      obtain ⟨H, rfl⟩ : ∃ z, z = H1 := ⟨_, rfl⟩
      obtain ⟨u5, rfl⟩ : ∃ z, z = u := ⟨_, rfl⟩
      have hpx_u5 := hw
      refine W.widen (k := 1 + 16 * k + 1 + 15) (n := 8 + 126 * k + 7 + 119) (by omega) (by omega) ?_
      have hP : va_P D vwCl (((h, .inr (5, [.ref r1, .int 0])) : Nat × va_E) :: (((r1, .inl (G 2, 8, .inr (.inr (.inr (.inr (rwk (fun i => b i 0) k)))))) :: ((List.range k).map (fun i => cw G (b i) st0)).flatten) ++ (cw G u5 st0)) : va_W) H := hP7
      have hD : va_D A (((h, .inr (5, [.ref r1, .int 0])) : Nat × va_E) :: (((r1, .inl (G 2, 8, .inr (.inr (.inr (.inr (rwk (fun i => b i 0) k)))))) :: ((List.range k).map (fun i => cw G (b i) st0)).flatten) ++ (cw G u5 st0)) : va_W) := hD7
      obtain ⟨k7, hk7⟩ : ∃ k7, ((((h, .inr (5, [.ref r1, .int 0])) : Nat × va_E) :: (((r1, .inl (G 2, 8, .inr (.inr (.inr (.inr (rwk (fun i => b i 0) k)))))) :: ((List.range k).map (fun i => cw G (b i) st0)).flatten) ++ (cw G u5 st0)) : va_W) : va_W)[k7]? = some ((o4, .inr (4, cwN u5 st0)) : Nat × va_E) := by rw [← hpx_u5]; exact List.getElem?_of_mem (List.mem_append_right (((h, .inr (5, [.ref r1, .int 0])) : Nat × va_E) :: ((r1, .inl (G 2, 8, .inr (.inr (.inr (.inr (rwk (fun i => b i 0) k)))))) :: ((List.range k).map (fun i => cw G (b i) st0)).flatten)) List.mem_cons_self)
      refine va_astq hx hb hK hP hD hS 1 2 k7 4 rfl rfl hk7 rfl (vp_in_nI (n := k) (by omega) (by decide)) dX3_init_36 (fun H locs hP hD hS => ?_)
      rw [nI_clamp (n := k) (by omega)] at hP hD
      have hP : va_P D vwCl (((h, .inr (5, [.ref r1, .int 0])) : Nat × va_E) :: ((r1, .inl (G 2, 8, .inr (.inr (.inr (.inr (va_up (rwk (fun i => b i 0) k) k (some o4))))))) :: (((List.range k).map (fun i => cw G (b i) st0)).flatten ++ cw G u5 st0)) : va_W) H := hP
      have hD : va_D A (((h, .inr (5, [.ref r1, .int 0])) : Nat × va_E) :: ((r1, .inl (G 2, 8, .inr (.inr (.inr (.inr (va_up (rwk (fun i => b i 0) k) k (some o4))))))) :: (((List.range k).map (fun i => cw G (b i) st0)).flatten ++ cw G u5 st0)) : va_W) := hD
      rw [rwk_s2 b k o4 u5 hpx_u5, tl_f] at hP hD
      refine lv_iinc (v := nI (k + 1)) (lv' := [(1, .int (nI (k + 1))), (0, .ref h)]) hx hb dX3_init_37 hl (k := 0) rfl (by exact nI_1 k) (by decide) rfl (fun ls hl => ?_)
      refine lv_goto (tgt := 15) hx hb dX3_init_40 (by decide) ?_
      refine W.widen (k := 1 + 16 * (k + 1)) (n := 8 + 126 * (k + 1)) (by omega) (by omega) ?_
      exact ih (k + 1) (by omega) (va_up b k u5) _ _ hP hD hS ls (lv_sub hl [0, 1] rfl)
  exact L15 8 0 rfl (fun _ _ => 0) _ _ hP hD hS ls (lv_sub hl [0, 1] rfl)
set_option maxRecDepth 100000 in
set_option maxHeartbeats 4000000 in
theorem c_X6_init (l : Launch) (D : va_G) (G : GA) (B0 : Nat) (X : Nat → Nat → Nat) (h : Nat) (sz : Nat) : Met l yX6_init (wA yX6_init cX6_init 1 none) ({ frames := 1, cells := 2, slots := 63, locals := 12 } : Room) (va_Pc [.ref h] (MKp D G B0 X (h, .inr (7, [.null, .int 0, .int 0, .null, .null, .int 0, .int 0])) sz)) (va_Qv (fun u : Nat × Nat => True) (fun u t9 => va_P D vwCl (sw G X h u.1 u.2 (fun _ => 0) (fun _ => 0) 0 0 0 0 6) t9.heap ∧ va_D (va_A [(h, .inr (7, [.null, .int 0, .int 0, .null, .null, .int 0, .int 0]))] sz) (sw G X h u.1 u.2 (fun _ => 0) (fun _ => 0) 0 0 0 0 6)) (va_A [(h, .inr (7, [.null, .int 0, .int 0, .null, .null, .int 0, .int 0]))] sz)) 2 63 (va_A [(h, .inr (7, [.null, .int 0, .int 0, .null, .null, .int 0, .int 0]))] sz) := by
  refine Met.ofW (cc := cX6_init) (maxL := 1) (ret := none) (by decide) rfl ?_
  intro p e s m args below meth c s₁ B hml hv
  obtain ⟨rfl, hsz, hP, hK, hB0, hE⟩ := hv
  have hx := B.exec
  have hb := B.bytes
  have hr := B.returns
  have hts : ∀ w9 ∈ tb, w9.before ([.ref h] : List Value).toArray s = true := fun w9 h9 => atoms_spec (ws := (wA yX6_init cX6_init 1 none)) B.pre w9 (List.mem_cons_of_mem _ h9)
  have hown : s.vm.findClass RX6 = some m.cls := findClass_of_methodNamed B.named
  have hlocks := B.notSynchronized
  have hin : meth.name = "<init>" := (name_of_methodNamed B.named B.method).1
  subst hsz
  have hD : va_D (va_A [(h, .inr (7, [.null, .int 0, .int 0, .null, .null, .int 0, .int 0]))] s.heap.size) [(h, .inr (7, [.null, .int 0, .int 0, .null, .null, .int 0, .int 0]))] := D_1 _ _
  have hAB := A_B (c := (h, .inr (7, [.null, .int 0, .int 0, .null, .null, .int 0, .int 0]))) hB0 hE.1
  generalize hAe : va_A [(h, .inr (7, [.null, .int 0, .int 0, .null, .null, .int 0, .int 0]))] s.heap.size = A at hD hAB ⊢
  have hA : ∀ q : Nat, s.heap.size ≤ q → A q := fun q h => by rw [← hAe]; exact Or.inr h
  have hS : va_S A s.heap s.heap [] := va_S.rf
  have hl := lv_entry ([.ref h]) (n := 1) (Nat.le_of_ble_eq_true rfl)
  rw [lg_entry_eq]
  generalize (lg_sl ([.ref h]) ++ List.replicate (1 - (lg_sl ([.ref h])).length) Slot.unset).toArray = ls at hl ⊢
  have hl : lv_has ls 1 [(0, .ref h)] := hl
  have hP : va_P D vwCl (((h, .inr (7, [.null, .int 0, .int 0, .null, .null, .int 0, .int 0])) : Nat × va_E) :: [] : va_W) s.heap := hP
  have hD : va_D A (((h, .inr (7, [.null, .int 0, .int 0, .null, .null, .int 0, .int 0])) : Nat × va_E) :: [] : va_W) := hD
  refine lv_aload_n hx hb dX6_init_0 rfl (lv_at hl 0 rfl) ?_
  refine W.objInit hx hb hown (hts _ kw_166) (hts _ kw_63) (hts _ kw_64) rfl (by rw [hml]; exact hl.1) rfl dX6_init_1 (Nat.le_of_ble_eq_true rfl) (Nat.le_of_ble_eq_true rfl) ?_
  refine W.eq (g2 := F0 m 4 ls []) rfl ?_
  refine lv_aload_n hx hb dX6_init_4 rfl (lv_at hl 0 rfl) ?_
  refine lv_bipush (v := 60) hx hb dX6_init_5 (by decide) ?_
  refine va_newa hx hb (atype := .char) (hts _ kw_194) (ty := .char) rfl hK hP hD hS hA (a0 := (60, .inl (fun _ => 0))) (fun _ => rfl) (N' := 60) (by decide) (by decide) (by decide) (show 0 + 1 ≤ 2 by omega) (show 0 + 60 ≤ 63 by omega) dX6_init_7 (fun r1 cA H hK2 hP hD hS => ?_)
  rw [row_id (i := 3) (g := G 3) hK2 rfl] at hP hD
  clear hK2 cA
  refine W.widen (k := 1) (n := 60) (by omega) (by omega) ?_
  have hP : va_P D vwCl (((h, .inr (7, [.null, .int 0, .int 0, .null, .null, .int 0, .int 0])) : Nat × va_E) :: [(r1, .inl (G 3, 60, .inl (fun _ => 0)))] : va_W) H := hP
  have hD : va_D A (((h, .inr (7, [.null, .int 0, .int 0, .null, .null, .int 0, .int 0])) : Nat × va_E) :: [(r1, .inl (G 3, 60, .inl (fun _ => 0)))] : va_W) := hD
  refine va_putF (D := D) (ci := 7) (v := .ref r1) (ty := .array .char) (C := RX6) (T := TX6) (N := 7) hx hb hts i_X6 tyX6 tyX6_ok nmX6 hown hK hP hD hS 0 rfl rfl 0 (by decide) (hts _ kw_169) (fun _ h9 => h9) rfl hin rfl (by decide +kernel) rfl rfl (Nat.le_of_ble_eq_true rfl) dX6_init_9 (fun H locs hP hD hS => ?_)
  have hP : va_P D vwCl (((h, .inr (7, [.ref r1, .int 0, .int 0, .null, .null, .int 0, .int 0])) : Nat × va_E) :: [(r1, .inl (G 3, 60, .inl (fun _ => 0)))] : va_W) H := hP
  have hD : va_D A (((h, .inr (7, [.ref r1, .int 0, .int 0, .null, .null, .int 0, .int 0])) : Nat × va_E) :: [(r1, .inl (G 3, 60, .inl (fun _ => 0)))] : va_W) := hD
  refine lv_aload_n hx hb dX6_init_12 rfl (lv_at hl 0 rfl) ?_
  refine va_gets (C := "CourierBags$Kind") (n := "DELIVER") (d := "LCourierBags$Kind;") (v := .ref (X 1 6)) hx hb ((hE.k.1.1 6 (by decide)).1) (S_weak hS hAB) hown (hts _ kw_167) (fun _ h9 => h9) dX6_init_13 ?_
  refine va_put (D := D) (ci := 7) (v := .ref (X 1 6)) (ty := .object "CourierBags$Kind") (C := RX6) (T := TX6) (N := 7) hx hb hts i_X6 tyX6 tyX6_ok nmX6 hown hK hP hD hS 0 rfl rfl 3 (by decide) (hts _ kw_173) (fun _ h9 => h9) rfl (by decide +kernel) rfl rfl (Nat.le_of_ble_eq_true rfl) dX6_init_16 (fun H locs hP hD hS => ?_)
  have hP : va_P D vwCl (((h, .inr (7, [.ref r1, .int 0, .int 0, .ref (X 1 6), .null, .int 0, .int 0])) : Nat × va_E) :: [(r1, .inl (G 3, 60, .inl (fun _ => 0)))] : va_W) H := hP
  have hD : va_D A (((h, .inr (7, [.ref r1, .int 0, .int 0, .ref (X 1 6), .null, .int 0, .int 0])) : Nat × va_E) :: [(r1, .inl (G 3, 60, .inl (fun _ => 0)))] : va_W) := hD
  refine lv_aload_n hx hb dX6_init_19 rfl (lv_at hl 0 rfl) ?_
  refine lv_iconst (v := 3) hx hb dX6_init_20 (by decide) ?_
  refine va_newa hx hb (atype := .int) (hts _ kw_143) (ty := .int) rfl hK hP hD hS hA (a0 := (3, .inl (fun _ => 0))) (fun _ => rfl) (N' := 3) (by decide) (by decide) (by decide) (show 1 + 1 ≤ 2 by omega) (show 60 + 3 ≤ 63 by omega) dX6_init_21 (fun r2 cA H hK2 hP hD hS => ?_)
  rw [row_id (i := 1) (g := G 1) hK2 rfl] at hP hD
  clear hK2 cA
  refine W.widen (k := 2) (n := 63) (by omega) (by omega) ?_
  have hP : va_P D vwCl (((h, .inr (7, [.ref r1, .int 0, .int 0, .ref (X 1 6), .null, .int 0, .int 0])) : Nat × va_E) :: ([(r1, .inl (G 3, 60, .inl (fun _ => 0)))] ++ [(r2, .inl (G 1, 3, .inl (fun _ => 0)))]) : va_W) H := hP
  have hD : va_D A (((h, .inr (7, [.ref r1, .int 0, .int 0, .ref (X 1 6), .null, .int 0, .int 0])) : Nat × va_E) :: ([(r1, .inl (G 3, 60, .inl (fun _ => 0)))] ++ [(r2, .inl (G 1, 3, .inl (fun _ => 0)))]) : va_W) := hD
  refine va_putF (D := D) (ci := 7) (v := .ref r2) (ty := .array .int) (C := RX6) (T := TX6) (N := 7) hx hb hts i_X6 tyX6 tyX6_ok nmX6 hown hK hP hD hS 0 rfl rfl 4 (by decide) (hts _ kw_175) (fun _ h9 => h9) rfl hin rfl (by decide +kernel) rfl rfl (Nat.le_of_ble_eq_true rfl) dX6_init_23 (fun H locs hP hD hS => ?_)
  have hP : va_P D vwCl (((h, .inr (7, [.ref r1, .int 0, .int 0, .ref (X 1 6), .ref r2, .int 0, .int 0])) : Nat × va_E) :: ([(r1, .inl (G 3, 60, .inl (fun _ => 0)))] ++ [(r2, .inl (G 1, 3, .inl (fun _ => 0)))]) : va_W) H := hP
  have hD : va_D A (((h, .inr (7, [.ref r1, .int 0, .int 0, .ref (X 1 6), .ref r2, .int 0, .int 0])) : Nat × va_E) :: ([(r1, .inl (G 3, 60, .inl (fun _ => 0)))] ++ [(r2, .inl (G 1, 3, .inl (fun _ => 0)))]) : va_W) := hD
  have hP9 : va_P D vwCl (sw G X h r1 r2 (fun _ => 0) (fun _ => 0) 0 0 0 0 6) H := hP
  have hD9 : va_D A (sw G X h r1 r2 (fun _ => 0) (fun _ => 0) 0 0 0 0 6) := hD
  refine W.widen (k := 2) (n := 63) (by omega) (by omega) ?_
  exact W.vret hx hb hr (fun t ht hW => ⟨⟨(r1, r2), rfl, trivial, by rw [ht]; exact hP9, hD9⟩, hS.F ht⟩) hS.2.2 dX6_init_26
set_option maxRecDepth 100000 in
set_option maxHeartbeats 4000000 in
theorem c_J5_init_d00df (l : Launch) (D : va_G) (G : GA) (B0 : Nat) (X : Nat → Nat → Nat) (h : Nat) (sz : Nat) : Met l yJ5_init_d00df (wA yJ5_init_d00df cJ5_init_d00df 2 none) ({ frames := 1, cells := 1, slots := 16, locals := 12 } : Room) (va_Pc [.ref h, .int 16] (MKp D G B0 X (h, .inr (1, [.null, .int 0, .int 0, .int 0])) sz)) (va_Qv (fun u : Nat => True) (fun u t9 => va_P D vwCl (lb G h u 16 (fun _ => 0) 0 0) t9.heap ∧ va_D (va_A [(h, .inr (1, [.null, .int 0, .int 0, .int 0]))] sz) (lb G h u 16 (fun _ => 0) 0 0)) (va_A [(h, .inr (1, [.null, .int 0, .int 0, .int 0]))] sz)) 1 16 (va_A [(h, .inr (1, [.null, .int 0, .int 0, .int 0]))] sz) := by
  refine Met.ofW (cc := cJ5_init_d00df) (maxL := 2) (ret := none) (by decide) rfl ?_
  intro p e s m args below meth c s₁ B hml hv
  obtain ⟨rfl, hsz, hP, hK, hB0, hE⟩ := hv
  have hx := B.exec
  have hb := B.bytes
  have hr := B.returns
  have hts : ∀ w9 ∈ tb, w9.before ([.ref h, .int 16] : List Value).toArray s = true := fun w9 h9 => atoms_spec (ws := (wA yJ5_init_d00df cJ5_init_d00df 2 none)) B.pre w9 (List.mem_cons_of_mem _ h9)
  have hown : s.vm.findClass RJ5 = some m.cls := findClass_of_methodNamed B.named
  have hlocks := B.notSynchronized
  have hin : meth.name = "<init>" := (name_of_methodNamed B.named B.method).1
  subst hsz
  have hD : va_D (va_A [(h, .inr (1, [.null, .int 0, .int 0, .int 0]))] s.heap.size) [(h, .inr (1, [.null, .int 0, .int 0, .int 0]))] := D_1 _ _
  have hAB := A_B (c := (h, .inr (1, [.null, .int 0, .int 0, .int 0]))) hB0 hE.1
  generalize hAe : va_A [(h, .inr (1, [.null, .int 0, .int 0, .int 0]))] s.heap.size = A at hD hAB ⊢
  have hA : ∀ q : Nat, s.heap.size ≤ q → A q := fun q h => by rw [← hAe]; exact Or.inr h
  have hS : va_S A s.heap s.heap [] := va_S.rf
  have hl := lv_entry ([.ref h, .int 16]) (n := 2) (Nat.le_of_ble_eq_true rfl)
  rw [lg_entry_eq]
  generalize (lg_sl ([.ref h, .int 16]) ++ List.replicate (2 - (lg_sl ([.ref h, .int 16])).length) Slot.unset).toArray = ls at hl ⊢
  have hl : lv_has ls 2 [(0, .ref h), (1, .int 16)] := hl
  have hP : va_P D vwCl (((h, .inr (1, [.null, .int 0, .int 0, .int 0])) : Nat × va_E) :: [] : va_W) s.heap := hP
  have hD : va_D A (((h, .inr (1, [.null, .int 0, .int 0, .int 0])) : Nat × va_E) :: [] : va_W) := hD
  refine lv_aload_n hx hb dJ5_init_d00df_0 rfl (lv_at hl 0 rfl) ?_
  refine W.objInit hx hb hown (hts _ kw_203) (hts _ kw_63) (hts _ kw_64) rfl (by rw [hml]; exact hl.1) rfl dJ5_init_d00df_1 (Nat.le_of_ble_eq_true rfl) (Nat.le_of_ble_eq_true rfl) ?_
  refine W.eq (g2 := F0 m 4 ls []) rfl ?_
  refine va_gets (C := "java/lang/String") (n := "COMPACT_STRINGS") (d := "Z") (v := .int 1) hx hb hE.j.1 (S_weak hS hAB) hown (hts _ kw_204) (fun _ h9 => h9) dJ5_init_d00df_4 ?_
  refine lv_if_eq (tgt := 25) hx hb dJ5_init_d00df_7 (by decide) (fun c_1 => absurd c_1 (by decide)) (fun _ => ?_)
  refine lv_aload_n hx hb dJ5_init_d00df_10 rfl (lv_at hl 0 rfl) ?_
  refine lv_iload_n hx hb dJ5_init_d00df_11 rfl (lv_at hl 1 rfl) ?_
  refine va_newa hx hb (atype := .byte) (hts _ kw_227) (ty := .byte) rfl hK hP hD hS hA (a0 := (16, .inl (fun _ => 0))) (fun _ => rfl) (N' := 16) (by decide) (by decide) (by decide) (show 0 + 1 ≤ 1 by omega) (show 0 + 16 ≤ 16 by omega) dJ5_init_d00df_12 (fun r2 cA H hK2 hP hD hS => ?_)
  rw [row_id (i := 4) (g := G 4) hK2 rfl] at hP hD
  clear hK2 cA
  refine W.widen (k := 1) (n := 16) (by omega) (by omega) ?_
  have hP : va_P D vwCl (((h, .inr (1, [.null, .int 0, .int 0, .int 0])) : Nat × va_E) :: [(r2, .inl (G 4, 16, .inl (fun _ => 0)))] : va_W) H := hP
  have hD : va_D A (((h, .inr (1, [.null, .int 0, .int 0, .int 0])) : Nat × va_E) :: [(r2, .inl (G 4, 16, .inl (fun _ => 0)))] : va_W) := hD
  refine va_put (D := D) (ci := 1) (v := .ref r2) (ty := .array .byte) (C := RJ4) (T := TJ4) (N := 4) hx hb hts i_J4 tyJ4 tyJ4_ok nmJ4 hown hK hP hD hS 0 rfl rfl 0 (by decide) (hts _ kw_213) (fun _ h9 => h9) rfl (by decide +kernel) rfl rfl (Nat.le_of_ble_eq_true rfl) dJ5_init_d00df_14 (fun H locs hP hD hS => ?_)
  have hP : va_P D vwCl (((h, .inr (1, [.ref r2, .int 0, .int 0, .int 0])) : Nat × va_E) :: [(r2, .inl (G 4, 16, .inl (fun _ => 0)))] : va_W) H := hP
  have hD : va_D A (((h, .inr (1, [.ref r2, .int 0, .int 0, .int 0])) : Nat × va_E) :: [(r2, .inl (G 4, 16, .inl (fun _ => 0)))] : va_W) := hD
  refine lv_aload_n hx hb dJ5_init_d00df_17 rfl (lv_at hl 0 rfl) ?_
  refine lv_iconst (v := 0) hx hb dJ5_init_d00df_18 (by decide) ?_
  refine va_put (D := D) (ci := 1) (v := .int 0) (ty := .byte) (C := RJ4) (T := TJ4) (N := 4) hx hb hts i_J4 tyJ4 tyJ4_ok nmJ4 hown hK hP hD hS 0 rfl rfl 1 (by decide) (hts _ kw_214) (fun _ h9 => h9) rfl (by decide +kernel) rfl rfl (Nat.le_of_ble_eq_true rfl) dJ5_init_d00df_19 (fun H locs hP hD hS => ?_)
  have hP : va_P D vwCl (((h, .inr (1, [.ref r2, .int 0, .int 0, .int 0])) : Nat × va_E) :: [(r2, .inl (G 4, 16, .inl (fun _ => 0)))] : va_W) H := hP
  have hD : va_D A (((h, .inr (1, [.ref r2, .int 0, .int 0, .int 0])) : Nat × va_E) :: [(r2, .inl (G 4, 16, .inl (fun _ => 0)))] : va_W) := hD
  refine lv_goto (tgt := 38) hx hb dJ5_init_d00df_22 (by decide) ?_
  have hP9 : va_P D vwCl (lb G h r2 16 (fun _ => 0) 0 0) H := hP
  have hD9 : va_D A (lb G h r2 16 (fun _ => 0) 0 0) := hD
  refine W.widen (k := 1) (n := 16) (by omega) (by omega) ?_
  exact W.vret hx hb hr (fun t ht hW => ⟨⟨r2, rfl, trivial, by rw [ht]; exact hP9, hD9⟩, hS.F ht⟩) hS.2.2 dJ5_init_d00df_38
set_option maxRecDepth 100000 in
set_option maxHeartbeats 4000000 in
theorem c_J4_init_da8c8 (l : Launch) (D : va_G) (G : GA) (B0 : Nat) (X : Nat → Nat → Nat) (h : Nat) (sz : Nat) : Met l yJ4_init_da8c8 (wA yJ4_init_da8c8 cJ4_init_da8c8 1 none) ({ frames := 2, cells := 1, slots := 16, locals := 33 } : Room) (va_Pc [.ref h] (MKp D G B0 X (h, .inr (1, [.null, .int 0, .int 0, .int 0])) sz)) (va_Qv (fun u : Nat => True) (fun u t9 => va_P D vwCl (lb G h u 16 (fun _ => 0) 0 0) t9.heap ∧ va_D (va_A [(h, .inr (1, [.null, .int 0, .int 0, .int 0]))] sz) (lb G h u 16 (fun _ => 0) 0 0)) (va_A [(h, .inr (1, [.null, .int 0, .int 0, .int 0]))] sz)) 1 16 (va_A [(h, .inr (1, [.null, .int 0, .int 0, .int 0]))] sz) := by
  refine Met.ofW (cc := cJ4_init_da8c8) (maxL := 1) (ret := none) (by decide) rfl ?_
  intro p e s m args below meth c s₁ B hml hv
  obtain ⟨rfl, hsz, hP, hK, hB0, hE⟩ := hv
  have hx := B.exec
  have hb := B.bytes
  have hr := B.returns
  have hts : ∀ w9 ∈ tb, w9.before ([.ref h] : List Value).toArray s = true := fun w9 h9 => atoms_spec (ws := (wA yJ4_init_da8c8 cJ4_init_da8c8 1 none)) B.pre w9 (List.mem_cons_of_mem _ h9)
  have hown : s.vm.findClass RJ4 = some m.cls := findClass_of_methodNamed B.named
  have hlocks := B.notSynchronized
  have hin : meth.name = "<init>" := (name_of_methodNamed B.named B.method).1
  subst hsz
  have hD : va_D (va_A [(h, .inr (1, [.null, .int 0, .int 0, .int 0]))] s.heap.size) [(h, .inr (1, [.null, .int 0, .int 0, .int 0]))] := D_1 _ _
  have hAB := A_B (c := (h, .inr (1, [.null, .int 0, .int 0, .int 0]))) hB0 hE.1
  generalize hAe : va_A [(h, .inr (1, [.null, .int 0, .int 0, .int 0]))] s.heap.size = A at hD hAB ⊢
  have hA : ∀ q : Nat, s.heap.size ≤ q → A q := fun q h => by rw [← hAe]; exact Or.inr h
  have hS : va_S A s.heap s.heap [] := va_S.rf
  have hl := lv_entry ([.ref h]) (n := 1) (Nat.le_of_ble_eq_true rfl)
  rw [lg_entry_eq]
  generalize (lg_sl ([.ref h]) ++ List.replicate (1 - (lg_sl ([.ref h])).length) Slot.unset).toArray = ls at hl ⊢
  have hl : lv_has ls 1 [(0, .ref h)] := hl
  have hP : va_P D vwCl (((h, .inr (1, [.null, .int 0, .int 0, .int 0])) : Nat × va_E) :: [] : va_W) s.heap := hP
  have hD : va_D A (((h, .inr (1, [.null, .int 0, .int 0, .int 0])) : Nat × va_E) :: [] : va_W) := hD
  refine lv_aload_n hx hb dJ4_init_da8c8_0 rfl (lv_at hl 0 rfl) ?_
  refine lv_bipush (v := 16) hx hb dJ4_init_da8c8_1 (by decide) ?_
  have hFc := free_end (W := ([] : va_W)) (c := ((h, .inr (1, [.null, .int 0, .int 0, .int 0])) : Nat × va_E)) hD hS hA
  have hBc := B_end (W := ([] : va_W)) (c := ((h, .inr (1, [.null, .int 0, .int 0, .int 0])) : Nat × va_E)) hD hAB
  refine va_callv (va_runI (As := [.int 16]) (rest := []) ⟨hx, hb, hml, hown, hts⟩ (c_J5_init_d00df l D G B0 X h s.heap.size) (cwI 1 hts gi_J5_init_d00df rfl rfl rfl (hts _ kw_31) (hts _ kw_200) (hts _ kw_201) rfl (by decide +kernel) ⟨Nat.le_of_ble_eq_true rfl, Nat.le_of_ble_eq_true rfl⟩) (pi_mk (W := ([] : va_W)) (c := ((h, .inr (1, [.null, .int 0, .int 0, .int 0])) : Nat × va_E)) hK hP hBc (hE.at hS hAB)) rfl rfl hl.1 rfl (lv_room (Nat.le_of_ble_eq_true rfl)) dJ4_init_da8c8_3 ⟨(show 0 + 1 ≤ 1 by omega), (show 0 + 16 ≤ 16 by omega)⟩) hS (fun q _ h => hFc q h) hFc (fun u t H1 locs ht hvm hw hB hz1 hk1 hS => ?_)
  obtain ⟨hB1, hB2⟩ := hB
  rw [ht] at hB1
  obtain ⟨hP7, hD7⟩ := W_end (W := ([] : va_W)) (q0 := ((h, .inr (1, [.null, .int 0, .int 0, .int 0])) : Nat × va_E)) hP hD hFc hk1 hB1 hB2
  obtain ⟨H, rfl⟩ : ∃ z, z = H1 := ⟨_, rfl⟩
  obtain ⟨u1, rfl⟩ : ∃ z, z = u := ⟨_, rfl⟩
  have hpx_u1 := hw
  refine W.widen (k := 1) (n := 16) (by omega) (by omega) ?_
  have hP : va_P D vwCl (lb G h u1 16 (fun _ => 0) 0 0) H := hP7
  have hD : va_D A (lb G h u1 16 (fun _ => 0) 0 0) := hD7
  have hP9 : va_P D vwCl (lb G h u1 16 (fun _ => 0) 0 0) H := hP
  have hD9 : va_D A (lb G h u1 16 (fun _ => 0) 0 0) := hD
  refine W.widen (k := 1) (n := 16) (by omega) (by omega) ?_
  exact W.vret hx hb hr (fun t ht hW => ⟨⟨u1, rfl, trivial, by rw [ht]; exact hP9, hD9⟩, hS.F ht⟩) hS.2.2 dJ4_init_da8c8_6
set_option maxRecDepth 100000 in
set_option maxHeartbeats 4000000 in
theorem c_X7_init (l : Launch) (D : va_G) (G : GA) (B0 : Nat) (X : Nat → Nat → Nat) (h : Nat) (sz : Nat) : Met l yX7_init (wA yX7_init cX7_init 1 none) ({ frames := 4, cells := 184, slots := 1586, locals := 74 } : Room) (va_Pc [.ref h] (MKp D G B0 X (h, .inr (8, [.null, .null, .null, .null, .null, .null, .null, .int 0, .int 0, .int 0, .int 0, .int 0])) sz)) (va_Qv (fun u : AD => u.1 3 0 = h) (fun u t9 => va_P D vwCl ((CBL G X u st0 st0 st0 (fun _ => st0) 0 sv0 lv0 (fun _ => 0) fl0).flatten) t9.heap ∧ va_D (va_A [(h, .inr (8, [.null, .null, .null, .null, .null, .null, .null, .int 0, .int 0, .int 0, .int 0, .int 0]))] sz) ((CBL G X u st0 st0 st0 (fun _ => st0) 0 sv0 lv0 (fun _ => 0) fl0).flatten)) (va_A [(h, .inr (8, [.null, .null, .null, .null, .null, .null, .null, .int 0, .int 0, .int 0, .int 0, .int 0]))] sz)) 184 1586 (va_A [(h, .inr (8, [.null, .null, .null, .null, .null, .null, .null, .int 0, .int 0, .int 0, .int 0, .int 0]))] sz) := by
  refine Met.ofW (cc := cX7_init) (maxL := 1) (ret := none) (by decide) rfl ?_
  intro p e s m args below meth c s₁ B hml hv
  obtain ⟨rfl, hsz, hP, hK, hB0, hE⟩ := hv
  have hx := B.exec
  have hb := B.bytes
  have hr := B.returns
  have hts : ∀ w9 ∈ tb, w9.before ([.ref h] : List Value).toArray s = true := fun w9 h9 => atoms_spec (ws := (wA yX7_init cX7_init 1 none)) B.pre w9 (List.mem_cons_of_mem _ h9)
  have hown : s.vm.findClass RX7 = some m.cls := findClass_of_methodNamed B.named
  have hlocks := B.notSynchronized
  have hin : meth.name = "<init>" := (name_of_methodNamed B.named B.method).1
  subst hsz
  have hD : va_D (va_A [(h, .inr (8, [.null, .null, .null, .null, .null, .null, .null, .int 0, .int 0, .int 0, .int 0, .int 0]))] s.heap.size) [(h, .inr (8, [.null, .null, .null, .null, .null, .null, .null, .int 0, .int 0, .int 0, .int 0, .int 0]))] := D_1 _ _
  have hAB := A_B (c := (h, .inr (8, [.null, .null, .null, .null, .null, .null, .null, .int 0, .int 0, .int 0, .int 0, .int 0]))) hB0 hE.1
  generalize hAe : va_A [(h, .inr (8, [.null, .null, .null, .null, .null, .null, .null, .int 0, .int 0, .int 0, .int 0, .int 0]))] s.heap.size = A at hD hAB ⊢
  have hA : ∀ q : Nat, s.heap.size ≤ q → A q := fun q h => by rw [← hAe]; exact Or.inr h
  have hS : va_S A s.heap s.heap [] := va_S.rf
  have hl := lv_entry ([.ref h]) (n := 1) (Nat.le_of_ble_eq_true rfl)
  rw [lg_entry_eq]
  generalize (lg_sl ([.ref h]) ++ List.replicate (1 - (lg_sl ([.ref h])).length) Slot.unset).toArray = ls at hl ⊢
  have hl : lv_has ls 1 [(0, .ref h)] := hl
  have hP : va_P D vwCl (((h, .inr (8, [.null, .null, .null, .null, .null, .null, .null, .int 0, .int 0, .int 0, .int 0, .int 0])) : Nat × va_E) :: [] : va_W) s.heap := hP
  have hD : va_D A (((h, .inr (8, [.null, .null, .null, .null, .null, .null, .null, .int 0, .int 0, .int 0, .int 0, .int 0])) : Nat × va_E) :: [] : va_W) := hD
  refine lv_aload_n hx hb dX7_init_0 rfl (lv_at hl 0 rfl) ?_
  refine W.objInit hx hb hown (hts _ kw_62) (hts _ kw_63) (hts _ kw_64) rfl (by rw [hml]; exact hl.1) rfl dX7_init_1 (Nat.le_of_ble_eq_true rfl) (Nat.le_of_ble_eq_true rfl) ?_
  refine W.eq (g2 := F0 m 4 ls []) rfl ?_
  refine lv_aload_n hx hb dX7_init_4 rfl (lv_at hl 0 rfl) ?_
  refine va_new (D := D) (ci := 4) (fs := [.null, .null, .null, .int 0, .int 0, .int 0, .int 0]) (C := RX1) (T := TX1) (N := 7) hx hb hts i_X1 tyX1 tyX1_ok hown (hts _ kw_65) (hts _ kw_66) (hts _ kw_25) hK hP hD hS hA rfl (fun j hj => by rcases (show j = 0 ∨ j = 1 ∨ j = 2 ∨ j = 3 ∨ j = 4 ∨ j = 5 ∨ j = 6 by omega) with rfl | rfl | rfl | rfl | rfl | rfl | rfl <;> rfl) (show 0 + 1 ≤ 184 by omega) (show 0 + 7 ≤ 1586 by omega) dX7_init_5 (fun o1 H hP hD hS => ?_)
  refine W.widen (k := 1) (n := 7) (by omega) (by omega) ?_
  refine lv_dup hx hb dX7_init_8 rfl ?_
  have hFc := free_end (W := ((((h, .inr (8, [.null, .null, .null, .null, .null, .null, .null, .int 0, .int 0, .int 0, .int 0, .int 0])) : Nat × va_E) :: [] : va_W) : va_W)) (c := ((o1, .inr (4, [.null, .null, .null, .int 0, .int 0, .int 0, .int 0])) : Nat × va_E)) hD hS hA
  have hBc := B_end (W := ((((h, .inr (8, [.null, .null, .null, .null, .null, .null, .null, .int 0, .int 0, .int 0, .int 0, .int 0])) : Nat × va_E) :: [] : va_W) : va_W)) (c := ((o1, .inr (4, [.null, .null, .null, .int 0, .int 0, .int 0, .int 0])) : Nat × va_E)) hD hAB
  refine va_callv (va_runI (As := []) (rest := [.ref o1, .ref h]) ⟨hx, hb, hml, hown, hts⟩ (c_X1_init l D G B0 X o1 H.size) (cwI 0 hts gi_X1_init rfl rfl rfl (hts _ kw_25) (hts _ kw_67) (hts _ kw_68) rfl (by decide +kernel) ⟨Nat.le_of_ble_eq_true rfl, Nat.le_of_ble_eq_true rfl⟩) (pi_mk (W := ((((h, .inr (8, [.null, .null, .null, .null, .null, .null, .null, .int 0, .int 0, .int 0, .int 0, .int 0])) : Nat × va_E) :: [] : va_W) : va_W)) (c := ((o1, .inr (4, [.null, .null, .null, .int 0, .int 0, .int 0, .int 0])) : Nat × va_E)) hK hP hBc (hE.at hS hAB)) rfl rfl hl.1 rfl (lv_room (Nat.le_of_ble_eq_true rfl)) dX7_init_9 ⟨(show 1 + 15 ≤ 184 by omega), (show 7 + 119 ≤ 1586 by omega)⟩) hS (fun q _ h => hFc q h) hFc (fun u t H1 locs ht hvm hw hB hz1 hk1 hS => ?_)
  obtain ⟨hB1, hB2⟩ := hB
  rw [ht] at hB1
  obtain ⟨hP7, hD7⟩ := W_end (W := ((((h, .inr (8, [.null, .null, .null, .null, .null, .null, .null, .int 0, .int 0, .int 0, .int 0, .int 0])) : Nat × va_E) :: [] : va_W) : va_W)) (q0 := ((o1, .inr (4, [.null, .null, .null, .int 0, .int 0, .int 0, .int 0])) : Nat × va_E)) hP hD hFc hk1 hB1 hB2
  obtain ⟨H, rfl⟩ : ∃ z, z = H1 := ⟨_, rfl⟩
  obtain ⟨u2, rfl⟩ : ∃ z, z = u := ⟨_, rfl⟩
  have hpx_u2 := hw
  refine W.widen (k := 16) (n := 126) (by omega) (by omega) ?_
  obtain rfl := hpx_u2
  have hP : va_P D vwCl (((h, .inr (8, [.null, .null, .null, .null, .null, .null, .null, .int 0, .int 0, .int 0, .int 0, .int 0])) : Nat × va_E) :: (cw G u2 st0) : va_W) H := hP7
  have hD : va_D A (((h, .inr (8, [.null, .null, .null, .null, .null, .null, .null, .int 0, .int 0, .int 0, .int 0, .int 0])) : Nat × va_E) :: (cw G u2 st0) : va_W) := hD7
  refine va_putF (D := D) (ci := 8) (v := .ref (u2 0)) (ty := .object "CourierBags$Cargo") (C := RX7) (T := TX7) (N := 12) hx hb hts i_X7 tyX7 tyX7_ok nmX7 hown hK hP hD hS 0 rfl rfl 0 (by decide) (hts _ kw_228) (fun _ h9 => h9) rfl hin rfl (by decide +kernel) rfl rfl (Nat.le_of_ble_eq_true rfl) dX7_init_12 (fun H locs hP hD hS => ?_)
  have hP : va_P D vwCl (((h, .inr (8, [.ref (u2 0), .null, .null, .null, .null, .null, .null, .int 0, .int 0, .int 0, .int 0, .int 0])) : Nat × va_E) :: (cw G u2 st0) : va_W) H := hP
  have hD : va_D A (((h, .inr (8, [.ref (u2 0), .null, .null, .null, .null, .null, .null, .int 0, .int 0, .int 0, .int 0, .int 0])) : Nat × va_E) :: (cw G u2 st0) : va_W) := hD
  refine lv_aload_n hx hb dX7_init_15 rfl (lv_at hl 0 rfl) ?_
  refine va_new (D := D) (ci := 4) (fs := [.null, .null, .null, .int 0, .int 0, .int 0, .int 0]) (C := RX1) (T := TX1) (N := 7) hx hb hts i_X1 tyX1 tyX1_ok hown (hts _ kw_65) (hts _ kw_66) (hts _ kw_25) hK hP hD hS hA rfl (fun j hj => by rcases (show j = 0 ∨ j = 1 ∨ j = 2 ∨ j = 3 ∨ j = 4 ∨ j = 5 ∨ j = 6 by omega) with rfl | rfl | rfl | rfl | rfl | rfl | rfl <;> rfl) (show 16 + 1 ≤ 184 by omega) (show 126 + 7 ≤ 1586 by omega) dX7_init_16 (fun o3 H hP hD hS => ?_)
  refine W.widen (k := 17) (n := 133) (by omega) (by omega) ?_
  refine lv_dup hx hb dX7_init_19 rfl ?_
  have hFc := free_end (W := ((((h, .inr (8, [.ref (u2 0), .null, .null, .null, .null, .null, .null, .int 0, .int 0, .int 0, .int 0, .int 0])) : Nat × va_E) :: (cw G u2 st0) : va_W) : va_W)) (c := ((o3, .inr (4, [.null, .null, .null, .int 0, .int 0, .int 0, .int 0])) : Nat × va_E)) hD hS hA
  have hBc := B_end (W := ((((h, .inr (8, [.ref (u2 0), .null, .null, .null, .null, .null, .null, .int 0, .int 0, .int 0, .int 0, .int 0])) : Nat × va_E) :: (cw G u2 st0) : va_W) : va_W)) (c := ((o3, .inr (4, [.null, .null, .null, .int 0, .int 0, .int 0, .int 0])) : Nat × va_E)) hD hAB
  refine va_callv (va_runI (As := []) (rest := [.ref o3, .ref h]) ⟨hx, hb, hml, hown, hts⟩ (c_X1_init l D G B0 X o3 H.size) (cwI 0 hts gi_X1_init rfl rfl rfl (hts _ kw_25) (hts _ kw_67) (hts _ kw_68) rfl (by decide +kernel) ⟨Nat.le_of_ble_eq_true rfl, Nat.le_of_ble_eq_true rfl⟩) (pi_mk (W := ((((h, .inr (8, [.ref (u2 0), .null, .null, .null, .null, .null, .null, .int 0, .int 0, .int 0, .int 0, .int 0])) : Nat × va_E) :: (cw G u2 st0) : va_W) : va_W)) (c := ((o3, .inr (4, [.null, .null, .null, .int 0, .int 0, .int 0, .int 0])) : Nat × va_E)) hK hP hBc (hE.at hS hAB)) rfl rfl hl.1 rfl (lv_room (Nat.le_of_ble_eq_true rfl)) dX7_init_20 ⟨(show 17 + 15 ≤ 184 by omega), (show 133 + 119 ≤ 1586 by omega)⟩) hS (fun q _ h => hFc q h) hFc (fun u t H1 locs ht hvm hw hB hz1 hk1 hS => ?_)
  obtain ⟨hB1, hB2⟩ := hB
  rw [ht] at hB1
  obtain ⟨hP7, hD7⟩ := W_end (W := ((((h, .inr (8, [.ref (u2 0), .null, .null, .null, .null, .null, .null, .int 0, .int 0, .int 0, .int 0, .int 0])) : Nat × va_E) :: (cw G u2 st0) : va_W) : va_W)) (q0 := ((o3, .inr (4, [.null, .null, .null, .int 0, .int 0, .int 0, .int 0])) : Nat × va_E)) hP hD hFc hk1 hB1 hB2
  obtain ⟨H, rfl⟩ : ∃ z, z = H1 := ⟨_, rfl⟩
  obtain ⟨u4, rfl⟩ : ∃ z, z = u := ⟨_, rfl⟩
  have hpx_u4 := hw
  refine W.widen (k := 32) (n := 252) (by omega) (by omega) ?_
  obtain rfl := hpx_u4
  have hP : va_P D vwCl (((h, .inr (8, [.ref (u2 0), .null, .null, .null, .null, .null, .null, .int 0, .int 0, .int 0, .int 0, .int 0])) : Nat × va_E) :: ((cw G u2 st0) ++ (cw G u4 st0)) : va_W) H := hP7
  have hD : va_D A (((h, .inr (8, [.ref (u2 0), .null, .null, .null, .null, .null, .null, .int 0, .int 0, .int 0, .int 0, .int 0])) : Nat × va_E) :: ((cw G u2 st0) ++ (cw G u4 st0)) : va_W) := hD7
  refine va_putF (D := D) (ci := 8) (v := .ref (u4 0)) (ty := .object "CourierBags$Cargo") (C := RX7) (T := TX7) (N := 12) hx hb hts i_X7 tyX7 tyX7_ok nmX7 hown hK hP hD hS 0 rfl rfl 1 (by decide) (hts _ kw_229) (fun _ h9 => h9) rfl hin rfl (by decide +kernel) rfl rfl (Nat.le_of_ble_eq_true rfl) dX7_init_23 (fun H locs hP hD hS => ?_)
  have hP : va_P D vwCl (((h, .inr (8, [.ref (u2 0), .ref (u4 0), .null, .null, .null, .null, .null, .int 0, .int 0, .int 0, .int 0, .int 0])) : Nat × va_E) :: ((cw G u2 st0) ++ (cw G u4 st0)) : va_W) H := hP
  have hD : va_D A (((h, .inr (8, [.ref (u2 0), .ref (u4 0), .null, .null, .null, .null, .null, .int 0, .int 0, .int 0, .int 0, .int 0])) : Nat × va_E) :: ((cw G u2 st0) ++ (cw G u4 st0)) : va_W) := hD
  refine lv_aload_n hx hb dX7_init_26 rfl (lv_at hl 0 rfl) ?_
  refine va_new (D := D) (ci := 4) (fs := [.null, .null, .null, .int 0, .int 0, .int 0, .int 0]) (C := RX1) (T := TX1) (N := 7) hx hb hts i_X1 tyX1 tyX1_ok hown (hts _ kw_65) (hts _ kw_66) (hts _ kw_25) hK hP hD hS hA rfl (fun j hj => by rcases (show j = 0 ∨ j = 1 ∨ j = 2 ∨ j = 3 ∨ j = 4 ∨ j = 5 ∨ j = 6 by omega) with rfl | rfl | rfl | rfl | rfl | rfl | rfl <;> rfl) (show 32 + 1 ≤ 184 by omega) (show 252 + 7 ≤ 1586 by omega) dX7_init_27 (fun o5 H hP hD hS => ?_)
  refine W.widen (k := 33) (n := 259) (by omega) (by omega) ?_
  refine lv_dup hx hb dX7_init_30 rfl ?_
  have hFc := free_end (W := ((((h, .inr (8, [.ref (u2 0), .ref (u4 0), .null, .null, .null, .null, .null, .int 0, .int 0, .int 0, .int 0, .int 0])) : Nat × va_E) :: ((cw G u2 st0) ++ (cw G u4 st0)) : va_W) : va_W)) (c := ((o5, .inr (4, [.null, .null, .null, .int 0, .int 0, .int 0, .int 0])) : Nat × va_E)) hD hS hA
  have hBc := B_end (W := ((((h, .inr (8, [.ref (u2 0), .ref (u4 0), .null, .null, .null, .null, .null, .int 0, .int 0, .int 0, .int 0, .int 0])) : Nat × va_E) :: ((cw G u2 st0) ++ (cw G u4 st0)) : va_W) : va_W)) (c := ((o5, .inr (4, [.null, .null, .null, .int 0, .int 0, .int 0, .int 0])) : Nat × va_E)) hD hAB
  refine va_callv (va_runI (As := []) (rest := [.ref o5, .ref h]) ⟨hx, hb, hml, hown, hts⟩ (c_X1_init l D G B0 X o5 H.size) (cwI 0 hts gi_X1_init rfl rfl rfl (hts _ kw_25) (hts _ kw_67) (hts _ kw_68) rfl (by decide +kernel) ⟨Nat.le_of_ble_eq_true rfl, Nat.le_of_ble_eq_true rfl⟩) (pi_mk (W := ((((h, .inr (8, [.ref (u2 0), .ref (u4 0), .null, .null, .null, .null, .null, .int 0, .int 0, .int 0, .int 0, .int 0])) : Nat × va_E) :: ((cw G u2 st0) ++ (cw G u4 st0)) : va_W) : va_W)) (c := ((o5, .inr (4, [.null, .null, .null, .int 0, .int 0, .int 0, .int 0])) : Nat × va_E)) hK hP hBc (hE.at hS hAB)) rfl rfl hl.1 rfl (lv_room (Nat.le_of_ble_eq_true rfl)) dX7_init_31 ⟨(show 33 + 15 ≤ 184 by omega), (show 259 + 119 ≤ 1586 by omega)⟩) hS (fun q _ h => hFc q h) hFc (fun u t H1 locs ht hvm hw hB hz1 hk1 hS => ?_)
  obtain ⟨hB1, hB2⟩ := hB
  rw [ht] at hB1
  obtain ⟨hP7, hD7⟩ := W_end (W := ((((h, .inr (8, [.ref (u2 0), .ref (u4 0), .null, .null, .null, .null, .null, .int 0, .int 0, .int 0, .int 0, .int 0])) : Nat × va_E) :: ((cw G u2 st0) ++ (cw G u4 st0)) : va_W) : va_W)) (q0 := ((o5, .inr (4, [.null, .null, .null, .int 0, .int 0, .int 0, .int 0])) : Nat × va_E)) hP hD hFc hk1 hB1 hB2
  obtain ⟨H, rfl⟩ : ∃ z, z = H1 := ⟨_, rfl⟩
  obtain ⟨u6, rfl⟩ : ∃ z, z = u := ⟨_, rfl⟩
  have hpx_u6 := hw
  refine W.widen (k := 48) (n := 378) (by omega) (by omega) ?_
  obtain rfl := hpx_u6
  have hP : va_P D vwCl (((h, .inr (8, [.ref (u2 0), .ref (u4 0), .null, .null, .null, .null, .null, .int 0, .int 0, .int 0, .int 0, .int 0])) : Nat × va_E) :: (((cw G u2 st0) ++ (cw G u4 st0)) ++ (cw G u6 st0)) : va_W) H := hP7
  have hD : va_D A (((h, .inr (8, [.ref (u2 0), .ref (u4 0), .null, .null, .null, .null, .null, .int 0, .int 0, .int 0, .int 0, .int 0])) : Nat × va_E) :: (((cw G u2 st0) ++ (cw G u4 st0)) ++ (cw G u6 st0)) : va_W) := hD7
  refine va_putF (D := D) (ci := 8) (v := .ref (u6 0)) (ty := .object "CourierBags$Cargo") (C := RX7) (T := TX7) (N := 12) hx hb hts i_X7 tyX7 tyX7_ok nmX7 hown hK hP hD hS 0 rfl rfl 2 (by decide) (hts _ kw_230) (fun _ h9 => h9) rfl hin rfl (by decide +kernel) rfl rfl (Nat.le_of_ble_eq_true rfl) dX7_init_34 (fun H locs hP hD hS => ?_)
  have hP : va_P D vwCl (((h, .inr (8, [.ref (u2 0), .ref (u4 0), .ref (u6 0), .null, .null, .null, .null, .int 0, .int 0, .int 0, .int 0, .int 0])) : Nat × va_E) :: (((cw G u2 st0) ++ (cw G u4 st0)) ++ (cw G u6 st0)) : va_W) H := hP
  have hD : va_D A (((h, .inr (8, [.ref (u2 0), .ref (u4 0), .ref (u6 0), .null, .null, .null, .null, .int 0, .int 0, .int 0, .int 0, .int 0])) : Nat × va_E) :: (((cw G u2 st0) ++ (cw G u4 st0)) ++ (cw G u6 st0)) : va_W) := hD
  refine lv_aload_n hx hb dX7_init_37 rfl (lv_at hl 0 rfl) ?_
  refine va_new (D := D) (ci := 5) (fs := [.null, .int 0]) (C := RX3) (T := TX3) (N := 2) hx hb hts i_X3 tyX3 tyX3_ok hown (hts _ kw_144) (hts _ kw_145) (hts _ kw_27) hK hP hD hS hA rfl (fun j hj => by rcases (show j = 0 ∨ j = 1 by omega) with rfl | rfl <;> rfl) (show 48 + 1 ≤ 184 by omega) (show 378 + 2 ≤ 1586 by omega) dX7_init_38 (fun o7 H hP hD hS => ?_)
  refine W.widen (k := 49) (n := 380) (by omega) (by omega) ?_
  refine lv_dup hx hb dX7_init_41 rfl ?_
  have hFc := free_end (W := ((((h, .inr (8, [.ref (u2 0), .ref (u4 0), .ref (u6 0), .null, .null, .null, .null, .int 0, .int 0, .int 0, .int 0, .int 0])) : Nat × va_E) :: (((cw G u2 st0) ++ (cw G u4 st0)) ++ (cw G u6 st0)) : va_W) : va_W)) (c := ((o7, .inr (5, [.null, .int 0])) : Nat × va_E)) hD hS hA
  have hBc := B_end (W := ((((h, .inr (8, [.ref (u2 0), .ref (u4 0), .ref (u6 0), .null, .null, .null, .null, .int 0, .int 0, .int 0, .int 0, .int 0])) : Nat × va_E) :: (((cw G u2 st0) ++ (cw G u4 st0)) ++ (cw G u6 st0)) : va_W) : va_W)) (c := ((o7, .inr (5, [.null, .int 0])) : Nat × va_E)) hD hAB
  refine va_callv (va_runI (As := []) (rest := [.ref o7, .ref h]) ⟨hx, hb, hml, hown, hts⟩ (c_X3_init l D G B0 X o7 H.size) (cwI 0 hts gi_X3_init rfl rfl rfl (hts _ kw_27) (hts _ kw_146) (hts _ kw_147) rfl (by decide +kernel) ⟨Nat.le_of_ble_eq_true rfl, Nat.le_of_ble_eq_true rfl⟩) (pi_mk (W := ((((h, .inr (8, [.ref (u2 0), .ref (u4 0), .ref (u6 0), .null, .null, .null, .null, .int 0, .int 0, .int 0, .int 0, .int 0])) : Nat × va_E) :: (((cw G u2 st0) ++ (cw G u4 st0)) ++ (cw G u6 st0)) : va_W) : va_W)) (c := ((o7, .inr (5, [.null, .int 0])) : Nat × va_E)) hK hP hBc (hE.at hS hAB)) rfl rfl hl.1 rfl (lv_room (Nat.le_of_ble_eq_true rfl)) dX7_init_42 ⟨(show 49 + 129 ≤ 184 by omega), (show 380 + 1016 ≤ 1586 by omega)⟩) hS (fun q _ h => hFc q h) hFc (fun u t H1 locs ht hvm hw hB hz1 hk1 hS => ?_)
  obtain ⟨hB1, hB2⟩ := hB
  rw [ht] at hB1
  obtain ⟨hP7, hD7⟩ := W_end (W := ((((h, .inr (8, [.ref (u2 0), .ref (u4 0), .ref (u6 0), .null, .null, .null, .null, .int 0, .int 0, .int 0, .int 0, .int 0])) : Nat × va_E) :: (((cw G u2 st0) ++ (cw G u4 st0)) ++ (cw G u6 st0)) : va_W) : va_W)) (q0 := ((o7, .inr (5, [.null, .int 0])) : Nat × va_E)) hP hD hFc hk1 hB1 hB2
  obtain ⟨H, rfl⟩ : ∃ z, z = H1 := ⟨_, rfl⟩
  obtain ⟨u8, rfl⟩ : ∃ z, z = u := ⟨_, rfl⟩
  have hpx_u8 := hw
  refine W.widen (k := 178) (n := 1396) (by omega) (by omega) ?_
  have hP : va_P D vwCl (((h, .inr (8, [.ref (u2 0), .ref (u4 0), .ref (u6 0), .null, .null, .null, .null, .int 0, .int 0, .int 0, .int 0, .int 0])) : Nat × va_E) :: ((((cw G u2 st0) ++ (cw G u4 st0)) ++ (cw G u6 st0)) ++ ((HBL G o7 u8.1 (hR u8.2) (nI 0) u8.2 (fun _ => st0)).flatten)) : va_W) H := hP7
  have hD : va_D A (((h, .inr (8, [.ref (u2 0), .ref (u4 0), .ref (u6 0), .null, .null, .null, .null, .int 0, .int 0, .int 0, .int 0, .int 0])) : Nat × va_E) :: ((((cw G u2 st0) ++ (cw G u4 st0)) ++ (cw G u6 st0)) ++ ((HBL G o7 u8.1 (hR u8.2) (nI 0) u8.2 (fun _ => st0)).flatten)) : va_W) := hD7
  refine va_putF (D := D) (ci := 8) (v := .ref o7) (ty := .object "CourierBags$History") (C := RX7) (T := TX7) (N := 12) hx hb hts i_X7 tyX7 tyX7_ok nmX7 hown hK hP hD hS 0 rfl rfl 3 (by decide) (hts _ kw_231) (fun _ h9 => h9) rfl hin rfl (by decide +kernel) rfl rfl (Nat.le_of_ble_eq_true rfl) dX7_init_45 (fun H locs hP hD hS => ?_)
  have hP : va_P D vwCl (((h, .inr (8, [.ref (u2 0), .ref (u4 0), .ref (u6 0), .ref o7, .null, .null, .null, .int 0, .int 0, .int 0, .int 0, .int 0])) : Nat × va_E) :: ((((cw G u2 st0) ++ (cw G u4 st0)) ++ (cw G u6 st0)) ++ ((HBL G o7 u8.1 (hR u8.2) (nI 0) u8.2 (fun _ => st0)).flatten)) : va_W) H := hP
  have hD : va_D A (((h, .inr (8, [.ref (u2 0), .ref (u4 0), .ref (u6 0), .ref o7, .null, .null, .null, .int 0, .int 0, .int 0, .int 0, .int 0])) : Nat × va_E) :: ((((cw G u2 st0) ++ (cw G u4 st0)) ++ (cw G u6 st0)) ++ ((HBL G o7 u8.1 (hR u8.2) (nI 0) u8.2 (fun _ => st0)).flatten)) : va_W) := hD
  refine lv_aload_n hx hb dX7_init_48 rfl (lv_at hl 0 rfl) ?_
  refine va_new (D := D) (ci := 7) (fs := [.null, .int 0, .int 0, .null, .null, .int 0, .int 0]) (C := RX6) (T := TX6) (N := 7) hx hb hts i_X6 tyX6 tyX6_ok hown (hts _ kw_161) (hts _ kw_162) (hts _ kw_28) hK hP hD hS hA rfl (fun j hj => by rcases (show j = 0 ∨ j = 1 ∨ j = 2 ∨ j = 3 ∨ j = 4 ∨ j = 5 ∨ j = 6 by omega) with rfl | rfl | rfl | rfl | rfl | rfl | rfl <;> rfl) (show 178 + 1 ≤ 184 by omega) (show 1396 + 7 ≤ 1586 by omega) dX7_init_49 (fun o9 H hP hD hS => ?_)
  refine W.widen (k := 179) (n := 1403) (by omega) (by omega) ?_
  refine lv_dup hx hb dX7_init_52 rfl ?_
  have hFc := free_end (W := ((((h, .inr (8, [.ref (u2 0), .ref (u4 0), .ref (u6 0), .ref o7, .null, .null, .null, .int 0, .int 0, .int 0, .int 0, .int 0])) : Nat × va_E) :: ((((cw G u2 st0) ++ (cw G u4 st0)) ++ (cw G u6 st0)) ++ ((HBL G o7 u8.1 (hR u8.2) (nI 0) u8.2 (fun _ => st0)).flatten)) : va_W) : va_W)) (c := ((o9, .inr (7, [.null, .int 0, .int 0, .null, .null, .int 0, .int 0])) : Nat × va_E)) hD hS hA
  have hBc := B_end (W := ((((h, .inr (8, [.ref (u2 0), .ref (u4 0), .ref (u6 0), .ref o7, .null, .null, .null, .int 0, .int 0, .int 0, .int 0, .int 0])) : Nat × va_E) :: ((((cw G u2 st0) ++ (cw G u4 st0)) ++ (cw G u6 st0)) ++ ((HBL G o7 u8.1 (hR u8.2) (nI 0) u8.2 (fun _ => st0)).flatten)) : va_W) : va_W)) (c := ((o9, .inr (7, [.null, .int 0, .int 0, .null, .null, .int 0, .int 0])) : Nat × va_E)) hD hAB
  refine va_callv (va_runIN (As := []) (rest := [.ref o9, .ref h]) ⟨hx, hb, hml, hown, hts⟩ (c_X6_init l D G B0 X o9 H.size) ⟨va_cnB 0 hts gi_X6_init rfl rfl rfl (nw_163 hE.nw) (hts _ kw_28) (by decide +kernel) ⟨Nat.le_of_ble_eq_true rfl, Nat.le_of_ble_eq_true rfl⟩, rfl, hts _ kw_164⟩ (pi_mk (W := ((((h, .inr (8, [.ref (u2 0), .ref (u4 0), .ref (u6 0), .ref o7, .null, .null, .null, .int 0, .int 0, .int 0, .int 0, .int 0])) : Nat × va_E) :: ((((cw G u2 st0) ++ (cw G u4 st0)) ++ (cw G u6 st0)) ++ ((HBL G o7 u8.1 (hR u8.2) (nI 0) u8.2 (fun _ => st0)).flatten)) : va_W) : va_W)) (c := ((o9, .inr (7, [.null, .int 0, .int 0, .null, .null, .int 0, .int 0])) : Nat × va_E)) hK hP hBc (hE.at hS hAB)) rfl rfl hl.1 rfl (lv_room (Nat.le_of_ble_eq_true rfl)) dX7_init_53 ⟨(show 179 + 2 ≤ 184 by omega), (show 1403 + 63 ≤ 1586 by omega)⟩) hS (fun q _ h => hFc q h) hFc (fun u t H1 locs ht hvm hw hB hz1 hk1 hS => ?_)
  obtain ⟨hB1, hB2⟩ := hB
  rw [ht] at hB1
  obtain ⟨hP7, hD7⟩ := W_end (W := ((((h, .inr (8, [.ref (u2 0), .ref (u4 0), .ref (u6 0), .ref o7, .null, .null, .null, .int 0, .int 0, .int 0, .int 0, .int 0])) : Nat × va_E) :: ((((cw G u2 st0) ++ (cw G u4 st0)) ++ (cw G u6 st0)) ++ ((HBL G o7 u8.1 (hR u8.2) (nI 0) u8.2 (fun _ => st0)).flatten)) : va_W) : va_W)) (q0 := ((o9, .inr (7, [.null, .int 0, .int 0, .null, .null, .int 0, .int 0])) : Nat × va_E)) hP hD hFc hk1 hB1 hB2
  obtain ⟨H, rfl⟩ : ∃ z, z = H1 := ⟨_, rfl⟩
  obtain ⟨u10, rfl⟩ : ∃ z, z = u := ⟨_, rfl⟩
  have hpx_u10 := hw
  refine W.widen (k := 181) (n := 1466) (by omega) (by omega) ?_
  have hP : va_P D vwCl (((h, .inr (8, [.ref (u2 0), .ref (u4 0), .ref (u6 0), .ref o7, .null, .null, .null, .int 0, .int 0, .int 0, .int 0, .int 0])) : Nat × va_E) :: (((((cw G u2 st0) ++ (cw G u4 st0)) ++ (cw G u6 st0)) ++ ((HBL G o7 u8.1 (hR u8.2) (nI 0) u8.2 (fun _ => st0)).flatten)) ++ (sw G X o9 u10.1 u10.2 (fun _ => 0) (fun _ => 0) 0 0 0 0 6)) : va_W) H := hP7
  have hD : va_D A (((h, .inr (8, [.ref (u2 0), .ref (u4 0), .ref (u6 0), .ref o7, .null, .null, .null, .int 0, .int 0, .int 0, .int 0, .int 0])) : Nat × va_E) :: (((((cw G u2 st0) ++ (cw G u4 st0)) ++ (cw G u6 st0)) ++ ((HBL G o7 u8.1 (hR u8.2) (nI 0) u8.2 (fun _ => st0)).flatten)) ++ (sw G X o9 u10.1 u10.2 (fun _ => 0) (fun _ => 0) 0 0 0 0 6)) : va_W) := hD7
  refine va_putF (D := D) (ci := 8) (v := .ref o9) (ty := .object "CourierBags$Script") (C := RX7) (T := TX7) (N := 12) hx hb hts i_X7 tyX7 tyX7_ok nmX7 hown hK hP hD hS 0 rfl rfl 4 (by decide) (hts _ kw_232) (fun _ h9 => h9) rfl hin rfl (by decide +kernel) rfl rfl (Nat.le_of_ble_eq_true rfl) dX7_init_56 (fun H locs hP hD hS => ?_)
  have hP : va_P D vwCl (((h, .inr (8, [.ref (u2 0), .ref (u4 0), .ref (u6 0), .ref o7, .ref o9, .null, .null, .int 0, .int 0, .int 0, .int 0, .int 0])) : Nat × va_E) :: (((((cw G u2 st0) ++ (cw G u4 st0)) ++ (cw G u6 st0)) ++ ((HBL G o7 u8.1 (hR u8.2) (nI 0) u8.2 (fun _ => st0)).flatten)) ++ (sw G X o9 u10.1 u10.2 (fun _ => 0) (fun _ => 0) 0 0 0 0 6)) : va_W) H := hP
  have hD : va_D A (((h, .inr (8, [.ref (u2 0), .ref (u4 0), .ref (u6 0), .ref o7, .ref o9, .null, .null, .int 0, .int 0, .int 0, .int 0, .int 0])) : Nat × va_E) :: (((((cw G u2 st0) ++ (cw G u4 st0)) ++ (cw G u6 st0)) ++ ((HBL G o7 u8.1 (hR u8.2) (nI 0) u8.2 (fun _ => st0)).flatten)) ++ (sw G X o9 u10.1 u10.2 (fun _ => 0) (fun _ => 0) 0 0 0 0 6)) : va_W) := hD
  refine lv_aload_n hx hb dX7_init_59 rfl (lv_at hl 0 rfl) ?_
  refine va_new (D := D) (ci := 1) (fs := [.null, .int 0, .int 0, .int 0]) (C := RJ4) (T := TJ4) (N := 4) hx hb hts i_J4 tyJ4 tyJ4_ok hown (hts _ kw_195) (hts _ kw_196) (hts _ kw_32) hK hP hD hS hA rfl (fun j hj => by rcases (show j = 0 ∨ j = 1 ∨ j = 2 ∨ j = 3 by omega) with rfl | rfl | rfl | rfl <;> rfl) (show 181 + 1 ≤ 184 by omega) (show 1466 + 4 ≤ 1586 by omega) dX7_init_60 (fun o11 H hP hD hS => ?_)
  refine W.widen (k := 182) (n := 1470) (by omega) (by omega) ?_
  refine lv_dup hx hb dX7_init_63 rfl ?_
  have hFc := free_end (W := ((((h, .inr (8, [.ref (u2 0), .ref (u4 0), .ref (u6 0), .ref o7, .ref o9, .null, .null, .int 0, .int 0, .int 0, .int 0, .int 0])) : Nat × va_E) :: (((((cw G u2 st0) ++ (cw G u4 st0)) ++ (cw G u6 st0)) ++ ((HBL G o7 u8.1 (hR u8.2) (nI 0) u8.2 (fun _ => st0)).flatten)) ++ (sw G X o9 u10.1 u10.2 (fun _ => 0) (fun _ => 0) 0 0 0 0 6)) : va_W) : va_W)) (c := ((o11, .inr (1, [.null, .int 0, .int 0, .int 0])) : Nat × va_E)) hD hS hA
  have hBc := B_end (W := ((((h, .inr (8, [.ref (u2 0), .ref (u4 0), .ref (u6 0), .ref o7, .ref o9, .null, .null, .int 0, .int 0, .int 0, .int 0, .int 0])) : Nat × va_E) :: (((((cw G u2 st0) ++ (cw G u4 st0)) ++ (cw G u6 st0)) ++ ((HBL G o7 u8.1 (hR u8.2) (nI 0) u8.2 (fun _ => st0)).flatten)) ++ (sw G X o9 u10.1 u10.2 (fun _ => 0) (fun _ => 0) 0 0 0 0 6)) : va_W) : va_W)) (c := ((o11, .inr (1, [.null, .int 0, .int 0, .int 0])) : Nat × va_E)) hD hAB
  refine va_callv (va_runI (As := []) (rest := [.ref o11, .ref h]) ⟨hx, hb, hml, hown, hts⟩ (c_J4_init_da8c8 l D G B0 X o11 H.size) (cwI 0 hts gi_J4_init_da8c8 rfl rfl rfl (hts _ kw_32) (hts _ kw_197) (hts _ kw_198) rfl (by decide +kernel) ⟨Nat.le_of_ble_eq_true rfl, Nat.le_of_ble_eq_true rfl⟩) (pi_mk (W := ((((h, .inr (8, [.ref (u2 0), .ref (u4 0), .ref (u6 0), .ref o7, .ref o9, .null, .null, .int 0, .int 0, .int 0, .int 0, .int 0])) : Nat × va_E) :: (((((cw G u2 st0) ++ (cw G u4 st0)) ++ (cw G u6 st0)) ++ ((HBL G o7 u8.1 (hR u8.2) (nI 0) u8.2 (fun _ => st0)).flatten)) ++ (sw G X o9 u10.1 u10.2 (fun _ => 0) (fun _ => 0) 0 0 0 0 6)) : va_W) : va_W)) (c := ((o11, .inr (1, [.null, .int 0, .int 0, .int 0])) : Nat × va_E)) hK hP hBc (hE.at hS hAB)) rfl rfl hl.1 rfl (lv_room (Nat.le_of_ble_eq_true rfl)) dX7_init_64 ⟨(show 182 + 1 ≤ 184 by omega), (show 1470 + 16 ≤ 1586 by omega)⟩) hS (fun q _ h => hFc q h) hFc (fun u t H1 locs ht hvm hw hB hz1 hk1 hS => ?_)
  obtain ⟨hB1, hB2⟩ := hB
  rw [ht] at hB1
  obtain ⟨hP7, hD7⟩ := W_end (W := ((((h, .inr (8, [.ref (u2 0), .ref (u4 0), .ref (u6 0), .ref o7, .ref o9, .null, .null, .int 0, .int 0, .int 0, .int 0, .int 0])) : Nat × va_E) :: (((((cw G u2 st0) ++ (cw G u4 st0)) ++ (cw G u6 st0)) ++ ((HBL G o7 u8.1 (hR u8.2) (nI 0) u8.2 (fun _ => st0)).flatten)) ++ (sw G X o9 u10.1 u10.2 (fun _ => 0) (fun _ => 0) 0 0 0 0 6)) : va_W) : va_W)) (q0 := ((o11, .inr (1, [.null, .int 0, .int 0, .int 0])) : Nat × va_E)) hP hD hFc hk1 hB1 hB2
  obtain ⟨H, rfl⟩ : ∃ z, z = H1 := ⟨_, rfl⟩
  obtain ⟨u12, rfl⟩ : ∃ z, z = u := ⟨_, rfl⟩
  have hpx_u12 := hw
  refine W.widen (k := 183) (n := 1486) (by omega) (by omega) ?_
  have hP : va_P D vwCl (((h, .inr (8, [.ref (u2 0), .ref (u4 0), .ref (u6 0), .ref o7, .ref o9, .null, .null, .int 0, .int 0, .int 0, .int 0, .int 0])) : Nat × va_E) :: ((((((cw G u2 st0) ++ (cw G u4 st0)) ++ (cw G u6 st0)) ++ ((HBL G o7 u8.1 (hR u8.2) (nI 0) u8.2 (fun _ => st0)).flatten)) ++ (sw G X o9 u10.1 u10.2 (fun _ => 0) (fun _ => 0) 0 0 0 0 6)) ++ (lb G o11 u12 16 (fun _ => 0) 0 0)) : va_W) H := hP7
  have hD : va_D A (((h, .inr (8, [.ref (u2 0), .ref (u4 0), .ref (u6 0), .ref o7, .ref o9, .null, .null, .int 0, .int 0, .int 0, .int 0, .int 0])) : Nat × va_E) :: ((((((cw G u2 st0) ++ (cw G u4 st0)) ++ (cw G u6 st0)) ++ ((HBL G o7 u8.1 (hR u8.2) (nI 0) u8.2 (fun _ => st0)).flatten)) ++ (sw G X o9 u10.1 u10.2 (fun _ => 0) (fun _ => 0) 0 0 0 0 6)) ++ (lb G o11 u12 16 (fun _ => 0) 0 0)) : va_W) := hD7
  refine va_putF (D := D) (ci := 8) (v := .ref o11) (ty := .object "java/lang/StringBuilder") (C := RX7) (T := TX7) (N := 12) hx hb hts i_X7 tyX7 tyX7_ok nmX7 hown hK hP hD hS 0 rfl rfl 5 (by decide) (hts _ kw_233) (fun _ h9 => h9) rfl hin rfl (by decide +kernel) rfl rfl (Nat.le_of_ble_eq_true rfl) dX7_init_67 (fun H locs hP hD hS => ?_)
  have hP : va_P D vwCl (((h, .inr (8, [.ref (u2 0), .ref (u4 0), .ref (u6 0), .ref o7, .ref o9, .ref o11, .null, .int 0, .int 0, .int 0, .int 0, .int 0])) : Nat × va_E) :: ((((((cw G u2 st0) ++ (cw G u4 st0)) ++ (cw G u6 st0)) ++ ((HBL G o7 u8.1 (hR u8.2) (nI 0) u8.2 (fun _ => st0)).flatten)) ++ (sw G X o9 u10.1 u10.2 (fun _ => 0) (fun _ => 0) 0 0 0 0 6)) ++ (lb G o11 u12 16 (fun _ => 0) 0 0)) : va_W) H := hP
  have hD : va_D A (((h, .inr (8, [.ref (u2 0), .ref (u4 0), .ref (u6 0), .ref o7, .ref o9, .ref o11, .null, .int 0, .int 0, .int 0, .int 0, .int 0])) : Nat × va_E) :: ((((((cw G u2 st0) ++ (cw G u4 st0)) ++ (cw G u6 st0)) ++ ((HBL G o7 u8.1 (hR u8.2) (nI 0) u8.2 (fun _ => st0)).flatten)) ++ (sw G X o9 u10.1 u10.2 (fun _ => 0) (fun _ => 0) 0 0 0 0 6)) ++ (lb G o11 u12 16 (fun _ => 0) 0 0)) : va_W) := hD
  refine lv_aload_n hx hb dX7_init_70 rfl (lv_at hl 0 rfl) ?_
  refine lv_bipush (v := 100) hx hb dX7_init_71 (by decide) ?_
  refine va_newa hx hb (atype := .int) (hts _ kw_143) (ty := .int) rfl hK hP hD hS hA (a0 := (100, .inl (fun _ => 0))) (fun _ => rfl) (N' := 100) (by decide) (by decide) (by decide) (show 183 + 1 ≤ 184 by omega) (show 1486 + 100 ≤ 1586 by omega) dX7_init_73 (fun r13 cA H hK2 hP hD hS => ?_)
  rw [row_id (i := 1) (g := G 1) hK2 rfl] at hP hD
  clear hK2 cA
  refine W.widen (k := 184) (n := 1586) (by omega) (by omega) ?_
  have hP : va_P D vwCl (((h, .inr (8, [.ref (u2 0), .ref (u4 0), .ref (u6 0), .ref o7, .ref o9, .ref o11, .null, .int 0, .int 0, .int 0, .int 0, .int 0])) : Nat × va_E) :: (((((((cw G u2 st0) ++ (cw G u4 st0)) ++ (cw G u6 st0)) ++ ((HBL G o7 u8.1 (hR u8.2) (nI 0) u8.2 (fun _ => st0)).flatten)) ++ (sw G X o9 u10.1 u10.2 (fun _ => 0) (fun _ => 0) 0 0 0 0 6)) ++ (lb G o11 u12 16 (fun _ => 0) 0 0)) ++ [(r13, .inl (G 1, 100, .inl (fun _ => 0)))]) : va_W) H := hP
  have hD : va_D A (((h, .inr (8, [.ref (u2 0), .ref (u4 0), .ref (u6 0), .ref o7, .ref o9, .ref o11, .null, .int 0, .int 0, .int 0, .int 0, .int 0])) : Nat × va_E) :: (((((((cw G u2 st0) ++ (cw G u4 st0)) ++ (cw G u6 st0)) ++ ((HBL G o7 u8.1 (hR u8.2) (nI 0) u8.2 (fun _ => st0)).flatten)) ++ (sw G X o9 u10.1 u10.2 (fun _ => 0) (fun _ => 0) 0 0 0 0 6)) ++ (lb G o11 u12 16 (fun _ => 0) 0 0)) ++ [(r13, .inl (G 1, 100, .inl (fun _ => 0)))]) : va_W) := hD
  refine va_putF (D := D) (ci := 8) (v := .ref r13) (ty := .array .int) (C := RX7) (T := TX7) (N := 12) hx hb hts i_X7 tyX7 tyX7_ok nmX7 hown hK hP hD hS 0 rfl rfl 6 (by decide) (hts _ kw_234) (fun _ h9 => h9) rfl hin rfl (by decide +kernel) rfl rfl (Nat.le_of_ble_eq_true rfl) dX7_init_75 (fun H locs hP hD hS => ?_)
  have hP : va_P D vwCl (((h, .inr (8, [.ref (u2 0), .ref (u4 0), .ref (u6 0), .ref o7, .ref o9, .ref o11, .ref r13, .int 0, .int 0, .int 0, .int 0, .int 0])) : Nat × va_E) :: (((((((cw G u2 st0) ++ (cw G u4 st0)) ++ (cw G u6 st0)) ++ ((HBL G o7 u8.1 (hR u8.2) (nI 0) u8.2 (fun _ => st0)).flatten)) ++ (sw G X o9 u10.1 u10.2 (fun _ => 0) (fun _ => 0) 0 0 0 0 6)) ++ (lb G o11 u12 16 (fun _ => 0) 0 0)) ++ [(r13, .inl (G 1, 100, .inl (fun _ => 0)))]) : va_W) H := hP
  have hD : va_D A (((h, .inr (8, [.ref (u2 0), .ref (u4 0), .ref (u6 0), .ref o7, .ref o9, .ref o11, .ref r13, .int 0, .int 0, .int 0, .int 0, .int 0])) : Nat × va_E) :: (((((((cw G u2 st0) ++ (cw G u4 st0)) ++ (cw G u6 st0)) ++ ((HBL G o7 u8.1 (hR u8.2) (nI 0) u8.2 (fun _ => st0)).flatten)) ++ (sw G X o9 u10.1 u10.2 (fun _ => 0) (fun _ => 0) 0 0 0 0 6)) ++ (lb G o11 u12 16 (fun _ => 0) 0 0)) ++ [(r13, .inl (G 1, 100, .inl (fun _ => 0)))]) : va_W) := hD
  refine lv_aload_n hx hb dX7_init_78 rfl (lv_at hl 0 rfl) ?_
  refine lv_iconst (v := 0) hx hb dX7_init_79 (by decide) ?_
  refine va_put (D := D) (ci := 8) (v := .int 0) (ty := .int) (C := RX7) (T := TX7) (N := 12) hx hb hts i_X7 tyX7 tyX7_ok nmX7 hown hK hP hD hS 0 rfl rfl 8 (by decide) (hts _ kw_236) (fun _ h9 => h9) rfl (by decide +kernel) rfl rfl (Nat.le_of_ble_eq_true rfl) dX7_init_80 (fun H locs hP hD hS => ?_)
  have hP : va_P D vwCl (((h, .inr (8, [.ref (u2 0), .ref (u4 0), .ref (u6 0), .ref o7, .ref o9, .ref o11, .ref r13, .int 0, .int 0, .int 0, .int 0, .int 0])) : Nat × va_E) :: (((((((cw G u2 st0) ++ (cw G u4 st0)) ++ (cw G u6 st0)) ++ ((HBL G o7 u8.1 (hR u8.2) (nI 0) u8.2 (fun _ => st0)).flatten)) ++ (sw G X o9 u10.1 u10.2 (fun _ => 0) (fun _ => 0) 0 0 0 0 6)) ++ (lb G o11 u12 16 (fun _ => 0) 0 0)) ++ [(r13, .inl (G 1, 100, .inl (fun _ => 0)))]) : va_W) H := hP
  have hD : va_D A (((h, .inr (8, [.ref (u2 0), .ref (u4 0), .ref (u6 0), .ref o7, .ref o9, .ref o11, .ref r13, .int 0, .int 0, .int 0, .int 0, .int 0])) : Nat × va_E) :: (((((((cw G u2 st0) ++ (cw G u4 st0)) ++ (cw G u6 st0)) ++ ((HBL G o7 u8.1 (hR u8.2) (nI 0) u8.2 (fun _ => st0)).flatten)) ++ (sw G X o9 u10.1 u10.2 (fun _ => 0) (fun _ => 0) 0 0 0 0 6)) ++ (lb G o11 u12 16 (fun _ => 0) 0 0)) ++ [(r13, .inl (G 1, 100, .inl (fun _ => 0)))]) : va_W) := hD
  refine lv_aload_n hx hb dX7_init_83 rfl (lv_at hl 0 rfl) ?_
  refine lv_iconst (v := -1) hx hb dX7_init_84 (by decide) ?_
  refine va_put (D := D) (ci := 8) (v := .int (-1)) (ty := .int) (C := RX7) (T := TX7) (N := 12) hx hb hts i_X7 tyX7 tyX7_ok nmX7 hown hK hP hD hS 0 rfl rfl 9 (by decide) (hts _ kw_237) (fun _ h9 => h9) rfl (by decide +kernel) rfl rfl (Nat.le_of_ble_eq_true rfl) dX7_init_85 (fun H locs hP hD hS => ?_)
  have hP : va_P D vwCl (((h, .inr (8, [.ref (u2 0), .ref (u4 0), .ref (u6 0), .ref o7, .ref o9, .ref o11, .ref r13, .int 0, .int 0, .int (-1), .int 0, .int 0])) : Nat × va_E) :: (((((((cw G u2 st0) ++ (cw G u4 st0)) ++ (cw G u6 st0)) ++ ((HBL G o7 u8.1 (hR u8.2) (nI 0) u8.2 (fun _ => st0)).flatten)) ++ (sw G X o9 u10.1 u10.2 (fun _ => 0) (fun _ => 0) 0 0 0 0 6)) ++ (lb G o11 u12 16 (fun _ => 0) 0 0)) ++ [(r13, .inl (G 1, 100, .inl (fun _ => 0)))]) : va_W) H := hP
  have hD : va_D A (((h, .inr (8, [.ref (u2 0), .ref (u4 0), .ref (u6 0), .ref o7, .ref o9, .ref o11, .ref r13, .int 0, .int 0, .int (-1), .int 0, .int 0])) : Nat × va_E) :: (((((((cw G u2 st0) ++ (cw G u4 st0)) ++ (cw G u6 st0)) ++ ((HBL G o7 u8.1 (hR u8.2) (nI 0) u8.2 (fun _ => st0)).flatten)) ++ (sw G X o9 u10.1 u10.2 (fun _ => 0) (fun _ => 0) 0 0 0 0 6)) ++ (lb G o11 u12 16 (fun _ => 0) 0 0)) ++ [(r13, .inl (G 1, 100, .inl (fun _ => 0)))]) : va_W) := hD
  refine lv_aload_n hx hb dX7_init_88 rfl (lv_at hl 0 rfl) ?_
  refine lv_iconst (v := -1) hx hb dX7_init_89 (by decide) ?_
  refine va_put (D := D) (ci := 8) (v := .int (-1)) (ty := .int) (C := RX7) (T := TX7) (N := 12) hx hb hts i_X7 tyX7 tyX7_ok nmX7 hown hK hP hD hS 0 rfl rfl 10 (by decide) (hts _ kw_238) (fun _ h9 => h9) rfl (by decide +kernel) rfl rfl (Nat.le_of_ble_eq_true rfl) dX7_init_90 (fun H locs hP hD hS => ?_)
  have hP : va_P D vwCl (((h, .inr (8, [.ref (u2 0), .ref (u4 0), .ref (u6 0), .ref o7, .ref o9, .ref o11, .ref r13, .int 0, .int 0, .int (-1), .int (-1), .int 0])) : Nat × va_E) :: (((((((cw G u2 st0) ++ (cw G u4 st0)) ++ (cw G u6 st0)) ++ ((HBL G o7 u8.1 (hR u8.2) (nI 0) u8.2 (fun _ => st0)).flatten)) ++ (sw G X o9 u10.1 u10.2 (fun _ => 0) (fun _ => 0) 0 0 0 0 6)) ++ (lb G o11 u12 16 (fun _ => 0) 0 0)) ++ [(r13, .inl (G 1, 100, .inl (fun _ => 0)))]) : va_W) H := hP
  have hD : va_D A (((h, .inr (8, [.ref (u2 0), .ref (u4 0), .ref (u6 0), .ref o7, .ref o9, .ref o11, .ref r13, .int 0, .int 0, .int (-1), .int (-1), .int 0])) : Nat × va_E) :: (((((((cw G u2 st0) ++ (cw G u4 st0)) ++ (cw G u6 st0)) ++ ((HBL G o7 u8.1 (hR u8.2) (nI 0) u8.2 (fun _ => st0)).flatten)) ++ (sw G X o9 u10.1 u10.2 (fun _ => 0) (fun _ => 0) 0 0 0 0 6)) ++ (lb G o11 u12 16 (fun _ => 0) 0 0)) ++ [(r13, .inl (G 1, 100, .inl (fun _ => 0)))]) : va_W) := hD
  refine lv_aload_n hx hb dX7_init_93 rfl (lv_at hl 0 rfl) ?_
  refine lv_iconst (v := -1) hx hb dX7_init_94 (by decide) ?_
  refine va_put (D := D) (ci := 8) (v := .int (-1)) (ty := .int) (C := RX7) (T := TX7) (N := 12) hx hb hts i_X7 tyX7 tyX7_ok nmX7 hown hK hP hD hS 0 rfl rfl 11 (by decide) (hts _ kw_239) (fun _ h9 => h9) rfl (by decide +kernel) rfl rfl (Nat.le_of_ble_eq_true rfl) dX7_init_95 (fun H locs hP hD hS => ?_)
  have hP : va_P D vwCl (((h, .inr (8, [.ref (u2 0), .ref (u4 0), .ref (u6 0), .ref o7, .ref o9, .ref o11, .ref r13, .int 0, .int 0, .int (-1), .int (-1), .int (-1)])) : Nat × va_E) :: (((((((cw G u2 st0) ++ (cw G u4 st0)) ++ (cw G u6 st0)) ++ ((HBL G o7 u8.1 (hR u8.2) (nI 0) u8.2 (fun _ => st0)).flatten)) ++ (sw G X o9 u10.1 u10.2 (fun _ => 0) (fun _ => 0) 0 0 0 0 6)) ++ (lb G o11 u12 16 (fun _ => 0) 0 0)) ++ [(r13, .inl (G 1, 100, .inl (fun _ => 0)))]) : va_W) H := hP
  have hD : va_D A (((h, .inr (8, [.ref (u2 0), .ref (u4 0), .ref (u6 0), .ref o7, .ref o9, .ref o11, .ref r13, .int 0, .int 0, .int (-1), .int (-1), .int (-1)])) : Nat × va_E) :: (((((((cw G u2 st0) ++ (cw G u4 st0)) ++ (cw G u6 st0)) ++ ((HBL G o7 u8.1 (hR u8.2) (nI 0) u8.2 (fun _ => st0)).flatten)) ++ (sw G X o9 u10.1 u10.2 (fun _ => 0) (fun _ => 0) 0 0 0 0 6)) ++ (lb G o11 u12 16 (fun _ => 0) 0 0)) ++ [(r13, .inl (G 1, 100, .inl (fun _ => 0)))]) : va_W) := hD
  have e9 : (CBL G X ((adMk u2 u4 u6 [h, o7, u8.1, o9, u10.1, u10.2, o11, 0, r13], u8.2, u12) : AD) st0 st0 st0 (fun _ => st0) 0 sv0 lv0 (fun _ => 0) fl0).flatten = (((h, .inr (8, [.ref (u2 0), .ref (u4 0), .ref (u6 0), .ref o7, .ref o9, .ref o11, .ref r13, .int 0, .int 0, .int (-1), .int (-1), .int (-1)])) : Nat × va_E) :: (((((((cw G u2 st0) ++ (cw G u4 st0)) ++ (cw G u6 st0)) ++ ((HBL G o7 u8.1 (hR u8.2) (nI 0) u8.2 (fun _ => st0)).flatten)) ++ (sw G X o9 u10.1 u10.2 (fun _ => 0) (fun _ => 0) 0 0 0 0 6)) ++ (lb G o11 u12 16 (fun _ => 0) 0 0)) ++ [(r13, .inl (G 1, 100, .inl (fun _ => 0)))]) : va_W) := by
    simp only [CBL, List.flatten_cons, List.flatten_nil, List.append_assoc, List.append_nil, List.cons_append, List.nil_append]
    rfl
  have hP9 : va_P D vwCl (CBL G X ((adMk u2 u4 u6 [h, o7, u8.1, o9, u10.1, u10.2, o11, 0, r13], u8.2, u12) : AD) st0 st0 st0 (fun _ => st0) 0 sv0 lv0 (fun _ => 0) fl0).flatten H := by rw [e9]; exact hP
  have hD9 : va_D A (CBL G X ((adMk u2 u4 u6 [h, o7, u8.1, o9, u10.1, u10.2, o11, 0, r13], u8.2, u12) : AD) st0 st0 st0 (fun _ => st0) 0 sv0 lv0 (fun _ => 0) fl0).flatten := by rw [e9]; exact hD
  refine W.widen (k := 184) (n := 1586) (by omega) (by omega) ?_
  exact W.vret hx hb hr (fun t ht hW => ⟨⟨((adMk u2 u4 u6 [h, o7, u8.1, o9, u10.1, u10.2, o11, 0, r13], u8.2, u12) : AD), rfl, rfl, by rw [ht]; exact hP9, hD9⟩, hS.F ht⟩) hS.2.2 dX7_init_98
