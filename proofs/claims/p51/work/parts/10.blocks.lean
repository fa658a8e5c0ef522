/-! WORLDS IN BLOCKS, and copying -/
theorem P_of {D : va_G} {cl : List vw_C} {ws : va_W} {H : Heap} (h : ∀ q ∈ ws, va_at D cl q H) : va_P D cl ws H := fun _ q hk => h q (List.mem_of_getElem? hk)
theorem P_mem {D : va_G} {cl : List vw_C} {ws : va_W} {H : Heap} (h : va_P D cl ws H) {q : Nat × va_E} (hq : q ∈ ws) : va_at D cl q H := by
  obtain ⟨k, hk⟩ := List.getElem?_of_mem hq
  exact h k q hk
theorem P_subset {D : va_G} {cl : List vw_C} {ws wc : va_W} {H : Heap} (hs : ∀ q ∈ wc, q ∈ ws) (h : va_P D cl ws H) : va_P D cl wc H := P_of (fun q hq => P_mem h (hs q hq))
theorem D_in {A : Nat → Prop} {ws : va_W} (h : va_D A ws) {q : Nat × va_E} (hq : q ∈ ws) : A q.1 := by
  obtain ⟨k, hk⟩ := List.getElem?_of_mem hq
  exact h.2 k q hk
theorem D_nodup {A : Nat → Prop} {ws : va_W} (h : va_D A ws) : (ws.map (·.1)).Nodup := by
  unfold List.Nodup
  rw [List.pairwise_iff_getElem]
  intro i j hi hj hij heq
  rw [List.getElem_map, List.getElem_map] at heq
  have hi' : i < ws.length := by simpa using hi
  have hj' : j < ws.length := by simpa using hj
  have := h.1 i j ws[i] ws[j] (List.getElem?_eq_getElem hi') (List.getElem?_eq_getElem hj') heq
  omega
theorem D_of {A : Nat → Prop} {ws : va_W} (h1 : (ws.map (·.1)).Nodup) (h2 : ∀ q ∈ ws, A q.1) : va_D A ws := by
  unfold List.Nodup at h1
  rw [List.pairwise_iff_getElem] at h1
  have key : ∀ (i j : Nat) (p q : Nat × va_E), ws[i]? = some p → ws[j]? = some q → p.1 = q.1 → ¬ i < j := by
    intro i j p q hi hj e hij
    obtain ⟨hi', hp⟩ := List.getElem?_eq_some_iff.mp hi
    obtain ⟨hj', hq⟩ := List.getElem?_eq_some_iff.mp hj
    refine h1 i j (by simpa using hi') (by simpa using hj') hij ?_
    rw [List.getElem_map, List.getElem_map, hp, hq]
    exact e
  refine ⟨fun i j p q hi hj e => ?_, fun k q hk => h2 q (List.mem_of_getElem? hk)⟩
  rcases Nat.lt_trichotomy i j with h | h | h
  · exact absurd h (key i j p q hi hj e)
  · exact h
  · exact absurd h (key j i q p hj hi e.symm)
theorem P_S {D : va_G} {cl : List vw_C} {ws : va_W} {A : Nat → Prop} {H0 H : Heap} {locs : List Loc} (hP : va_P D cl ws H0) (hn : ∀ q ∈ ws, ¬ A q.1) (hS : va_S A H0 H locs) : va_P D cl ws H :=
  hP.kept (fun k q hk => hS.2.1 q.1 ((hP k q hk).lt) (hn q (List.mem_of_getElem? hk)))
theorem P_keep {D : va_G} {cl : List vw_C} {ws : va_W} {A : Nat → Prop} {H H1 : Heap} (hP : va_P D cl ws H) (hk : ∀ q : Nat, q < H.size → ¬ A q → H1[q]? = H[q]?) (hn : ∀ q ∈ ws, ¬ A q.1) : va_P D cl ws H1 :=
  hP.kept (fun k q h => hk q.1 ((hP k q h).lt) (hn q (List.mem_of_getElem? h)))
theorem A_one {q : Nat × va_E} {sz x : Nat} (h : va_A [q] sz x) : x = q.1 ∨ sz ≤ x := by
  rcases h with ⟨k, e, hk⟩ | h
  · left
    have h1 := List.mem_of_getElem? hk
    rw [List.mem_singleton] at h1
    rw [← h1]
  · exact Or.inr h
theorem P_set1 {D : va_G} {cl : List vw_C} {A : Nat → Prop} {ws : va_W} {H H1 : Heap} {k a : Nat} {e0 e : va_E} (hP : va_P D cl ws H) (hD : va_D A ws) (hk : ws[k]? = some (a, e0)) (hkeep : ∀ q : Nat, q < H.size → ¬ va_A [(a, e0)] H.size q → H1[q]? = H[q]?) (hP1 : va_P D cl [(a, e)] H1) : va_P D cl (ws.set k (a, e)) H1 := by
  have hl := (List.getElem?_eq_some_iff.mp hk).1
  intro i q hi
  by_cases hik : i = k
  · subst hik
    rw [List.getElem?_set_self hl] at hi
    cases hi
    exact hP1 0 _ rfl
  · rw [List.getElem?_set_ne (Ne.symm hik)] at hi
    have hlt := (hP i q hi).lt
    refine (hP i q hi).kept (hkeep q.1 hlt (fun h => ?_))
    rcases A_one h with h | h
    · exact hik (hD.1 i k q (a, e0) hi hk h)
    · omega
theorem free1 {A0 : Nat → Prop} {ws : va_W} {H0 H : Heap} {locs : List Loc} {k : Nat} {q : Nat × va_E} (hD : va_D A0 ws) (hk : ws[k]? = some q) (hS : va_S A0 H0 H locs) (hA : ∀ q, H0.size ≤ q → A0 q) : ∀ x, va_A [q] H.size x → A0 x := by
  intro x h
  rcases A_one h with h | h
  · rw [h]; exact hD.2 k q hk
  · exact hA x (Nat.le_trans hS.1 h)
theorem D_two {x y : Nat × va_E} (h : x.1 ≠ y.1) : va_D (fun _ => True) [x, y] := by
  refine D_of ?_ (fun _ _ => trivial)
  simp [h]
theorem dj_blk {A : Nat → Prop} {BL : List va_W} {i j : Nat} {C E : va_W} (hD : va_D A BL.flatten) (hi : BL[i]? = some C) (hj : BL[j]? = some E) (hij : i ≠ j) : ∀ p ∈ C, ∀ q ∈ E, p.1 ≠ q.1 := by
  have h1 := D_nodup hD
  rw [List.map_flatten] at h1
  unfold List.Nodup at h1
  rw [List.pairwise_flatten] at h1
  have h2 := h1.2
  rw [List.pairwise_iff_getElem] at h2
  obtain ⟨hi', hC⟩ := List.getElem?_eq_some_iff.mp hi
  obtain ⟨hj', hE⟩ := List.getElem?_eq_some_iff.mp hj
  intro p hp q hq
  rcases Nat.lt_or_gt_of_ne hij with h | h
  · have h3 := h2 i j (by simpa using hi') (by simpa using hj') h
    rw [List.getElem_map, List.getElem_map, hC, hE] at h3
    exact h3 p.1 (List.mem_map_of_mem hp) q.1 (List.mem_map_of_mem hq)
  · have h3 := h2 j i (by simpa using hj') (by simpa using hi') h
    rw [List.getElem_map, List.getElem_map, hC, hE] at h3
    exact fun e => h3 q.1 (List.mem_map_of_mem hq) p.1 (List.mem_map_of_mem hp) e.symm
theorem P_blk {D : va_G} {cl : List vw_C} {BL : List va_W} {H : Heap} (hP : va_P D cl BL.flatten H) {i : Nat} {C : va_W} (hi : BL[i]? = some C) : va_P D cl C H :=
  P_subset (fun _ hq => List.mem_flatten.mpr ⟨C, List.mem_of_getElem? hi, hq⟩) hP
theorem D_blk {A : Nat → Prop} {BL : List va_W} (hD : va_D A BL.flatten) {i : Nat} {C : va_W} (hi : BL[i]? = some C) : va_D A C := by
  have hs : C.Sublist BL.flatten := List.sublist_flatten_of_mem (List.mem_of_getElem? hi)
  exact D_of ((hs.map _).nodup (D_nodup hD)) (fun q hq => D_in hD (hs.subset hq))
theorem D_app {A : Nat → Prop} {C E : va_W} (hC : va_D A C) (hE : va_D A E) (h : ∀ p ∈ C, ∀ q ∈ E, p.1 ≠ q.1) : va_D A (C ++ E) := by
  refine D_of ?_ (fun q hq => ?_)
  · rw [List.map_append, List.nodup_append]
    refine ⟨D_nodup hC, D_nodup hE, fun a ha b hb => ?_⟩
    obtain ⟨p, hp, rfl⟩ := List.mem_map.mp ha
    obtain ⟨q, hq, rfl⟩ := List.mem_map.mp hb
    exact h p hp q hq
  · rcases List.mem_append.mp hq with h | h
    · exact D_in hC h
    · exact D_in hE h
theorem D_apart {A : Nat → Prop} {C E : va_W} (h : va_D A (C ++ E)) : va_D A C ∧ va_D A E ∧ ∀ p ∈ C, ∀ q ∈ E, p.1 ≠ q.1 := by
  have h1 := D_nodup h
  rw [List.map_append, List.nodup_append] at h1
  exact ⟨D_of h1.1 (fun q hq => D_in h (List.mem_append_left _ hq)), D_of h1.2.1 (fun q hq => D_in h (List.mem_append_right _ hq)), fun p hp q hq => h1.2.2 p.1 (List.mem_map_of_mem hp) q.1 (List.mem_map_of_mem hq)⟩
theorem A_mem {ws : va_W} {sz x : Nat} (h : va_A ws sz x) : (∃ q ∈ ws, q.1 = x) ∨ sz ≤ x := by
  rcases h with ⟨k, e, hk⟩ | h
  · exact Or.inl ⟨(x, e), List.mem_of_getElem? hk, rfl⟩
  · exact Or.inr h
theorem A_of {ws : va_W} {sz : Nat} {q : Nat × va_E} (h : q ∈ ws) : va_A ws sz q.1 := by
  obtain ⟨k, hk⟩ := List.getElem?_of_mem h
  exact Or.inl ⟨k, q.2, hk⟩
/-- a callee has changed the block i alone: the world behind it -/
theorem P_rep {D : va_G} {cl : List vw_C} {A : Nat → Prop} {BL : List va_W} {H H1 : Heap} {i : Nat} {C C1 : va_W} (hP : va_P D cl BL.flatten H) (hD : va_D A BL.flatten) (hi : BL[i]? = some C) (hkeep : ∀ q : Nat, q < H.size → ¬ va_A C H.size q → H1[q]? = H[q]?) (hP1 : va_P D cl C1 H1) : va_P D cl (BL.set i C1).flatten H1 := by
  refine P_of (fun q hq => ?_)
  obtain ⟨E, hE, hqE⟩ := List.mem_flatten.mp hq
  obtain ⟨j, hj⟩ := List.getElem?_of_mem hE
  by_cases hji : j = i
  · subst hji
    rw [List.getElem?_set_self (List.getElem?_eq_some_iff.mp hi).1] at hj
    cases hj
    exact P_mem hP1 hqE
  · rw [List.getElem?_set_ne (Ne.symm hji)] at hj
    have h1 := P_mem (P_blk hP hj) hqE
    refine h1.kept (hkeep q.1 h1.lt (fun h => ?_))
    rcases A_mem h with ⟨p, hp, e⟩ | h
    · exact dj_blk hD hi hj (Ne.symm hji) p hp q hqE e
    · have := h1.lt
      omega
theorem D_rep {A : Nat → Prop} {BL : List va_W} {i : Nat} {C C1 : va_W} (hD : va_D A BL.flatten) (hi : BL[i]? = some C) (e : C1.map (·.1) = C.map (·.1)) : va_D A (BL.set i C1).flatten := by
  refine D_addr hD ?_
  rw [List.map_flatten, List.map_flatten, List.map_set, e]
  congr 1
  apply List.ext_getElem?
  intro j
  rw [List.getElem?_set]
  by_cases hij : i = j
  · subst hij
    rw [if_pos rfl, List.getElem?_map, hi]
    have := (List.getElem?_eq_some_iff.mp hi).1
    simp [this]
  · rw [if_neg hij]
theorem cell_int {cA : ClassId} {n : Nat} {f g : Nat → Int32} (h : ∀ j, j < n → f j = g j) : vp_cell cA (n, .inl f) = vp_cell cA (n, .inl g) := by
  show arrV cA n (fun j => .int (f j)) = arrV cA n (fun j => .int (g j))
  unfold arrV
  congr 1
  congr 1
  funext j
  show Value.int (f j.val) = Value.int (g j.val)
  rw [h j.val j.isLt]
theorem cell_ref {cA : ClassId} {n : Nat} {f g : Nat → Option Nat} (h : ∀ j, j < n → f j = g j) : vp_cell cA (n, .inr (.inr (.inr (.inr f)))) = vp_cell cA (n, .inr (.inr (.inr (.inr g)))) := by
  show arrV cA n (fun j => va_rf (f j)) = arrV cA n (fun j => va_rf (g j))
  unfold arrV
  congr 1
  congr 1
  funext j
  show va_rf (f j.val) = va_rf (g j.val)
  rw [h j.val j.isLt]
theorem cw_cong {D : va_G} {G : GA} {a : Nat → Nat} {st st' : CS} {H : Heap} (hP : va_P D vwCl (cw G a st) H) (h1 : ∀ k, k < 12 → itm st k = itm st' k) (h2 : ∀ b, b < 3 → st.2.1 b = st'.2.1 b) (h3 : ∀ i, i < 4 → st.2.2 i = st'.2.2 i) : va_P D vwCl (cw G a st') H := by
  intro k q hk
  match k, hk with
  | 0, hk =>
    cases hk
    have h := hP 0 _ rfl
    rw [h3 0 (by decide), h3 1 (by decide), h3 2 (by decide), h3 3 (by decide)] at h
    exact h
  | 1, hk => cases hk; exact hP 1 _ rfl
  | 2, hk =>
    cases hk
    have h : H[a 2]? = some (vp_cell (G 1) (3, .inl st.2.1)) := hP 2 _ rfl
    show H[a 2]? = some (vp_cell (G 1) (3, .inl st'.2.1))
    rw [h, cell_int h2]
  | j + 3, hk =>
    have hj : j < 13 := by
      have := (List.getElem?_eq_some_iff.mp hk).1
      simp [cw] at this
      omega
    rw [Nat.add_comm, cw_it G a st' hj] at hk
    cases hk
    have h := hP (3 + j) _ (cw_it G a st hj)
    have e : itm st' j = itm st j := by
      rcases Nat.lt_or_ge j 12 with hl | hl
      · exact (h1 j hl).symm
      · have : j = 12 := by omega
        subst this
        rfl
    rw [e]
    exact h
theorem itm_sI {st : CS} {k : Nat} {f : Nat → Int32} (hk : k < 12) : itm (sI st k f) k = f := by simp only [itm, sI, if_pos hk, va_up_self]
theorem itm_sI_ne {st : CS} {k j : Nat} {f : Nat → Int32} (h : j ≠ k) : itm (sI st k f) j = itm st j := by simp only [itm, sI, va_up_ne _ _ h]
def q_cpI (st' : CS) (k : Nat) (s : CS) : CS := sI s k (itm st' k)
def q_cpL (st' : CS) (k : Nat) (s : CS) : CS := sL s k (st'.2.1 k)
theorem cpI_ok (st st' : CS) : ∀ n, n ≤ 12 → (∀ k, k < n → itm (lp (q_cpI st') n st) k = itm st' k) ∧ (lp (q_cpI st') n st).2 = st.2 := by
  intro n
  induction n with
  | zero => intro _; exact ⟨fun k h => absurd h (Nat.not_lt_zero k), rfl⟩
  | succ n ih =>
    intro hn
    obtain ⟨i1, i2⟩ := ih (by omega)
    refine ⟨fun k hk => ?_, i2⟩
    by_cases e : k = n
    · subst e
      exact itm_sI (by omega)
    · have h := i1 k (by omega)
      rw [← h]
      exact itm_sI_ne e
theorem cpL_ok (st st' : CS) : ∀ n, (∀ b, b < n → (lp (q_cpL st') n st).2.1 b = st'.2.1 b) ∧ (lp (q_cpL st') n st).1 = st.1 := by
  intro n
  induction n with
  | zero => exact ⟨fun k h => absurd h (Nat.not_lt_zero k), rfl⟩
  | succ n ih =>
    obtain ⟨i1, i2⟩ := ih
    refine ⟨fun b hb => ?_, i2⟩
    by_cases e : b = n
    · subst e
      show upd _ b (st'.2.1 b) b = st'.2.1 b
      exact pk_us
    · show upd _ n (st'.2.1 n) b = st'.2.1 b
      rw [pk_un e]
      exact i1 b (by omega)
theorem cpDone {D : va_G} {G : GA} {a : Nat → Nat} {st st' : CS} {H : Heap} (hP : va_P D vwCl (cw G a (sN (sN (sN (sN (lp (q_cpL st') 3 (lp (q_cpI st') 12 st)) 0 (st'.2.2 0)) 1 (st'.2.2 1)) 2 (st'.2.2 2)) 3 (st'.2.2 3))) H) : va_P D vwCl (cw G a st') H := by
  refine cw_cong hP (fun k hk => ?_) (fun b hb => ?_) (fun i hi => ?_)
  · have h := (cpI_ok st st' 12 (Nat.le_refl 12)).1 k hk
    rw [← h]
    show itm (_, _) k = _
    unfold itm
    show (if k < 12 then (lp (q_cpL st') 3 (lp (q_cpI st') 12 st)).1 k else nb) = _
    rw [(cpL_ok (lp (q_cpI st') 12 st) st' 3).2]
  · exact (cpL_ok (lp (q_cpI st') 12 st) st' 3).1 b hb
  · rcases (show i = 0 ∨ i = 1 ∨ i = 2 ∨ i = 3 by omega) with rfl | rfl | rfl | rfl <;> rfl
abbrev I2p (D : va_G) (G : GA) (h : Nat) (f : Nat → Int32) (h' : Nat) (f' : Nat → Int32) (sz : Nat) (U : State) : Prop := U.heap.size = sz ∧ va_P D vwCl [itC h f, itC h' f'] U.heap ∧ KK D G U ∧ h ≠ h'
theorem pv_i2 {s : State} {H : Heap} {D : va_G} {G : GA} {h h' : Nat} {f f' : Nat → Int32} {As : List Value} {ws ws' : va_W} {k k' : Nat} (hK : KK D G s) (hP : va_P D vwCl ws H) (hP' : va_P D vwCl ws' H) (hk : ws[k]? = some (itC h f)) (hk' : ws'[k']? = some (itC h' f')) (hne : h ≠ h') : PreV s H RX4 h (va_Pc (.ref h :: As) (I2p D G h f h' f' H.size)) As :=
  ⟨fun A U g mk q => ⟨q.1, q.2.1, q.2.2.1, va_K.moved (Vm.Alike.refl U.vm) q.2.2.2.1, q.2.2.2.2⟩, va_recv hK hP (ci := 6) (q0 := k) rfl hk, fun U hU hW => ⟨rfl, by rw [hU], by rw [hU]; exact P_two hP hP' hk hk', va_K.moved hW.alike hK, hne⟩⟩
abbrev CCp (D : va_G) (G : GA) (a : Nat → Nat) (st : CS) (a' : Nat → Nat) (st' : CS) (sz : Nat) (U : State) : Prop := U.heap.size = sz ∧ va_P D vwCl (cw G a st) U.heap ∧ va_P D vwCl (cw G a' st') U.heap ∧ KK D G U ∧ va_D (fun _ => True) (cw G a st ++ cw G a' st')
theorem pv_cc {s : State} {H : Heap} {D : va_G} {G : GA} {A : Nat → Prop} {a a' : Nat → Nat} {st st' : CS} {As : List Value} (hK : KK D G s) (hP : va_P D vwCl (cw G a st) H) (hP' : va_P D vwCl (cw G a' st') H) (hD : va_D A (cw G a st ++ cw G a' st')) : PreV s H RX1 (a 0) (va_Pc (.ref (a 0) :: As) (CCp D G a st a' st' H.size)) As :=
  ⟨fun A U g mk q => ⟨q.1, q.2.1, q.2.2.1, q.2.2.2.1, va_K.moved (Vm.Alike.refl U.vm) q.2.2.2.2.1, q.2.2.2.2.2⟩, va_recv hK hP (ci := 4) (q0 := 0) rfl rfl, fun U hU hW => ⟨rfl, by rw [hU], by rw [hU]; exact hP, by rw [hU]; exact hP', va_K.moved hW.alike hK, hD.weaken (fun _ _ _ _ => trivial)⟩⟩
