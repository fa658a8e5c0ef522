/-! THE HISTORY: its head (the object, its row), and eight cargos -/
def hHd (G : GA) (q1 q2 : Nat) (rf : Nat → Option Nat) (n : Int32) : va_W := [(q1, .inr (5, [.ref q2, .int n])), (q2, .inl (G 2, 8, .inr (.inr (.inr (.inr rf)))))]
def HBL (G : GA) (q1 q2 : Nat) (rf : Nat → Option Nat) (n : Int32) (hA : Nat → Nat → Nat) (hS : Nat → CS) : List va_W := hHd G q1 q2 rf n :: (List.range 8).map (fun i => cw G (hA i) (hS i))
def hR (hA : Nat → Nat → Nat) : Nat → Option Nat := fun i => some (hA i 0)
def rot (i : Nat) : Nat := if i < 7 then i + 1 else 0
theorem HBL_i (G : GA) (q1 q2 : Nat) (rf : Nat → Option Nat) (n : Int32) (hA : Nat → Nat → Nat) (hS : Nat → CS) {i : Nat} (hi : i < 8) : (HBL G q1 q2 rf n hA hS)[i + 1]? = some (cw G (hA i) (hS i)) := by
  show ((List.range 8).map (fun i => cw G (hA i) (hS i)))[i]? = _
  rw [List.getElem?_map, List.getElem?_range hi]
  rfl
theorem HBL_set (G : GA) (q1 q2 : Nat) (rf : Nat → Option Nat) (n : Int32) (hA : Nat → Nat → Nat) (hS : Nat → CS) (i : Nat) (x : CS) : (HBL G q1 q2 rf n hA hS).set (i + 1) (cw G (hA i) x) = HBL G q1 q2 rf n hA (va_up hS i x) := by
  show hHd G q1 q2 rf n :: ((List.range 8).map (fun i => cw G (hA i) (hS i))).set i (cw G (hA i) x) = _
  have h := rm_set (fun j => cw G (hA j) (hS j)) (fun j => cw G (hA j) (va_up hS i x j)) 8 i (fun j hj => by
    show cw G (hA j) (va_up hS i x j) = _
    rw [va_up_ne _ _ hj])
  rw [va_up_self] at h
  rw [h]
  rfl
/-- a cell's place in a world of blocks, and its writing -/
theorem set_flat {BL : List va_W} : ∀ {i p : Nat} {C : va_W}, BL[i]? = some C → p < C.length → ∃ k, BL.flatten[k]? = C[p]? ∧ ∀ x, BL.flatten.set k x = (BL.set i (C.set p x)).flatten := by
  induction BL with
  | nil => intro i p C h _; simp at h
  | cons B BL ih =>
    intro i p C hi hp
    cases i with
    | zero =>
      rw [List.getElem?_cons_zero] at hi
      cases hi
      refine ⟨p, ?_, fun x => ?_⟩
      · rw [List.flatten_cons, List.getElem?_append_left hp]
      · rw [List.flatten_cons, List.set_append_left _ _ hp]
        rfl
    | succ i =>
      rw [List.getElem?_cons_succ] at hi
      obtain ⟨k, h1, h2⟩ := ih hi hp
      refine ⟨B.length + k, ?_, fun x => ?_⟩
      · rw [List.flatten_cons, List.getElem?_append_right (Nat.le_add_right _ _), Nat.add_sub_cancel_left, h1]
      · rw [List.flatten_cons, List.set_append_right _ _ (Nat.le_add_right _ _), Nat.add_sub_cancel_left, h2]
        rfl
theorem D_rep2 {D : va_G} {cl : List vw_C} {A : Nat → Prop} {BL : List va_W} {H : Heap} {i : Nat} {C C1 : va_W} (hP : va_P D cl BL.flatten H) (hD : va_D A BL.flatten) (hi : BL[i]? = some C) (hD1 : va_D (va_A C H.size) C1) (hF : ∀ q, va_A C H.size q → A q) : va_D A (BL.set i C1).flatten := by
  have hb : ∀ (j : Nat) (E : va_W), (BL.set i C1)[j]? = some E → (j = i ∧ E = C1) ∨ (j ≠ i ∧ BL[j]? = some E) := by
    intro j E hj
    by_cases hji : j = i
    · subst hji
      rw [List.getElem?_set_self (List.getElem?_eq_some_iff.mp hi).1] at hj
      cases hj
      exact Or.inl ⟨rfl, rfl⟩
    · rw [List.getElem?_set_ne (Ne.symm hji)] at hj
      exact Or.inr ⟨hji, hj⟩
  have hx : ∀ (j : Nat) (E : va_W), j ≠ i → BL[j]? = some E → ∀ p ∈ C1, ∀ q ∈ E, p.1 ≠ q.1 := by
    intro j E hji hj p hp q hq e
    rcases A_mem (D_in hD1 hp) with ⟨r, hr, e2⟩ | h
    · exact dj_blk hD hi hj (Ne.symm hji) r hr q hq (e2.trans e)
    · have := (P_mem (P_blk hP hj) hq).lt
      omega
  refine D_of ?_ (fun q hq => ?_)
  · rw [List.map_flatten]
    unfold List.Nodup
    rw [List.pairwise_flatten]
    refine ⟨fun l hl => ?_, ?_⟩
    · obtain ⟨E, hE, rfl⟩ := List.mem_map.mp hl
      obtain ⟨j, hj⟩ := List.getElem?_of_mem hE
      rcases hb j E hj with ⟨-, rfl⟩ | ⟨-, h⟩
      · exact D_nodup hD1
      · exact D_nodup (D_blk hD h)
    · rw [List.pairwise_iff_getElem]
      intro j k hj hk hjk x hx1 y hy1
      rw [List.getElem_map] at hx1 hy1
      obtain ⟨p, hp, rfl⟩ := List.mem_map.mp hx1
      obtain ⟨q, hq, rfl⟩ := List.mem_map.mp hy1
      have hj' : j < (BL.set i C1).length := by simpa using hj
      have hk' : k < (BL.set i C1).length := by simpa using hk
      rcases hb j _ (List.getElem?_eq_getElem hj') with ⟨e1, h1⟩ | ⟨e1, h1⟩ <;> rcases hb k _ (List.getElem?_eq_getElem hk') with ⟨e2, h2⟩ | ⟨e2, h2⟩
      · omega
      · rw [h1] at hp
        exact hx k _ e2 h2 p hp q hq
      · rw [h2] at hq
        exact fun e => hx j _ e1 h1 q hq p hp e.symm
      · exact dj_blk hD h1 h2 (by omega) p hp q hq
  · obtain ⟨E, hE, hqE⟩ := List.mem_flatten.mp hq
    obtain ⟨j, hj⟩ := List.getElem?_of_mem hE
    rcases hb j E hj with ⟨-, rfl⟩ | ⟨-, h⟩
    · exact hF _ (D_in hD1 hqE)
    · exact D_in (D_blk hD h) hqE
theorem freeB {A0 : Nat → Prop} {BL : List va_W} {H0 H : Heap} {locs : List Loc} {i : Nat} {C : va_W} (hD : va_D A0 BL.flatten) (hi : BL[i]? = some C) (hS : va_S A0 H0 H locs) (hA : ∀ q, H0.size ≤ q → A0 q) : ∀ x, va_A C H.size x → A0 x := freeC (D_blk hD hi) hS hA
/-- the rows of addresses while the oldest is taken to the end -/
def rfR (hA : Nat → Nat → Nat) (k : Nat) : Nat → Option Nat := fun i => if i < k then some (hA (i + 1) 0) else some (hA i 0)
theorem rfR_0 (hA : Nat → Nat → Nat) : rfR hA 0 = hR hA := rfl
theorem rfR_s (hA : Nat → Nat → Nat) (k : Nat) : va_up (rfR hA k) k (some (hA (k + 1) 0)) = rfR hA (k + 1) := by
  funext i
  unfold va_up rfR
  by_cases h : i = k
  · subst h; simp
  · rw [if_neg h]
    by_cases h2 : i < k
    · rw [if_pos h2, if_pos (by omega)]
    · rw [if_neg h2, if_neg (by omega)]
theorem rfR_7 {D : va_G} {G : GA} {q2 : Nat} {hA : Nat → Nat → Nat} {H : Heap} (h : va_at D vwCl (q2, .inl (G 2, 8, .inr (.inr (.inr (.inr (va_up (rfR hA 7) 7 (some (hA 0 0)))))))) H) : va_at D vwCl (q2, .inl (G 2, 8, .inr (.inr (.inr (.inr (hR (fun i => hA (rot i)))))))) H := by
  have h1 : H[q2]? = some (vp_cell (G 2) (8, .inr (.inr (.inr (.inr (va_up (rfR hA 7) 7 (some (hA 0 0)))))))) := h
  show H[q2]? = some (vp_cell (G 2) (8, .inr (.inr (.inr (.inr (hR (fun i => hA (rot i))))))))
  rw [h1, cell_ref (fun j hj => ?_)]
  unfold va_up rfR hR rot
  by_cases e : j = 7
  · subst e; rfl
  · rw [if_neg e, if_pos (by omega)]
    show some (hA (j + 1) 0) = some (hA (if j < 7 then j + 1 else 0) 0)
    rw [if_pos (by omega)]
theorem rotP {D : va_G} {G : GA} {q1 q2 : Nat} {n : Int32} {hA : Nat → Nat → Nat} {hS : Nat → CS} {H : Heap} (hP : va_P D vwCl (HBL G q1 q2 (va_up (rfR hA 7) 7 (some (hA 0 0))) n hA hS).flatten H) : va_P D vwCl (HBL G q1 q2 (hR (fun i => hA (rot i))) n (fun i => hA (rot i)) (fun i => hS (rot i))).flatten H := by
  refine P_of (fun q hq => ?_)
  obtain ⟨E, hE, hqE⟩ := List.mem_flatten.mp hq
  rcases List.mem_cons.mp hE with rfl | hE
  · have h0 := P_blk hP (i := 0) rfl
    rcases List.mem_cons.mp hqE with rfl | hqE
    · exact h0 0 _ rfl
    · rw [List.mem_singleton.mp hqE]
      exact rfR_7 (h0 1 _ rfl)
  · obtain ⟨i, hi, rfl⟩ := List.mem_map.mp hE
    have hi := List.mem_range.mp hi
    have hr : rot i < 8 := by unfold rot; split <;> omega
    exact P_mem (P_blk hP (HBL_i G q1 q2 _ n hA hS hr)) hqE
theorem rotD {A : Nat → Prop} {G : GA} {q1 q2 : Nat} {rf rf' : Nat → Option Nat} {n n' : Int32} {hA : Nat → Nat → Nat} {hS hS' : Nat → CS} (hD : va_D A (HBL G q1 q2 rf n hA hS).flatten) : va_D A (HBL G q1 q2 rf' n' (fun i => hA (rot i)) hS').flatten := by
  have e1 : ((HBL G q1 q2 rf n hA hS).flatten).map (·.1) = ([q1, q2] : List Nat) ++ ([0].map (fun i => (cw G (hA i) (hS 0)).map (·.1))).flatten ++ ([1, 2, 3, 4, 5, 6, 7].map (fun i => (cw G (hA i) (hS 0)).map (·.1))).flatten := by
    rw [List.map_flatten]
    rfl
  have e2 : ((HBL G q1 q2 rf' n' (fun i => hA (rot i)) hS').flatten).map (·.1) = ([q1, q2] : List Nat) ++ ([1, 2, 3, 4, 5, 6, 7].map (fun i => (cw G (hA i) (hS 0)).map (·.1))).flatten ++ ([0].map (fun i => (cw G (hA i) (hS 0)).map (·.1))).flatten := by
    rw [List.map_flatten]
    rfl
  have hp : (((HBL G q1 q2 rf' n' (fun i => hA (rot i)) hS').flatten).map (·.1)).Perm (((HBL G q1 q2 rf n hA hS).flatten).map (·.1)) := by
    rw [e1, e2, List.append_assoc, List.append_assoc]
    exact (List.perm_append_comm).append_left _
  refine D_of (hp.nodup_iff.mpr (D_nodup hD)) (fun q hq => ?_)
  have h1 : q.1 ∈ ((HBL G q1 q2 rf n hA hS).flatten).map (·.1) := hp.subset (List.mem_map_of_mem hq)
  obtain ⟨r, hr, e⟩ := List.mem_map.mp h1
  rw [← e]
  exact D_in hD hr
def pA (hA : Nat → Nat → Nat) (k : Nat) : Nat → Nat → Nat := if k < 8 then hA else fun i => hA (rot i)
def pS (hS : Nat → CS) (k : Nat) (st : CS) : Nat → CS := if k < 8 then va_up hS k st else va_up (fun i => hS (rot i)) 7 st
def pN (k : Nat) : Nat := if k < 8 then k + 1 else 8
abbrev HMp (D : va_G) (G : GA) (q1 q2 : Nat) (hA : Nat → Nat → Nat) (hS : Nat → CS) (n : Int32) (sz : Nat) (U : State) : Prop := U.heap.size = sz ∧ va_P D vwCl (HBL G q1 q2 (hR hA) n hA hS).flatten U.heap ∧ KK D G U ∧ va_D (fun _ => True) (HBL G q1 q2 (hR hA) n hA hS).flatten
abbrev HPp (D : va_G) (G : GA) (q1 q2 : Nat) (hA : Nat → Nat → Nat) (hS : Nat → CS) (n : Int32) (a : Nat → Nat) (st : CS) (sz : Nat) (U : State) : Prop := U.heap.size = sz ∧ va_P D vwCl (HBL G q1 q2 (hR hA) n hA hS).flatten U.heap ∧ KK D G U ∧ va_D (fun _ => True) (HBL G q1 q2 (hR hA) n hA hS).flatten ∧ va_P D vwCl (cw G a st) U.heap ∧ va_D (fun _ => True) (cw G a st) ∧ ∀ p ∈ (HBL G q1 q2 (hR hA) n hA hS).flatten, ∀ q ∈ cw G a st, p.1 ≠ q.1
abbrev HOp (D : va_G) (G : GA) (q1 q2 : Nat) (hA : Nat → Nat → Nat) (hS : Nat → CS) (n : Int32) (a : Nat → Nat) (st : CS) (sz : Nat) (U : State) : Prop := U.heap.size = sz ∧ va_P D vwCl (HBL G q1 q2 (hR hA) n hA hS ++ [cw G a st]).flatten U.heap ∧ KK D G U ∧ va_D (fun _ => True) (HBL G q1 q2 (hR hA) n hA hS ++ [cw G a st]).flatten
theorem pv_hm {s : State} {H : Heap} {D : va_G} {G : GA} {A : Nat → Prop} {q1 q2 : Nat} {hA : Nat → Nat → Nat} {hS : Nat → CS} {n : Int32} {As : List Value} (hK : KK D G s) (hP : va_P D vwCl (HBL G q1 q2 (hR hA) n hA hS).flatten H) (hD : va_D A (HBL G q1 q2 (hR hA) n hA hS).flatten) : PreV s H RX3 q1 (va_Pc (.ref q1 :: As) (HMp D G q1 q2 hA hS n H.size)) As :=
  ⟨fun A U g mk q => ⟨q.1, q.2.1, q.2.2.1, va_K.moved (Vm.Alike.refl U.vm) q.2.2.2.1, q.2.2.2.2⟩, va_recv hK (P_blk hP (i := 0) rfl) (ci := 5) (q0 := 0) rfl rfl, fun U hU hW => ⟨rfl, by rw [hU], by rw [hU]; exact hP, va_K.moved hW.alike hK, hD.weaken (fun _ _ _ _ => trivial)⟩⟩
theorem pv_hp {s : State} {H : Heap} {D : va_G} {G : GA} {A : Nat → Prop} {q1 q2 : Nat} {hA : Nat → Nat → Nat} {hS : Nat → CS} {n : Int32} {a : Nat → Nat} {st : CS} {As : List Value} (hK : KK D G s) (hP : va_P D vwCl (HBL G q1 q2 (hR hA) n hA hS).flatten H) (hD : va_D A (HBL G q1 q2 (hR hA) n hA hS).flatten) (hO : va_P D vwCl (cw G a st) H) (hDe : va_D A (cw G a st)) (hdj : ∀ p ∈ (HBL G q1 q2 (hR hA) n hA hS).flatten, ∀ q ∈ cw G a st, p.1 ≠ q.1) : PreV s H RX3 q1 (va_Pc (.ref q1 :: As) (HPp D G q1 q2 hA hS n a st H.size)) As :=
  ⟨fun A U g mk q => ⟨q.1, q.2.1, q.2.2.1, va_K.moved (Vm.Alike.refl U.vm) q.2.2.2.1, q.2.2.2.2⟩, va_recv hK (P_blk hP (i := 0) rfl) (ci := 5) (q0 := 0) rfl rfl, fun U hU hW => ⟨rfl, by rw [hU], by rw [hU]; exact hP, va_K.moved hW.alike hK, hD.weaken (fun _ _ _ _ => trivial), by rw [hU]; exact hO, hDe.weaken (fun _ _ _ _ => trivial), hdj⟩⟩
theorem pv_ho {s : State} {H : Heap} {D : va_G} {G : GA} {A : Nat → Prop} {q1 q2 : Nat} {hA : Nat → Nat → Nat} {hS : Nat → CS} {n : Int32} {a : Nat → Nat} {st : CS} {As : List Value} (hK : KK D G s) (hP : va_P D vwCl (HBL G q1 q2 (hR hA) n hA hS ++ [cw G a st]).flatten H) (hD : va_D A (HBL G q1 q2 (hR hA) n hA hS ++ [cw G a st]).flatten) : PreV s H RX3 q1 (va_Pc (.ref q1 :: As) (HOp D G q1 q2 hA hS n a st H.size)) As :=
  ⟨fun A U g mk q => ⟨q.1, q.2.1, q.2.2.1, va_K.moved (Vm.Alike.refl U.vm) q.2.2.2.1, q.2.2.2.2⟩, va_recv hK (P_blk hP (i := 0) rfl) (ci := 5) (q0 := 0) rfl rfl, fun U hU hW => ⟨rfl, by rw [hU], by rw [hU]; exact hP, va_K.moved hW.alike hK, hD.weaken (fun _ _ _ _ => trivial)⟩⟩
theorem i_X3 : ∀ w ∈ u_ws RX3 TX3 2, w ∈ tb := by decide +kernel
theorem gw_X3_25 : GoodIn tb (wsV RX3 25 RX1 yX1_copyFrom (wA yX1_copyFrom cX1_copyFrom 3 none)) := gV kw_499 kw_315 kw_316 kw_25 kw_317
theorem gw_X3_22 : GoodIn tb (wsV RX3 22 RX3 yX3_forgetOldest (wA yX3_forgetOldest cX3_forgetOldest 3 none)) := gV kw_495 kw_497 kw_1 kw_27 kw_498
set_option maxRecDepth 100000 in
set_option maxHeartbeats 4000000 in
theorem c_X3_forgetOldest (l : Launch) (D : va_G) (G : GA) (q1 q2 : Nat) (hA : Nat → Nat → Nat) (hS : Nat → CS) (k : Nat) (hk : k ≤ 8) (sz : Nat) : Met l yX3_forgetOldest (wA yX3_forgetOldest cX3_forgetOldest 3 none) ({ frames := 0, cells := 0, slots := 0, locals := 0 } : Room) (va_Pc [.ref q1] (HMp D G q1 q2 hA hS (nI k) sz)) (va_Qv (fun _ : Unit => True) (fun _ t9 => va_P D vwCl (HBL G q1 q2 (hR (fun i => hA (rot i))) (nI 7) (fun i => hA (rot i)) (fun i => hS (rot i))).flatten t9.heap) (va_A (HBL G q1 q2 (hR hA) (nI k) hA hS).flatten sz)) 0 0 (va_A (HBL G q1 q2 (hR hA) (nI k) hA hS).flatten sz) := by
  refine Met.ofW (cc := cX3_forgetOldest) (maxL := 3) (ret := none) (by decide) rfl ?_
  intro p e s m args below meth c s₁ B hml hv
  obtain ⟨rfl, hsz, hP, hK, hD0⟩ := hv
  have hx := B.exec
  have hb := B.bytes
  have hr := B.returns
  have hts : ∀ w9 ∈ tb, w9.before ([.ref q1] : List Value).toArray s = true := fun w9 h9 => atoms_spec (ws := (wA yX3_forgetOldest cX3_forgetOldest 3 none)) B.pre w9 (List.mem_cons_of_mem _ h9)
  have hown : s.vm.findClass RX3 = some m.cls := findClass_of_methodNamed B.named
  have hlocks := B.notSynchronized
  subst hsz
  have hD := hD0.self (sz := s.heap.size)
  generalize hAe : (va_A (HBL G q1 q2 (hR hA) (nI k) hA hS).flatten s.heap.size) = A at hD ⊢
  have hA0 : ∀ q : Nat, s.heap.size ≤ q → A q := fun q h => by rw [← hAe]; exact Or.inr h
  have hS0 : va_S A s.heap s.heap [] := va_S.rf
  have hl := lv_entry ([.ref q1]) (n := 3) (Nat.le_of_ble_eq_true rfl)
  rw [lg_entry_eq]
  generalize (lg_sl ([.ref q1]) ++ List.replicate (3 - (lg_sl ([.ref q1])).length) Slot.unset).toArray = ls at hl ⊢
  have hl : lv_has ls 3 [(0, .ref q1)] := hl
  refine lv_aload_n hx hb dX3_forgetOldest_0 rfl (lv_at hl 0 rfl) ?_
  refine va_get (D := D) (ci := 5) (v := .ref q2) (C := RX3) (T := TX3) (N := 2) hx hb hts i_X3 hown hK (P_blk hP (i := 0) rfl) 0 rfl rfl 0 (by decide) (hts _ kw_153) (fun _ h9 => h9) rfl dX3_forgetOldest_1 ?_
  refine lv_iconst (v := 0) hx hb dX3_forgetOldest_4 (by decide) ?_
  refine va_aldq hx hb hK (P_blk hP (i := 0) rfl) 1 2 rfl rfl (vp_in_nI (n := 0) (by omega) (by decide)) dX3_forgetOldest_5 ?_
  refine lv_astore_n (x := (hA 0 0)) (lv' := [(1, .ref (hA 0 0)), (0, .ref q1)]) hx hb dX3_forgetOldest_6 rfl hl (by decide) rfl (fun ls hl => ?_)
  refine lv_iconst (v := 1) hx hb dX3_forgetOldest_7 (by decide) ?_
  refine lv_istore_n (lv' := [(2, .int 1), (1, .ref (hA 0 0)), (0, .ref q1)]) hx hb dX3_forgetOldest_8 rfl hl (by decide) rfl (fun ls hl => ?_)
  generalize hn0 : nI k = n0 at hP hD
  clear hn0 hk
  have L9 : ∀ (n k : Nat), k + n = 7 → ∀ (H : Heap) (locs : List Loc), va_P D vwCl (HBL G q1 q2 (rfR hA k) n0 hA hS).flatten H → va_D A (HBL G q1 q2 (rfR hA k) n0 hA hS).flatten → va_S A s.heap H locs → ∀ ls : Array Slot, lv_has ls 3 [(2, .int (nI (k + 1))), (1, .ref (hA 0 0)), (0, .ref q1)] → W p l e (headSpec (wA yX3_forgetOldest cX3_forgetOldest 3 none) ({ frames := 0, cells := 0, slots := 0, locals := 0 } : Room)).room s m ([.ref q1] : List Value).toArray below meth c H locs 0 0 (MQ below (va_Qv (fun _ : Unit => True) (fun _ t9 => va_P D vwCl (HBL G q1 q2 (hR (fun i => hA (rot i))) (nI 7) (fun i => hA (rot i)) (fun i => hS (rot i))).flatten t9.heap) A) ([.ref q1] : List Value).toArray s 0 0 A) (F0 m 9 ls []) := by
    intro n
    induction n with
    | zero =>
      intro k hk0 H locs hP hD hS0 ls hl
      obtain rfl : k = 7 := by omega
      refine lv_iload_n hx hb dX3_forgetOldest_9 rfl (lv_at hl 0 rfl) ?_
      refine lv_bipush (v := 8) hx hb dX3_forgetOldest_10 (by decide) ?_
      refine lv_icmp_ge (tgt := 35) hx hb dX3_forgetOldest_12 (by decide) (fun _ => ?_) (fun c_1 => absurd (by decide) c_1)
      refine lv_aload_n hx hb dX3_forgetOldest_35 rfl (lv_at hl 2 rfl) ?_
      refine va_get (D := D) (ci := 5) (v := .ref q2) (C := RX3) (T := TX3) (N := 2) hx hb hts i_X3 hown hK (P_blk hP (i := 0) rfl) 0 rfl rfl 0 (by decide) (hts _ kw_153) (fun _ h9 => h9) rfl dX3_forgetOldest_36 ?_
      refine lv_bipush (v := 7) hx hb dX3_forgetOldest_39 (by decide) ?_
      refine lv_aload_n hx hb dX3_forgetOldest_41 rfl (lv_at hl 1 rfl) ?_
      obtain ⟨k7, hk7⟩ : ∃ k7, (HBL G q1 q2 (rfR hA 7) n0 hA hS).flatten[k7]? = some ((hA 0 0, .inr (4, cwN (hA 0) (hS 0))) : Nat × va_E) := List.getElem?_of_mem (List.mem_flatten.mpr ⟨_, List.mem_of_getElem? (HBL_i G q1 q2 _ _ hA hS (i := 0) (by omega)), List.mem_cons_self⟩)
      obtain ⟨k9, hk8, hk9⟩ := set_flat (BL := HBL G q1 q2 (rfR hA 7) n0 hA hS) (i := 0) (p := 1) rfl (Nat.le_of_ble_eq_true rfl)
      refine va_astq hx hb hK hP hD hS0 k9 2 k7 4 hk8 rfl hk7 rfl (vp_in_nI (n := 7) (by omega) (by decide)) dX3_forgetOldest_42 (fun H locs hP hD hS0 => ?_)
      rw [hk9] at hP hD
      have hP : va_P D vwCl (HBL G q1 q2 (va_up (rfR hA 7) 7 (some (hA 0 0))) n0 hA hS).flatten H := hP
      have hD : va_D A (HBL G q1 q2 (va_up (rfR hA 7) 7 (some (hA 0 0))) n0 hA hS).flatten := hD
      refine lv_aload_n hx hb dX3_forgetOldest_43 rfl (lv_at hl 2 rfl) ?_
      refine lv_bipush (v := 7) hx hb dX3_forgetOldest_44 (by decide) ?_
      obtain ⟨k9, hk8, hk9⟩ := set_flat (BL := HBL G q1 q2 (va_up (rfR hA 7) 7 (some (hA 0 0))) n0 hA hS) (i := 0) (p := 0) rfl (Nat.le_of_ble_eq_true rfl)
      refine va_put (D := D) (ci := 5) (v := .int 7) (ty := .int) (C := RX3) (T := TX3) (N := 2) hx hb hts i_X3 tyX3 tyX3_ok nmX3 hown hK hP hD hS0 k9 hk8 rfl 1 (by decide) (hts _ kw_154) (fun _ h9 => h9) rfl (by decide +kernel) rfl rfl (Nat.le_of_ble_eq_true rfl) dX3_forgetOldest_46 (fun H locs hP hD hS0 => ?_)
      rw [hk9] at hP hD
      have hP : va_P D vwCl (HBL G q1 q2 (va_up (rfR hA 7) 7 (some (hA 0 0))) 7 hA hS).flatten H := hP
      have hD : va_D A (HBL G q1 q2 (va_up (rfR hA 7) 7 (some (hA 0 0))) 7 hA hS).flatten := hD
      have hP := rotP hP
      exact W.vret hx hb hr (fun t ht hW => ⟨⟨(), rfl, trivial, by show va_P D vwCl _ t.heap; rw [ht]; exact hP⟩, hS0.F ht⟩) hS0.2.2 dX3_forgetOldest_49
    | succ n ih =>
      intro k hk0 H locs hP hD hS0 ls hl
      have hk12 : k < 7 := by omega
      refine lv_iload_n hx hb dX3_forgetOldest_9 rfl (lv_at hl 0 rfl) ?_
      refine lv_bipush (v := 8) hx hb dX3_forgetOldest_10 (by decide) ?_
      refine lv_icmp_ge (tgt := 35) hx hb dX3_forgetOldest_12 (by decide) (fun c_2 => absurd c_2 (nI_ge (a := k + 1) (b := 8) (by omega) (by decide))) (fun _ => ?_)
      refine lv_aload_n hx hb dX3_forgetOldest_15 rfl (lv_at hl 2 rfl) ?_
      refine va_get (D := D) (ci := 5) (v := .ref q2) (C := RX3) (T := TX3) (N := 2) hx hb hts i_X3 hown hK (P_blk hP (i := 0) rfl) 0 rfl rfl 0 (by decide) (hts _ kw_153) (fun _ h9 => h9) rfl dX3_forgetOldest_16 ?_
      refine lv_iload_n hx hb dX3_forgetOldest_19 rfl (lv_at hl 0 rfl) ?_
      refine lv_iconst (v := 1) hx hb dX3_forgetOldest_20 (by decide) ?_
      refine lv_isub hx hb dX3_forgetOldest_21 ?_
      refine lv_aload_n hx hb dX3_forgetOldest_22 rfl (lv_at hl 2 rfl) ?_
      refine va_get (D := D) (ci := 5) (v := .ref q2) (C := RX3) (T := TX3) (N := 2) hx hb hts i_X3 hown hK (P_blk hP (i := 0) rfl) 0 rfl rfl 0 (by decide) (hts _ kw_153) (fun _ h9 => h9) rfl dX3_forgetOldest_23 ?_
      refine lv_iload_n hx hb dX3_forgetOldest_26 rfl (lv_at hl 0 rfl) ?_
      refine va_aldq hx hb hK (P_blk hP (i := 0) rfl) 1 2 rfl rfl (vp_in_nI (n := k + 1) (by omega) (by decide)) dX3_forgetOldest_27 ?_
      rw [nI_clamp (n := k + 1) (by omega)]
      rw [show (rfR hA k) (k + 1) = some (hA (k + 1) 0) from by unfold rfR; rw [if_neg (by omega)]]
      rw [nI_pred k]
      obtain ⟨k7, hk7⟩ : ∃ k7, (HBL G q1 q2 (rfR hA k) n0 hA hS).flatten[k7]? = some ((hA (k + 1) 0, .inr (4, cwN (hA (k + 1)) (hS (k + 1)))) : Nat × va_E) := List.getElem?_of_mem (List.mem_flatten.mpr ⟨_, List.mem_of_getElem? (HBL_i G q1 q2 _ _ hA hS (i := k + 1) (by omega)), List.mem_cons_self⟩)
      obtain ⟨k9, hk8, hk9⟩ := set_flat (BL := HBL G q1 q2 (rfR hA k) n0 hA hS) (i := 0) (p := 1) rfl (Nat.le_of_ble_eq_true rfl)
      refine va_astq hx hb hK hP hD hS0 k9 2 k7 4 hk8 rfl hk7 rfl (vp_in_nI (n := k) (by omega) (by decide)) dX3_forgetOldest_28 (fun H locs hP hD hS0 => ?_)
      rw [nI_clamp (n := k) (by omega)] at hP hD
      rw [hk9] at hP hD
      have hP : va_P D vwCl (HBL G q1 q2 (va_up (rfR hA k) k (some (hA (k + 1) 0))) n0 hA hS).flatten H := hP
      have hD : va_D A (HBL G q1 q2 (va_up (rfR hA k) k (some (hA (k + 1) 0))) n0 hA hS).flatten := hD
      refine lv_iinc (v := nI (k + 1 + 1)) (lv' := [(2, .int (nI (k + 1 + 1))), (1, .ref (hA 0 0)), (0, .ref q1)]) hx hb dX3_forgetOldest_29 hl (k := 0) rfl (by exact nI_1 (k + 1)) (by decide) rfl (fun ls hl => ?_)
      refine lv_goto (tgt := 9) hx hb dX3_forgetOldest_32 (by decide) ?_
      rw [rfR_s] at hP hD
      exact ih (k + 1) (by omega) _ _ hP hD hS0 ls (lv_sub hl [0, 1, 2] rfl)
  exact L9 7 0 rfl _ _ hP hD hS0 ls (lv_sub hl [0, 1, 2] rfl)
set_option maxRecDepth 100000 in
set_option maxHeartbeats 4000000 in
theorem c_X3_push (l : Launch) (D : va_G) (G : GA) (q1 q2 : Nat) (hA : Nat → Nat → Nat) (hS : Nat → CS) (k : Nat) (hk : k ≤ 8) (a : Nat → Nat) (st : CS) (sz : Nat) : Met l yX3_push (wA yX3_push cX3_push 2 none) ({ frames := 2, cells := 0, slots := 0, locals := 43 } : Room) (va_Pc [.ref q1, .ref (a 0)] (HPp D G q1 q2 hA hS (nI k) a st sz)) (va_Qv (fun _ : Unit => True) (fun _ t9 => va_P D vwCl (HBL G q1 q2 (hR (pA hA k)) (nI (pN k)) (pA hA k) (pS hS k st)).flatten t9.heap) (va_A (HBL G q1 q2 (hR hA) (nI k) hA hS).flatten sz)) 0 0 (va_A (HBL G q1 q2 (hR hA) (nI k) hA hS).flatten sz) := by
  refine Met.ofW (cc := cX3_push) (maxL := 2) (ret := none) (by decide) rfl ?_
  intro p e s m args below meth c s₁ B hml hv
  obtain ⟨rfl, hsz, hP, hK, hD0, hO, hDe, hdj⟩ := hv
  have hx := B.exec
  have hb := B.bytes
  have hr := B.returns
  have hts : ∀ w9 ∈ tb, w9.before ([.ref q1, .ref (a 0)] : List Value).toArray s = true := fun w9 h9 => atoms_spec (ws := (wA yX3_push cX3_push 2 none)) B.pre w9 (List.mem_cons_of_mem _ h9)
  have hown : s.vm.findClass RX3 = some m.cls := findClass_of_methodNamed B.named
  have hlocks := B.notSynchronized
  subst hsz
  have hD := hD0.self (sz := s.heap.size)
  have hno : ∀ q ∈ cw G a st, ¬ va_A (HBL G q1 q2 (hR hA) (nI k) hA hS).flatten s.heap.size q.1 := fun q hq hA9 => by
    rcases A_mem hA9 with ⟨p9, hp9, e9⟩ | h9
    · exact hdj p9 hp9 q hq e9
    · exact absurd ((P_mem hO hq).lt) (Nat.not_lt.mpr h9)
  generalize hAe : (va_A (HBL G q1 q2 (hR hA) (nI k) hA hS).flatten s.heap.size) = A at hD hno ⊢
  have hA0 : ∀ q : Nat, s.heap.size ≤ q → A q := fun q h => by rw [← hAe]; exact Or.inr h
  have hS0 : va_S A s.heap s.heap [] := va_S.rf
  have hl := lv_entry ([.ref q1, .ref (a 0)]) (n := 2) (Nat.le_of_ble_eq_true rfl)
  rw [lg_entry_eq]
  generalize (lg_sl ([.ref q1, .ref (a 0)]) ++ List.replicate (2 - (lg_sl ([.ref q1, .ref (a 0)])).length) Slot.unset).toArray = ls at hl ⊢
  have hl : lv_has ls 2 [(0, .ref q1), (1, .ref (a 0))] := hl
  refine lv_aload_n hx hb dX3_push_0 rfl (lv_at hl 0 rfl) ?_
  refine va_get (D := D) (ci := 5) (v := .int (nI k)) (C := RX3) (T := TX3) (N := 2) hx hb hts i_X3 hown hK (P_blk hP (i := 0) rfl) 0 rfl rfl 1 (by decide) (hts _ kw_154) (fun _ h9 => h9) rfl dX3_push_1 ?_
  refine lv_bipush (v := 8) hx hb dX3_push_4 (by decide) ?_
  refine lv_icmp_lt (tgt := 13) hx hb dX3_push_6 (by decide) (fun c_1 => ?_) (fun c_1 => ?_)
  · have hk8 : k < 8 := (nI_ltI (by omega) (by decide)).mp (show nI k < nI 8 from c_1)
    rw [pA, pS, pN, if_pos hk8, if_pos hk8, if_pos hk8]
    refine lv_aload_n hx hb dX3_push_13 rfl (lv_at hl 0 rfl) ?_
    refine va_get (D := D) (ci := 5) (v := .ref q2) (C := RX3) (T := TX3) (N := 2) hx hb hts i_X3 hown hK (P_blk hP (i := 0) rfl) 0 rfl rfl 0 (by decide) (hts _ kw_153) (fun _ h9 => h9) rfl dX3_push_14 ?_
    refine lv_aload_n hx hb dX3_push_17 rfl (lv_at hl 0 rfl) ?_
    refine va_get (D := D) (ci := 5) (v := .int (nI k)) (C := RX3) (T := TX3) (N := 2) hx hb hts i_X3 hown hK (P_blk hP (i := 0) rfl) 0 rfl rfl 1 (by decide) (hts _ kw_154) (fun _ h9 => h9) rfl dX3_push_18 ?_
    refine va_aldq hx hb hK (P_blk hP (i := 0) rfl) 1 2 rfl rfl (vp_in_nI (n := k) (by omega) (by decide)) dX3_push_21 ?_
    rw [nI_clamp (n := k) (by omega)]
    refine lv_aload_n hx hb dX3_push_22 rfl (lv_at hl 1 rfl) ?_
    have hbi := HBL_i G q1 q2 (hR hA) (nI k) hA hS (i := k) (by omega)
    have hPb : va_P D vwCl (cw G (hA k) (hS k)) s.heap := P_blk hP hbi
    have hPe := P_S hO hno hS0
    have hDc : va_D (fun _ => True) (cw G (hA k) (hS k) ++ cw G a st) := D_app ((D_blk hD hbi).weaken (fun _ _ _ _ => trivial)) hDe (fun p9 hp9 q9 hq9 e9 => hno q9 hq9 (by rw [← e9]; exact D_in (D_blk hD hbi) hp9))
    have hFc := freeB hD hbi hS0 hA0
    refine va_callv (va_runV (As := [.ref (a 0)]) (rest := []) ⟨hx, hb, hml, hown, hts⟩ (c_X1_copyFrom l D G (hA k) (hS k) a st s.heap.size) (cwV 1 hts gw_X3_25 rfl rfl rfl (by decide +kernel) ⟨Nat.le_of_ble_eq_true rfl, Nat.le_of_ble_eq_true rfl⟩) (pv_cc hK hPb hPe hDc) rfl rfl hl.1 rfl (lv_room (Nat.le_of_ble_eq_true rfl)) dX3_push_23 ⟨Nat.le_of_ble_eq_true rfl, Nat.le_of_ble_eq_true rfl⟩) hS0 (fun q _ h => hFc q h) hFc (fun u t H1 locs ht hvm hw hB hz1 hk1 hS0 => ?_)
    have hB : va_P D vwCl (cw G (hA k) st) H1 := by have h9 := hB; rw [ht] at h9; exact h9
    have hP := P_rep hP hD hbi hk1 hB
    have hD := D_rep (C1 := cw G (hA k) st) hD hbi (cw_addr G _ _ _)
    have hP : va_P D vwCl (HBL G q1 q2 (hR hA) (nI k) hA (va_up hS k st)).flatten H1 := by rw [← HBL_set G q1 q2 (hR hA) (nI k) hA hS k st]; exact hP
    have hD : va_D A (HBL G q1 q2 (hR hA) (nI k) hA (va_up hS k st)).flatten := by rw [← HBL_set G q1 q2 (hR hA) (nI k) hA hS k st]; exact hD
    obtain ⟨H, rfl⟩ : ∃ z, z = H1 := ⟨_, rfl⟩
    refine lv_aload_n hx hb dX3_push_26 rfl (lv_at hl 0 rfl) ?_
    refine lv_dup hx hb dX3_push_27 rfl ?_
    refine va_get (D := D) (ci := 5) (v := .int (nI k)) (C := RX3) (T := TX3) (N := 2) hx hb hts i_X3 hown hK (P_blk hP (i := 0) rfl) 0 rfl rfl 1 (by decide) (hts _ kw_154) (fun _ h9 => h9) rfl dX3_push_28 ?_
    refine lv_iconst (v := 1) hx hb dX3_push_31 (by decide) ?_
    refine lv_iadd hx hb dX3_push_32 ?_
    obtain ⟨k9, hk8, hk9⟩ := set_flat (BL := HBL G q1 q2 (hR hA) (nI k) hA (va_up hS k st)) (i := 0) (p := 0) rfl (Nat.le_of_ble_eq_true rfl)
    refine va_put (D := D) (ci := 5) (v := .int ((nI k) + 1)) (ty := .int) (C := RX3) (T := TX3) (N := 2) hx hb hts i_X3 tyX3 tyX3_ok nmX3 hown hK hP hD hS0 k9 hk8 rfl 1 (by decide) (hts _ kw_154) (fun _ h9 => h9) rfl (by decide +kernel) rfl rfl (Nat.le_of_ble_eq_true rfl) dX3_push_33 (fun H locs hP hD hS0 => ?_)
    rw [hk9] at hP hD
    have hP : va_P D vwCl (HBL G q1 q2 (hR hA) ((nI k) + 1) hA (va_up hS k st)).flatten H := hP
    have hD : va_D A (HBL G q1 q2 (hR hA) ((nI k) + 1) hA (va_up hS k st)).flatten := hD
    have hP : va_P D vwCl (HBL G q1 q2 (hR hA) (nI (k + 1)) hA (va_up hS k st)).flatten H := by have h9 := hP; rw [nI_1 k] at h9; exact h9
    exact W.vret hx hb hr (fun t ht hW => ⟨⟨(), rfl, trivial, by show va_P D vwCl _ t.heap; rw [ht]; exact hP⟩, hS0.F ht⟩) hS0.2.2 dX3_push_36
  · have hk8 : ¬ k < 8 := fun h9 => c_1 (show nI k < nI 8 from nI_lt h9 (by decide))
    rw [pA, pS, pN, if_neg hk8, if_neg hk8, if_neg hk8]
    refine lv_aload_n hx hb dX3_push_9 rfl (lv_at hl 0 rfl) ?_
    have hFc := freeC hD hS0 hA0
    refine va_callv (va_runV (As := []) (rest := []) ⟨hx, hb, hml, hown, hts⟩ (c_X3_forgetOldest l D G q1 q2 hA hS k hk s.heap.size) (cwV 0 hts gw_X3_22 rfl rfl rfl (by decide +kernel) ⟨Nat.le_of_ble_eq_true rfl, Nat.le_of_ble_eq_true rfl⟩) (pv_hm hK hP hD) rfl rfl hl.1 rfl (lv_room (Nat.le_of_ble_eq_true rfl)) dX3_push_10 ⟨Nat.le_of_ble_eq_true rfl, Nat.le_of_ble_eq_true rfl⟩) hS0 (fun q _ h => hFc q h) hFc (fun u t H locs ht hvm hw hB hz1 hk1 hS0 => ?_)
    have hP : va_P D vwCl (HBL G q1 q2 (hR (fun i => hA (rot i))) (nI 7) (fun i => hA (rot i)) (fun i => hS (rot i))).flatten H := by have h9 := hB; rw [ht] at h9; exact h9
    have hD : va_D A (HBL G q1 q2 (hR (fun i => hA (rot i))) (nI 7) (fun i => hA (rot i)) (fun i => hS (rot i))).flatten := rotD hD
    refine lv_aload_n hx hb dX3_push_13 rfl (lv_at hl 0 rfl) ?_
    refine va_get (D := D) (ci := 5) (v := .ref q2) (C := RX3) (T := TX3) (N := 2) hx hb hts i_X3 hown hK (P_blk hP (i := 0) rfl) 0 rfl rfl 0 (by decide) (hts _ kw_153) (fun _ h9 => h9) rfl dX3_push_14 ?_
    refine lv_aload_n hx hb dX3_push_17 rfl (lv_at hl 0 rfl) ?_
    refine va_get (D := D) (ci := 5) (v := .int (nI 7)) (C := RX3) (T := TX3) (N := 2) hx hb hts i_X3 hown hK (P_blk hP (i := 0) rfl) 0 rfl rfl 1 (by decide) (hts _ kw_154) (fun _ h9 => h9) rfl dX3_push_18 ?_
    refine va_aldq hx hb hK (P_blk hP (i := 0) rfl) 1 2 rfl rfl (vp_in_nI (n := 7) (by omega) (by decide)) dX3_push_21 ?_
    rw [nI_clamp (n := 7) (by omega)]
    refine lv_aload_n hx hb dX3_push_22 rfl (lv_at hl 1 rfl) ?_
    have hbi := HBL_i G q1 q2 (hR (fun i => hA (rot i))) (nI 7) (fun i => hA (rot i)) (fun i => hS (rot i)) (i := 7) (by omega)
    have hPb : va_P D vwCl (cw G (hA (rot 7)) (hS (rot 7))) H := P_blk hP hbi
    have hPe := P_S hO hno hS0
    have hDc : va_D (fun _ => True) (cw G (hA (rot 7)) (hS (rot 7)) ++ cw G a st) := D_app ((D_blk hD hbi).weaken (fun _ _ _ _ => trivial)) hDe (fun p9 hp9 q9 hq9 e9 => hno q9 hq9 (by rw [← e9]; exact D_in (D_blk hD hbi) hp9))
    have hFc := freeB hD hbi hS0 hA0
    refine va_callv (va_runV (As := [.ref (a 0)]) (rest := []) ⟨hx, hb, hml, hown, hts⟩ (c_X1_copyFrom l D G (hA (rot 7)) (hS (rot 7)) a st H.size) (cwV 1 hts gw_X3_25 rfl rfl rfl (by decide +kernel) ⟨Nat.le_of_ble_eq_true rfl, Nat.le_of_ble_eq_true rfl⟩) (pv_cc hK hPb hPe hDc) rfl rfl hl.1 rfl (lv_room (Nat.le_of_ble_eq_true rfl)) dX3_push_23 ⟨Nat.le_of_ble_eq_true rfl, Nat.le_of_ble_eq_true rfl⟩) hS0 (fun q _ h => hFc q h) hFc (fun u t H1 locs ht hvm hw hB hz1 hk1 hS0 => ?_)
    have hB : va_P D vwCl (cw G (hA (rot 7)) st) H1 := by have h9 := hB; rw [ht] at h9; exact h9
    have hP := P_rep hP hD hbi hk1 hB
    have hD := D_rep (C1 := cw G (hA (rot 7)) st) hD hbi (cw_addr G _ _ _)
    have hP : va_P D vwCl (HBL G q1 q2 (hR (fun i => hA (rot i))) (nI 7) (fun i => hA (rot i)) (va_up (fun i => hS (rot i)) 7 st)).flatten H1 := by rw [← HBL_set G q1 q2 (hR (fun i => hA (rot i))) (nI 7) (fun i => hA (rot i)) (fun i => hS (rot i)) 7 st]; exact hP
    have hD : va_D A (HBL G q1 q2 (hR (fun i => hA (rot i))) (nI 7) (fun i => hA (rot i)) (va_up (fun i => hS (rot i)) 7 st)).flatten := by rw [← HBL_set G q1 q2 (hR (fun i => hA (rot i))) (nI 7) (fun i => hA (rot i)) (fun i => hS (rot i)) 7 st]; exact hD
    obtain ⟨H, rfl⟩ : ∃ z, z = H1 := ⟨_, rfl⟩
    refine lv_aload_n hx hb dX3_push_26 rfl (lv_at hl 0 rfl) ?_
    refine lv_dup hx hb dX3_push_27 rfl ?_
    refine va_get (D := D) (ci := 5) (v := .int (nI 7)) (C := RX3) (T := TX3) (N := 2) hx hb hts i_X3 hown hK (P_blk hP (i := 0) rfl) 0 rfl rfl 1 (by decide) (hts _ kw_154) (fun _ h9 => h9) rfl dX3_push_28 ?_
    refine lv_iconst (v := 1) hx hb dX3_push_31 (by decide) ?_
    refine lv_iadd hx hb dX3_push_32 ?_
    obtain ⟨k9, hk8, hk9⟩ := set_flat (BL := HBL G q1 q2 (hR (fun i => hA (rot i))) (nI 7) (fun i => hA (rot i)) (va_up (fun i => hS (rot i)) 7 st)) (i := 0) (p := 0) rfl (Nat.le_of_ble_eq_true rfl)
    refine va_put (D := D) (ci := 5) (v := .int ((nI 7) + 1)) (ty := .int) (C := RX3) (T := TX3) (N := 2) hx hb hts i_X3 tyX3 tyX3_ok nmX3 hown hK hP hD hS0 k9 hk8 rfl 1 (by decide) (hts _ kw_154) (fun _ h9 => h9) rfl (by decide +kernel) rfl rfl (Nat.le_of_ble_eq_true rfl) dX3_push_33 (fun H locs hP hD hS0 => ?_)
    rw [hk9] at hP hD
    have hP : va_P D vwCl (HBL G q1 q2 (hR (fun i => hA (rot i))) ((nI 7) + 1) (fun i => hA (rot i)) (va_up (fun i => hS (rot i)) 7 st)).flatten H := hP
    have hD : va_D A (HBL G q1 q2 (hR (fun i => hA (rot i))) ((nI 7) + 1) (fun i => hA (rot i)) (va_up (fun i => hS (rot i)) 7 st)).flatten := hD
    have hP : va_P D vwCl (HBL G q1 q2 (hR (fun i => hA (rot i))) (nI (7 + 1)) (fun i => hA (rot i)) (va_up (fun i => hS (rot i)) 7 st)).flatten H := by have h9 := hP; rw [nI_1 7] at h9; exact h9
    exact W.vret hx hb hr (fun t ht hW => ⟨⟨(), rfl, trivial, by show va_P D vwCl _ t.heap; rw [ht]; exact hP⟩, hS0.F ht⟩) hS0.2.2 dX3_push_36
set_option maxRecDepth 100000 in
set_option maxHeartbeats 4000000 in
theorem c_X3_popInto (l : Launch) (D : va_G) (G : GA) (q1 q2 : Nat) (hA : Nat → Nat → Nat) (hS : Nat → CS) (k : Nat) (hk : k < 8) (a : Nat → Nat) (st : CS) (sz : Nat) : Met l yX3_popInto (wA yX3_popInto cX3_popInto 2 none) ({ frames := 2, cells := 0, slots := 0, locals := 43 } : Room) (va_Pc [.ref q1, .ref (a 0)] (HOp D G q1 q2 hA hS (nI (k + 1)) a st sz)) (va_Qv (fun _ : Unit => True) (fun _ t9 => va_P D vwCl (HBL G q1 q2 (hR hA) (nI k) hA hS ++ [cw G a (hS k)]).flatten t9.heap) (va_A ((HBL G q1 q2 (hR hA) (nI (k + 1)) hA hS) ++ [cw G a st]).flatten sz)) 0 0 (va_A ((HBL G q1 q2 (hR hA) (nI (k + 1)) hA hS) ++ [cw G a st]).flatten sz) := by
  refine Met.ofW (cc := cX3_popInto) (maxL := 2) (ret := none) (by decide) rfl ?_
  intro p e s m args below meth c s₁ B hml hv
  obtain ⟨rfl, hsz, hP, hK, hD0⟩ := hv
  have hx := B.exec
  have hb := B.bytes
  have hr := B.returns
  have hts : ∀ w9 ∈ tb, w9.before ([.ref q1, .ref (a 0)] : List Value).toArray s = true := fun w9 h9 => atoms_spec (ws := (wA yX3_popInto cX3_popInto 2 none)) B.pre w9 (List.mem_cons_of_mem _ h9)
  have hown : s.vm.findClass RX3 = some m.cls := findClass_of_methodNamed B.named
  have hlocks := B.notSynchronized
  subst hsz
  have hD := hD0.self (sz := s.heap.size)
  generalize hAe : (va_A ((HBL G q1 q2 (hR hA) (nI (k + 1)) hA hS) ++ [cw G a st]).flatten s.heap.size) = A at hD ⊢
  have hA0 : ∀ q : Nat, s.heap.size ≤ q → A q := fun q h => by rw [← hAe]; exact Or.inr h
  have hS0 : va_S A s.heap s.heap [] := va_S.rf
  have hl := lv_entry ([.ref q1, .ref (a 0)]) (n := 2) (Nat.le_of_ble_eq_true rfl)
  rw [lg_entry_eq]
  generalize (lg_sl ([.ref q1, .ref (a 0)]) ++ List.replicate (2 - (lg_sl ([.ref q1, .ref (a 0)])).length) Slot.unset).toArray = ls at hl ⊢
  have hl : lv_has ls 2 [(0, .ref q1), (1, .ref (a 0))] := hl
  refine lv_aload_n hx hb dX3_popInto_0 rfl (lv_at hl 0 rfl) ?_
  refine va_get (D := D) (ci := 5) (v := .int (nI (k + 1))) (C := RX3) (T := TX3) (N := 2) hx hb hts i_X3 hown hK (P_blk hP (i := 0) rfl) 0 rfl rfl 1 (by decide) (hts _ kw_154) (fun _ h9 => h9) rfl dX3_popInto_1 ?_
  refine lv_if_le (tgt := 30) hx hb dX3_popInto_4 (by decide) (fun c_1 => absurd c_1 (nI_nle (by omega) (by omega))) (fun _ => ?_)
  refine lv_aload_n hx hb dX3_popInto_7 rfl (lv_at hl 0 rfl) ?_
  refine lv_dup hx hb dX3_popInto_8 rfl ?_
  refine va_get (D := D) (ci := 5) (v := .int (nI (k + 1))) (C := RX3) (T := TX3) (N := 2) hx hb hts i_X3 hown hK (P_blk hP (i := 0) rfl) 0 rfl rfl 1 (by decide) (hts _ kw_154) (fun _ h9 => h9) rfl dX3_popInto_9 ?_
  refine lv_iconst (v := 1) hx hb dX3_popInto_12 (by decide) ?_
  refine lv_isub hx hb dX3_popInto_13 ?_
  obtain ⟨k9, hk8, hk9⟩ := set_flat (BL := HBL G q1 q2 (hR hA) (nI (k + 1)) hA hS ++ [cw G a st]) (i := 0) (p := 0) rfl (Nat.le_of_ble_eq_true rfl)
  refine va_put (D := D) (ci := 5) (v := .int ((nI (k + 1)) - 1)) (ty := .int) (C := RX3) (T := TX3) (N := 2) hx hb hts i_X3 tyX3 tyX3_ok nmX3 hown hK hP hD hS0 k9 hk8 rfl 1 (by decide) (hts _ kw_154) (fun _ h9 => h9) rfl (by decide +kernel) rfl rfl (Nat.le_of_ble_eq_true rfl) dX3_popInto_14 (fun H locs hP hD hS0 => ?_)
  rw [hk9] at hP hD
  have hP : va_P D vwCl (HBL G q1 q2 (hR hA) ((nI (k + 1)) - 1) hA hS ++ [cw G a st]).flatten H := hP
  have hD : va_D A (HBL G q1 q2 (hR hA) ((nI (k + 1)) - 1) hA hS ++ [cw G a st]).flatten := hD
  rw [nI_pred k] at hP hD
  refine lv_aload_n hx hb dX3_popInto_17 rfl (lv_at hl 1 rfl) ?_
  refine lv_aload_n hx hb dX3_popInto_18 rfl (lv_at hl 0 rfl) ?_
  refine va_get (D := D) (ci := 5) (v := .ref q2) (C := RX3) (T := TX3) (N := 2) hx hb hts i_X3 hown hK (P_blk hP (i := 0) rfl) 0 rfl rfl 0 (by decide) (hts _ kw_153) (fun _ h9 => h9) rfl dX3_popInto_19 ?_
  refine lv_aload_n hx hb dX3_popInto_22 rfl (lv_at hl 0 rfl) ?_
  refine va_get (D := D) (ci := 5) (v := .int (nI k)) (C := RX3) (T := TX3) (N := 2) hx hb hts i_X3 hown hK (P_blk hP (i := 0) rfl) 0 rfl rfl 1 (by decide) (hts _ kw_154) (fun _ h9 => h9) rfl dX3_popInto_23 ?_
  refine va_aldq hx hb hK (P_blk hP (i := 0) rfl) 1 2 rfl rfl (vp_in_nI (n := k) (by omega) (by decide)) dX3_popInto_26 ?_
  rw [nI_clamp (n := k) (by omega)]
  have hbk : (HBL G q1 q2 (hR hA) (nI k) hA hS ++ [cw G a st])[k + 1]? = some (cw G (hA k) (hS k)) := by rw [List.getElem?_append_left (by simp [HBL]; omega)]; exact HBL_i G q1 q2 _ _ hA hS (by omega)
  have hbe : (HBL G q1 q2 (hR hA) (nI k) hA hS ++ [cw G a st])[9]? = some (cw G a st) := rfl
  have hFc := freeB hD hbe hS0 hA0
  have hDc : va_D (fun _ => True) (cw G a st ++ cw G (hA k) (hS k)) := D_app ((D_blk hD hbe).weaken (fun _ _ _ _ => trivial)) ((D_blk hD hbk).weaken (fun _ _ _ _ => trivial)) (dj_blk hD hbe hbk (by omega))
  refine va_callv (va_runV (As := [.ref (hA k 0)]) (rest := []) ⟨hx, hb, hml, hown, hts⟩ (c_X1_copyFrom l D G a st (hA k) (hS k) H.size) (cwV 1 hts gw_X3_25 rfl rfl rfl (by decide +kernel) ⟨Nat.le_of_ble_eq_true rfl, Nat.le_of_ble_eq_true rfl⟩) (pv_cc hK (P_blk hP hbe) (P_blk hP hbk) hDc) rfl rfl hl.1 rfl (lv_room (Nat.le_of_ble_eq_true rfl)) dX3_popInto_27 ⟨Nat.le_of_ble_eq_true rfl, Nat.le_of_ble_eq_true rfl⟩) hS0 (fun q _ h => hFc q h) hFc (fun u t H1 locs ht hvm hw hB hz1 hk1 hS0 => ?_)
  have hB : va_P D vwCl (cw G a (hS k)) H1 := by have h9 := hB; rw [ht] at h9; exact h9
  have hP := P_rep hP hD hbe hk1 hB
  have hP : va_P D vwCl (HBL G q1 q2 (hR hA) (nI k) hA hS ++ [cw G a (hS k)]).flatten H1 := hP
  exact W.vret hx hb hr (fun t ht hW => ⟨⟨(), rfl, trivial, by show va_P D vwCl _ t.heap; rw [ht]; exact hP⟩, hS0.F ht⟩) hS0.2.2 dX3_popInto_30
set_option maxRecDepth 100000 in
set_option maxHeartbeats 4000000 in
theorem c_X3_clear (l : Launch) (D : va_G) (G : GA) (q1 q2 : Nat) (hA : Nat → Nat → Nat) (hS : Nat → CS) (k : Nat) (hk : k ≤ 8) (sz : Nat) : Met l yX3_clear (wA yX3_clear cX3_clear 1 none) ({ frames := 0, cells := 0, slots := 0, locals := 0 } : Room) (va_Pc [.ref q1] (HMp D G q1 q2 hA hS (nI k) sz)) (va_Qv (fun _ : Unit => True) (fun _ t9 => va_P D vwCl (HBL G q1 q2 (hR hA) 0 hA hS).flatten t9.heap) (va_A (HBL G q1 q2 (hR hA) (nI k) hA hS).flatten sz)) 0 0 (va_A (HBL G q1 q2 (hR hA) (nI k) hA hS).flatten sz) := by
  refine Met.ofW (cc := cX3_clear) (maxL := 1) (ret := none) (by decide) rfl ?_
  intro p e s m args below meth c s₁ B hml hv
  obtain ⟨rfl, hsz, hP, hK, hD0⟩ := hv
  have hx := B.exec
  have hb := B.bytes
  have hr := B.returns
  have hts : ∀ w9 ∈ tb, w9.before ([.ref q1] : List Value).toArray s = true := fun w9 h9 => atoms_spec (ws := (wA yX3_clear cX3_clear 1 none)) B.pre w9 (List.mem_cons_of_mem _ h9)
  have hown : s.vm.findClass RX3 = some m.cls := findClass_of_methodNamed B.named
  have hlocks := B.notSynchronized
  subst hsz
  have hD := hD0.self (sz := s.heap.size)
  generalize hAe : (va_A (HBL G q1 q2 (hR hA) (nI k) hA hS).flatten s.heap.size) = A at hD ⊢
  have hA0 : ∀ q : Nat, s.heap.size ≤ q → A q := fun q h => by rw [← hAe]; exact Or.inr h
  have hS0 : va_S A s.heap s.heap [] := va_S.rf
  have hl := lv_entry ([.ref q1]) (n := 1) (Nat.le_of_ble_eq_true rfl)
  rw [lg_entry_eq]
  generalize (lg_sl ([.ref q1]) ++ List.replicate (1 - (lg_sl ([.ref q1])).length) Slot.unset).toArray = ls at hl ⊢
  have hl : lv_has ls 1 [(0, .ref q1)] := hl
  refine lv_aload_n hx hb dX3_clear_0 rfl (lv_at hl 0 rfl) ?_
  refine lv_iconst (v := 0) hx hb dX3_clear_1 (by decide) ?_
  obtain ⟨k9, hk8, hk9⟩ := set_flat (BL := HBL G q1 q2 (hR hA) (nI k) hA hS) (i := 0) (p := 0) rfl (Nat.le_of_ble_eq_true rfl)
  refine va_put (D := D) (ci := 5) (v := .int 0) (ty := .int) (C := RX3) (T := TX3) (N := 2) hx hb hts i_X3 tyX3 tyX3_ok nmX3 hown hK hP hD hS0 k9 hk8 rfl 1 (by decide) (hts _ kw_154) (fun _ h9 => h9) rfl (by decide +kernel) rfl rfl (Nat.le_of_ble_eq_true rfl) dX3_clear_2 (fun H locs hP hD hS0 => ?_)
  rw [hk9] at hP hD
  have hP : va_P D vwCl (HBL G q1 q2 (hR hA) 0 hA hS).flatten H := hP
  have hD : va_D A (HBL G q1 q2 (hR hA) 0 hA hS).flatten := hD
  exact W.vret hx hb hr (fun t ht hW => ⟨⟨(), rfl, trivial, by show va_P D vwCl _ t.heap; rw [ht]; exact hP⟩, hS0.F ht⟩) hS0.2.2 dX3_clear_5
