/-! WHAT THE WRITERS OF A CARGO DO: the answer, and the state behind it -/
def pI (st : CS) (k j : Nat) (v : Int32) : CS := sI st k (upd (itm st k) j v)
theorem cw_p0 (G : GA) (a : Nat → Nat) (st : CS) {k : Nat} (hk : k < 12) (v : Int32) : (cw G a st).set (3 + k) (a (3 + k), .inr (6, (itV (itm st k)).set 0 (.int v))) = cw G a (pI st k 0 v) := cw_setI G a st hk (upd (itm st k) 0 v)
theorem cw_p1 (G : GA) (a : Nat → Nat) (st : CS) {k : Nat} (hk : k < 12) (v : Int32) : (cw G a st).set (3 + k) (a (3 + k), .inr (6, (itV (itm st k)).set 1 (.int v))) = cw G a (pI st k 1 v) := cw_setI G a st hk (upd (itm st k) 1 v)
theorem cw_p2 (G : GA) (a : Nat → Nat) (st : CS) {k : Nat} (hk : k < 12) (v : Int32) : (cw G a st).set (3 + k) (a (3 + k), .inr (6, (itV (itm st k)).set 2 (.int v))) = cw G a (pI st k 2 v) := cw_setI G a st hk (upd (itm st k) 2 v)
theorem cw_p3 (G : GA) (a : Nat → Nat) (st : CS) {k : Nat} (hk : k < 12) (v : Int32) : (cw G a st).set (3 + k) (a (3 + k), .inr (6, (itV (itm st k)).set 3 (.int v))) = cw G a (pI st k 3 v) := cw_setI G a st hk (upd (itm st k) 3 v)
theorem itV_4 (f : Nat → Int32) {v : Int32} (hv : z01 v = v) : (itV f).set 4 (.int v) = itV (upd f 4 v) := by
  show ([.int (f 0), .int (f 1), .int (f 2), .int (f 3), .int v, .int (f 5), .int (f 6), .int (f 7)] : List Value) = [.int (f 0), .int (f 1), .int (f 2), .int (f 3), .int (z01 v), .int (f 5), .int (f 6), .int (f 7)]
  rw [hv]
theorem cw_p4 (G : GA) (a : Nat → Nat) (st : CS) {k : Nat} (hk : k < 12) (v : Int32) (hv : z01 v = v) : (cw G a st).set (3 + k) (a (3 + k), .inr (6, (itV (itm st k)).set 4 (.int v))) = cw G a (pI st k 4 v) := by
  rw [itV_4 _ hv]
  exact cw_setI G a st hk (upd (itm st k) 4 v)
theorem cw_p5 (G : GA) (a : Nat → Nat) (st : CS) {k : Nat} (hk : k < 12) (v : Int32) : (cw G a st).set (3 + k) (a (3 + k), .inr (6, (itV (itm st k)).set 5 (.int v))) = cw G a (pI st k 5 v) := cw_setI G a st hk (upd (itm st k) 5 v)
theorem cw_p6 (G : GA) (a : Nat → Nat) (st : CS) {k : Nat} (hk : k < 12) (v : Int32) : (cw G a st).set (3 + k) (a (3 + k), .inr (6, (itV (itm st k)).set 6 (.int v))) = cw G a (pI st k 6 v) := cw_setI G a st hk (upd (itm st k) 6 v)
theorem cw_p7 (G : GA) (a : Nat → Nat) (st : CS) {k : Nat} (hk : k < 12) (v : Int32) : (cw G a st).set (3 + k) (a (3 + k), .inr (6, (itV (itm st k)).set 7 (.int v))) = cw G a (pI st k 7 v) := cw_setI G a st hk (upd (itm st k) 7 v)
def cwN (a : Nat → Nat) (st : CS) : List Value := [.ref (a 1), .ref (a 15), .ref (a 2), .int (st.2.2 0), .int (st.2.2 1), .int (st.2.2 2), .int (st.2.2 3)]
theorem cw_n0 (G : GA) (a : Nat → Nat) (st : CS) (v : Int32) : (cw G a st).set 0 (a 0, .inr (4, (cwN a st).set 3 (.int v))) = cw G a (sN st 0 v) := rfl
theorem cw_n1 (G : GA) (a : Nat → Nat) (st : CS) (v : Int32) : (cw G a st).set 0 (a 0, .inr (4, (cwN a st).set 4 (.int v))) = cw G a (sN st 1 v) := rfl
theorem cw_n2 (G : GA) (a : Nat → Nat) (st : CS) (v : Int32) : (cw G a st).set 0 (a 0, .inr (4, (cwN a st).set 5 (.int v))) = cw G a (sN st 2 v) := rfl
theorem cw_n3 (G : GA) (a : Nat → Nat) (st : CS) (v : Int32) : (cw G a st).set 0 (a 0, .inr (4, (cwN a st).set 6 (.int v))) = cw G a (sN st 3 v) := rfl
theorem D_addr {A : Nat → Prop} {ws ws' : va_W} (h : va_D A ws) (e : ws'.map (·.1) = ws.map (·.1)) : va_D A ws' := by
  have key : ∀ (k : Nat) (q : Nat × va_E), ws'[k]? = some q → ∃ q0, ws[k]? = some q0 ∧ q0.1 = q.1 := by
    intro k q hk
    have h1 : (ws'.map (·.1))[k]? = some q.1 := by rw [List.getElem?_map, hk]; rfl
    rw [e, List.getElem?_map] at h1
    cases h2 : ws[k]? with
    | none => rw [h2] at h1; cases h1
    | some q0 => rw [h2] at h1; exact ⟨q0, rfl, Option.some.inj h1⟩
  refine ⟨fun i j p q hi hj hpq => ?_, fun k q hk => ?_⟩
  · obtain ⟨p0, h1, h2⟩ := key i p hi
    obtain ⟨q0, h3, h4⟩ := key j q hj
    exact h.1 i j p0 q0 h1 h3 (h2.trans (hpq.trans h4.symm))
  · obtain ⟨q0, h1, h2⟩ := key k q hk
    rw [← h2]
    exact h.2 k q0 h1
theorem cw_addr (G : GA) (a : Nat → Nat) (st st' : CS) : (cw G a st').map (·.1) = (cw G a st).map (·.1) := rfl
theorem cwD {A : Nat → Prop} {G : GA} {a : Nat → Nat} {st st' : CS} (h : va_D A (cw G a st)) : va_D A (cw G a st') := D_addr h (cw_addr G a st st')
theorem freeC {A0 : Nat → Prop} {ws : va_W} {H0 H : Heap} {locs : List Loc} (hD : va_D A0 ws) (hS : va_S A0 H0 H locs) (hA : ∀ q, H0.size ≤ q → A0 q) : ∀ q, va_A ws H.size q → A0 q := by
  intro q h
  rcases h with ⟨k, e, h⟩ | h
  · exact hD.2 k (q, e) h
  · exact hA q (Nat.le_trans hS.1 h)
abbrev CMp (D : va_G) (G : GA) (a : Nat → Nat) (st : CS) (sz : Nat) (U : State) : Prop := U.heap.size = sz ∧ va_P D vwCl (cw G a st) U.heap ∧ KK D G U ∧ va_D (fun _ => True) (cw G a st)
theorem pv_cm {s : State} {H : Heap} {D : va_G} {G : GA} {A : Nat → Prop} {a : Nat → Nat} {st : CS} {As : List Value} (hK : KK D G s) (hP : va_P D vwCl (cw G a st) H) (hD : va_D A (cw G a st)) : PreV s H RX1 (a 0) (va_Pc (.ref (a 0) :: As) (CMp D G a st H.size)) As :=
  ⟨fun A U g mk q => ⟨q.1, q.2.1, q.2.2.1, va_K.moved (Vm.Alike.refl U.vm) q.2.2.2.1, q.2.2.2.2⟩, va_recv hK hP (ci := 4) (q0 := 0) rfl rfl, fun U hU hW => ⟨rfl, by rw [hU], by rw [hU]; exact hP, va_K.moved hW.alike hK, hD.weaken (fun _ _ _ _ => trivial)⟩⟩
theorem pr1 {α β : Type} {p : α × β} {x : α} {y : β} (h : p = (x, y)) : x = p.1 := by rw [h]
theorem pr2 {α β : Type} {p : α × β} {x : α} {y : β} (h : p = (x, y)) : p.2 = y := by rw [h]
theorem wP1 {D : va_G} {G : GA} {a : Nat → Nat} {p y : CS} {t : State} {H : Heap} (h : p = y) (ht : t.heap = H) (hP : va_P D vwCl (cw G a y) H) : va_P D vwCl (cw G a p) t.heap := by rw [ht, h]; exact hP
theorem wP2 {D : va_G} {G : GA} {a : Nat → Nat} {α : Type} {p : α × CS} {x : α} {y : CS} {t : State} {H : Heap} (h : p = (x, y)) (ht : t.heap = H) (hP : va_P D vwCl (cw G a y) H) : va_P D vwCl (cw G a p.2) t.heap := by rw [ht, h]; exact hP
theorem nbg_lt {st : CS} (h : nbg st ≤ 3) (c : ¬ 3 ≤ nI (nbg st)) : nbg st < 3 := by
  rcases Nat.lt_or_ge (nbg st) 3 with h1 | h1
  · exact h1
  · exact absurd (nI_le (a := 3) (b := nbg st) h1 (by omega)) c
theorem itm_12 (st : CS) : itm st 12 = nb := rfl
theorem depot_lt {st : CS} {k : Nat} (hk : k < 13) (h : p_depot (itm st k) = true) : k < 12 := by
  rcases Nat.lt_or_ge k 12 with h1 | h1
  · exact h1
  · have e : k = 12 := by omega
    rw [e, itm_12] at h
    exact absurd h (by decide)
theorem inbag_lt {st : CS} {k : Nat} (hk : k < 13) (h : p_inbag (itm st k) = true) : k < 12 := by
  rcases Nat.lt_or_ge k 12 with h1 | h1
  · exact h1
  · have e : k = 12 := by omega
    rw [e, itm_12] at h
    exact absurd h (by decide)
theorem there_lt {st : CS} {k : Nat} (hk : k < 13) (h : p_there (itm st k) = true) : k < 12 := by
  rcases Nat.lt_or_ge k 12 with h1 | h1
  · exact h1
  · have e : k = 12 := by omega
    rw [e, itm_12] at h
    exact absurd h (by decide)
/-- how many below n have p -/
def cnt (p : Nat → Bool) : Nat → Nat
  | 0 => 0
  | n + 1 => if p n = true then cnt p n + 1 else cnt p n
theorem cnt_le (p : Nat → Bool) : ∀ n, cnt p n ≤ n := by
  intro n
  induction n with
  | zero => exact Nat.le_refl 0
  | succ n ih =>
    unfold cnt
    split <;> omega
def cN (st : CS) : Nat := cnt (fun k => p_there (itm st k)) 12
theorem cN_le (st : CS) : cN st ≤ 12 := cnt_le _ 12
theorem cN_eq (st : CS) : s_countItems st = nI (cN st) := by
  have h : ∀ n, lp (q_countItems st) n 0 = nI (cnt (fun k => p_there (itm st k)) n) := by
    intro n
    induction n with
    | zero => rfl
    | succ n ih =>
      unfold lp cnt
      rw [ih]
      unfold q_countItems
      by_cases hp : p_there (itm st n) = true
      · rw [if_pos hp, if_pos hp]; exact nI_1 _
      · rw [if_neg hp, if_neg hp]
  exact h 12
def m_open (st : CS) (x : Int32) : Int32 × CS := if 3 ≤ nI (nbg st) then (nI (nbg st), st) else (nI (nbg st), sN (sL st (nbg st) x) 1 ((sL st (nbg st) x).2.2 1 + 1))
def m_takeIn (st : CS) (z w t : Int32) (b : Bool) : Int32 × CS :=
  let k := s_findFree st
  let s5 := pI (pI (pI (pI (pI st k 0 (st.2.2 0)) k 1 z) k 2 w) k 3 t) k 4 (bi b)
  let s6 := pI s5 k 5 (-1)
  let s7 := sN s6 0 (s6.2.2 0 + 1)
  (itm s7 k 0, s7)
def m_drop (st : CS) (id : Int32) : Int32 × CS :=
  let s1 := pI st (s_find st id) 5 (-2)
  (s_countItems s1, s1)
def m_putInto (st : CS) (g : Nat) (b : Int32) : CS :=
  pI (pI (pI st g 7 (s_countInLayer st b (s_target st g b))) g 6 (s_target st g b)) g 5 b
def m_load (st : CS) (id b : Int32) : Int32 × CS :=
  let g := s_find st id
  let s1 := m_putInto st g b
  (itm s1 g 6, s1)
def q_takeOut (b : Int32) (g : Nat) (e : Bool) (k : Nat) (s : CS) : CS :=
  let s1 := if itm s k 5 = b then (if itm s k 6 = itm s g 6 then (if itm s k 7 ≤ itm s g 7 then s else pI s k 7 (itm s k 7 - 1)) else s) else s
  if itm s1 k 5 = b then (if itm s1 k 6 ≤ itm s1 g 6 then s1 else cond e (pI s1 k 6 (itm s1 k 6 - 1)) s1) else s1
def m_takeOut (st : CS) (g : Nat) : CS :=
  let s1 := pI st g 5 (-1)
  lp (q_takeOut (itm st g 5) g (if s_countInLayer s1 (itm st g 5) (itm s1 g 6) = 0 then true else false)) 12 s1
def m_unload (st : CS) (id : Int32) : Int32 × CS :=
  let g := s_find st id
  let s1 := m_takeOut st g
  (s_countLayers s1 (itm st g 5), s1)
def q_fill (b : Int32) (k : Nat) (r : Int32 × CS) : Int32 × CS :=
  if p_depot (itm r.2 (s_findRank r.2 (nI k))) = true then (if s_refusal r.2 (s_findRank r.2 (nI k)) b = 0 then (r.1 + 1, m_putInto r.2 (s_findRank r.2 (nI k)) b) else (r.1, r.2)) else (r.1, r.2)
def m_fill (st : CS) (b : Int32) : Int32 × CS := lp (q_fill b) (cN st) (0, st)
def q_handOver (t : Int32) (k : Nat) (r : Int32 × CS) : Int32 × CS :=
  if p_inbag (itm r.2 k) = true then (if itm r.2 k 3 = t then (r.1 + 1, sN (pI (m_takeOut r.2 k) k 5 (-2)) 3 ((pI (m_takeOut r.2 k) k 5 (-2)).2.2 3 + itm (pI (m_takeOut r.2 k) k 5 (-2)) k 2)) else (r.1, r.2)) else (r.1, r.2)
def m_handOver (st : CS) : Int32 × CS :=
  let r := lp (q_handOver (s_lowest st)) 12 (0, st)
  (r.1, sN r.2 2 (r.2.2.2 2 + r.1))
theorem gw_X1_59 : GoodIn tb (wsV RX1 59 RX1 yX1_findFree (wA yX1_findFree cX1_findFree 5 (some (.object "CourierBags$Item")))) := gV kw_520 kw_522 kw_2 kw_25 kw_523
theorem gw_X1_82 : GoodIn tb (wsV RX1 82 RX1 yX1_find (wA yX1_find cX1_find 6 (some (.object "CourierBags$Item")))) := gV kw_536 kw_302 kw_303 kw_25 kw_304
theorem gw_X1_139 : GoodIn tb (wsV RX1 139 RX1 yX1_countInLayer (wA yX1_countInLayer cX1_countInLayer 8 (some .int))) := gV kw_572 kw_573 kw_574 kw_25 kw_575
theorem gw_X1_110 : GoodIn tb (wsV RX1 110 RX1 yX1_putInto (wA yX1_putInto cX1_putInto 4 none)) := gV kw_665 kw_667 kw_8 kw_25 kw_668
theorem gw_X1_121 : GoodIn tb (wsV RX1 121 RX1 yX1_takeOut (wA yX1_takeOut cX1_takeOut 8 none)) := gV kw_568 kw_570 kw_3 kw_25 kw_571
theorem gw_X1_124 : GoodIn tb (wsV RX1 124 RX1 yX1_findRank (wA yX1_findRank cX1_findRank 6 (some (.object "CourierBags$Item")))) := gV kw_617 kw_618 kw_619 kw_25 kw_620
theorem gw_X1_103 : GoodIn tb (wsV RX1 103 RX1 yX1_refusal (wA yX1_refusal cX1_refusal 4 (some .int))) := gV kw_629 kw_630 kw_631 kw_25 kw_632
theorem gw_X1_133 : GoodIn tb (wsV RX1 133 RX1 yX1_lowestPackedStop (wA yX1_lowestPackedStop cX1_lowestPackedStop 6 (some .int))) := gV kw_689 kw_690 kw_691 kw_25 kw_692
set_option maxRecDepth 100000 in
set_option maxHeartbeats 4000000 in
theorem c_X1_open (l : Launch) (D : va_G) (G : GA) (a : Nat → Nat) (st : CS) (x : Int32) (hB : st.2.2 1 = nI (nbg st)) (hB3 : nbg st ≤ 3) (sz : Nat) : Met l yX1_open (wA yX1_open cX1_open 3 (some .int)) ({ frames := 0, cells := 0, slots := 0, locals := 0 } : Room) (va_Pc [.ref (a 0), .int x] (CMp D G a st sz)) (va_Qi (fun (r : Int32) (_ : Unit) => r = (m_open st x).1) (fun _ t9 => va_P D vwCl (cw G a (m_open st x).2) t9.heap) (va_A (cw G a st) sz)) 0 0 (va_A (cw G a st) sz) := by
  refine Met.ofW (cc := cX1_open) (maxL := 3) (ret := (some .int)) (by decide) rfl ?_
  intro p e s m args below meth c s₁ B hml hv
  obtain ⟨rfl, hsz, hP, hK, hD0⟩ := hv
  have hx := B.exec
  have hb := B.bytes
  have hr := B.returns
  have hts : ∀ w9 ∈ tb, w9.before ([.ref (a 0), .int x] : List Value).toArray s = true := fun w9 h9 => atoms_spec (ws := (wA yX1_open cX1_open 3 (some .int))) B.pre w9 (List.mem_cons_of_mem _ h9)
  have hown : s.vm.findClass RX1 = some m.cls := findClass_of_methodNamed B.named
  have hlocks := B.notSynchronized
  subst hsz
  have hD := hD0.self (sz := s.heap.size)
  generalize hAe : va_A (cw G a st) s.heap.size = A at hD ⊢
  have hA : ∀ q : Nat, s.heap.size ≤ q → A q := fun q h => by rw [← hAe]; exact Or.inr h
  have hS : va_S A s.heap s.heap [] := va_S.rf
  have hl := lv_entry ([.ref (a 0), .int x]) (n := 3) (Nat.le_of_ble_eq_true rfl)
  rw [lg_entry_eq]
  generalize (lg_sl ([.ref (a 0), .int x]) ++ List.replicate (3 - (lg_sl ([.ref (a 0), .int x])).length) Slot.unset).toArray = ls at hl ⊢
  have hl : lv_has ls 3 [(0, .ref (a 0)), (1, .int x)] := hl
  refine lv_aload_n hx hb dX1_open_0 rfl (lv_at hl 0 rfl) ?_
  refine va_get (D := D) (ci := 4) (v := .int (st.2.2 1)) (C := RX1) (T := TX1) (N := 7) hx hb hts i_X1 hown hK hP 0 rfl rfl 4 (by decide) (hts _ kw_122) (fun _ h9 => h9) rfl dX1_open_1 ?_
  rw [hB]
  refine lv_istore_n (lv' := [(2, .int (nI (nbg st))), (0, .ref (a 0)), (1, .int x)]) hx hb dX1_open_4 rfl hl (by decide) rfl (fun ls hl => ?_)
  refine lv_iload_n hx hb dX1_open_5 rfl (lv_at hl 0 rfl) ?_
  refine lv_iconst (v := 3) hx hb dX1_open_6 (by decide) ?_
  refine lv_icmp_ge (tgt := 27) hx hb dX1_open_7 (by decide) (fun c_1 => ?_) (fun c_1 => ?_)
  · skip
    refine lv_iload_n hx hb dX1_open_27 rfl (lv_at hl 0 rfl) ?_
    have hz_2 : m_open st x = (nI (nbg st), st) := by simp only [m_open, if_pos c_1]
    exact W.iret (v := nI (nbg st)) hx hb hr (fun t ht hW => ⟨⟨nI (nbg st), (), rfl, pr1 hz_2, wP2 hz_2 ht hP⟩, hS.F ht⟩) hS.2.2 dX1_open_28
  · skip
    refine lv_aload_n hx hb dX1_open_10 rfl (lv_at hl 1 rfl) ?_
    refine va_get (D := D) (ci := 4) (v := .ref (a 2)) (C := RX1) (T := TX1) (N := 7) hx hb hts i_X1 hown hK hP 0 rfl rfl 2 (by decide) (hts _ kw_120) (fun _ h9 => h9) rfl dX1_open_11 ?_
    refine lv_iload_n hx hb dX1_open_14 rfl (lv_at hl 0 rfl) ?_
    refine lv_iload_n hx hb dX1_open_15 rfl (lv_at hl 2 rfl) ?_
    refine va_iast hx hb hK hP hD hS 2 1 rfl rfl (vp_in_nI (n := nbg st) (nbg_lt hB3 c_1) (by decide)) dX1_open_16 (fun H locs hP hD hS => ?_)
    rw [nI_clamp (n := nbg st) (by omega)] at hP hD
    have hP : va_P D vwCl (cw G a (sL st (nbg st) x)) H := hP
    have hD : va_D A (cw G a (sL st (nbg st) x)) := hD
    refine lv_aload_n hx hb dX1_open_17 rfl (lv_at hl 1 rfl) ?_
    refine lv_dup hx hb dX1_open_18 rfl ?_
    refine va_get (D := D) (ci := 4) (v := .int ((sL st (nbg st) x).2.2 1)) (C := RX1) (T := TX1) (N := 7) hx hb hts i_X1 hown hK hP 0 rfl rfl 4 (by decide) (hts _ kw_122) (fun _ h9 => h9) rfl dX1_open_19 ?_
    refine lv_iconst (v := 1) hx hb dX1_open_22 (by decide) ?_
    refine lv_iadd hx hb dX1_open_23 ?_
    refine va_put (D := D) (ci := 4) (v := .int (((sL st (nbg st) x).2.2 1) + 1)) (ty := .int) (C := RX1) (T := TX1) (N := 7) hx hb hts i_X1 tyX1 tyX1_ok nmX1 hown hK hP hD hS 0 rfl rfl 4 (by decide) (hts _ kw_122) (fun _ h9 => h9) rfl (by decide +kernel) rfl rfl (Nat.le_of_ble_eq_true rfl) dX1_open_24 (fun H locs hP hD hS => ?_)
    have hP : va_P D vwCl (cw G a (sN (sL st (nbg st) x) 1 (((sL st (nbg st) x).2.2 1) + 1))) H := by rw [← cw_n1 G a (sL st (nbg st) x) (((sL st (nbg st) x).2.2 1) + 1)]; exact hP
    have hD : va_D A (cw G a (sN (sL st (nbg st) x) 1 (((sL st (nbg st) x).2.2 1) + 1))) := by rw [← cw_n1 G a (sL st (nbg st) x) (((sL st (nbg st) x).2.2 1) + 1)]; exact hD
    refine lv_iload_n hx hb dX1_open_27 rfl (lv_at hl 0 rfl) ?_
    have hz_3 : m_open st x = (nI (nbg st), (sN (sL st (nbg st) x) 1 (((sL st (nbg st) x).2.2 1) + 1))) := by simp only [m_open, if_neg c_1]
    exact W.iret (v := nI (nbg st)) hx hb hr (fun t ht hW => ⟨⟨nI (nbg st), (), rfl, pr1 hz_3, wP2 hz_3 ht hP⟩, hS.F ht⟩) hS.2.2 dX1_open_28
set_option maxRecDepth 100000 in
set_option maxHeartbeats 4000000 in
theorem c_X1_takeIn (l : Launch) (D : va_G) (G : GA) (a : Nat → Nat) (st : CS) (z : Int32) (w : Int32) (v : Int32) (b : Bool) (hF : s_findFree st < 12) (sz : Nat) : Met l yX1_takeIn (wA yX1_takeIn cX1_takeIn 6 (some .int)) ({ frames := 2, cells := 0, slots := 0, locals := 44 } : Room) (va_Pc [.ref (a 0), .int z, .int w, .int v, .int (bi b)] (CMp D G a st sz)) (va_Qi (fun (r : Int32) (_ : Unit) => r = (m_takeIn st z w v b).1) (fun _ t9 => va_P D vwCl (cw G a (m_takeIn st z w v b).2) t9.heap) (va_A (cw G a st) sz)) 0 0 (va_A (cw G a st) sz) := by
  refine Met.ofW (cc := cX1_takeIn) (maxL := 6) (ret := (some .int)) (by decide) rfl ?_
  intro p e s m args below meth c s₁ B hml hv
  obtain ⟨rfl, hsz, hP, hK, hD0⟩ := hv
  have hx := B.exec
  have hb := B.bytes
  have hr := B.returns
  have hts : ∀ w9 ∈ tb, w9.before ([.ref (a 0), .int z, .int w, .int v, .int (bi b)] : List Value).toArray s = true := fun w9 h9 => atoms_spec (ws := (wA yX1_takeIn cX1_takeIn 6 (some .int))) B.pre w9 (List.mem_cons_of_mem _ h9)
  have hown : s.vm.findClass RX1 = some m.cls := findClass_of_methodNamed B.named
  have hlocks := B.notSynchronized
  subst hsz
  have hD := hD0.self (sz := s.heap.size)
  generalize hAe : va_A (cw G a st) s.heap.size = A at hD ⊢
  have hA : ∀ q : Nat, s.heap.size ≤ q → A q := fun q h => by rw [← hAe]; exact Or.inr h
  have hS : va_S A s.heap s.heap [] := va_S.rf
  have hl := lv_entry ([.ref (a 0), .int z, .int w, .int v, .int (bi b)]) (n := 6) (Nat.le_of_ble_eq_true rfl)
  rw [lg_entry_eq]
  generalize (lg_sl ([.ref (a 0), .int z, .int w, .int v, .int (bi b)]) ++ List.replicate (6 - (lg_sl ([.ref (a 0), .int z, .int w, .int v, .int (bi b)])).length) Slot.unset).toArray = ls at hl ⊢
  have hl : lv_has ls 6 [(0, .ref (a 0)), (1, .int z), (2, .int w), (3, .int v), (4, .int (bi b))] := hl
  refine lv_aload_n hx hb dX1_takeIn_0 rfl (lv_at hl 0 rfl) ?_
  refine va_csr (va_runV (As := []) (rest := []) ⟨hx, hb, hml, hown, hts⟩ (c_X1_findFree l D G a st) (cwV 0 hts gw_X1_59 rfl rfl rfl (by decide +kernel) ⟨Nat.le_of_ble_eq_true rfl, Nat.le_of_ble_eq_true rfl⟩) (pv_cw hK hP) rfl rfl hl.1 rfl (lv_room (Nat.le_of_ble_eq_true rfl)) dX1_takeIn_1 ⟨Nat.le_of_ble_eq_true rfl, Nat.le_of_ble_eq_true rfl⟩).run (nm_e ?_)
  refine lv_astore (x := (a (3 + (s_findFree st)))) (lv' := [(5, .ref (a (3 + (s_findFree st)))), (0, .ref (a 0)), (1, .int z), (2, .int w), (3, .int v), (4, .int (bi b))]) hx hb dX1_takeIn_4 hl (by decide) rfl (fun ls hl => ?_)
  refine lv_aload hx hb dX1_takeIn_6 (lv_at hl 0 rfl) ?_
  refine lv_aload_n hx hb dX1_takeIn_8 rfl (lv_at hl 1 rfl) ?_
  refine va_get (D := D) (ci := 4) (v := .int (st.2.2 0)) (C := RX1) (T := TX1) (N := 7) hx hb hts i_X1 hown hK hP 0 rfl rfl 3 (by decide) (hts _ kw_121) (fun _ h9 => h9) rfl dX1_takeIn_9 ?_
  refine va_put (D := D) (ci := 6) (v := .int (st.2.2 0)) (ty := .int) (C := RX4) (T := TX4) (N := 8) hx hb hts i_X4 tyX4 tyX4_ok nmX4 hown hK hP hD hS (3 + (s_findFree st)) (cw_it G a st (s_findFree_lt st)) rfl 0 (by decide) (hts _ kw_79) (fun _ h9 => h9) rfl (by decide +kernel) rfl rfl (Nat.le_of_ble_eq_true rfl) dX1_takeIn_12 (fun H locs hP hD hS => ?_)
  have hP : va_P D vwCl (cw G a (pI st (s_findFree st) 0 (st.2.2 0))) H := by rw [← cw_p0 G a st hF (st.2.2 0)]; exact hP
  have hD : va_D A (cw G a (pI st (s_findFree st) 0 (st.2.2 0))) := by rw [← cw_p0 G a st hF (st.2.2 0)]; exact hD
  refine lv_aload hx hb dX1_takeIn_15 (lv_at hl 0 rfl) ?_
  refine lv_iload_n hx hb dX1_takeIn_17 rfl (lv_at hl 2 rfl) ?_
  refine va_put (D := D) (ci := 6) (v := .int z) (ty := .int) (C := RX4) (T := TX4) (N := 8) hx hb hts i_X4 tyX4 tyX4_ok nmX4 hown hK hP hD hS (3 + (s_findFree st)) (cw_it G a (pI st (s_findFree st) 0 (st.2.2 0)) (s_findFree_lt st)) rfl 1 (by decide) (hts _ kw_82) (fun _ h9 => h9) rfl (by decide +kernel) rfl rfl (Nat.le_of_ble_eq_true rfl) dX1_takeIn_18 (fun H locs hP hD hS => ?_)
  have hP : va_P D vwCl (cw G a (pI (pI st (s_findFree st) 0 (st.2.2 0)) (s_findFree st) 1 z)) H := by rw [← cw_p1 G a (pI st (s_findFree st) 0 (st.2.2 0)) hF z]; exact hP
  have hD : va_D A (cw G a (pI (pI st (s_findFree st) 0 (st.2.2 0)) (s_findFree st) 1 z)) := by rw [← cw_p1 G a (pI st (s_findFree st) 0 (st.2.2 0)) hF z]; exact hD
  refine lv_aload hx hb dX1_takeIn_21 (lv_at hl 0 rfl) ?_
  refine lv_iload_n hx hb dX1_takeIn_23 rfl (lv_at hl 3 rfl) ?_
  refine va_put (D := D) (ci := 6) (v := .int w) (ty := .int) (C := RX4) (T := TX4) (N := 8) hx hb hts i_X4 tyX4 tyX4_ok nmX4 hown hK hP hD hS (3 + (s_findFree st)) (cw_it G a (pI (pI st (s_findFree st) 0 (st.2.2 0)) (s_findFree st) 1 z) (s_findFree_lt st)) rfl 2 (by decide) (hts _ kw_85) (fun _ h9 => h9) rfl (by decide +kernel) rfl rfl (Nat.le_of_ble_eq_true rfl) dX1_takeIn_24 (fun H locs hP hD hS => ?_)
  have hP : va_P D vwCl (cw G a (pI (pI (pI st (s_findFree st) 0 (st.2.2 0)) (s_findFree st) 1 z) (s_findFree st) 2 w)) H := by rw [← cw_p2 G a (pI (pI st (s_findFree st) 0 (st.2.2 0)) (s_findFree st) 1 z) hF w]; exact hP
  have hD : va_D A (cw G a (pI (pI (pI st (s_findFree st) 0 (st.2.2 0)) (s_findFree st) 1 z) (s_findFree st) 2 w)) := by rw [← cw_p2 G a (pI (pI st (s_findFree st) 0 (st.2.2 0)) (s_findFree st) 1 z) hF w]; exact hD
  refine lv_aload hx hb dX1_takeIn_27 (lv_at hl 0 rfl) ?_
  refine lv_iload_n hx hb dX1_takeIn_29 rfl (lv_at hl 4 rfl) ?_
  refine va_put (D := D) (ci := 6) (v := .int v) (ty := .int) (C := RX4) (T := TX4) (N := 8) hx hb hts i_X4 tyX4 tyX4_ok nmX4 hown hK hP hD hS (3 + (s_findFree st)) (cw_it G a (pI (pI (pI st (s_findFree st) 0 (st.2.2 0)) (s_findFree st) 1 z) (s_findFree st) 2 w) (s_findFree_lt st)) rfl 3 (by decide) (hts _ kw_88) (fun _ h9 => h9) rfl (by decide +kernel) rfl rfl (Nat.le_of_ble_eq_true rfl) dX1_takeIn_30 (fun H locs hP hD hS => ?_)
  have hP : va_P D vwCl (cw G a (pI (pI (pI (pI st (s_findFree st) 0 (st.2.2 0)) (s_findFree st) 1 z) (s_findFree st) 2 w) (s_findFree st) 3 v)) H := by rw [← cw_p3 G a (pI (pI (pI st (s_findFree st) 0 (st.2.2 0)) (s_findFree st) 1 z) (s_findFree st) 2 w) hF v]; exact hP
  have hD : va_D A (cw G a (pI (pI (pI (pI st (s_findFree st) 0 (st.2.2 0)) (s_findFree st) 1 z) (s_findFree st) 2 w) (s_findFree st) 3 v)) := by rw [← cw_p3 G a (pI (pI (pI st (s_findFree st) 0 (st.2.2 0)) (s_findFree st) 1 z) (s_findFree st) 2 w) hF v]; exact hD
  refine lv_aload hx hb dX1_takeIn_33 (lv_at hl 0 rfl) ?_
  refine lv_iload hx hb dX1_takeIn_35 (lv_at hl 5 rfl) ?_
  refine va_put (D := D) (ci := 6) (v := .int (bi b)) (ty := .boolean) (C := RX4) (T := TX4) (N := 8) hx hb hts i_X4 tyX4 tyX4_ok nmX4 hown hK hP hD hS (3 + (s_findFree st)) (cw_it G a (pI (pI (pI (pI st (s_findFree st) 0 (st.2.2 0)) (s_findFree st) 1 z) (s_findFree st) 2 w) (s_findFree st) 3 v) (s_findFree_lt st)) rfl 4 (by decide) (hts _ kw_91) (fun _ h9 => h9) rfl (by decide +kernel) (bi_nar _) (bi_fit _) (Nat.le_of_ble_eq_true rfl) dX1_takeIn_37 (fun H locs hP hD hS => ?_)
  have hP : va_P D vwCl (cw G a (pI (pI (pI (pI (pI st (s_findFree st) 0 (st.2.2 0)) (s_findFree st) 1 z) (s_findFree st) 2 w) (s_findFree st) 3 v) (s_findFree st) 4 (bi b))) H := by rw [← cw_p4 G a (pI (pI (pI (pI st (s_findFree st) 0 (st.2.2 0)) (s_findFree st) 1 z) (s_findFree st) 2 w) (s_findFree st) 3 v) hF (bi b) (z01_bi _)]; exact hP
  have hD : va_D A (cw G a (pI (pI (pI (pI (pI st (s_findFree st) 0 (st.2.2 0)) (s_findFree st) 1 z) (s_findFree st) 2 w) (s_findFree st) 3 v) (s_findFree st) 4 (bi b))) := by rw [← cw_p4 G a (pI (pI (pI (pI st (s_findFree st) 0 (st.2.2 0)) (s_findFree st) 1 z) (s_findFree st) 2 w) (s_findFree st) 3 v) hF (bi b) (z01_bi _)]; exact hD
  refine lv_aload hx hb dX1_takeIn_40 (lv_at hl 0 rfl) ?_
  refine lv_iconst (v := -1) hx hb dX1_takeIn_42 (by decide) ?_
  refine va_put (D := D) (ci := 6) (v := .int (-1)) (ty := .int) (C := RX4) (T := TX4) (N := 8) hx hb hts i_X4 tyX4 tyX4_ok nmX4 hown hK hP hD hS (3 + (s_findFree st)) (cw_it G a (pI (pI (pI (pI (pI st (s_findFree st) 0 (st.2.2 0)) (s_findFree st) 1 z) (s_findFree st) 2 w) (s_findFree st) 3 v) (s_findFree st) 4 (bi b)) (s_findFree_lt st)) rfl 5 (by decide) (hts _ kw_94) (fun _ h9 => h9) rfl (by decide +kernel) rfl rfl (Nat.le_of_ble_eq_true rfl) dX1_takeIn_43 (fun H locs hP hD hS => ?_)
  have hP : va_P D vwCl (cw G a (pI (pI (pI (pI (pI (pI st (s_findFree st) 0 (st.2.2 0)) (s_findFree st) 1 z) (s_findFree st) 2 w) (s_findFree st) 3 v) (s_findFree st) 4 (bi b)) (s_findFree st) 5 (-1))) H := by rw [← cw_p5 G a (pI (pI (pI (pI (pI st (s_findFree st) 0 (st.2.2 0)) (s_findFree st) 1 z) (s_findFree st) 2 w) (s_findFree st) 3 v) (s_findFree st) 4 (bi b)) hF (-1)]; exact hP
  have hD : va_D A (cw G a (pI (pI (pI (pI (pI (pI st (s_findFree st) 0 (st.2.2 0)) (s_findFree st) 1 z) (s_findFree st) 2 w) (s_findFree st) 3 v) (s_findFree st) 4 (bi b)) (s_findFree st) 5 (-1))) := by rw [← cw_p5 G a (pI (pI (pI (pI (pI st (s_findFree st) 0 (st.2.2 0)) (s_findFree st) 1 z) (s_findFree st) 2 w) (s_findFree st) 3 v) (s_findFree st) 4 (bi b)) hF (-1)]; exact hD
  refine lv_aload_n hx hb dX1_takeIn_46 rfl (lv_at hl 1 rfl) ?_
  refine lv_dup hx hb dX1_takeIn_47 rfl ?_
  refine va_get (D := D) (ci := 4) (v := .int ((pI (pI (pI (pI (pI (pI st (s_findFree st) 0 (st.2.2 0)) (s_findFree st) 1 z) (s_findFree st) 2 w) (s_findFree st) 3 v) (s_findFree st) 4 (bi b)) (s_findFree st) 5 (-1)).2.2 0)) (C := RX1) (T := TX1) (N := 7) hx hb hts i_X1 hown hK hP 0 rfl rfl 3 (by decide) (hts _ kw_121) (fun _ h9 => h9) rfl dX1_takeIn_48 ?_
  refine lv_iconst (v := 1) hx hb dX1_takeIn_51 (by decide) ?_
  refine lv_iadd hx hb dX1_takeIn_52 ?_
  refine va_put (D := D) (ci := 4) (v := .int (((pI (pI (pI (pI (pI (pI st (s_findFree st) 0 (st.2.2 0)) (s_findFree st) 1 z) (s_findFree st) 2 w) (s_findFree st) 3 v) (s_findFree st) 4 (bi b)) (s_findFree st) 5 (-1)).2.2 0) + 1)) (ty := .int) (C := RX1) (T := TX1) (N := 7) hx hb hts i_X1 tyX1 tyX1_ok nmX1 hown hK hP hD hS 0 rfl rfl 3 (by decide) (hts _ kw_121) (fun _ h9 => h9) rfl (by decide +kernel) rfl rfl (Nat.le_of_ble_eq_true rfl) dX1_takeIn_53 (fun H locs hP hD hS => ?_)
  have hP : va_P D vwCl (cw G a (sN (pI (pI (pI (pI (pI (pI st (s_findFree st) 0 (st.2.2 0)) (s_findFree st) 1 z) (s_findFree st) 2 w) (s_findFree st) 3 v) (s_findFree st) 4 (bi b)) (s_findFree st) 5 (-1)) 0 (((pI (pI (pI (pI (pI (pI st (s_findFree st) 0 (st.2.2 0)) (s_findFree st) 1 z) (s_findFree st) 2 w) (s_findFree st) 3 v) (s_findFree st) 4 (bi b)) (s_findFree st) 5 (-1)).2.2 0) + 1))) H := by rw [← cw_n0 G a (pI (pI (pI (pI (pI (pI st (s_findFree st) 0 (st.2.2 0)) (s_findFree st) 1 z) (s_findFree st) 2 w) (s_findFree st) 3 v) (s_findFree st) 4 (bi b)) (s_findFree st) 5 (-1)) (((pI (pI (pI (pI (pI (pI st (s_findFree st) 0 (st.2.2 0)) (s_findFree st) 1 z) (s_findFree st) 2 w) (s_findFree st) 3 v) (s_findFree st) 4 (bi b)) (s_findFree st) 5 (-1)).2.2 0) + 1)]; exact hP
  have hD : va_D A (cw G a (sN (pI (pI (pI (pI (pI (pI st (s_findFree st) 0 (st.2.2 0)) (s_findFree st) 1 z) (s_findFree st) 2 w) (s_findFree st) 3 v) (s_findFree st) 4 (bi b)) (s_findFree st) 5 (-1)) 0 (((pI (pI (pI (pI (pI (pI st (s_findFree st) 0 (st.2.2 0)) (s_findFree st) 1 z) (s_findFree st) 2 w) (s_findFree st) 3 v) (s_findFree st) 4 (bi b)) (s_findFree st) 5 (-1)).2.2 0) + 1))) := by rw [← cw_n0 G a (pI (pI (pI (pI (pI (pI st (s_findFree st) 0 (st.2.2 0)) (s_findFree st) 1 z) (s_findFree st) 2 w) (s_findFree st) 3 v) (s_findFree st) 4 (bi b)) (s_findFree st) 5 (-1)) (((pI (pI (pI (pI (pI (pI st (s_findFree st) 0 (st.2.2 0)) (s_findFree st) 1 z) (s_findFree st) 2 w) (s_findFree st) 3 v) (s_findFree st) 4 (bi b)) (s_findFree st) 5 (-1)).2.2 0) + 1)]; exact hD
  refine lv_aload hx hb dX1_takeIn_56 (lv_at hl 0 rfl) ?_
  refine va_get (D := D) (ci := 6) (v := .int (itm (sN (pI (pI (pI (pI (pI (pI st (s_findFree st) 0 (st.2.2 0)) (s_findFree st) 1 z) (s_findFree st) 2 w) (s_findFree st) 3 v) (s_findFree st) 4 (bi b)) (s_findFree st) 5 (-1)) 0 (((pI (pI (pI (pI (pI (pI st (s_findFree st) 0 (st.2.2 0)) (s_findFree st) 1 z) (s_findFree st) 2 w) (s_findFree st) 3 v) (s_findFree st) 4 (bi b)) (s_findFree st) 5 (-1)).2.2 0) + 1)) (s_findFree st) 0)) (C := RX4) (T := TX4) (N := 8) hx hb hts i_X4 hown hK hP (3 + (s_findFree st)) (cw_it G a (sN (pI (pI (pI (pI (pI (pI st (s_findFree st) 0 (st.2.2 0)) (s_findFree st) 1 z) (s_findFree st) 2 w) (s_findFree st) 3 v) (s_findFree st) 4 (bi b)) (s_findFree st) 5 (-1)) 0 (((pI (pI (pI (pI (pI (pI st (s_findFree st) 0 (st.2.2 0)) (s_findFree st) 1 z) (s_findFree st) 2 w) (s_findFree st) 3 v) (s_findFree st) 4 (bi b)) (s_findFree st) 5 (-1)).2.2 0) + 1)) (s_findFree_lt st)) rfl 0 (by decide) (hts _ kw_79) (fun _ h9 => h9) rfl dX1_takeIn_58 ?_
  have hz_1 : m_takeIn st z w v b = (itm (sN (pI (pI (pI (pI (pI (pI st (s_findFree st) 0 (st.2.2 0)) (s_findFree st) 1 z) (s_findFree st) 2 w) (s_findFree st) 3 v) (s_findFree st) 4 (bi b)) (s_findFree st) 5 (-1)) 0 (((pI (pI (pI (pI (pI (pI st (s_findFree st) 0 (st.2.2 0)) (s_findFree st) 1 z) (s_findFree st) 2 w) (s_findFree st) 3 v) (s_findFree st) 4 (bi b)) (s_findFree st) 5 (-1)).2.2 0) + 1)) (s_findFree st) 0, (sN (pI (pI (pI (pI (pI (pI st (s_findFree st) 0 (st.2.2 0)) (s_findFree st) 1 z) (s_findFree st) 2 w) (s_findFree st) 3 v) (s_findFree st) 4 (bi b)) (s_findFree st) 5 (-1)) 0 (((pI (pI (pI (pI (pI (pI st (s_findFree st) 0 (st.2.2 0)) (s_findFree st) 1 z) (s_findFree st) 2 w) (s_findFree st) 3 v) (s_findFree st) 4 (bi b)) (s_findFree st) 5 (-1)).2.2 0) + 1))) := rfl
  exact W.iret (v := itm (sN (pI (pI (pI (pI (pI (pI st (s_findFree st) 0 (st.2.2 0)) (s_findFree st) 1 z) (s_findFree st) 2 w) (s_findFree st) 3 v) (s_findFree st) 4 (bi b)) (s_findFree st) 5 (-1)) 0 (((pI (pI (pI (pI (pI (pI st (s_findFree st) 0 (st.2.2 0)) (s_findFree st) 1 z) (s_findFree st) 2 w) (s_findFree st) 3 v) (s_findFree st) 4 (bi b)) (s_findFree st) 5 (-1)).2.2 0) + 1)) (s_findFree st) 0) hx hb hr (fun t ht hW => ⟨⟨itm (sN (pI (pI (pI (pI (pI (pI st (s_findFree st) 0 (st.2.2 0)) (s_findFree st) 1 z) (s_findFree st) 2 w) (s_findFree st) 3 v) (s_findFree st) 4 (bi b)) (s_findFree st) 5 (-1)) 0 (((pI (pI (pI (pI (pI (pI st (s_findFree st) 0 (st.2.2 0)) (s_findFree st) 1 z) (s_findFree st) 2 w) (s_findFree st) 3 v) (s_findFree st) 4 (bi b)) (s_findFree st) 5 (-1)).2.2 0) + 1)) (s_findFree st) 0, (), rfl, pr1 hz_1, wP2 hz_1 ht hP⟩, hS.F ht⟩) hS.2.2 dX1_takeIn_61
set_option maxRecDepth 100000 in
set_option maxHeartbeats 4000000 in
theorem c_X1_drop (l : Launch) (D : va_G) (G : GA) (a : Nat → Nat) (st : CS) (id : Int32) (hF : s_find st id < 12) (sz : Nat) : Met l yX1_drop (wA yX1_drop cX1_drop 2 (some .int)) ({ frames := 2, cells := 0, slots := 0, locals := 45 } : Room) (va_Pc [.ref (a 0), .int id] (CMp D G a st sz)) (va_Qi (fun (r : Int32) (_ : Unit) => r = (m_drop st id).1) (fun _ t9 => va_P D vwCl (cw G a (m_drop st id).2) t9.heap) (va_A (cw G a st) sz)) 0 0 (va_A (cw G a st) sz) := by
  refine Met.ofW (cc := cX1_drop) (maxL := 2) (ret := (some .int)) (by decide) rfl ?_
  intro p e s m args below meth c s₁ B hml hv
  obtain ⟨rfl, hsz, hP, hK, hD0⟩ := hv
  have hx := B.exec
  have hb := B.bytes
  have hr := B.returns
  have hts : ∀ w9 ∈ tb, w9.before ([.ref (a 0), .int id] : List Value).toArray s = true := fun w9 h9 => atoms_spec (ws := (wA yX1_drop cX1_drop 2 (some .int))) B.pre w9 (List.mem_cons_of_mem _ h9)
  have hown : s.vm.findClass RX1 = some m.cls := findClass_of_methodNamed B.named
  have hlocks := B.notSynchronized
  subst hsz
  have hD := hD0.self (sz := s.heap.size)
  generalize hAe : va_A (cw G a st) s.heap.size = A at hD ⊢
  have hA : ∀ q : Nat, s.heap.size ≤ q → A q := fun q h => by rw [← hAe]; exact Or.inr h
  have hS : va_S A s.heap s.heap [] := va_S.rf
  have hl := lv_entry ([.ref (a 0), .int id]) (n := 2) (Nat.le_of_ble_eq_true rfl)
  rw [lg_entry_eq]
  generalize (lg_sl ([.ref (a 0), .int id]) ++ List.replicate (2 - (lg_sl ([.ref (a 0), .int id])).length) Slot.unset).toArray = ls at hl ⊢
  have hl : lv_has ls 2 [(0, .ref (a 0)), (1, .int id)] := hl
  refine lv_aload_n hx hb dX1_drop_0 rfl (lv_at hl 0 rfl) ?_
  refine lv_iload_n hx hb dX1_drop_1 rfl (lv_at hl 1 rfl) ?_
  refine va_csr (va_runV (As := [.int id]) (rest := []) ⟨hx, hb, hml, hown, hts⟩ (c_X1_find l D G a st id) (cwV 1 hts gw_X1_82 rfl rfl rfl (by decide +kernel) ⟨Nat.le_of_ble_eq_true rfl, Nat.le_of_ble_eq_true rfl⟩) (pv_cw hK hP) rfl rfl hl.1 rfl (lv_room (Nat.le_of_ble_eq_true rfl)) dX1_drop_2 ⟨Nat.le_of_ble_eq_true rfl, Nat.le_of_ble_eq_true rfl⟩).run (nm_e ?_)
  refine lv_bipush (v := -2) hx hb dX1_drop_5 (by decide) ?_
  refine va_put (D := D) (ci := 6) (v := .int (-2)) (ty := .int) (C := RX4) (T := TX4) (N := 8) hx hb hts i_X4 tyX4 tyX4_ok nmX4 hown hK hP hD hS (3 + (s_find st id)) (cw_it G a st (s_find_lt st id)) rfl 5 (by decide) (hts _ kw_94) (fun _ h9 => h9) rfl (by decide +kernel) rfl rfl (Nat.le_of_ble_eq_true rfl) dX1_drop_7 (fun H locs hP hD hS => ?_)
  have hP : va_P D vwCl (cw G a (pI st (s_find st id) 5 (-2))) H := by rw [← cw_p5 G a st hF (-2)]; exact hP
  have hD : va_D A (cw G a (pI st (s_find st id) 5 (-2))) := by rw [← cw_p5 G a st hF (-2)]; exact hD
  refine lv_aload_n hx hb dX1_drop_10 rfl (lv_at hl 0 rfl) ?_
  refine vp_callSi (va_runV (As := []) (rest := []) ⟨hx, hb, hml, hown, hts⟩ (c_X1_countItems l D G a (pI st (s_find st id) 5 (-2))) (cwV 0 hts gw_X1_55 rfl rfl rfl (by decide +kernel) ⟨Nat.le_of_ble_eq_true rfl, Nat.le_of_ble_eq_true rfl⟩) (pv_cw hK hP) rfl rfl hl.1 rfl (lv_room (Nat.le_of_ble_eq_true rfl)) dX1_drop_11 ⟨Nat.le_of_ble_eq_true rfl, Nat.le_of_ble_eq_true rfl⟩).run (nm_e ?_)
  have hz_1 : m_drop st id = ((s_countItems (pI st (s_find st id) 5 (-2))), (pI st (s_find st id) 5 (-2))) := rfl
  exact W.iret (v := (s_countItems (pI st (s_find st id) 5 (-2)))) hx hb hr (fun t ht hW => ⟨⟨(s_countItems (pI st (s_find st id) 5 (-2))), (), rfl, pr1 hz_1, wP2 hz_1 ht hP⟩, hS.F ht⟩) hS.2.2 dX1_drop_14
set_option maxRecDepth 100000 in
set_option maxHeartbeats 4000000 in
theorem c_X1_putInto (l : Launch) (D : va_G) (G : GA) (a : Nat → Nat) (st : CS) (g : Nat) (hgg : g < 13) (h12 : g < 12) (b : Int32) (sz : Nat) : Met l yX1_putInto (wA yX1_putInto cX1_putInto 4 none) ({ frames := 3, cells := 0, slots := 0, locals := 71 } : Room) (va_Pc [.ref (a 0), .ref (a (3 + g)), .int b] (CMp D G a st sz)) (va_Qv (fun _ : Unit => True) (fun _ t9 => va_P D vwCl (cw G a (m_putInto st g b)) t9.heap) (va_A (cw G a st) sz)) 0 0 (va_A (cw G a st) sz) := by
  refine Met.ofW (cc := cX1_putInto) (maxL := 4) (ret := none) (by decide) rfl ?_
  intro p e s m args below meth c s₁ B hml hv
  obtain ⟨rfl, hsz, hP, hK, hD0⟩ := hv
  have hx := B.exec
  have hb := B.bytes
  have hr := B.returns
  have hts : ∀ w9 ∈ tb, w9.before ([.ref (a 0), .ref (a (3 + g)), .int b] : List Value).toArray s = true := fun w9 h9 => atoms_spec (ws := (wA yX1_putInto cX1_putInto 4 none)) B.pre w9 (List.mem_cons_of_mem _ h9)
  have hown : s.vm.findClass RX1 = some m.cls := findClass_of_methodNamed B.named
  have hlocks := B.notSynchronized
  subst hsz
  have hD := hD0.self (sz := s.heap.size)
  generalize hAe : va_A (cw G a st) s.heap.size = A at hD ⊢
  have hA : ∀ q : Nat, s.heap.size ≤ q → A q := fun q h => by rw [← hAe]; exact Or.inr h
  have hS : va_S A s.heap s.heap [] := va_S.rf
  have hl := lv_entry ([.ref (a 0), .ref (a (3 + g)), .int b]) (n := 4) (Nat.le_of_ble_eq_true rfl)
  rw [lg_entry_eq]
  generalize (lg_sl ([.ref (a 0), .ref (a (3 + g)), .int b]) ++ List.replicate (4 - (lg_sl ([.ref (a 0), .ref (a (3 + g)), .int b])).length) Slot.unset).toArray = ls at hl ⊢
  have hl : lv_has ls 4 [(0, .ref (a 0)), (1, .ref (a (3 + g))), (2, .int b)] := hl
  refine lv_aload_n hx hb dX1_putInto_0 rfl (lv_at hl 0 rfl) ?_
  refine lv_aload_n hx hb dX1_putInto_1 rfl (lv_at hl 1 rfl) ?_
  refine lv_iload_n hx hb dX1_putInto_2 rfl (lv_at hl 2 rfl) ?_
  refine vp_callSi (va_runV (As := [.ref (a (3 + g)), .int b]) (rest := []) ⟨hx, hb, hml, hown, hts⟩ (c_X1_targetLayer l D G a st g hgg b) (cwV 2 hts gw_X1_136 rfl rfl rfl (by decide +kernel) ⟨Nat.le_of_ble_eq_true rfl, Nat.le_of_ble_eq_true rfl⟩) (pv_cw hK hP) rfl rfl hl.1 rfl (lv_room (Nat.le_of_ble_eq_true rfl)) dX1_putInto_3 ⟨Nat.le_of_ble_eq_true rfl, Nat.le_of_ble_eq_true rfl⟩).run (nm_e ?_)
  refine lv_istore_n (lv' := [(3, .int (s_target st g b)), (0, .ref (a 0)), (1, .ref (a (3 + g))), (2, .int b)]) hx hb dX1_putInto_6 rfl hl (by decide) rfl (fun ls hl => ?_)
  refine lv_aload_n hx hb dX1_putInto_7 rfl (lv_at hl 2 rfl) ?_
  refine lv_aload_n hx hb dX1_putInto_8 rfl (lv_at hl 1 rfl) ?_
  refine lv_iload_n hx hb dX1_putInto_9 rfl (lv_at hl 3 rfl) ?_
  refine lv_iload_n hx hb dX1_putInto_10 rfl (lv_at hl 0 rfl) ?_
  refine vp_callSi (va_runV (As := [.int b, .int (s_target st g b)]) (rest := [.ref (a (3 + g))]) ⟨hx, hb, hml, hown, hts⟩ (c_X1_countInLayer l D G a st b (s_target st g b)) (cwV 2 hts gw_X1_139 rfl rfl rfl (by decide +kernel) ⟨Nat.le_of_ble_eq_true rfl, Nat.le_of_ble_eq_true rfl⟩) (pv_cw hK hP) rfl rfl hl.1 rfl (lv_room (Nat.le_of_ble_eq_true rfl)) dX1_putInto_11 ⟨Nat.le_of_ble_eq_true rfl, Nat.le_of_ble_eq_true rfl⟩).run (nm_e ?_)
  refine va_put (D := D) (ci := 6) (v := .int (s_countInLayer st b (s_target st g b))) (ty := .int) (C := RX4) (T := TX4) (N := 8) hx hb hts i_X4 tyX4 tyX4_ok nmX4 hown hK hP hD hS (3 + g) (cw_it G a st hgg) rfl 7 (by decide) (hts _ kw_100) (fun _ h9 => h9) rfl (by decide +kernel) rfl rfl (Nat.le_of_ble_eq_true rfl) dX1_putInto_14 (fun H locs hP hD hS => ?_)
  have hP : va_P D vwCl (cw G a (pI st g 7 (s_countInLayer st b (s_target st g b)))) H := by rw [← cw_p7 G a st h12 (s_countInLayer st b (s_target st g b))]; exact hP
  have hD : va_D A (cw G a (pI st g 7 (s_countInLayer st b (s_target st g b)))) := by rw [← cw_p7 G a st h12 (s_countInLayer st b (s_target st g b))]; exact hD
  refine lv_aload_n hx hb dX1_putInto_17 rfl (lv_at hl 2 rfl) ?_
  refine lv_iload_n hx hb dX1_putInto_18 rfl (lv_at hl 0 rfl) ?_
  refine va_put (D := D) (ci := 6) (v := .int (s_target st g b)) (ty := .int) (C := RX4) (T := TX4) (N := 8) hx hb hts i_X4 tyX4 tyX4_ok nmX4 hown hK hP hD hS (3 + g) (cw_it G a (pI st g 7 (s_countInLayer st b (s_target st g b))) hgg) rfl 6 (by decide) (hts _ kw_97) (fun _ h9 => h9) rfl (by decide +kernel) rfl rfl (Nat.le_of_ble_eq_true rfl) dX1_putInto_19 (fun H locs hP hD hS => ?_)
  have hP : va_P D vwCl (cw G a (pI (pI st g 7 (s_countInLayer st b (s_target st g b))) g 6 (s_target st g b))) H := by rw [← cw_p6 G a (pI st g 7 (s_countInLayer st b (s_target st g b))) h12 (s_target st g b)]; exact hP
  have hD : va_D A (cw G a (pI (pI st g 7 (s_countInLayer st b (s_target st g b))) g 6 (s_target st g b))) := by rw [← cw_p6 G a (pI st g 7 (s_countInLayer st b (s_target st g b))) h12 (s_target st g b)]; exact hD
  refine lv_aload_n hx hb dX1_putInto_22 rfl (lv_at hl 2 rfl) ?_
  refine lv_iload_n hx hb dX1_putInto_23 rfl (lv_at hl 3 rfl) ?_
  refine va_put (D := D) (ci := 6) (v := .int b) (ty := .int) (C := RX4) (T := TX4) (N := 8) hx hb hts i_X4 tyX4 tyX4_ok nmX4 hown hK hP hD hS (3 + g) (cw_it G a (pI (pI st g 7 (s_countInLayer st b (s_target st g b))) g 6 (s_target st g b)) hgg) rfl 5 (by decide) (hts _ kw_94) (fun _ h9 => h9) rfl (by decide +kernel) rfl rfl (Nat.le_of_ble_eq_true rfl) dX1_putInto_24 (fun H locs hP hD hS => ?_)
  have hP : va_P D vwCl (cw G a (pI (pI (pI st g 7 (s_countInLayer st b (s_target st g b))) g 6 (s_target st g b)) g 5 b)) H := by rw [← cw_p5 G a (pI (pI st g 7 (s_countInLayer st b (s_target st g b))) g 6 (s_target st g b)) h12 b]; exact hP
  have hD : va_D A (cw G a (pI (pI (pI st g 7 (s_countInLayer st b (s_target st g b))) g 6 (s_target st g b)) g 5 b)) := by rw [← cw_p5 G a (pI (pI st g 7 (s_countInLayer st b (s_target st g b))) g 6 (s_target st g b)) h12 b]; exact hD
  have hz_1 : m_putInto st g b = (pI (pI (pI st g 7 (s_countInLayer st b (s_target st g b))) g 6 (s_target st g b)) g 5 b) := rfl
  exact W.vret hx hb hr (fun t ht hW => ⟨⟨(), rfl, trivial, wP1 hz_1 ht hP⟩, hS.F ht⟩) hS.2.2 dX1_putInto_27
set_option maxRecDepth 100000 in
set_option maxHeartbeats 4000000 in
theorem c_X1_load (l : Launch) (D : va_G) (G : GA) (a : Nat → Nat) (st : CS) (id : Int32) (b : Int32) (hF : s_find st id < 12) (sz : Nat) : Met l yX1_load (wA yX1_load cX1_load 4 (some .int)) ({ frames := 4, cells := 0, slots := 0, locals := 94 } : Room) (va_Pc [.ref (a 0), .int id, .int b] (CMp D G a st sz)) (va_Qi (fun (r : Int32) (_ : Unit) => r = (m_load st id b).1) (fun _ t9 => va_P D vwCl (cw G a (m_load st id b).2) t9.heap) (va_A (cw G a st) sz)) 0 0 (va_A (cw G a st) sz) := by
  refine Met.ofW (cc := cX1_load) (maxL := 4) (ret := (some .int)) (by decide) rfl ?_
  intro p e s m args below meth c s₁ B hml hv
  obtain ⟨rfl, hsz, hP, hK, hD0⟩ := hv
  have hx := B.exec
  have hb := B.bytes
  have hr := B.returns
  have hts : ∀ w9 ∈ tb, w9.before ([.ref (a 0), .int id, .int b] : List Value).toArray s = true := fun w9 h9 => atoms_spec (ws := (wA yX1_load cX1_load 4 (some .int))) B.pre w9 (List.mem_cons_of_mem _ h9)
  have hown : s.vm.findClass RX1 = some m.cls := findClass_of_methodNamed B.named
  have hlocks := B.notSynchronized
  subst hsz
  have hD := hD0.self (sz := s.heap.size)
  generalize hAe : va_A (cw G a st) s.heap.size = A at hD ⊢
  have hA : ∀ q : Nat, s.heap.size ≤ q → A q := fun q h => by rw [← hAe]; exact Or.inr h
  have hS : va_S A s.heap s.heap [] := va_S.rf
  have hl := lv_entry ([.ref (a 0), .int id, .int b]) (n := 4) (Nat.le_of_ble_eq_true rfl)
  rw [lg_entry_eq]
  generalize (lg_sl ([.ref (a 0), .int id, .int b]) ++ List.replicate (4 - (lg_sl ([.ref (a 0), .int id, .int b])).length) Slot.unset).toArray = ls at hl ⊢
  have hl : lv_has ls 4 [(0, .ref (a 0)), (1, .int id), (2, .int b)] := hl
  refine lv_aload_n hx hb dX1_load_0 rfl (lv_at hl 0 rfl) ?_
  refine lv_iload_n hx hb dX1_load_1 rfl (lv_at hl 1 rfl) ?_
  refine va_csr (va_runV (As := [.int id]) (rest := []) ⟨hx, hb, hml, hown, hts⟩ (c_X1_find l D G a st id) (cwV 1 hts gw_X1_82 rfl rfl rfl (by decide +kernel) ⟨Nat.le_of_ble_eq_true rfl, Nat.le_of_ble_eq_true rfl⟩) (pv_cw hK hP) rfl rfl hl.1 rfl (lv_room (Nat.le_of_ble_eq_true rfl)) dX1_load_2 ⟨Nat.le_of_ble_eq_true rfl, Nat.le_of_ble_eq_true rfl⟩).run (nm_e ?_)
  refine lv_astore_n (x := (a (3 + (s_find st id)))) (lv' := [(3, .ref (a (3 + (s_find st id)))), (0, .ref (a 0)), (1, .int id), (2, .int b)]) hx hb dX1_load_5 rfl hl (by decide) rfl (fun ls hl => ?_)
  refine lv_aload_n hx hb dX1_load_6 rfl (lv_at hl 1 rfl) ?_
  refine lv_aload_n hx hb dX1_load_7 rfl (lv_at hl 0 rfl) ?_
  refine lv_iload_n hx hb dX1_load_8 rfl (lv_at hl 3 rfl) ?_
  have hFc := freeC hD hS hA
  refine va_callv (va_runV (As := [.ref (a (3 + (s_find st id))), .int b]) (rest := []) ⟨hx, hb, hml, hown, hts⟩ (c_X1_putInto l D G a st (s_find st id) (s_find_lt st id) hF b s.heap.size) (cwV 2 hts gw_X1_110 rfl rfl rfl (by decide +kernel) ⟨Nat.le_of_ble_eq_true rfl, Nat.le_of_ble_eq_true rfl⟩) (pv_cm hK hP hD) rfl rfl hl.1 rfl (lv_room (Nat.le_of_ble_eq_true rfl)) dX1_load_9 ⟨Nat.le_of_ble_eq_true rfl, Nat.le_of_ble_eq_true rfl⟩) hS (fun q _ h => hFc q h) hFc (fun u t H locs ht hvm hw_1 hB hz1 hk1 hS => ?_)
  have hP : va_P D vwCl (cw G a (m_putInto st (s_find st id) b)) H := by have h9 := hB; rw [ht] at h9; exact h9
  have hD : va_D A (cw G a (m_putInto st (s_find st id) b)) := cwD hD
  refine lv_aload_n hx hb dX1_load_12 rfl (lv_at hl 0 rfl) ?_
  refine va_get (D := D) (ci := 6) (v := .int (itm (m_putInto st (s_find st id) b) (s_find st id) 6)) (C := RX4) (T := TX4) (N := 8) hx hb hts i_X4 hown hK hP (3 + (s_find st id)) (cw_it G a (m_putInto st (s_find st id) b) (s_find_lt st id)) rfl 6 (by decide) (hts _ kw_97) (fun _ h9 => h9) rfl dX1_load_13 ?_
  have hz_2 : m_load st id b = (itm (m_putInto st (s_find st id) b) (s_find st id) 6, (m_putInto st (s_find st id) b)) := rfl
  exact W.iret (v := itm (m_putInto st (s_find st id) b) (s_find st id) 6) hx hb hr (fun t ht hW => ⟨⟨itm (m_putInto st (s_find st id) b) (s_find st id) 6, (), rfl, pr1 hz_2, wP2 hz_2 ht hP⟩, hS.F ht⟩) hS.2.2 dX1_load_16
set_option maxRecDepth 100000 in
set_option maxHeartbeats 4000000 in
theorem c_X1_takeOut (l : Launch) (D : va_G) (G : GA) (a : Nat → Nat) (st : CS) (g : Nat) (hgg : g < 13) (h12 : g < 12) (sz : Nat) : Met l yX1_takeOut (wA yX1_takeOut cX1_takeOut 8 none) ({ frames := 1, cells := 0, slots := 0, locals := 27 } : Room) (va_Pc [.ref (a 0), .ref (a (3 + g))] (CMp D G a st sz)) (va_Qv (fun _ : Unit => True) (fun _ t9 => va_P D vwCl (cw G a (m_takeOut st g)) t9.heap) (va_A (cw G a st) sz)) 0 0 (va_A (cw G a st) sz) := by
  refine Met.ofW (cc := cX1_takeOut) (maxL := 8) (ret := none) (by decide) rfl ?_
  intro p e s m args below meth c s₁ B hml hv
  obtain ⟨rfl, hsz, hP, hK, hD0⟩ := hv
  have hx := B.exec
  have hb := B.bytes
  have hr := B.returns
  have hts : ∀ w9 ∈ tb, w9.before ([.ref (a 0), .ref (a (3 + g))] : List Value).toArray s = true := fun w9 h9 => atoms_spec (ws := (wA yX1_takeOut cX1_takeOut 8 none)) B.pre w9 (List.mem_cons_of_mem _ h9)
  have hown : s.vm.findClass RX1 = some m.cls := findClass_of_methodNamed B.named
  have hlocks := B.notSynchronized
  subst hsz
  have hD := hD0.self (sz := s.heap.size)
  generalize hAe : va_A (cw G a st) s.heap.size = A at hD ⊢
  have hA : ∀ q : Nat, s.heap.size ≤ q → A q := fun q h => by rw [← hAe]; exact Or.inr h
  have hS : va_S A s.heap s.heap [] := va_S.rf
  have hl := lv_entry ([.ref (a 0), .ref (a (3 + g))]) (n := 8) (Nat.le_of_ble_eq_true rfl)
  rw [lg_entry_eq]
  generalize (lg_sl ([.ref (a 0), .ref (a (3 + g))]) ++ List.replicate (8 - (lg_sl ([.ref (a 0), .ref (a (3 + g))])).length) Slot.unset).toArray = ls at hl ⊢
  have hl : lv_has ls 8 [(0, .ref (a 0)), (1, .ref (a (3 + g)))] := hl
  refine lv_aload_n hx hb dX1_takeOut_0 rfl (lv_at hl 1 rfl) ?_
  refine va_get (D := D) (ci := 6) (v := .int (itm st g 5)) (C := RX4) (T := TX4) (N := 8) hx hb hts i_X4 hown hK hP (3 + g) (cw_it G a st hgg) rfl 5 (by decide) (hts _ kw_94) (fun _ h9 => h9) rfl dX1_takeOut_1 ?_
  refine lv_istore_n (lv' := [(2, .int (itm st g 5)), (0, .ref (a 0)), (1, .ref (a (3 + g)))]) hx hb dX1_takeOut_4 rfl hl (by decide) rfl (fun ls hl => ?_)
  refine lv_aload_n hx hb dX1_takeOut_5 rfl (lv_at hl 2 rfl) ?_
  refine lv_iconst (v := -1) hx hb dX1_takeOut_6 (by decide) ?_
  refine va_put (D := D) (ci := 6) (v := .int (-1)) (ty := .int) (C := RX4) (T := TX4) (N := 8) hx hb hts i_X4 tyX4 tyX4_ok nmX4 hown hK hP hD hS (3 + g) (cw_it G a st hgg) rfl 5 (by decide) (hts _ kw_94) (fun _ h9 => h9) rfl (by decide +kernel) rfl rfl (Nat.le_of_ble_eq_true rfl) dX1_takeOut_7 (fun H locs hP hD hS => ?_)
  have hP : va_P D vwCl (cw G a (pI st g 5 (-1))) H := by rw [← cw_p5 G a st h12 (-1)]; exact hP
  have hD : va_D A (cw G a (pI st g 5 (-1))) := by rw [← cw_p5 G a st h12 (-1)]; exact hD
  refine lv_aload_n hx hb dX1_takeOut_10 rfl (lv_at hl 1 rfl) ?_
  refine lv_iload_n hx hb dX1_takeOut_11 rfl (lv_at hl 0 rfl) ?_
  refine lv_aload_n hx hb dX1_takeOut_12 rfl (lv_at hl 2 rfl) ?_
  refine va_get (D := D) (ci := 6) (v := .int (itm (pI st g 5 (-1)) g 6)) (C := RX4) (T := TX4) (N := 8) hx hb hts i_X4 hown hK hP (3 + g) (cw_it G a (pI st g 5 (-1)) hgg) rfl 6 (by decide) (hts _ kw_97) (fun _ h9 => h9) rfl dX1_takeOut_13 ?_
  refine vp_callSi (va_runV (As := [.int (itm st g 5), .int (itm (pI st g 5 (-1)) g 6)]) (rest := []) ⟨hx, hb, hml, hown, hts⟩ (c_X1_countInLayer l D G a (pI st g 5 (-1)) (itm st g 5) (itm (pI st g 5 (-1)) g 6)) (cwV 2 hts gw_X1_139 rfl rfl rfl (by decide +kernel) ⟨Nat.le_of_ble_eq_true rfl, Nat.le_of_ble_eq_true rfl⟩) (pv_cw hK hP) rfl rfl hl.1 rfl (lv_room (Nat.le_of_ble_eq_true rfl)) dX1_takeOut_16 ⟨Nat.le_of_ble_eq_true rfl, Nat.le_of_ble_eq_true rfl⟩).run (nm_e ?_)
  refine lv_if_ne (tgt := 26) hx hb dX1_takeOut_19 (by decide) (fun c_1 => ?_) (fun c_1 => ?_)
  · skip
    refine lv_iconst (v := 0) hx hb dX1_takeOut_26 (by decide) ?_
    refine lv_istore_n (lv' := [(3, .int 0), (2, .int (itm st g 5)), (0, .ref (a 0)), (1, .ref (a (3 + g)))]) hx hb dX1_takeOut_27 rfl hl (by decide) rfl (fun ls hl => ?_)
    refine lv_aload_n hx hb dX1_takeOut_28 rfl (lv_at hl 2 rfl) ?_
    refine va_get (D := D) (ci := 4) (v := .ref (a 1)) (C := RX1) (T := TX1) (N := 7) hx hb hts i_X1 hown hK hP 0 rfl rfl 0 (by decide) (hts _ kw_118) (fun _ h9 => h9) rfl dX1_takeOut_29 ?_
    refine lv_astore (x := (a 1)) (lv' := [(4, .ref (a 1)), (3, .int 0), (2, .int (itm st g 5)), (0, .ref (a 0)), (1, .ref (a (3 + g)))]) hx hb dX1_takeOut_32 hl (by decide) rfl (fun ls hl => ?_)
    refine lv_aload hx hb dX1_takeOut_34 (lv_at hl 0 rfl) ?_
    refine va_alen (v := nI 12) hx hb hK hP 1 0 rfl rfl rfl dX1_takeOut_36 ?_
    refine lv_istore (lv' := [(5, .int (nI 12)), (4, .ref (a 1)), (3, .int 0), (2, .int (itm st g 5)), (0, .ref (a 0)), (1, .ref (a (3 + g)))]) hx hb dX1_takeOut_37 hl (by decide) rfl (fun ls hl => ?_)
    refine lv_iconst (v := 0) hx hb dX1_takeOut_39 (by decide) ?_
    refine lv_istore (lv' := [(6, .int 0), (5, .int (nI 12)), (4, .ref (a 1)), (3, .int 0), (2, .int (itm st g 5)), (0, .ref (a 0)), (1, .ref (a (3 + g)))]) hx hb dX1_takeOut_40 hl (by decide) rfl (fun ls hl => ?_)
    have L42 : ∀ (n k : Nat), k + n = 12 → ∀ (H : Heap) (locs : List Loc), va_P D vwCl (cw G a (lp (q_takeOut (itm st g 5) g false) k (pI st g 5 (-1)))) H → va_D A (cw G a (lp (q_takeOut (itm st g 5) g false) k (pI st g 5 (-1)))) → va_S A s.heap H locs → ∀ ls : Array Slot, lv_has ls 8 [(6, .int (nI k)), (5, .int (nI 12)), (4, .ref (a 1)), (3, .int 0), (2, .int (itm st g 5)), (0, .ref (a 0)), (1, .ref (a (3 + g)))] → W p l e (headSpec (wA yX1_takeOut cX1_takeOut 8 none) ({ frames := 1, cells := 0, slots := 0, locals := 27 } : Room)).room s m ([.ref (a 0), .ref (a (3 + g))] : List Value).toArray below meth c H locs 0 0 (MQ below (va_Qv (fun _ : Unit => True) (fun _ t9 => va_P D vwCl (cw G a (m_takeOut st g)) t9.heap) A) ([.ref (a 0), .ref (a (3 + g))] : List Value).toArray s 0 0 A) (F0 m 42 ls []) := by
      intro n
      induction n with
      | zero =>
        intro k hk0 H locs hP hD hS ls hl
        obtain rfl : k = 12 := by omega
        refine lv_iload hx hb dX1_takeOut_42 (lv_at hl 0 rfl) ?_
        refine lv_iload hx hb dX1_takeOut_44 (lv_at hl 1 rfl) ?_
        refine lv_icmp_ge (tgt := 142) hx hb dX1_takeOut_46 (by decide) (fun _ => ?_) (fun c_2 => absurd (nI_le (a := 12) (b := 12) (by omega) (by omega)) c_2)
        have hz_3 : m_takeOut st g = (lp (q_takeOut (itm st g 5) g false) 12 (pI st g 5 (-1))) := by simp only [m_takeOut, if_neg c_1]
        exact W.vret hx hb hr (fun t ht hW => ⟨⟨(), rfl, trivial, wP1 hz_3 ht hP⟩, hS.F ht⟩) hS.2.2 dX1_takeOut_142
      | succ n ih =>
        intro k hk0 H locs hP hD hS ls hl
        have hk12 : k < 12 := by omega
        refine lv_iload hx hb dX1_takeOut_42 (lv_at hl 0 rfl) ?_
        refine lv_iload hx hb dX1_takeOut_44 (lv_at hl 1 rfl) ?_
        refine lv_icmp_ge (tgt := 142) hx hb dX1_takeOut_46 (by decide) (fun c_4 => absurd c_4 (nI_ge (a := k) (b := 12) (by omega) (by omega))) (fun _ => ?_)
        refine lv_aload hx hb dX1_takeOut_49 (lv_at hl 2 rfl) ?_
        refine lv_iload hx hb dX1_takeOut_51 (lv_at hl 0 rfl) ?_
        refine va_aldq hx hb hK hP 1 0 rfl rfl (vp_in_nI (by omega) (by decide)) dX1_takeOut_53 ?_
        rw [nI_clamp (n := k) (by omega)]
        refine lv_astore (x := (a (3 + k))) (lv' := [(7, .ref (a (3 + k))), (6, .int (nI k)), (5, .int (nI 12)), (4, .ref (a 1)), (3, .int 0), (2, .int (itm st g 5)), (0, .ref (a 0)), (1, .ref (a (3 + g)))]) hx hb dX1_takeOut_54 hl (by decide) rfl (fun ls hl => ?_)
        refine lv_aload hx hb dX1_takeOut_56 (lv_at hl 0 rfl) ?_
        refine va_get (D := D) (ci := 6) (v := .int (itm (lp (q_takeOut (itm st g 5) g false) k (pI st g 5 (-1))) k 5)) (C := RX4) (T := TX4) (N := 8) hx hb hts i_X4 hown hK hP (3 + k) (cw_it G a (lp (q_takeOut (itm st g 5) g false) k (pI st g 5 (-1))) (by omega)) rfl 5 (by decide) (hts _ kw_94) (fun _ h9 => h9) rfl dX1_takeOut_58 ?_
        refine lv_iload_n hx hb dX1_takeOut_61 rfl (lv_at hl 5 rfl) ?_
        refine lv_icmp_ne (tgt := 100) hx hb dX1_takeOut_62 (by decide) (fun c_5 => ?_) (fun c_5 => ?_)
        · skip
          refine lv_aload hx hb dX1_takeOut_100 (lv_at hl 0 rfl) ?_
          refine va_get (D := D) (ci := 6) (v := .int (itm (lp (q_takeOut (itm st g 5) g false) k (pI st g 5 (-1))) k 5)) (C := RX4) (T := TX4) (N := 8) hx hb hts i_X4 hown hK hP (3 + k) (cw_it G a (lp (q_takeOut (itm st g 5) g false) k (pI st g 5 (-1))) (by omega)) rfl 5 (by decide) (hts _ kw_94) (fun _ h9 => h9) rfl dX1_takeOut_102 ?_
          refine lv_iload_n hx hb dX1_takeOut_105 rfl (lv_at hl 5 rfl) ?_
          refine lv_icmp_ne (tgt := 136) hx hb dX1_takeOut_106 (by decide) (fun _ => ?_) (fun c_6 => absurd c_6 c_5)
          refine lv_iinc (v := nI (k + 1)) (lv' := [(6, .int (nI (k + 1))), (7, .ref (a (3 + k))), (5, .int (nI 12)), (4, .ref (a 1)), (3, .int 0), (2, .int (itm st g 5)), (0, .ref (a 0)), (1, .ref (a (3 + g)))]) hx hb dX1_takeOut_136 hl (k := 1) rfl (by exact nI_1 k) (by decide) rfl (fun ls hl => ?_)
          refine lv_goto (tgt := 42) hx hb dX1_takeOut_139 (by decide) ?_
          have hz_7 : lp (q_takeOut (itm st g 5) g false) (k + 1) (pI st g 5 (-1)) = (lp (q_takeOut (itm st g 5) g false) k (pI st g 5 (-1))) := by simp only [lp, q_takeOut, if_neg c_5, cond_true, cond_false]
          exact ih (k + 1) (by omega) _ _ (by rw [hz_7]; exact hP) (by rw [hz_7]; exact hD) hS ls (lv_sub hl [0, 2, 3, 4, 5, 6, 7] rfl)
        · skip
          refine lv_aload hx hb dX1_takeOut_65 (lv_at hl 0 rfl) ?_
          refine va_get (D := D) (ci := 6) (v := .int (itm (lp (q_takeOut (itm st g 5) g false) k (pI st g 5 (-1))) k 6)) (C := RX4) (T := TX4) (N := 8) hx hb hts i_X4 hown hK hP (3 + k) (cw_it G a (lp (q_takeOut (itm st g 5) g false) k (pI st g 5 (-1))) (by omega)) rfl 6 (by decide) (hts _ kw_97) (fun _ h9 => h9) rfl dX1_takeOut_67 ?_
          refine lv_aload_n hx hb dX1_takeOut_70 rfl (lv_at hl 7 rfl) ?_
          refine va_get (D := D) (ci := 6) (v := .int (itm (lp (q_takeOut (itm st g 5) g false) k (pI st g 5 (-1))) g 6)) (C := RX4) (T := TX4) (N := 8) hx hb hts i_X4 hown hK hP (3 + g) (cw_it G a (lp (q_takeOut (itm st g 5) g false) k (pI st g 5 (-1))) hgg) rfl 6 (by decide) (hts _ kw_97) (fun _ h9 => h9) rfl dX1_takeOut_71 ?_
          refine lv_icmp_ne (tgt := 100) hx hb dX1_takeOut_74 (by decide) (fun c_8 => ?_) (fun c_8 => ?_)
          · skip
            refine lv_aload hx hb dX1_takeOut_100 (lv_at hl 0 rfl) ?_
            refine va_get (D := D) (ci := 6) (v := .int (itm (lp (q_takeOut (itm st g 5) g false) k (pI st g 5 (-1))) k 5)) (C := RX4) (T := TX4) (N := 8) hx hb hts i_X4 hown hK hP (3 + k) (cw_it G a (lp (q_takeOut (itm st g 5) g false) k (pI st g 5 (-1))) (by omega)) rfl 5 (by decide) (hts _ kw_94) (fun _ h9 => h9) rfl dX1_takeOut_102 ?_
            refine lv_iload_n hx hb dX1_takeOut_105 rfl (lv_at hl 5 rfl) ?_
            refine lv_icmp_ne (tgt := 136) hx hb dX1_takeOut_106 (by decide) (fun c_9 => absurd c_5 c_9) (fun _ => ?_)
            refine lv_aload hx hb dX1_takeOut_109 (lv_at hl 0 rfl) ?_
            refine va_get (D := D) (ci := 6) (v := .int (itm (lp (q_takeOut (itm st g 5) g false) k (pI st g 5 (-1))) k 6)) (C := RX4) (T := TX4) (N := 8) hx hb hts i_X4 hown hK hP (3 + k) (cw_it G a (lp (q_takeOut (itm st g 5) g false) k (pI st g 5 (-1))) (by omega)) rfl 6 (by decide) (hts _ kw_97) (fun _ h9 => h9) rfl dX1_takeOut_111 ?_
            refine lv_aload_n hx hb dX1_takeOut_114 rfl (lv_at hl 7 rfl) ?_
            refine va_get (D := D) (ci := 6) (v := .int (itm (lp (q_takeOut (itm st g 5) g false) k (pI st g 5 (-1))) g 6)) (C := RX4) (T := TX4) (N := 8) hx hb hts i_X4 hown hK hP (3 + g) (cw_it G a (lp (q_takeOut (itm st g 5) g false) k (pI st g 5 (-1))) hgg) rfl 6 (by decide) (hts _ kw_97) (fun _ h9 => h9) rfl dX1_takeOut_115 ?_
            refine lv_icmp_le (tgt := 136) hx hb dX1_takeOut_118 (by decide) (fun c_10 => ?_) (fun c_10 => ?_)
            · skip
              refine lv_iinc (v := nI (k + 1)) (lv' := [(6, .int (nI (k + 1))), (7, .ref (a (3 + k))), (5, .int (nI 12)), (4, .ref (a 1)), (3, .int 0), (2, .int (itm st g 5)), (0, .ref (a 0)), (1, .ref (a (3 + g)))]) hx hb dX1_takeOut_136 hl (k := 1) rfl (by exact nI_1 k) (by decide) rfl (fun ls hl => ?_)
              refine lv_goto (tgt := 42) hx hb dX1_takeOut_139 (by decide) ?_
              have hz_11 : lp (q_takeOut (itm st g 5) g false) (k + 1) (pI st g 5 (-1)) = (lp (q_takeOut (itm st g 5) g false) k (pI st g 5 (-1))) := by simp only [lp, q_takeOut, if_pos c_5, if_neg c_8, if_pos c_10, cond_true, cond_false]
              exact ih (k + 1) (by omega) _ _ (by rw [hz_11]; exact hP) (by rw [hz_11]; exact hD) hS ls (lv_sub hl [0, 2, 3, 4, 5, 6, 7] rfl)
            · skip
              refine lv_iload_n hx hb dX1_takeOut_121 rfl (lv_at hl 4 rfl) ?_
              refine lv_if_eq (tgt := 136) hx hb dX1_takeOut_122 (by decide) (fun _ => ?_) (fun c_12 => absurd (by decide) c_12)
              refine lv_iinc (v := nI (k + 1)) (lv' := [(6, .int (nI (k + 1))), (7, .ref (a (3 + k))), (5, .int (nI 12)), (4, .ref (a 1)), (3, .int 0), (2, .int (itm st g 5)), (0, .ref (a 0)), (1, .ref (a (3 + g)))]) hx hb dX1_takeOut_136 hl (k := 1) rfl (by exact nI_1 k) (by decide) rfl (fun ls hl => ?_)
              refine lv_goto (tgt := 42) hx hb dX1_takeOut_139 (by decide) ?_
              have hz_13 : lp (q_takeOut (itm st g 5) g false) (k + 1) (pI st g 5 (-1)) = (lp (q_takeOut (itm st g 5) g false) k (pI st g 5 (-1))) := by simp only [lp, q_takeOut, if_pos c_5, if_neg c_8, if_neg c_10, cond_true, cond_false]
              exact ih (k + 1) (by omega) _ _ (by rw [hz_13]; exact hP) (by rw [hz_13]; exact hD) hS ls (lv_sub hl [0, 2, 3, 4, 5, 6, 7] rfl)
          · skip
            refine lv_aload hx hb dX1_takeOut_77 (lv_at hl 0 rfl) ?_
            refine va_get (D := D) (ci := 6) (v := .int (itm (lp (q_takeOut (itm st g 5) g false) k (pI st g 5 (-1))) k 7)) (C := RX4) (T := TX4) (N := 8) hx hb hts i_X4 hown hK hP (3 + k) (cw_it G a (lp (q_takeOut (itm st g 5) g false) k (pI st g 5 (-1))) (by omega)) rfl 7 (by decide) (hts _ kw_100) (fun _ h9 => h9) rfl dX1_takeOut_79 ?_
            refine lv_aload_n hx hb dX1_takeOut_82 rfl (lv_at hl 7 rfl) ?_
            refine va_get (D := D) (ci := 6) (v := .int (itm (lp (q_takeOut (itm st g 5) g false) k (pI st g 5 (-1))) g 7)) (C := RX4) (T := TX4) (N := 8) hx hb hts i_X4 hown hK hP (3 + g) (cw_it G a (lp (q_takeOut (itm st g 5) g false) k (pI st g 5 (-1))) hgg) rfl 7 (by decide) (hts _ kw_100) (fun _ h9 => h9) rfl dX1_takeOut_83 ?_
            refine lv_icmp_le (tgt := 100) hx hb dX1_takeOut_86 (by decide) (fun c_14 => ?_) (fun c_14 => ?_)
            · skip
              refine lv_aload hx hb dX1_takeOut_100 (lv_at hl 0 rfl) ?_
              refine va_get (D := D) (ci := 6) (v := .int (itm (lp (q_takeOut (itm st g 5) g false) k (pI st g 5 (-1))) k 5)) (C := RX4) (T := TX4) (N := 8) hx hb hts i_X4 hown hK hP (3 + k) (cw_it G a (lp (q_takeOut (itm st g 5) g false) k (pI st g 5 (-1))) (by omega)) rfl 5 (by decide) (hts _ kw_94) (fun _ h9 => h9) rfl dX1_takeOut_102 ?_
              refine lv_iload_n hx hb dX1_takeOut_105 rfl (lv_at hl 5 rfl) ?_
              refine lv_icmp_ne (tgt := 136) hx hb dX1_takeOut_106 (by decide) (fun c_15 => absurd c_5 c_15) (fun _ => ?_)
              refine lv_aload hx hb dX1_takeOut_109 (lv_at hl 0 rfl) ?_
              refine va_get (D := D) (ci := 6) (v := .int (itm (lp (q_takeOut (itm st g 5) g false) k (pI st g 5 (-1))) k 6)) (C := RX4) (T := TX4) (N := 8) hx hb hts i_X4 hown hK hP (3 + k) (cw_it G a (lp (q_takeOut (itm st g 5) g false) k (pI st g 5 (-1))) (by omega)) rfl 6 (by decide) (hts _ kw_97) (fun _ h9 => h9) rfl dX1_takeOut_111 ?_
              refine lv_aload_n hx hb dX1_takeOut_114 rfl (lv_at hl 7 rfl) ?_
              refine va_get (D := D) (ci := 6) (v := .int (itm (lp (q_takeOut (itm st g 5) g false) k (pI st g 5 (-1))) g 6)) (C := RX4) (T := TX4) (N := 8) hx hb hts i_X4 hown hK hP (3 + g) (cw_it G a (lp (q_takeOut (itm st g 5) g false) k (pI st g 5 (-1))) hgg) rfl 6 (by decide) (hts _ kw_97) (fun _ h9 => h9) rfl dX1_takeOut_115 ?_
              refine lv_icmp_le (tgt := 136) hx hb dX1_takeOut_118 (by decide) (fun c_16 => ?_) (fun c_16 => ?_)
              · skip
                refine lv_iinc (v := nI (k + 1)) (lv' := [(6, .int (nI (k + 1))), (7, .ref (a (3 + k))), (5, .int (nI 12)), (4, .ref (a 1)), (3, .int 0), (2, .int (itm st g 5)), (0, .ref (a 0)), (1, .ref (a (3 + g)))]) hx hb dX1_takeOut_136 hl (k := 1) rfl (by exact nI_1 k) (by decide) rfl (fun ls hl => ?_)
                refine lv_goto (tgt := 42) hx hb dX1_takeOut_139 (by decide) ?_
                have hz_17 : lp (q_takeOut (itm st g 5) g false) (k + 1) (pI st g 5 (-1)) = (lp (q_takeOut (itm st g 5) g false) k (pI st g 5 (-1))) := by simp only [lp, q_takeOut, if_pos c_5, if_pos c_8, if_pos c_14, if_pos c_16, cond_true, cond_false]
                exact ih (k + 1) (by omega) _ _ (by rw [hz_17]; exact hP) (by rw [hz_17]; exact hD) hS ls (lv_sub hl [0, 2, 3, 4, 5, 6, 7] rfl)
              · skip
                refine lv_iload_n hx hb dX1_takeOut_121 rfl (lv_at hl 4 rfl) ?_
                refine lv_if_eq (tgt := 136) hx hb dX1_takeOut_122 (by decide) (fun _ => ?_) (fun c_18 => absurd (by decide) c_18)
                refine lv_iinc (v := nI (k + 1)) (lv' := [(6, .int (nI (k + 1))), (7, .ref (a (3 + k))), (5, .int (nI 12)), (4, .ref (a 1)), (3, .int 0), (2, .int (itm st g 5)), (0, .ref (a 0)), (1, .ref (a (3 + g)))]) hx hb dX1_takeOut_136 hl (k := 1) rfl (by exact nI_1 k) (by decide) rfl (fun ls hl => ?_)
                refine lv_goto (tgt := 42) hx hb dX1_takeOut_139 (by decide) ?_
                have hz_19 : lp (q_takeOut (itm st g 5) g false) (k + 1) (pI st g 5 (-1)) = (lp (q_takeOut (itm st g 5) g false) k (pI st g 5 (-1))) := by simp only [lp, q_takeOut, if_pos c_5, if_pos c_8, if_pos c_14, if_neg c_16, cond_true, cond_false]
                exact ih (k + 1) (by omega) _ _ (by rw [hz_19]; exact hP) (by rw [hz_19]; exact hD) hS ls (lv_sub hl [0, 2, 3, 4, 5, 6, 7] rfl)
            · skip
              refine lv_aload hx hb dX1_takeOut_89 (lv_at hl 0 rfl) ?_
              refine lv_dup hx hb dX1_takeOut_91 rfl ?_
              refine va_get (D := D) (ci := 6) (v := .int (itm (lp (q_takeOut (itm st g 5) g false) k (pI st g 5 (-1))) k 7)) (C := RX4) (T := TX4) (N := 8) hx hb hts i_X4 hown hK hP (3 + k) (cw_it G a (lp (q_takeOut (itm st g 5) g false) k (pI st g 5 (-1))) (by omega)) rfl 7 (by decide) (hts _ kw_100) (fun _ h9 => h9) rfl dX1_takeOut_92 ?_
              refine lv_iconst (v := 1) hx hb dX1_takeOut_95 (by decide) ?_
              refine lv_isub hx hb dX1_takeOut_96 ?_
              refine va_put (D := D) (ci := 6) (v := .int ((itm (lp (q_takeOut (itm st g 5) g false) k (pI st g 5 (-1))) k 7) - 1)) (ty := .int) (C := RX4) (T := TX4) (N := 8) hx hb hts i_X4 tyX4 tyX4_ok nmX4 hown hK hP hD hS (3 + k) (cw_it G a (lp (q_takeOut (itm st g 5) g false) k (pI st g 5 (-1))) (by omega)) rfl 7 (by decide) (hts _ kw_100) (fun _ h9 => h9) rfl (by decide +kernel) rfl rfl (Nat.le_of_ble_eq_true rfl) dX1_takeOut_97 (fun H locs hP hD hS => ?_)
              have hP : va_P D vwCl (cw G a (pI (lp (q_takeOut (itm st g 5) g false) k (pI st g 5 (-1))) k 7 ((itm (lp (q_takeOut (itm st g 5) g false) k (pI st g 5 (-1))) k 7) - 1))) H := by rw [← cw_p7 G a (lp (q_takeOut (itm st g 5) g false) k (pI st g 5 (-1))) (by omega) ((itm (lp (q_takeOut (itm st g 5) g false) k (pI st g 5 (-1))) k 7) - 1)]; exact hP
              have hD : va_D A (cw G a (pI (lp (q_takeOut (itm st g 5) g false) k (pI st g 5 (-1))) k 7 ((itm (lp (q_takeOut (itm st g 5) g false) k (pI st g 5 (-1))) k 7) - 1))) := by rw [← cw_p7 G a (lp (q_takeOut (itm st g 5) g false) k (pI st g 5 (-1))) (by omega) ((itm (lp (q_takeOut (itm st g 5) g false) k (pI st g 5 (-1))) k 7) - 1)]; exact hD
              refine lv_aload hx hb dX1_takeOut_100 (lv_at hl 0 rfl) ?_
              refine va_get (D := D) (ci := 6) (v := .int (itm (pI (lp (q_takeOut (itm st g 5) g false) k (pI st g 5 (-1))) k 7 ((itm (lp (q_takeOut (itm st g 5) g false) k (pI st g 5 (-1))) k 7) - 1)) k 5)) (C := RX4) (T := TX4) (N := 8) hx hb hts i_X4 hown hK hP (3 + k) (cw_it G a (pI (lp (q_takeOut (itm st g 5) g false) k (pI st g 5 (-1))) k 7 ((itm (lp (q_takeOut (itm st g 5) g false) k (pI st g 5 (-1))) k 7) - 1)) (by omega)) rfl 5 (by decide) (hts _ kw_94) (fun _ h9 => h9) rfl dX1_takeOut_102 ?_
              refine lv_iload_n hx hb dX1_takeOut_105 rfl (lv_at hl 5 rfl) ?_
              refine lv_icmp_ne (tgt := 136) hx hb dX1_takeOut_106 (by decide) (fun c_20 => ?_) (fun c_20 => ?_)
              · skip
                refine lv_iinc (v := nI (k + 1)) (lv' := [(6, .int (nI (k + 1))), (7, .ref (a (3 + k))), (5, .int (nI 12)), (4, .ref (a 1)), (3, .int 0), (2, .int (itm st g 5)), (0, .ref (a 0)), (1, .ref (a (3 + g)))]) hx hb dX1_takeOut_136 hl (k := 1) rfl (by exact nI_1 k) (by decide) rfl (fun ls hl => ?_)
                refine lv_goto (tgt := 42) hx hb dX1_takeOut_139 (by decide) ?_
                have hz_21 : lp (q_takeOut (itm st g 5) g false) (k + 1) (pI st g 5 (-1)) = (pI (lp (q_takeOut (itm st g 5) g false) k (pI st g 5 (-1))) k 7 ((itm (lp (q_takeOut (itm st g 5) g false) k (pI st g 5 (-1))) k 7) - 1)) := by simp only [lp, q_takeOut, if_pos c_5, if_pos c_8, if_neg c_14, if_neg c_20, cond_true, cond_false]
                exact ih (k + 1) (by omega) _ _ (by rw [hz_21]; exact hP) (by rw [hz_21]; exact hD) hS ls (lv_sub hl [0, 2, 3, 4, 5, 6, 7] rfl)
              · skip
                refine lv_aload hx hb dX1_takeOut_109 (lv_at hl 0 rfl) ?_
                refine va_get (D := D) (ci := 6) (v := .int (itm (pI (lp (q_takeOut (itm st g 5) g false) k (pI st g 5 (-1))) k 7 ((itm (lp (q_takeOut (itm st g 5) g false) k (pI st g 5 (-1))) k 7) - 1)) k 6)) (C := RX4) (T := TX4) (N := 8) hx hb hts i_X4 hown hK hP (3 + k) (cw_it G a (pI (lp (q_takeOut (itm st g 5) g false) k (pI st g 5 (-1))) k 7 ((itm (lp (q_takeOut (itm st g 5) g false) k (pI st g 5 (-1))) k 7) - 1)) (by omega)) rfl 6 (by decide) (hts _ kw_97) (fun _ h9 => h9) rfl dX1_takeOut_111 ?_
                refine lv_aload_n hx hb dX1_takeOut_114 rfl (lv_at hl 7 rfl) ?_
                refine va_get (D := D) (ci := 6) (v := .int (itm (pI (lp (q_takeOut (itm st g 5) g false) k (pI st g 5 (-1))) k 7 ((itm (lp (q_takeOut (itm st g 5) g false) k (pI st g 5 (-1))) k 7) - 1)) g 6)) (C := RX4) (T := TX4) (N := 8) hx hb hts i_X4 hown hK hP (3 + g) (cw_it G a (pI (lp (q_takeOut (itm st g 5) g false) k (pI st g 5 (-1))) k 7 ((itm (lp (q_takeOut (itm st g 5) g false) k (pI st g 5 (-1))) k 7) - 1)) hgg) rfl 6 (by decide) (hts _ kw_97) (fun _ h9 => h9) rfl dX1_takeOut_115 ?_
                refine lv_icmp_le (tgt := 136) hx hb dX1_takeOut_118 (by decide) (fun c_22 => ?_) (fun c_22 => ?_)
                · skip
                  refine lv_iinc (v := nI (k + 1)) (lv' := [(6, .int (nI (k + 1))), (7, .ref (a (3 + k))), (5, .int (nI 12)), (4, .ref (a 1)), (3, .int 0), (2, .int (itm st g 5)), (0, .ref (a 0)), (1, .ref (a (3 + g)))]) hx hb dX1_takeOut_136 hl (k := 1) rfl (by exact nI_1 k) (by decide) rfl (fun ls hl => ?_)
                  refine lv_goto (tgt := 42) hx hb dX1_takeOut_139 (by decide) ?_
                  have hz_23 : lp (q_takeOut (itm st g 5) g false) (k + 1) (pI st g 5 (-1)) = (pI (lp (q_takeOut (itm st g 5) g false) k (pI st g 5 (-1))) k 7 ((itm (lp (q_takeOut (itm st g 5) g false) k (pI st g 5 (-1))) k 7) - 1)) := by simp only [lp, q_takeOut, if_pos c_5, if_pos c_8, if_neg c_14, if_pos c_20, if_pos c_22, cond_true, cond_false]
                  exact ih (k + 1) (by omega) _ _ (by rw [hz_23]; exact hP) (by rw [hz_23]; exact hD) hS ls (lv_sub hl [0, 2, 3, 4, 5, 6, 7] rfl)
                · skip
                  refine lv_iload_n hx hb dX1_takeOut_121 rfl (lv_at hl 4 rfl) ?_
                  refine lv_if_eq (tgt := 136) hx hb dX1_takeOut_122 (by decide) (fun _ => ?_) (fun c_24 => absurd (by decide) c_24)
                  refine lv_iinc (v := nI (k + 1)) (lv' := [(6, .int (nI (k + 1))), (7, .ref (a (3 + k))), (5, .int (nI 12)), (4, .ref (a 1)), (3, .int 0), (2, .int (itm st g 5)), (0, .ref (a 0)), (1, .ref (a (3 + g)))]) hx hb dX1_takeOut_136 hl (k := 1) rfl (by exact nI_1 k) (by decide) rfl (fun ls hl => ?_)
                  refine lv_goto (tgt := 42) hx hb dX1_takeOut_139 (by decide) ?_
                  have hz_25 : lp (q_takeOut (itm st g 5) g false) (k + 1) (pI st g 5 (-1)) = (pI (lp (q_takeOut (itm st g 5) g false) k (pI st g 5 (-1))) k 7 ((itm (lp (q_takeOut (itm st g 5) g false) k (pI st g 5 (-1))) k 7) - 1)) := by simp only [lp, q_takeOut, if_pos c_5, if_pos c_8, if_neg c_14, if_pos c_20, if_neg c_22, cond_true, cond_false]
                  exact ih (k + 1) (by omega) _ _ (by rw [hz_25]; exact hP) (by rw [hz_25]; exact hD) hS ls (lv_sub hl [0, 2, 3, 4, 5, 6, 7] rfl)
    exact L42 12 0 (by omega) _ _ hP hD hS ls (lv_sub hl [0, 1, 2, 3, 4, 5, 6] rfl)
  · skip
    refine lv_iconst (v := 1) hx hb dX1_takeOut_22 (by decide) ?_
    refine lv_goto (tgt := 27) hx hb dX1_takeOut_23 (by decide) ?_
    refine lv_istore_n (lv' := [(3, .int 1), (2, .int (itm st g 5)), (0, .ref (a 0)), (1, .ref (a (3 + g)))]) hx hb dX1_takeOut_27 rfl hl (by decide) rfl (fun ls hl => ?_)
    refine lv_aload_n hx hb dX1_takeOut_28 rfl (lv_at hl 2 rfl) ?_
    refine va_get (D := D) (ci := 4) (v := .ref (a 1)) (C := RX1) (T := TX1) (N := 7) hx hb hts i_X1 hown hK hP 0 rfl rfl 0 (by decide) (hts _ kw_118) (fun _ h9 => h9) rfl dX1_takeOut_29 ?_
    refine lv_astore (x := (a 1)) (lv' := [(4, .ref (a 1)), (3, .int 1), (2, .int (itm st g 5)), (0, .ref (a 0)), (1, .ref (a (3 + g)))]) hx hb dX1_takeOut_32 hl (by decide) rfl (fun ls hl => ?_)
    refine lv_aload hx hb dX1_takeOut_34 (lv_at hl 0 rfl) ?_
    refine va_alen (v := nI 12) hx hb hK hP 1 0 rfl rfl rfl dX1_takeOut_36 ?_
    refine lv_istore (lv' := [(5, .int (nI 12)), (4, .ref (a 1)), (3, .int 1), (2, .int (itm st g 5)), (0, .ref (a 0)), (1, .ref (a (3 + g)))]) hx hb dX1_takeOut_37 hl (by decide) rfl (fun ls hl => ?_)
    refine lv_iconst (v := 0) hx hb dX1_takeOut_39 (by decide) ?_
    refine lv_istore (lv' := [(6, .int 0), (5, .int (nI 12)), (4, .ref (a 1)), (3, .int 1), (2, .int (itm st g 5)), (0, .ref (a 0)), (1, .ref (a (3 + g)))]) hx hb dX1_takeOut_40 hl (by decide) rfl (fun ls hl => ?_)
    have L42 : ∀ (n k : Nat), k + n = 12 → ∀ (H : Heap) (locs : List Loc), va_P D vwCl (cw G a (lp (q_takeOut (itm st g 5) g true) k (pI st g 5 (-1)))) H → va_D A (cw G a (lp (q_takeOut (itm st g 5) g true) k (pI st g 5 (-1)))) → va_S A s.heap H locs → ∀ ls : Array Slot, lv_has ls 8 [(6, .int (nI k)), (5, .int (nI 12)), (4, .ref (a 1)), (3, .int 1), (2, .int (itm st g 5)), (0, .ref (a 0)), (1, .ref (a (3 + g)))] → W p l e (headSpec (wA yX1_takeOut cX1_takeOut 8 none) ({ frames := 1, cells := 0, slots := 0, locals := 27 } : Room)).room s m ([.ref (a 0), .ref (a (3 + g))] : List Value).toArray below meth c H locs 0 0 (MQ below (va_Qv (fun _ : Unit => True) (fun _ t9 => va_P D vwCl (cw G a (m_takeOut st g)) t9.heap) A) ([.ref (a 0), .ref (a (3 + g))] : List Value).toArray s 0 0 A) (F0 m 42 ls []) := by
      intro n
      induction n with
      | zero =>
        intro k hk0 H locs hP hD hS ls hl
        obtain rfl : k = 12 := by omega
        refine lv_iload hx hb dX1_takeOut_42 (lv_at hl 0 rfl) ?_
        refine lv_iload hx hb dX1_takeOut_44 (lv_at hl 1 rfl) ?_
        refine lv_icmp_ge (tgt := 142) hx hb dX1_takeOut_46 (by decide) (fun _ => ?_) (fun c_26 => absurd (nI_le (a := 12) (b := 12) (by omega) (by omega)) c_26)
        have hz_27 : m_takeOut st g = (lp (q_takeOut (itm st g 5) g true) 12 (pI st g 5 (-1))) := by simp only [m_takeOut, if_pos c_1]
        exact W.vret hx hb hr (fun t ht hW => ⟨⟨(), rfl, trivial, wP1 hz_27 ht hP⟩, hS.F ht⟩) hS.2.2 dX1_takeOut_142
      | succ n ih =>
        intro k hk0 H locs hP hD hS ls hl
        have hk12 : k < 12 := by omega
        refine lv_iload hx hb dX1_takeOut_42 (lv_at hl 0 rfl) ?_
        refine lv_iload hx hb dX1_takeOut_44 (lv_at hl 1 rfl) ?_
        refine lv_icmp_ge (tgt := 142) hx hb dX1_takeOut_46 (by decide) (fun c_28 => absurd c_28 (nI_ge (a := k) (b := 12) (by omega) (by omega))) (fun _ => ?_)
        refine lv_aload hx hb dX1_takeOut_49 (lv_at hl 2 rfl) ?_
        refine lv_iload hx hb dX1_takeOut_51 (lv_at hl 0 rfl) ?_
        refine va_aldq hx hb hK hP 1 0 rfl rfl (vp_in_nI (by omega) (by decide)) dX1_takeOut_53 ?_
        rw [nI_clamp (n := k) (by omega)]
        refine lv_astore (x := (a (3 + k))) (lv' := [(7, .ref (a (3 + k))), (6, .int (nI k)), (5, .int (nI 12)), (4, .ref (a 1)), (3, .int 1), (2, .int (itm st g 5)), (0, .ref (a 0)), (1, .ref (a (3 + g)))]) hx hb dX1_takeOut_54 hl (by decide) rfl (fun ls hl => ?_)
        refine lv_aload hx hb dX1_takeOut_56 (lv_at hl 0 rfl) ?_
        refine va_get (D := D) (ci := 6) (v := .int (itm (lp (q_takeOut (itm st g 5) g true) k (pI st g 5 (-1))) k 5)) (C := RX4) (T := TX4) (N := 8) hx hb hts i_X4 hown hK hP (3 + k) (cw_it G a (lp (q_takeOut (itm st g 5) g true) k (pI st g 5 (-1))) (by omega)) rfl 5 (by decide) (hts _ kw_94) (fun _ h9 => h9) rfl dX1_takeOut_58 ?_
        refine lv_iload_n hx hb dX1_takeOut_61 rfl (lv_at hl 5 rfl) ?_
        refine lv_icmp_ne (tgt := 100) hx hb dX1_takeOut_62 (by decide) (fun c_29 => ?_) (fun c_29 => ?_)
        · skip
          refine lv_aload hx hb dX1_takeOut_100 (lv_at hl 0 rfl) ?_
          refine va_get (D := D) (ci := 6) (v := .int (itm (lp (q_takeOut (itm st g 5) g true) k (pI st g 5 (-1))) k 5)) (C := RX4) (T := TX4) (N := 8) hx hb hts i_X4 hown hK hP (3 + k) (cw_it G a (lp (q_takeOut (itm st g 5) g true) k (pI st g 5 (-1))) (by omega)) rfl 5 (by decide) (hts _ kw_94) (fun _ h9 => h9) rfl dX1_takeOut_102 ?_
          refine lv_iload_n hx hb dX1_takeOut_105 rfl (lv_at hl 5 rfl) ?_
          refine lv_icmp_ne (tgt := 136) hx hb dX1_takeOut_106 (by decide) (fun _ => ?_) (fun c_30 => absurd c_30 c_29)
          refine lv_iinc (v := nI (k + 1)) (lv' := [(6, .int (nI (k + 1))), (7, .ref (a (3 + k))), (5, .int (nI 12)), (4, .ref (a 1)), (3, .int 1), (2, .int (itm st g 5)), (0, .ref (a 0)), (1, .ref (a (3 + g)))]) hx hb dX1_takeOut_136 hl (k := 1) rfl (by exact nI_1 k) (by decide) rfl (fun ls hl => ?_)
          refine lv_goto (tgt := 42) hx hb dX1_takeOut_139 (by decide) ?_
          have hz_31 : lp (q_takeOut (itm st g 5) g true) (k + 1) (pI st g 5 (-1)) = (lp (q_takeOut (itm st g 5) g true) k (pI st g 5 (-1))) := by simp only [lp, q_takeOut, if_neg c_29, cond_true, cond_false]
          exact ih (k + 1) (by omega) _ _ (by rw [hz_31]; exact hP) (by rw [hz_31]; exact hD) hS ls (lv_sub hl [0, 2, 3, 4, 5, 6, 7] rfl)
        · skip
          refine lv_aload hx hb dX1_takeOut_65 (lv_at hl 0 rfl) ?_
          refine va_get (D := D) (ci := 6) (v := .int (itm (lp (q_takeOut (itm st g 5) g true) k (pI st g 5 (-1))) k 6)) (C := RX4) (T := TX4) (N := 8) hx hb hts i_X4 hown hK hP (3 + k) (cw_it G a (lp (q_takeOut (itm st g 5) g true) k (pI st g 5 (-1))) (by omega)) rfl 6 (by decide) (hts _ kw_97) (fun _ h9 => h9) rfl dX1_takeOut_67 ?_
          refine lv_aload_n hx hb dX1_takeOut_70 rfl (lv_at hl 7 rfl) ?_
          refine va_get (D := D) (ci := 6) (v := .int (itm (lp (q_takeOut (itm st g 5) g true) k (pI st g 5 (-1))) g 6)) (C := RX4) (T := TX4) (N := 8) hx hb hts i_X4 hown hK hP (3 + g) (cw_it G a (lp (q_takeOut (itm st g 5) g true) k (pI st g 5 (-1))) hgg) rfl 6 (by decide) (hts _ kw_97) (fun _ h9 => h9) rfl dX1_takeOut_71 ?_
          refine lv_icmp_ne (tgt := 100) hx hb dX1_takeOut_74 (by decide) (fun c_32 => ?_) (fun c_32 => ?_)
          · skip
            refine lv_aload hx hb dX1_takeOut_100 (lv_at hl 0 rfl) ?_
            refine va_get (D := D) (ci := 6) (v := .int (itm (lp (q_takeOut (itm st g 5) g true) k (pI st g 5 (-1))) k 5)) (C := RX4) (T := TX4) (N := 8) hx hb hts i_X4 hown hK hP (3 + k) (cw_it G a (lp (q_takeOut (itm st g 5) g true) k (pI st g 5 (-1))) (by omega)) rfl 5 (by decide) (hts _ kw_94) (fun _ h9 => h9) rfl dX1_takeOut_102 ?_
            refine lv_iload_n hx hb dX1_takeOut_105 rfl (lv_at hl 5 rfl) ?_
            refine lv_icmp_ne (tgt := 136) hx hb dX1_takeOut_106 (by decide) (fun c_33 => absurd c_29 c_33) (fun _ => ?_)
            refine lv_aload hx hb dX1_takeOut_109 (lv_at hl 0 rfl) ?_
            refine va_get (D := D) (ci := 6) (v := .int (itm (lp (q_takeOut (itm st g 5) g true) k (pI st g 5 (-1))) k 6)) (C := RX4) (T := TX4) (N := 8) hx hb hts i_X4 hown hK hP (3 + k) (cw_it G a (lp (q_takeOut (itm st g 5) g true) k (pI st g 5 (-1))) (by omega)) rfl 6 (by decide) (hts _ kw_97) (fun _ h9 => h9) rfl dX1_takeOut_111 ?_
            refine lv_aload_n hx hb dX1_takeOut_114 rfl (lv_at hl 7 rfl) ?_
            refine va_get (D := D) (ci := 6) (v := .int (itm (lp (q_takeOut (itm st g 5) g true) k (pI st g 5 (-1))) g 6)) (C := RX4) (T := TX4) (N := 8) hx hb hts i_X4 hown hK hP (3 + g) (cw_it G a (lp (q_takeOut (itm st g 5) g true) k (pI st g 5 (-1))) hgg) rfl 6 (by decide) (hts _ kw_97) (fun _ h9 => h9) rfl dX1_takeOut_115 ?_
            refine lv_icmp_le (tgt := 136) hx hb dX1_takeOut_118 (by decide) (fun c_34 => ?_) (fun c_34 => ?_)
            · skip
              refine lv_iinc (v := nI (k + 1)) (lv' := [(6, .int (nI (k + 1))), (7, .ref (a (3 + k))), (5, .int (nI 12)), (4, .ref (a 1)), (3, .int 1), (2, .int (itm st g 5)), (0, .ref (a 0)), (1, .ref (a (3 + g)))]) hx hb dX1_takeOut_136 hl (k := 1) rfl (by exact nI_1 k) (by decide) rfl (fun ls hl => ?_)
              refine lv_goto (tgt := 42) hx hb dX1_takeOut_139 (by decide) ?_
              have hz_35 : lp (q_takeOut (itm st g 5) g true) (k + 1) (pI st g 5 (-1)) = (lp (q_takeOut (itm st g 5) g true) k (pI st g 5 (-1))) := by simp only [lp, q_takeOut, if_pos c_29, if_neg c_32, if_pos c_34, cond_true, cond_false]
              exact ih (k + 1) (by omega) _ _ (by rw [hz_35]; exact hP) (by rw [hz_35]; exact hD) hS ls (lv_sub hl [0, 2, 3, 4, 5, 6, 7] rfl)
            · skip
              refine lv_iload_n hx hb dX1_takeOut_121 rfl (lv_at hl 4 rfl) ?_
              refine lv_if_eq (tgt := 136) hx hb dX1_takeOut_122 (by decide) (fun c_36 => absurd c_36 (by decide)) (fun _ => ?_)
              refine lv_aload hx hb dX1_takeOut_125 (lv_at hl 0 rfl) ?_
              refine lv_dup hx hb dX1_takeOut_127 rfl ?_
              refine va_get (D := D) (ci := 6) (v := .int (itm (lp (q_takeOut (itm st g 5) g true) k (pI st g 5 (-1))) k 6)) (C := RX4) (T := TX4) (N := 8) hx hb hts i_X4 hown hK hP (3 + k) (cw_it G a (lp (q_takeOut (itm st g 5) g true) k (pI st g 5 (-1))) (by omega)) rfl 6 (by decide) (hts _ kw_97) (fun _ h9 => h9) rfl dX1_takeOut_128 ?_
              refine lv_iconst (v := 1) hx hb dX1_takeOut_131 (by decide) ?_
              refine lv_isub hx hb dX1_takeOut_132 ?_
              refine va_put (D := D) (ci := 6) (v := .int ((itm (lp (q_takeOut (itm st g 5) g true) k (pI st g 5 (-1))) k 6) - 1)) (ty := .int) (C := RX4) (T := TX4) (N := 8) hx hb hts i_X4 tyX4 tyX4_ok nmX4 hown hK hP hD hS (3 + k) (cw_it G a (lp (q_takeOut (itm st g 5) g true) k (pI st g 5 (-1))) (by omega)) rfl 6 (by decide) (hts _ kw_97) (fun _ h9 => h9) rfl (by decide +kernel) rfl rfl (Nat.le_of_ble_eq_true rfl) dX1_takeOut_133 (fun H locs hP hD hS => ?_)
              have hP : va_P D vwCl (cw G a (pI (lp (q_takeOut (itm st g 5) g true) k (pI st g 5 (-1))) k 6 ((itm (lp (q_takeOut (itm st g 5) g true) k (pI st g 5 (-1))) k 6) - 1))) H := by rw [← cw_p6 G a (lp (q_takeOut (itm st g 5) g true) k (pI st g 5 (-1))) (by omega) ((itm (lp (q_takeOut (itm st g 5) g true) k (pI st g 5 (-1))) k 6) - 1)]; exact hP
              have hD : va_D A (cw G a (pI (lp (q_takeOut (itm st g 5) g true) k (pI st g 5 (-1))) k 6 ((itm (lp (q_takeOut (itm st g 5) g true) k (pI st g 5 (-1))) k 6) - 1))) := by rw [← cw_p6 G a (lp (q_takeOut (itm st g 5) g true) k (pI st g 5 (-1))) (by omega) ((itm (lp (q_takeOut (itm st g 5) g true) k (pI st g 5 (-1))) k 6) - 1)]; exact hD
              refine lv_iinc (v := nI (k + 1)) (lv' := [(6, .int (nI (k + 1))), (7, .ref (a (3 + k))), (5, .int (nI 12)), (4, .ref (a 1)), (3, .int 1), (2, .int (itm st g 5)), (0, .ref (a 0)), (1, .ref (a (3 + g)))]) hx hb dX1_takeOut_136 hl (k := 1) rfl (by exact nI_1 k) (by decide) rfl (fun ls hl => ?_)
              refine lv_goto (tgt := 42) hx hb dX1_takeOut_139 (by decide) ?_
              have hz_37 : lp (q_takeOut (itm st g 5) g true) (k + 1) (pI st g 5 (-1)) = (pI (lp (q_takeOut (itm st g 5) g true) k (pI st g 5 (-1))) k 6 ((itm (lp (q_takeOut (itm st g 5) g true) k (pI st g 5 (-1))) k 6) - 1)) := by simp only [lp, q_takeOut, if_pos c_29, if_neg c_32, if_neg c_34, cond_true, cond_false]
              exact ih (k + 1) (by omega) _ _ (by rw [hz_37]; exact hP) (by rw [hz_37]; exact hD) hS ls (lv_sub hl [0, 2, 3, 4, 5, 6, 7] rfl)
          · skip
            refine lv_aload hx hb dX1_takeOut_77 (lv_at hl 0 rfl) ?_
            refine va_get (D := D) (ci := 6) (v := .int (itm (lp (q_takeOut (itm st g 5) g true) k (pI st g 5 (-1))) k 7)) (C := RX4) (T := TX4) (N := 8) hx hb hts i_X4 hown hK hP (3 + k) (cw_it G a (lp (q_takeOut (itm st g 5) g true) k (pI st g 5 (-1))) (by omega)) rfl 7 (by decide) (hts _ kw_100) (fun _ h9 => h9) rfl dX1_takeOut_79 ?_
            refine lv_aload_n hx hb dX1_takeOut_82 rfl (lv_at hl 7 rfl) ?_
            refine va_get (D := D) (ci := 6) (v := .int (itm (lp (q_takeOut (itm st g 5) g true) k (pI st g 5 (-1))) g 7)) (C := RX4) (T := TX4) (N := 8) hx hb hts i_X4 hown hK hP (3 + g) (cw_it G a (lp (q_takeOut (itm st g 5) g true) k (pI st g 5 (-1))) hgg) rfl 7 (by decide) (hts _ kw_100) (fun _ h9 => h9) rfl dX1_takeOut_83 ?_
            refine lv_icmp_le (tgt := 100) hx hb dX1_takeOut_86 (by decide) (fun c_38 => ?_) (fun c_38 => ?_)
            · skip
              refine lv_aload hx hb dX1_takeOut_100 (lv_at hl 0 rfl) ?_
              refine va_get (D := D) (ci := 6) (v := .int (itm (lp (q_takeOut (itm st g 5) g true) k (pI st g 5 (-1))) k 5)) (C := RX4) (T := TX4) (N := 8) hx hb hts i_X4 hown hK hP (3 + k) (cw_it G a (lp (q_takeOut (itm st g 5) g true) k (pI st g 5 (-1))) (by omega)) rfl 5 (by decide) (hts _ kw_94) (fun _ h9 => h9) rfl dX1_takeOut_102 ?_
              refine lv_iload_n hx hb dX1_takeOut_105 rfl (lv_at hl 5 rfl) ?_
              refine lv_icmp_ne (tgt := 136) hx hb dX1_takeOut_106 (by decide) (fun c_39 => absurd c_29 c_39) (fun _ => ?_)
              refine lv_aload hx hb dX1_takeOut_109 (lv_at hl 0 rfl) ?_
              refine va_get (D := D) (ci := 6) (v := .int (itm (lp (q_takeOut (itm st g 5) g true) k (pI st g 5 (-1))) k 6)) (C := RX4) (T := TX4) (N := 8) hx hb hts i_X4 hown hK hP (3 + k) (cw_it G a (lp (q_takeOut (itm st g 5) g true) k (pI st g 5 (-1))) (by omega)) rfl 6 (by decide) (hts _ kw_97) (fun _ h9 => h9) rfl dX1_takeOut_111 ?_
              refine lv_aload_n hx hb dX1_takeOut_114 rfl (lv_at hl 7 rfl) ?_
              refine va_get (D := D) (ci := 6) (v := .int (itm (lp (q_takeOut (itm st g 5) g true) k (pI st g 5 (-1))) g 6)) (C := RX4) (T := TX4) (N := 8) hx hb hts i_X4 hown hK hP (3 + g) (cw_it G a (lp (q_takeOut (itm st g 5) g true) k (pI st g 5 (-1))) hgg) rfl 6 (by decide) (hts _ kw_97) (fun _ h9 => h9) rfl dX1_takeOut_115 ?_
              refine lv_icmp_le (tgt := 136) hx hb dX1_takeOut_118 (by decide) (fun c_40 => ?_) (fun c_40 => ?_)
              · skip
                refine lv_iinc (v := nI (k + 1)) (lv' := [(6, .int (nI (k + 1))), (7, .ref (a (3 + k))), (5, .int (nI 12)), (4, .ref (a 1)), (3, .int 1), (2, .int (itm st g 5)), (0, .ref (a 0)), (1, .ref (a (3 + g)))]) hx hb dX1_takeOut_136 hl (k := 1) rfl (by exact nI_1 k) (by decide) rfl (fun ls hl => ?_)
                refine lv_goto (tgt := 42) hx hb dX1_takeOut_139 (by decide) ?_
                have hz_41 : lp (q_takeOut (itm st g 5) g true) (k + 1) (pI st g 5 (-1)) = (lp (q_takeOut (itm st g 5) g true) k (pI st g 5 (-1))) := by simp only [lp, q_takeOut, if_pos c_29, if_pos c_32, if_pos c_38, if_pos c_40, cond_true, cond_false]
                exact ih (k + 1) (by omega) _ _ (by rw [hz_41]; exact hP) (by rw [hz_41]; exact hD) hS ls (lv_sub hl [0, 2, 3, 4, 5, 6, 7] rfl)
              · skip
                refine lv_iload_n hx hb dX1_takeOut_121 rfl (lv_at hl 4 rfl) ?_
                refine lv_if_eq (tgt := 136) hx hb dX1_takeOut_122 (by decide) (fun c_42 => absurd c_42 (by decide)) (fun _ => ?_)
                refine lv_aload hx hb dX1_takeOut_125 (lv_at hl 0 rfl) ?_
                refine lv_dup hx hb dX1_takeOut_127 rfl ?_
                refine va_get (D := D) (ci := 6) (v := .int (itm (lp (q_takeOut (itm st g 5) g true) k (pI st g 5 (-1))) k 6)) (C := RX4) (T := TX4) (N := 8) hx hb hts i_X4 hown hK hP (3 + k) (cw_it G a (lp (q_takeOut (itm st g 5) g true) k (pI st g 5 (-1))) (by omega)) rfl 6 (by decide) (hts _ kw_97) (fun _ h9 => h9) rfl dX1_takeOut_128 ?_
                refine lv_iconst (v := 1) hx hb dX1_takeOut_131 (by decide) ?_
                refine lv_isub hx hb dX1_takeOut_132 ?_
                refine va_put (D := D) (ci := 6) (v := .int ((itm (lp (q_takeOut (itm st g 5) g true) k (pI st g 5 (-1))) k 6) - 1)) (ty := .int) (C := RX4) (T := TX4) (N := 8) hx hb hts i_X4 tyX4 tyX4_ok nmX4 hown hK hP hD hS (3 + k) (cw_it G a (lp (q_takeOut (itm st g 5) g true) k (pI st g 5 (-1))) (by omega)) rfl 6 (by decide) (hts _ kw_97) (fun _ h9 => h9) rfl (by decide +kernel) rfl rfl (Nat.le_of_ble_eq_true rfl) dX1_takeOut_133 (fun H locs hP hD hS => ?_)
                have hP : va_P D vwCl (cw G a (pI (lp (q_takeOut (itm st g 5) g true) k (pI st g 5 (-1))) k 6 ((itm (lp (q_takeOut (itm st g 5) g true) k (pI st g 5 (-1))) k 6) - 1))) H := by rw [← cw_p6 G a (lp (q_takeOut (itm st g 5) g true) k (pI st g 5 (-1))) (by omega) ((itm (lp (q_takeOut (itm st g 5) g true) k (pI st g 5 (-1))) k 6) - 1)]; exact hP
                have hD : va_D A (cw G a (pI (lp (q_takeOut (itm st g 5) g true) k (pI st g 5 (-1))) k 6 ((itm (lp (q_takeOut (itm st g 5) g true) k (pI st g 5 (-1))) k 6) - 1))) := by rw [← cw_p6 G a (lp (q_takeOut (itm st g 5) g true) k (pI st g 5 (-1))) (by omega) ((itm (lp (q_takeOut (itm st g 5) g true) k (pI st g 5 (-1))) k 6) - 1)]; exact hD
                refine lv_iinc (v := nI (k + 1)) (lv' := [(6, .int (nI (k + 1))), (7, .ref (a (3 + k))), (5, .int (nI 12)), (4, .ref (a 1)), (3, .int 1), (2, .int (itm st g 5)), (0, .ref (a 0)), (1, .ref (a (3 + g)))]) hx hb dX1_takeOut_136 hl (k := 1) rfl (by exact nI_1 k) (by decide) rfl (fun ls hl => ?_)
                refine lv_goto (tgt := 42) hx hb dX1_takeOut_139 (by decide) ?_
                have hz_43 : lp (q_takeOut (itm st g 5) g true) (k + 1) (pI st g 5 (-1)) = (pI (lp (q_takeOut (itm st g 5) g true) k (pI st g 5 (-1))) k 6 ((itm (lp (q_takeOut (itm st g 5) g true) k (pI st g 5 (-1))) k 6) - 1)) := by simp only [lp, q_takeOut, if_pos c_29, if_pos c_32, if_pos c_38, if_neg c_40, cond_true, cond_false]
                exact ih (k + 1) (by omega) _ _ (by rw [hz_43]; exact hP) (by rw [hz_43]; exact hD) hS ls (lv_sub hl [0, 2, 3, 4, 5, 6, 7] rfl)
            · skip
              refine lv_aload hx hb dX1_takeOut_89 (lv_at hl 0 rfl) ?_
              refine lv_dup hx hb dX1_takeOut_91 rfl ?_
              refine va_get (D := D) (ci := 6) (v := .int (itm (lp (q_takeOut (itm st g 5) g true) k (pI st g 5 (-1))) k 7)) (C := RX4) (T := TX4) (N := 8) hx hb hts i_X4 hown hK hP (3 + k) (cw_it G a (lp (q_takeOut (itm st g 5) g true) k (pI st g 5 (-1))) (by omega)) rfl 7 (by decide) (hts _ kw_100) (fun _ h9 => h9) rfl dX1_takeOut_92 ?_
              refine lv_iconst (v := 1) hx hb dX1_takeOut_95 (by decide) ?_
              refine lv_isub hx hb dX1_takeOut_96 ?_
              refine va_put (D := D) (ci := 6) (v := .int ((itm (lp (q_takeOut (itm st g 5) g true) k (pI st g 5 (-1))) k 7) - 1)) (ty := .int) (C := RX4) (T := TX4) (N := 8) hx hb hts i_X4 tyX4 tyX4_ok nmX4 hown hK hP hD hS (3 + k) (cw_it G a (lp (q_takeOut (itm st g 5) g true) k (pI st g 5 (-1))) (by omega)) rfl 7 (by decide) (hts _ kw_100) (fun _ h9 => h9) rfl (by decide +kernel) rfl rfl (Nat.le_of_ble_eq_true rfl) dX1_takeOut_97 (fun H locs hP hD hS => ?_)
              have hP : va_P D vwCl (cw G a (pI (lp (q_takeOut (itm st g 5) g true) k (pI st g 5 (-1))) k 7 ((itm (lp (q_takeOut (itm st g 5) g true) k (pI st g 5 (-1))) k 7) - 1))) H := by rw [← cw_p7 G a (lp (q_takeOut (itm st g 5) g true) k (pI st g 5 (-1))) (by omega) ((itm (lp (q_takeOut (itm st g 5) g true) k (pI st g 5 (-1))) k 7) - 1)]; exact hP
              have hD : va_D A (cw G a (pI (lp (q_takeOut (itm st g 5) g true) k (pI st g 5 (-1))) k 7 ((itm (lp (q_takeOut (itm st g 5) g true) k (pI st g 5 (-1))) k 7) - 1))) := by rw [← cw_p7 G a (lp (q_takeOut (itm st g 5) g true) k (pI st g 5 (-1))) (by omega) ((itm (lp (q_takeOut (itm st g 5) g true) k (pI st g 5 (-1))) k 7) - 1)]; exact hD
              refine lv_aload hx hb dX1_takeOut_100 (lv_at hl 0 rfl) ?_
              refine va_get (D := D) (ci := 6) (v := .int (itm (pI (lp (q_takeOut (itm st g 5) g true) k (pI st g 5 (-1))) k 7 ((itm (lp (q_takeOut (itm st g 5) g true) k (pI st g 5 (-1))) k 7) - 1)) k 5)) (C := RX4) (T := TX4) (N := 8) hx hb hts i_X4 hown hK hP (3 + k) (cw_it G a (pI (lp (q_takeOut (itm st g 5) g true) k (pI st g 5 (-1))) k 7 ((itm (lp (q_takeOut (itm st g 5) g true) k (pI st g 5 (-1))) k 7) - 1)) (by omega)) rfl 5 (by decide) (hts _ kw_94) (fun _ h9 => h9) rfl dX1_takeOut_102 ?_
              refine lv_iload_n hx hb dX1_takeOut_105 rfl (lv_at hl 5 rfl) ?_
              refine lv_icmp_ne (tgt := 136) hx hb dX1_takeOut_106 (by decide) (fun c_44 => ?_) (fun c_44 => ?_)
              · skip
                refine lv_iinc (v := nI (k + 1)) (lv' := [(6, .int (nI (k + 1))), (7, .ref (a (3 + k))), (5, .int (nI 12)), (4, .ref (a 1)), (3, .int 1), (2, .int (itm st g 5)), (0, .ref (a 0)), (1, .ref (a (3 + g)))]) hx hb dX1_takeOut_136 hl (k := 1) rfl (by exact nI_1 k) (by decide) rfl (fun ls hl => ?_)
                refine lv_goto (tgt := 42) hx hb dX1_takeOut_139 (by decide) ?_
                have hz_45 : lp (q_takeOut (itm st g 5) g true) (k + 1) (pI st g 5 (-1)) = (pI (lp (q_takeOut (itm st g 5) g true) k (pI st g 5 (-1))) k 7 ((itm (lp (q_takeOut (itm st g 5) g true) k (pI st g 5 (-1))) k 7) - 1)) := by simp only [lp, q_takeOut, if_pos c_29, if_pos c_32, if_neg c_38, if_neg c_44, cond_true, cond_false]
                exact ih (k + 1) (by omega) _ _ (by rw [hz_45]; exact hP) (by rw [hz_45]; exact hD) hS ls (lv_sub hl [0, 2, 3, 4, 5, 6, 7] rfl)
              · skip
                refine lv_aload hx hb dX1_takeOut_109 (lv_at hl 0 rfl) ?_
                refine va_get (D := D) (ci := 6) (v := .int (itm (pI (lp (q_takeOut (itm st g 5) g true) k (pI st g 5 (-1))) k 7 ((itm (lp (q_takeOut (itm st g 5) g true) k (pI st g 5 (-1))) k 7) - 1)) k 6)) (C := RX4) (T := TX4) (N := 8) hx hb hts i_X4 hown hK hP (3 + k) (cw_it G a (pI (lp (q_takeOut (itm st g 5) g true) k (pI st g 5 (-1))) k 7 ((itm (lp (q_takeOut (itm st g 5) g true) k (pI st g 5 (-1))) k 7) - 1)) (by omega)) rfl 6 (by decide) (hts _ kw_97) (fun _ h9 => h9) rfl dX1_takeOut_111 ?_
                refine lv_aload_n hx hb dX1_takeOut_114 rfl (lv_at hl 7 rfl) ?_
                refine va_get (D := D) (ci := 6) (v := .int (itm (pI (lp (q_takeOut (itm st g 5) g true) k (pI st g 5 (-1))) k 7 ((itm (lp (q_takeOut (itm st g 5) g true) k (pI st g 5 (-1))) k 7) - 1)) g 6)) (C := RX4) (T := TX4) (N := 8) hx hb hts i_X4 hown hK hP (3 + g) (cw_it G a (pI (lp (q_takeOut (itm st g 5) g true) k (pI st g 5 (-1))) k 7 ((itm (lp (q_takeOut (itm st g 5) g true) k (pI st g 5 (-1))) k 7) - 1)) hgg) rfl 6 (by decide) (hts _ kw_97) (fun _ h9 => h9) rfl dX1_takeOut_115 ?_
                refine lv_icmp_le (tgt := 136) hx hb dX1_takeOut_118 (by decide) (fun c_46 => ?_) (fun c_46 => ?_)
                · skip
                  refine lv_iinc (v := nI (k + 1)) (lv' := [(6, .int (nI (k + 1))), (7, .ref (a (3 + k))), (5, .int (nI 12)), (4, .ref (a 1)), (3, .int 1), (2, .int (itm st g 5)), (0, .ref (a 0)), (1, .ref (a (3 + g)))]) hx hb dX1_takeOut_136 hl (k := 1) rfl (by exact nI_1 k) (by decide) rfl (fun ls hl => ?_)
                  refine lv_goto (tgt := 42) hx hb dX1_takeOut_139 (by decide) ?_
                  have hz_47 : lp (q_takeOut (itm st g 5) g true) (k + 1) (pI st g 5 (-1)) = (pI (lp (q_takeOut (itm st g 5) g true) k (pI st g 5 (-1))) k 7 ((itm (lp (q_takeOut (itm st g 5) g true) k (pI st g 5 (-1))) k 7) - 1)) := by simp only [lp, q_takeOut, if_pos c_29, if_pos c_32, if_neg c_38, if_pos c_44, if_pos c_46, cond_true, cond_false]
                  exact ih (k + 1) (by omega) _ _ (by rw [hz_47]; exact hP) (by rw [hz_47]; exact hD) hS ls (lv_sub hl [0, 2, 3, 4, 5, 6, 7] rfl)
                · skip
                  refine lv_iload_n hx hb dX1_takeOut_121 rfl (lv_at hl 4 rfl) ?_
                  refine lv_if_eq (tgt := 136) hx hb dX1_takeOut_122 (by decide) (fun c_48 => absurd c_48 (by decide)) (fun _ => ?_)
                  refine lv_aload hx hb dX1_takeOut_125 (lv_at hl 0 rfl) ?_
                  refine lv_dup hx hb dX1_takeOut_127 rfl ?_
                  refine va_get (D := D) (ci := 6) (v := .int (itm (pI (lp (q_takeOut (itm st g 5) g true) k (pI st g 5 (-1))) k 7 ((itm (lp (q_takeOut (itm st g 5) g true) k (pI st g 5 (-1))) k 7) - 1)) k 6)) (C := RX4) (T := TX4) (N := 8) hx hb hts i_X4 hown hK hP (3 + k) (cw_it G a (pI (lp (q_takeOut (itm st g 5) g true) k (pI st g 5 (-1))) k 7 ((itm (lp (q_takeOut (itm st g 5) g true) k (pI st g 5 (-1))) k 7) - 1)) (by omega)) rfl 6 (by decide) (hts _ kw_97) (fun _ h9 => h9) rfl dX1_takeOut_128 ?_
                  refine lv_iconst (v := 1) hx hb dX1_takeOut_131 (by decide) ?_
                  refine lv_isub hx hb dX1_takeOut_132 ?_
                  refine va_put (D := D) (ci := 6) (v := .int ((itm (pI (lp (q_takeOut (itm st g 5) g true) k (pI st g 5 (-1))) k 7 ((itm (lp (q_takeOut (itm st g 5) g true) k (pI st g 5 (-1))) k 7) - 1)) k 6) - 1)) (ty := .int) (C := RX4) (T := TX4) (N := 8) hx hb hts i_X4 tyX4 tyX4_ok nmX4 hown hK hP hD hS (3 + k) (cw_it G a (pI (lp (q_takeOut (itm st g 5) g true) k (pI st g 5 (-1))) k 7 ((itm (lp (q_takeOut (itm st g 5) g true) k (pI st g 5 (-1))) k 7) - 1)) (by omega)) rfl 6 (by decide) (hts _ kw_97) (fun _ h9 => h9) rfl (by decide +kernel) rfl rfl (Nat.le_of_ble_eq_true rfl) dX1_takeOut_133 (fun H locs hP hD hS => ?_)
                  have hP : va_P D vwCl (cw G a (pI (pI (lp (q_takeOut (itm st g 5) g true) k (pI st g 5 (-1))) k 7 ((itm (lp (q_takeOut (itm st g 5) g true) k (pI st g 5 (-1))) k 7) - 1)) k 6 ((itm (pI (lp (q_takeOut (itm st g 5) g true) k (pI st g 5 (-1))) k 7 ((itm (lp (q_takeOut (itm st g 5) g true) k (pI st g 5 (-1))) k 7) - 1)) k 6) - 1))) H := by rw [← cw_p6 G a (pI (lp (q_takeOut (itm st g 5) g true) k (pI st g 5 (-1))) k 7 ((itm (lp (q_takeOut (itm st g 5) g true) k (pI st g 5 (-1))) k 7) - 1)) (by omega) ((itm (pI (lp (q_takeOut (itm st g 5) g true) k (pI st g 5 (-1))) k 7 ((itm (lp (q_takeOut (itm st g 5) g true) k (pI st g 5 (-1))) k 7) - 1)) k 6) - 1)]; exact hP
                  have hD : va_D A (cw G a (pI (pI (lp (q_takeOut (itm st g 5) g true) k (pI st g 5 (-1))) k 7 ((itm (lp (q_takeOut (itm st g 5) g true) k (pI st g 5 (-1))) k 7) - 1)) k 6 ((itm (pI (lp (q_takeOut (itm st g 5) g true) k (pI st g 5 (-1))) k 7 ((itm (lp (q_takeOut (itm st g 5) g true) k (pI st g 5 (-1))) k 7) - 1)) k 6) - 1))) := by rw [← cw_p6 G a (pI (lp (q_takeOut (itm st g 5) g true) k (pI st g 5 (-1))) k 7 ((itm (lp (q_takeOut (itm st g 5) g true) k (pI st g 5 (-1))) k 7) - 1)) (by omega) ((itm (pI (lp (q_takeOut (itm st g 5) g true) k (pI st g 5 (-1))) k 7 ((itm (lp (q_takeOut (itm st g 5) g true) k (pI st g 5 (-1))) k 7) - 1)) k 6) - 1)]; exact hD
                  refine lv_iinc (v := nI (k + 1)) (lv' := [(6, .int (nI (k + 1))), (7, .ref (a (3 + k))), (5, .int (nI 12)), (4, .ref (a 1)), (3, .int 1), (2, .int (itm st g 5)), (0, .ref (a 0)), (1, .ref (a (3 + g)))]) hx hb dX1_takeOut_136 hl (k := 1) rfl (by exact nI_1 k) (by decide) rfl (fun ls hl => ?_)
                  refine lv_goto (tgt := 42) hx hb dX1_takeOut_139 (by decide) ?_
                  have hz_49 : lp (q_takeOut (itm st g 5) g true) (k + 1) (pI st g 5 (-1)) = (pI (pI (lp (q_takeOut (itm st g 5) g true) k (pI st g 5 (-1))) k 7 ((itm (lp (q_takeOut (itm st g 5) g true) k (pI st g 5 (-1))) k 7) - 1)) k 6 ((itm (pI (lp (q_takeOut (itm st g 5) g true) k (pI st g 5 (-1))) k 7 ((itm (lp (q_takeOut (itm st g 5) g true) k (pI st g 5 (-1))) k 7) - 1)) k 6) - 1)) := by simp only [lp, q_takeOut, if_pos c_29, if_pos c_32, if_neg c_38, if_pos c_44, if_neg c_46, cond_true, cond_false]
                  exact ih (k + 1) (by omega) _ _ (by rw [hz_49]; exact hP) (by rw [hz_49]; exact hD) hS ls (lv_sub hl [0, 2, 3, 4, 5, 6, 7] rfl)
    exact L42 12 0 (by omega) _ _ hP hD hS ls (lv_sub hl [0, 1, 2, 3, 4, 5, 6] rfl)
set_option maxRecDepth 100000 in
set_option maxHeartbeats 4000000 in
theorem c_X1_unload (l : Launch) (D : va_G) (G : GA) (a : Nat → Nat) (st : CS) (id : Int32) (hF : s_find st id < 12) (sz : Nat) : Met l yX1_unload (wA yX1_unload cX1_unload 4 (some .int)) ({ frames := 2, cells := 0, slots := 0, locals := 54 } : Room) (va_Pc [.ref (a 0), .int id] (CMp D G a st sz)) (va_Qi (fun (r : Int32) (_ : Unit) => r = (m_unload st id).1) (fun _ t9 => va_P D vwCl (cw G a (m_unload st id).2) t9.heap) (va_A (cw G a st) sz)) 0 0 (va_A (cw G a st) sz) := by
  refine Met.ofW (cc := cX1_unload) (maxL := 4) (ret := (some .int)) (by decide) rfl ?_
  intro p e s m args below meth c s₁ B hml hv
  obtain ⟨rfl, hsz, hP, hK, hD0⟩ := hv
  have hx := B.exec
  have hb := B.bytes
  have hr := B.returns
  have hts : ∀ w9 ∈ tb, w9.before ([.ref (a 0), .int id] : List Value).toArray s = true := fun w9 h9 => atoms_spec (ws := (wA yX1_unload cX1_unload 4 (some .int))) B.pre w9 (List.mem_cons_of_mem _ h9)
  have hown : s.vm.findClass RX1 = some m.cls := findClass_of_methodNamed B.named
  have hlocks := B.notSynchronized
  subst hsz
  have hD := hD0.self (sz := s.heap.size)
  generalize hAe : va_A (cw G a st) s.heap.size = A at hD ⊢
  have hA : ∀ q : Nat, s.heap.size ≤ q → A q := fun q h => by rw [← hAe]; exact Or.inr h
  have hS : va_S A s.heap s.heap [] := va_S.rf
  have hl := lv_entry ([.ref (a 0), .int id]) (n := 4) (Nat.le_of_ble_eq_true rfl)
  rw [lg_entry_eq]
  generalize (lg_sl ([.ref (a 0), .int id]) ++ List.replicate (4 - (lg_sl ([.ref (a 0), .int id])).length) Slot.unset).toArray = ls at hl ⊢
  have hl : lv_has ls 4 [(0, .ref (a 0)), (1, .int id)] := hl
  refine lv_aload_n hx hb dX1_unload_0 rfl (lv_at hl 0 rfl) ?_
  refine lv_iload_n hx hb dX1_unload_1 rfl (lv_at hl 1 rfl) ?_
  refine va_csr (va_runV (As := [.int id]) (rest := []) ⟨hx, hb, hml, hown, hts⟩ (c_X1_find l D G a st id) (cwV 1 hts gw_X1_82 rfl rfl rfl (by decide +kernel) ⟨Nat.le_of_ble_eq_true rfl, Nat.le_of_ble_eq_true rfl⟩) (pv_cw hK hP) rfl rfl hl.1 rfl (lv_room (Nat.le_of_ble_eq_true rfl)) dX1_unload_2 ⟨Nat.le_of_ble_eq_true rfl, Nat.le_of_ble_eq_true rfl⟩).run (nm_e ?_)
  refine lv_astore_n (x := (a (3 + (s_find st id)))) (lv' := [(2, .ref (a (3 + (s_find st id)))), (0, .ref (a 0)), (1, .int id)]) hx hb dX1_unload_5 rfl hl (by decide) rfl (fun ls hl => ?_)
  refine lv_aload_n hx hb dX1_unload_6 rfl (lv_at hl 0 rfl) ?_
  refine va_get (D := D) (ci := 6) (v := .int (itm st (s_find st id) 5)) (C := RX4) (T := TX4) (N := 8) hx hb hts i_X4 hown hK hP (3 + (s_find st id)) (cw_it G a st (s_find_lt st id)) rfl 5 (by decide) (hts _ kw_94) (fun _ h9 => h9) rfl dX1_unload_7 ?_
  refine lv_istore_n (lv' := [(3, .int (itm st (s_find st id) 5)), (2, .ref (a (3 + (s_find st id)))), (0, .ref (a 0)), (1, .int id)]) hx hb dX1_unload_10 rfl hl (by decide) rfl (fun ls hl => ?_)
  refine lv_aload_n hx hb dX1_unload_11 rfl (lv_at hl 2 rfl) ?_
  refine lv_aload_n hx hb dX1_unload_12 rfl (lv_at hl 1 rfl) ?_
  have hFc := freeC hD hS hA
  refine va_callv (va_runV (As := [.ref (a (3 + (s_find st id)))]) (rest := []) ⟨hx, hb, hml, hown, hts⟩ (c_X1_takeOut l D G a st (s_find st id) (s_find_lt st id) hF s.heap.size) (cwV 1 hts gw_X1_121 rfl rfl rfl (by decide +kernel) ⟨Nat.le_of_ble_eq_true rfl, Nat.le_of_ble_eq_true rfl⟩) (pv_cm hK hP hD) rfl rfl hl.1 rfl (lv_room (Nat.le_of_ble_eq_true rfl)) dX1_unload_13 ⟨Nat.le_of_ble_eq_true rfl, Nat.le_of_ble_eq_true rfl⟩) hS (fun q _ h => hFc q h) hFc (fun u t H locs ht hvm hw_1 hB hz1 hk1 hS => ?_)
  have hP : va_P D vwCl (cw G a (m_takeOut st (s_find st id))) H := by have h9 := hB; rw [ht] at h9; exact h9
  have hD : va_D A (cw G a (m_takeOut st (s_find st id))) := cwD hD
  refine lv_aload_n hx hb dX1_unload_16 rfl (lv_at hl 2 rfl) ?_
  refine lv_iload_n hx hb dX1_unload_17 rfl (lv_at hl 0 rfl) ?_
  refine vp_callSi (va_runV (As := [.int (itm st (s_find st id) 5)]) (rest := []) ⟨hx, hb, hml, hown, hts⟩ (c_X1_countLayers l D G a (m_takeOut st (s_find st id)) (itm st (s_find st id) 5)) (cwV 1 hts gw_X1_117 rfl rfl rfl (by decide +kernel) ⟨Nat.le_of_ble_eq_true rfl, Nat.le_of_ble_eq_true rfl⟩) (pv_cw hK hP) rfl rfl hl.1 rfl (lv_room (Nat.le_of_ble_eq_true rfl)) dX1_unload_18 ⟨Nat.le_of_ble_eq_true rfl, Nat.le_of_ble_eq_true rfl⟩).run (nm_e ?_)
  have hz_2 : m_unload st id = ((s_countLayers (m_takeOut st (s_find st id)) (itm st (s_find st id) 5)), (m_takeOut st (s_find st id))) := rfl
  exact W.iret (v := (s_countLayers (m_takeOut st (s_find st id)) (itm st (s_find st id) 5))) hx hb hr (fun t ht hW => ⟨⟨(s_countLayers (m_takeOut st (s_find st id)) (itm st (s_find st id) 5)), (), rfl, pr1 hz_2, wP2 hz_2 ht hP⟩, hS.F ht⟩) hS.2.2 dX1_unload_21
set_option maxRecDepth 100000 in
set_option maxHeartbeats 4000000 in
theorem c_X1_fill (l : Launch) (D : va_G) (G : GA) (a : Nat → Nat) (st : CS) (b : Int32) (sz : Nat) : Met l yX1_fill (wA yX1_fill cX1_fill 6 (some .int)) ({ frames := 4, cells := 0, slots := 0, locals := 94 } : Room) (va_Pc [.ref (a 0), .int b] (CMp D G a st sz)) (va_Qi (fun (r : Int32) (_ : Unit) => r = (m_fill st b).1) (fun _ t9 => va_P D vwCl (cw G a (m_fill st b).2) t9.heap) (va_A (cw G a st) sz)) 0 0 (va_A (cw G a st) sz) := by
  refine Met.ofW (cc := cX1_fill) (maxL := 6) (ret := (some .int)) (by decide) rfl ?_
  intro p e s m args below meth c s₁ B hml hv
  obtain ⟨rfl, hsz, hP, hK, hD0⟩ := hv
  have hx := B.exec
  have hb := B.bytes
  have hr := B.returns
  have hts : ∀ w9 ∈ tb, w9.before ([.ref (a 0), .int b] : List Value).toArray s = true := fun w9 h9 => atoms_spec (ws := (wA yX1_fill cX1_fill 6 (some .int))) B.pre w9 (List.mem_cons_of_mem _ h9)
  have hown : s.vm.findClass RX1 = some m.cls := findClass_of_methodNamed B.named
  have hlocks := B.notSynchronized
  subst hsz
  have hD := hD0.self (sz := s.heap.size)
  generalize hAe : va_A (cw G a st) s.heap.size = A at hD ⊢
  have hA : ∀ q : Nat, s.heap.size ≤ q → A q := fun q h => by rw [← hAe]; exact Or.inr h
  have hS : va_S A s.heap s.heap [] := va_S.rf
  have hl := lv_entry ([.ref (a 0), .int b]) (n := 6) (Nat.le_of_ble_eq_true rfl)
  rw [lg_entry_eq]
  generalize (lg_sl ([.ref (a 0), .int b]) ++ List.replicate (6 - (lg_sl ([.ref (a 0), .int b])).length) Slot.unset).toArray = ls at hl ⊢
  have hcN := cN_le st
  have hl : lv_has ls 6 [(0, .ref (a 0)), (1, .int b)] := hl
  refine lv_iconst (v := 0) hx hb dX1_fill_0 (by decide) ?_
  refine lv_istore_n (lv' := [(2, .int 0), (0, .ref (a 0)), (1, .int b)]) hx hb dX1_fill_1 rfl hl (by decide) rfl (fun ls hl => ?_)
  refine lv_aload_n hx hb dX1_fill_2 rfl (lv_at hl 1 rfl) ?_
  refine vp_callSi (va_runV (As := []) (rest := []) ⟨hx, hb, hml, hown, hts⟩ (c_X1_countItems l D G a st) (cwV 0 hts gw_X1_55 rfl rfl rfl (by decide +kernel) ⟨Nat.le_of_ble_eq_true rfl, Nat.le_of_ble_eq_true rfl⟩) (pv_cw hK hP) rfl rfl hl.1 rfl (lv_room (Nat.le_of_ble_eq_true rfl)) dX1_fill_3 ⟨Nat.le_of_ble_eq_true rfl, Nat.le_of_ble_eq_true rfl⟩).run (nm_e ?_)
  rw [cN_eq st]
  refine lv_istore_n (lv' := [(3, .int (nI (cN st))), (2, .int 0), (0, .ref (a 0)), (1, .int b)]) hx hb dX1_fill_6 rfl hl (by decide) rfl (fun ls hl => ?_)
  refine lv_iconst (v := 0) hx hb dX1_fill_7 (by decide) ?_
  refine lv_istore (lv' := [(4, .int 0), (3, .int (nI (cN st))), (2, .int 0), (0, .ref (a 0)), (1, .int b)]) hx hb dX1_fill_8 hl (by decide) rfl (fun ls hl => ?_)
  have L10 : ∀ (n k : Nat), k + n = cN st → ∀ (H : Heap) (locs : List Loc), va_P D vwCl (cw G a ((lp (q_fill b) k (0, st)).2)) H → va_D A (cw G a ((lp (q_fill b) k (0, st)).2)) → va_S A s.heap H locs → ∀ ls : Array Slot, lv_has ls 6 [(4, .int (nI k)), (3, .int (nI (cN st))), (2, .int ((lp (q_fill b) k (0, st)).1)), (0, .ref (a 0)), (1, .int b)] → W p l e (headSpec (wA yX1_fill cX1_fill 6 (some .int)) ({ frames := 4, cells := 0, slots := 0, locals := 94 } : Room)).room s m ([.ref (a 0), .int b] : List Value).toArray below meth c H locs 0 0 (MQ below (va_Qi (fun (r : Int32) (_ : Unit) => r = (m_fill st b).1) (fun _ t9 => va_P D vwCl (cw G a (m_fill st b).2) t9.heap) A) ([.ref (a 0), .int b] : List Value).toArray s 0 0 A) (F0 m 10 ls []) := by
    intro n
    induction n with
    | zero =>
      intro k hk0 H locs hP hD hS ls hl
      obtain rfl : k = cN st := by omega
      refine lv_iload hx hb dX1_fill_10 (lv_at hl 0 rfl) ?_
      refine lv_iload_n hx hb dX1_fill_12 rfl (lv_at hl 1 rfl) ?_
      refine lv_icmp_ge (tgt := 58) hx hb dX1_fill_13 (by decide) (fun _ => ?_) (fun c_1 => absurd (nI_le (a := (cN st)) (b := (cN st)) (by omega) (by omega)) c_1)
      refine lv_iload_n hx hb dX1_fill_58 rfl (lv_at hl 2 rfl) ?_
      have hz_2 : m_fill st b = ((lp (q_fill b) (cN st) (0, st)).1, (lp (q_fill b) (cN st) (0, st)).2) := rfl
      exact W.iret (v := (lp (q_fill b) (cN st) (0, st)).1) hx hb hr (fun t ht hW => ⟨⟨(lp (q_fill b) (cN st) (0, st)).1, (), rfl, pr1 hz_2, wP2 hz_2 ht hP⟩, hS.F ht⟩) hS.2.2 dX1_fill_59
    | succ n ih =>
      intro k hk0 H locs hP hD hS ls hl
      have hk12 : k < cN st := by omega
      refine lv_iload hx hb dX1_fill_10 (lv_at hl 0 rfl) ?_
      refine lv_iload_n hx hb dX1_fill_12 rfl (lv_at hl 1 rfl) ?_
      refine lv_icmp_ge (tgt := 58) hx hb dX1_fill_13 (by decide) (fun c_3 => absurd c_3 (nI_ge (a := k) (b := (cN st)) (by omega) (by omega))) (fun _ => ?_)
      refine lv_aload_n hx hb dX1_fill_16 rfl (lv_at hl 3 rfl) ?_
      refine lv_iload hx hb dX1_fill_17 (lv_at hl 0 rfl) ?_
      refine va_csr (va_runV (As := [.int (nI k)]) (rest := []) ⟨hx, hb, hml, hown, hts⟩ (c_X1_findRank l D G a ((lp (q_fill b) k (0, st)).2) (nI k)) (cwV 1 hts gw_X1_124 rfl rfl rfl (by decide +kernel) ⟨Nat.le_of_ble_eq_true rfl, Nat.le_of_ble_eq_true rfl⟩) (pv_cw hK hP) rfl rfl hl.1 rfl (lv_room (Nat.le_of_ble_eq_true rfl)) dX1_fill_19 ⟨Nat.le_of_ble_eq_true rfl, Nat.le_of_ble_eq_true rfl⟩).run (nm_e ?_)
      refine lv_astore (x := (a (3 + (s_findRank ((lp (q_fill b) k (0, st)).2) (nI k))))) (lv' := [(5, .ref (a (3 + (s_findRank ((lp (q_fill b) k (0, st)).2) (nI k))))), (4, .int (nI k)), (3, .int (nI (cN st))), (2, .int ((lp (q_fill b) k (0, st)).1)), (0, .ref (a 0)), (1, .int b)]) hx hb dX1_fill_22 hl (by decide) rfl (fun ls hl => ?_)
      refine lv_aload hx hb dX1_fill_24 (lv_at hl 0 rfl) ?_
      refine vp_callSi (va_runV (As := []) (rest := []) ⟨hx, hb, hml, hown, hts⟩ (c_X4_isInDepot l D G (a (3 + (s_findRank ((lp (q_fill b) k (0, st)).2) (nI k)))) (itm ((lp (q_fill b) k (0, st)).2) (s_findRank ((lp (q_fill b) k (0, st)).2) (nI k)))) (cwV 0 hts gw_X1_127 rfl rfl rfl (by decide +kernel) ⟨Nat.le_of_ble_eq_true rfl, Nat.le_of_ble_eq_true rfl⟩) (pv_it hK hP (cw_it G a ((lp (q_fill b) k (0, st)).2) (s_findRank_lt ((lp (q_fill b) k (0, st)).2) (nI k)))) rfl rfl hl.1 rfl (lv_room (Nat.le_of_ble_eq_true rfl)) dX1_fill_26 ⟨Nat.le_of_ble_eq_true rfl, Nat.le_of_ble_eq_true rfl⟩).run (nm_e ?_)
      cases hb_4 : p_depot (itm ((lp (q_fill b) k (0, st)).2) (s_findRank ((lp (q_fill b) k (0, st)).2) (nI k)))
      case true =>
        refine lv_if_eq (tgt := 52) hx hb dX1_fill_29 (by decide) (fun c_5 => absurd c_5 (by decide)) (fun _ => ?_)
        refine lv_aload_n hx hb dX1_fill_32 rfl (lv_at hl 4 rfl) ?_
        refine lv_aload hx hb dX1_fill_33 (lv_at hl 0 rfl) ?_
        refine lv_iload_n hx hb dX1_fill_35 rfl (lv_at hl 5 rfl) ?_
        refine vp_callSi (va_runV (As := [.ref (a (3 + (s_findRank ((lp (q_fill b) k (0, st)).2) (nI k)))), .int b]) (rest := []) ⟨hx, hb, hml, hown, hts⟩ (c_X1_refusal l D G a ((lp (q_fill b) k (0, st)).2) (s_findRank ((lp (q_fill b) k (0, st)).2) (nI k)) (s_findRank_lt ((lp (q_fill b) k (0, st)).2) (nI k)) b) (cwV 2 hts gw_X1_103 rfl rfl rfl (by decide +kernel) ⟨Nat.le_of_ble_eq_true rfl, Nat.le_of_ble_eq_true rfl⟩) (pv_cw hK hP) rfl rfl hl.1 rfl (lv_room (Nat.le_of_ble_eq_true rfl)) dX1_fill_36 ⟨Nat.le_of_ble_eq_true rfl, Nat.le_of_ble_eq_true rfl⟩).run (nm_e ?_)
        refine lv_if_ne (tgt := 52) hx hb dX1_fill_39 (by decide) (fun c_6 => ?_) (fun c_6 => ?_)
        · skip
          refine lv_iinc (v := nI (k + 1)) (lv' := [(4, .int (nI (k + 1))), (5, .ref (a (3 + (s_findRank ((lp (q_fill b) k (0, st)).2) (nI k))))), (3, .int (nI (cN st))), (2, .int ((lp (q_fill b) k (0, st)).1)), (0, .ref (a 0)), (1, .int b)]) hx hb dX1_fill_52 hl (k := 1) rfl (by exact nI_1 k) (by decide) rfl (fun ls hl => ?_)
          refine lv_goto (tgt := 10) hx hb dX1_fill_55 (by decide) ?_
          have hz_7 : lp (q_fill b) (k + 1) (0, st) = ((lp (q_fill b) k (0, st)).1, (lp (q_fill b) k (0, st)).2) := by simp only [lp, q_fill, if_pos hb_4, if_neg c_6]
          exact ih (k + 1) (by omega) _ _ (by rw [hz_7]; exact hP) (by rw [hz_7]; exact hD) hS ls (by rw [hz_7]; exact lv_sub hl [0, 2, 3, 4, 5] rfl)
        · skip
          refine lv_aload_n hx hb dX1_fill_42 rfl (lv_at hl 4 rfl) ?_
          refine lv_aload hx hb dX1_fill_43 (lv_at hl 0 rfl) ?_
          refine lv_iload_n hx hb dX1_fill_45 rfl (lv_at hl 5 rfl) ?_
          have hFc := freeC hD hS hA
          refine va_callv (va_runV (As := [.ref (a (3 + (s_findRank ((lp (q_fill b) k (0, st)).2) (nI k)))), .int b]) (rest := []) ⟨hx, hb, hml, hown, hts⟩ (c_X1_putInto l D G a ((lp (q_fill b) k (0, st)).2) (s_findRank ((lp (q_fill b) k (0, st)).2) (nI k)) (s_findRank_lt ((lp (q_fill b) k (0, st)).2) (nI k)) (depot_lt (s_findRank_lt ((lp (q_fill b) k (0, st)).2) (nI k)) hb_4) b H.size) (cwV 2 hts gw_X1_110 rfl rfl rfl (by decide +kernel) ⟨Nat.le_of_ble_eq_true rfl, Nat.le_of_ble_eq_true rfl⟩) (pv_cm hK hP hD) rfl rfl hl.1 rfl (lv_room (Nat.le_of_ble_eq_true rfl)) dX1_fill_46 ⟨Nat.le_of_ble_eq_true rfl, Nat.le_of_ble_eq_true rfl⟩) hS (fun q _ h => hFc q h) hFc (fun u t H locs ht hvm hw_8 hB hz1 hk1 hS => ?_)
          have hP : va_P D vwCl (cw G a (m_putInto ((lp (q_fill b) k (0, st)).2) (s_findRank ((lp (q_fill b) k (0, st)).2) (nI k)) b)) H := by have h9 := hB; rw [ht] at h9; exact h9
          have hD : va_D A (cw G a (m_putInto ((lp (q_fill b) k (0, st)).2) (s_findRank ((lp (q_fill b) k (0, st)).2) (nI k)) b)) := cwD hD
          refine lv_iinc (v := ((lp (q_fill b) k (0, st)).1) + 1) (lv' := [(2, .int (((lp (q_fill b) k (0, st)).1) + 1)), (5, .ref (a (3 + (s_findRank ((lp (q_fill b) k (0, st)).2) (nI k))))), (4, .int (nI k)), (3, .int (nI (cN st))), (0, .ref (a 0)), (1, .int b)]) hx hb dX1_fill_49 hl (k := 3) rfl rfl (by decide) rfl (fun ls hl => ?_)
          refine lv_iinc (v := nI (k + 1)) (lv' := [(4, .int (nI (k + 1))), (2, .int (((lp (q_fill b) k (0, st)).1) + 1)), (5, .ref (a (3 + (s_findRank ((lp (q_fill b) k (0, st)).2) (nI k))))), (3, .int (nI (cN st))), (0, .ref (a 0)), (1, .int b)]) hx hb dX1_fill_52 hl (k := 2) rfl (by exact nI_1 k) (by decide) rfl (fun ls hl => ?_)
          refine lv_goto (tgt := 10) hx hb dX1_fill_55 (by decide) ?_
          have hz_9 : lp (q_fill b) (k + 1) (0, st) = (((lp (q_fill b) k (0, st)).1) + 1, (m_putInto ((lp (q_fill b) k (0, st)).2) (s_findRank ((lp (q_fill b) k (0, st)).2) (nI k)) b)) := by simp only [lp, q_fill, if_pos hb_4, if_pos c_6]
          exact ih (k + 1) (by omega) _ _ (by rw [hz_9]; exact hP) (by rw [hz_9]; exact hD) hS ls (by rw [hz_9]; exact lv_sub hl [0, 3, 1, 4, 5] rfl)
      case false =>
        refine lv_if_eq (tgt := 52) hx hb dX1_fill_29 (by decide) (fun _ => ?_) (fun c_10 => absurd (by decide) c_10)
        refine lv_iinc (v := nI (k + 1)) (lv' := [(4, .int (nI (k + 1))), (5, .ref (a (3 + (s_findRank ((lp (q_fill b) k (0, st)).2) (nI k))))), (3, .int (nI (cN st))), (2, .int ((lp (q_fill b) k (0, st)).1)), (0, .ref (a 0)), (1, .int b)]) hx hb dX1_fill_52 hl (k := 1) rfl (by exact nI_1 k) (by decide) rfl (fun ls hl => ?_)
        refine lv_goto (tgt := 10) hx hb dX1_fill_55 (by decide) ?_
        have hz_11 : lp (q_fill b) (k + 1) (0, st) = ((lp (q_fill b) k (0, st)).1, (lp (q_fill b) k (0, st)).2) := by simp only [lp, q_fill, if_neg (bf hb_4)]
        exact ih (k + 1) (by omega) _ _ (by rw [hz_11]; exact hP) (by rw [hz_11]; exact hD) hS ls (by rw [hz_11]; exact lv_sub hl [0, 2, 3, 4, 5] rfl)
  exact L10 (cN st) 0 (by omega) _ _ hP hD hS ls (lv_sub hl [0, 1, 2, 3, 4] rfl)
set_option maxRecDepth 100000 in
set_option maxHeartbeats 4000000 in
theorem c_X1_handOver (l : Launch) (D : va_G) (G : GA) (a : Nat → Nat) (st : CS) (sz : Nat) : Met l yX1_handOver (wA yX1_handOver cX1_handOver 7 (some .int)) ({ frames := 2, cells := 0, slots := 0, locals := 54 } : Room) (va_Pc [.ref (a 0)] (CMp D G a st sz)) (va_Qi (fun (r : Int32) (_ : Unit) => r = (m_handOver st).1) (fun _ t9 => va_P D vwCl (cw G a (m_handOver st).2) t9.heap) (va_A (cw G a st) sz)) 0 0 (va_A (cw G a st) sz) := by
  refine Met.ofW (cc := cX1_handOver) (maxL := 7) (ret := (some .int)) (by decide) rfl ?_
  intro p e s m args below meth c s₁ B hml hv
  obtain ⟨rfl, hsz, hP, hK, hD0⟩ := hv
  have hx := B.exec
  have hb := B.bytes
  have hr := B.returns
  have hts : ∀ w9 ∈ tb, w9.before ([.ref (a 0)] : List Value).toArray s = true := fun w9 h9 => atoms_spec (ws := (wA yX1_handOver cX1_handOver 7 (some .int))) B.pre w9 (List.mem_cons_of_mem _ h9)
  have hown : s.vm.findClass RX1 = some m.cls := findClass_of_methodNamed B.named
  have hlocks := B.notSynchronized
  subst hsz
  have hD := hD0.self (sz := s.heap.size)
  generalize hAe : va_A (cw G a st) s.heap.size = A at hD ⊢
  have hA : ∀ q : Nat, s.heap.size ≤ q → A q := fun q h => by rw [← hAe]; exact Or.inr h
  have hS : va_S A s.heap s.heap [] := va_S.rf
  have hl := lv_entry ([.ref (a 0)]) (n := 7) (Nat.le_of_ble_eq_true rfl)
  rw [lg_entry_eq]
  generalize (lg_sl ([.ref (a 0)]) ++ List.replicate (7 - (lg_sl ([.ref (a 0)])).length) Slot.unset).toArray = ls at hl ⊢
  have hl : lv_has ls 7 [(0, .ref (a 0))] := hl
  refine lv_aload_n hx hb dX1_handOver_0 rfl (lv_at hl 0 rfl) ?_
  refine vp_callSi (va_runV (As := []) (rest := []) ⟨hx, hb, hml, hown, hts⟩ (c_X1_lowestPackedStop l D G a st) (cwV 0 hts gw_X1_133 rfl rfl rfl (by decide +kernel) ⟨Nat.le_of_ble_eq_true rfl, Nat.le_of_ble_eq_true rfl⟩) (pv_cw hK hP) rfl rfl hl.1 rfl (lv_room (Nat.le_of_ble_eq_true rfl)) dX1_handOver_1 ⟨Nat.le_of_ble_eq_true rfl, Nat.le_of_ble_eq_true rfl⟩).run (nm_e ?_)
  refine lv_istore_n (lv' := [(1, .int (s_lowest st)), (0, .ref (a 0))]) hx hb dX1_handOver_4 rfl hl (by decide) rfl (fun ls hl => ?_)
  refine lv_iconst (v := 0) hx hb dX1_handOver_5 (by decide) ?_
  refine lv_istore_n (lv' := [(2, .int 0), (1, .int (s_lowest st)), (0, .ref (a 0))]) hx hb dX1_handOver_6 rfl hl (by decide) rfl (fun ls hl => ?_)
  refine lv_aload_n hx hb dX1_handOver_7 rfl (lv_at hl 2 rfl) ?_
  refine va_get (D := D) (ci := 4) (v := .ref (a 1)) (C := RX1) (T := TX1) (N := 7) hx hb hts i_X1 hown hK hP 0 rfl rfl 0 (by decide) (hts _ kw_118) (fun _ h9 => h9) rfl dX1_handOver_8 ?_
  refine lv_astore_n (x := (a 1)) (lv' := [(3, .ref (a 1)), (2, .int 0), (1, .int (s_lowest st)), (0, .ref (a 0))]) hx hb dX1_handOver_11 rfl hl (by decide) rfl (fun ls hl => ?_)
  refine lv_aload_n hx hb dX1_handOver_12 rfl (lv_at hl 0 rfl) ?_
  refine va_alen (v := nI 12) hx hb hK hP 1 0 rfl rfl rfl dX1_handOver_13 ?_
  refine lv_istore (lv' := [(4, .int (nI 12)), (3, .ref (a 1)), (2, .int 0), (1, .int (s_lowest st)), (0, .ref (a 0))]) hx hb dX1_handOver_14 hl (by decide) rfl (fun ls hl => ?_)
  refine lv_iconst (v := 0) hx hb dX1_handOver_16 (by decide) ?_
  refine lv_istore (lv' := [(5, .int 0), (4, .int (nI 12)), (3, .ref (a 1)), (2, .int 0), (1, .int (s_lowest st)), (0, .ref (a 0))]) hx hb dX1_handOver_17 hl (by decide) rfl (fun ls hl => ?_)
  have L19 : ∀ (n k : Nat), k + n = 12 → ∀ (H : Heap) (locs : List Loc), va_P D vwCl (cw G a ((lp (q_handOver (s_lowest st)) k (0, st)).2)) H → va_D A (cw G a ((lp (q_handOver (s_lowest st)) k (0, st)).2)) → va_S A s.heap H locs → ∀ ls : Array Slot, lv_has ls 7 [(5, .int (nI k)), (4, .int (nI 12)), (3, .ref (a 1)), (2, .int ((lp (q_handOver (s_lowest st)) k (0, st)).1)), (1, .int (s_lowest st)), (0, .ref (a 0))] → W p l e (headSpec (wA yX1_handOver cX1_handOver 7 (some .int)) ({ frames := 2, cells := 0, slots := 0, locals := 54 } : Room)).room s m ([.ref (a 0)] : List Value).toArray below meth c H locs 0 0 (MQ below (va_Qi (fun (r : Int32) (_ : Unit) => r = (m_handOver st).1) (fun _ t9 => va_P D vwCl (cw G a (m_handOver st).2) t9.heap) A) ([.ref (a 0)] : List Value).toArray s 0 0 A) (F0 m 19 ls []) := by
    intro n
    induction n with
    | zero =>
      intro k hk0 H locs hP hD hS ls hl
      obtain rfl : k = 12 := by omega
      refine lv_iload hx hb dX1_handOver_19 (lv_at hl 0 rfl) ?_
      refine lv_iload hx hb dX1_handOver_21 (lv_at hl 1 rfl) ?_
      refine lv_icmp_ge (tgt := 85) hx hb dX1_handOver_23 (by decide) (fun _ => ?_) (fun c_1 => absurd (nI_le (a := 12) (b := 12) (by omega) (by omega)) c_1)
      refine lv_aload_n hx hb dX1_handOver_85 rfl (lv_at hl 5 rfl) ?_
      refine lv_dup hx hb dX1_handOver_86 rfl ?_
      refine va_get (D := D) (ci := 4) (v := .int (((lp (q_handOver (s_lowest st)) 12 (0, st)).2).2.2 2)) (C := RX1) (T := TX1) (N := 7) hx hb hts i_X1 hown hK hP 0 rfl rfl 5 (by decide) (hts _ kw_124) (fun _ h9 => h9) rfl dX1_handOver_87 ?_
      refine lv_iload_n hx hb dX1_handOver_90 rfl (lv_at hl 3 rfl) ?_
      refine lv_iadd hx hb dX1_handOver_91 ?_
      refine va_put (D := D) (ci := 4) (v := .int ((((lp (q_handOver (s_lowest st)) 12 (0, st)).2).2.2 2) + ((lp (q_handOver (s_lowest st)) 12 (0, st)).1))) (ty := .int) (C := RX1) (T := TX1) (N := 7) hx hb hts i_X1 tyX1 tyX1_ok nmX1 hown hK hP hD hS 0 rfl rfl 5 (by decide) (hts _ kw_124) (fun _ h9 => h9) rfl (by decide +kernel) rfl rfl (Nat.le_of_ble_eq_true rfl) dX1_handOver_92 (fun H locs hP hD hS => ?_)
      have hP : va_P D vwCl (cw G a (sN ((lp (q_handOver (s_lowest st)) 12 (0, st)).2) 2 ((((lp (q_handOver (s_lowest st)) 12 (0, st)).2).2.2 2) + ((lp (q_handOver (s_lowest st)) 12 (0, st)).1)))) H := by rw [← cw_n2 G a ((lp (q_handOver (s_lowest st)) 12 (0, st)).2) ((((lp (q_handOver (s_lowest st)) 12 (0, st)).2).2.2 2) + ((lp (q_handOver (s_lowest st)) 12 (0, st)).1))]; exact hP
      have hD : va_D A (cw G a (sN ((lp (q_handOver (s_lowest st)) 12 (0, st)).2) 2 ((((lp (q_handOver (s_lowest st)) 12 (0, st)).2).2.2 2) + ((lp (q_handOver (s_lowest st)) 12 (0, st)).1)))) := by rw [← cw_n2 G a ((lp (q_handOver (s_lowest st)) 12 (0, st)).2) ((((lp (q_handOver (s_lowest st)) 12 (0, st)).2).2.2 2) + ((lp (q_handOver (s_lowest st)) 12 (0, st)).1))]; exact hD
      refine lv_iload_n hx hb dX1_handOver_95 rfl (lv_at hl 3 rfl) ?_
      have hz_2 : m_handOver st = ((lp (q_handOver (s_lowest st)) 12 (0, st)).1, (sN ((lp (q_handOver (s_lowest st)) 12 (0, st)).2) 2 ((((lp (q_handOver (s_lowest st)) 12 (0, st)).2).2.2 2) + ((lp (q_handOver (s_lowest st)) 12 (0, st)).1)))) := rfl
      exact W.iret (v := (lp (q_handOver (s_lowest st)) 12 (0, st)).1) hx hb hr (fun t ht hW => ⟨⟨(lp (q_handOver (s_lowest st)) 12 (0, st)).1, (), rfl, pr1 hz_2, wP2 hz_2 ht hP⟩, hS.F ht⟩) hS.2.2 dX1_handOver_96
    | succ n ih =>
      intro k hk0 H locs hP hD hS ls hl
      have hk12 : k < 12 := by omega
      refine lv_iload hx hb dX1_handOver_19 (lv_at hl 0 rfl) ?_
      refine lv_iload hx hb dX1_handOver_21 (lv_at hl 1 rfl) ?_
      refine lv_icmp_ge (tgt := 85) hx hb dX1_handOver_23 (by decide) (fun c_3 => absurd c_3 (nI_ge (a := k) (b := 12) (by omega) (by omega))) (fun _ => ?_)
      refine lv_aload_n hx hb dX1_handOver_26 rfl (lv_at hl 2 rfl) ?_
      refine lv_iload hx hb dX1_handOver_27 (lv_at hl 0 rfl) ?_
      refine va_aldq hx hb hK hP 1 0 rfl rfl (vp_in_nI (by omega) (by decide)) dX1_handOver_29 ?_
      rw [nI_clamp (n := k) (by omega)]
      refine lv_astore (x := (a (3 + k))) (lv' := [(6, .ref (a (3 + k))), (5, .int (nI k)), (4, .int (nI 12)), (3, .ref (a 1)), (2, .int ((lp (q_handOver (s_lowest st)) k (0, st)).1)), (1, .int (s_lowest st)), (0, .ref (a 0))]) hx hb dX1_handOver_30 hl (by decide) rfl (fun ls hl => ?_)
      refine lv_aload hx hb dX1_handOver_32 (lv_at hl 0 rfl) ?_
      refine vp_callSi (va_runV (As := []) (rest := []) ⟨hx, hb, hml, hown, hts⟩ (c_X4_isInBag l D G (a (3 + k)) (itm ((lp (q_handOver (s_lowest st)) k (0, st)).2) k)) (cwV 0 hts gw_X1_93 rfl rfl rfl (by decide +kernel) ⟨Nat.le_of_ble_eq_true rfl, Nat.le_of_ble_eq_true rfl⟩) (pv_it hK hP (cw_it G a ((lp (q_handOver (s_lowest st)) k (0, st)).2) (by omega))) rfl rfl hl.1 rfl (lv_room (Nat.le_of_ble_eq_true rfl)) dX1_handOver_34 ⟨Nat.le_of_ble_eq_true rfl, Nat.le_of_ble_eq_true rfl⟩).run (nm_e ?_)
      cases hb_4 : p_inbag (itm ((lp (q_handOver (s_lowest st)) k (0, st)).2) k)
      case true =>
        refine lv_if_eq (tgt := 79) hx hb dX1_handOver_37 (by decide) (fun c_5 => absurd c_5 (by decide)) (fun _ => ?_)
        refine lv_aload hx hb dX1_handOver_40 (lv_at hl 0 rfl) ?_
        refine va_get (D := D) (ci := 6) (v := .int (itm ((lp (q_handOver (s_lowest st)) k (0, st)).2) k 3)) (C := RX4) (T := TX4) (N := 8) hx hb hts i_X4 hown hK hP (3 + k) (cw_it G a ((lp (q_handOver (s_lowest st)) k (0, st)).2) (by omega)) rfl 3 (by decide) (hts _ kw_88) (fun _ h9 => h9) rfl dX1_handOver_42 ?_
        refine lv_iload_n hx hb dX1_handOver_45 rfl (lv_at hl 5 rfl) ?_
        refine lv_icmp_ne (tgt := 79) hx hb dX1_handOver_46 (by decide) (fun c_6 => ?_) (fun c_6 => ?_)
        · skip
          refine lv_iinc (v := nI (k + 1)) (lv' := [(5, .int (nI (k + 1))), (6, .ref (a (3 + k))), (4, .int (nI 12)), (3, .ref (a 1)), (2, .int ((lp (q_handOver (s_lowest st)) k (0, st)).1)), (1, .int (s_lowest st)), (0, .ref (a 0))]) hx hb dX1_handOver_79 hl (k := 1) rfl (by exact nI_1 k) (by decide) rfl (fun ls hl => ?_)
          refine lv_goto (tgt := 19) hx hb dX1_handOver_82 (by decide) ?_
          have hz_7 : lp (q_handOver (s_lowest st)) (k + 1) (0, st) = ((lp (q_handOver (s_lowest st)) k (0, st)).1, (lp (q_handOver (s_lowest st)) k (0, st)).2) := by simp only [lp, q_handOver, if_pos hb_4, if_neg c_6]
          exact ih (k + 1) (by omega) _ _ (by rw [hz_7]; exact hP) (by rw [hz_7]; exact hD) hS ls (by rw [hz_7]; exact lv_sub hl [0, 2, 3, 4, 5, 6] rfl)
        · skip
          refine lv_aload_n hx hb dX1_handOver_49 rfl (lv_at hl 6 rfl) ?_
          refine lv_aload hx hb dX1_handOver_50 (lv_at hl 0 rfl) ?_
          have hFc := freeC hD hS hA
          refine va_callv (va_runV (As := [.ref (a (3 + k))]) (rest := []) ⟨hx, hb, hml, hown, hts⟩ (c_X1_takeOut l D G a ((lp (q_handOver (s_lowest st)) k (0, st)).2) k (by omega) (by omega) H.size) (cwV 1 hts gw_X1_121 rfl rfl rfl (by decide +kernel) ⟨Nat.le_of_ble_eq_true rfl, Nat.le_of_ble_eq_true rfl⟩) (pv_cm hK hP hD) rfl rfl hl.1 rfl (lv_room (Nat.le_of_ble_eq_true rfl)) dX1_handOver_52 ⟨Nat.le_of_ble_eq_true rfl, Nat.le_of_ble_eq_true rfl⟩) hS (fun q _ h => hFc q h) hFc (fun u t H locs ht hvm hw_8 hB hz1 hk1 hS => ?_)
          have hP : va_P D vwCl (cw G a (m_takeOut ((lp (q_handOver (s_lowest st)) k (0, st)).2) k)) H := by have h9 := hB; rw [ht] at h9; exact h9
          have hD : va_D A (cw G a (m_takeOut ((lp (q_handOver (s_lowest st)) k (0, st)).2) k)) := cwD hD
          refine lv_aload hx hb dX1_handOver_55 (lv_at hl 0 rfl) ?_
          refine lv_bipush (v := -2) hx hb dX1_handOver_57 (by decide) ?_
          refine va_put (D := D) (ci := 6) (v := .int (-2)) (ty := .int) (C := RX4) (T := TX4) (N := 8) hx hb hts i_X4 tyX4 tyX4_ok nmX4 hown hK hP hD hS (3 + k) (cw_it G a (m_takeOut ((lp (q_handOver (s_lowest st)) k (0, st)).2) k) (by omega)) rfl 5 (by decide) (hts _ kw_94) (fun _ h9 => h9) rfl (by decide +kernel) rfl rfl (Nat.le_of_ble_eq_true rfl) dX1_handOver_59 (fun H locs hP hD hS => ?_)
          have hP : va_P D vwCl (cw G a (pI (m_takeOut ((lp (q_handOver (s_lowest st)) k (0, st)).2) k) k 5 (-2))) H := by rw [← cw_p5 G a (m_takeOut ((lp (q_handOver (s_lowest st)) k (0, st)).2) k) (by omega) (-2)]; exact hP
          have hD : va_D A (cw G a (pI (m_takeOut ((lp (q_handOver (s_lowest st)) k (0, st)).2) k) k 5 (-2))) := by rw [← cw_p5 G a (m_takeOut ((lp (q_handOver (s_lowest st)) k (0, st)).2) k) (by omega) (-2)]; exact hD
          refine lv_iinc (v := ((lp (q_handOver (s_lowest st)) k (0, st)).1) + 1) (lv' := [(2, .int (((lp (q_handOver (s_lowest st)) k (0, st)).1) + 1)), (6, .ref (a (3 + k))), (5, .int (nI k)), (4, .int (nI 12)), (3, .ref (a 1)), (1, .int (s_lowest st)), (0, .ref (a 0))]) hx hb dX1_handOver_62 hl (k := 4) rfl rfl (by decide) rfl (fun ls hl => ?_)
          refine lv_aload_n hx hb dX1_handOver_65 rfl (lv_at hl 6 rfl) ?_
          refine lv_dup hx hb dX1_handOver_66 rfl ?_
          refine va_get (D := D) (ci := 4) (v := .int ((pI (m_takeOut ((lp (q_handOver (s_lowest st)) k (0, st)).2) k) k 5 (-2)).2.2 3)) (C := RX1) (T := TX1) (N := 7) hx hb hts i_X1 hown hK hP 0 rfl rfl 6 (by decide) (hts _ kw_126) (fun _ h9 => h9) rfl dX1_handOver_67 ?_
          refine lv_aload hx hb dX1_handOver_70 (lv_at hl 1 rfl) ?_
          refine va_get (D := D) (ci := 6) (v := .int (itm (pI (m_takeOut ((lp (q_handOver (s_lowest st)) k (0, st)).2) k) k 5 (-2)) k 2)) (C := RX4) (T := TX4) (N := 8) hx hb hts i_X4 hown hK hP (3 + k) (cw_it G a (pI (m_takeOut ((lp (q_handOver (s_lowest st)) k (0, st)).2) k) k 5 (-2)) (by omega)) rfl 2 (by decide) (hts _ kw_85) (fun _ h9 => h9) rfl dX1_handOver_72 ?_
          refine lv_iadd hx hb dX1_handOver_75 ?_
          refine va_put (D := D) (ci := 4) (v := .int (((pI (m_takeOut ((lp (q_handOver (s_lowest st)) k (0, st)).2) k) k 5 (-2)).2.2 3) + (itm (pI (m_takeOut ((lp (q_handOver (s_lowest st)) k (0, st)).2) k) k 5 (-2)) k 2))) (ty := .int) (C := RX1) (T := TX1) (N := 7) hx hb hts i_X1 tyX1 tyX1_ok nmX1 hown hK hP hD hS 0 rfl rfl 6 (by decide) (hts _ kw_126) (fun _ h9 => h9) rfl (by decide +kernel) rfl rfl (Nat.le_of_ble_eq_true rfl) dX1_handOver_76 (fun H locs hP hD hS => ?_)
          have hP : va_P D vwCl (cw G a (sN (pI (m_takeOut ((lp (q_handOver (s_lowest st)) k (0, st)).2) k) k 5 (-2)) 3 (((pI (m_takeOut ((lp (q_handOver (s_lowest st)) k (0, st)).2) k) k 5 (-2)).2.2 3) + (itm (pI (m_takeOut ((lp (q_handOver (s_lowest st)) k (0, st)).2) k) k 5 (-2)) k 2)))) H := by rw [← cw_n3 G a (pI (m_takeOut ((lp (q_handOver (s_lowest st)) k (0, st)).2) k) k 5 (-2)) (((pI (m_takeOut ((lp (q_handOver (s_lowest st)) k (0, st)).2) k) k 5 (-2)).2.2 3) + (itm (pI (m_takeOut ((lp (q_handOver (s_lowest st)) k (0, st)).2) k) k 5 (-2)) k 2))]; exact hP
          have hD : va_D A (cw G a (sN (pI (m_takeOut ((lp (q_handOver (s_lowest st)) k (0, st)).2) k) k 5 (-2)) 3 (((pI (m_takeOut ((lp (q_handOver (s_lowest st)) k (0, st)).2) k) k 5 (-2)).2.2 3) + (itm (pI (m_takeOut ((lp (q_handOver (s_lowest st)) k (0, st)).2) k) k 5 (-2)) k 2)))) := by rw [← cw_n3 G a (pI (m_takeOut ((lp (q_handOver (s_lowest st)) k (0, st)).2) k) k 5 (-2)) (((pI (m_takeOut ((lp (q_handOver (s_lowest st)) k (0, st)).2) k) k 5 (-2)).2.2 3) + (itm (pI (m_takeOut ((lp (q_handOver (s_lowest st)) k (0, st)).2) k) k 5 (-2)) k 2))]; exact hD
          refine lv_iinc (v := nI (k + 1)) (lv' := [(5, .int (nI (k + 1))), (2, .int (((lp (q_handOver (s_lowest st)) k (0, st)).1) + 1)), (6, .ref (a (3 + k))), (4, .int (nI 12)), (3, .ref (a 1)), (1, .int (s_lowest st)), (0, .ref (a 0))]) hx hb dX1_handOver_79 hl (k := 2) rfl (by exact nI_1 k) (by decide) rfl (fun ls hl => ?_)
          refine lv_goto (tgt := 19) hx hb dX1_handOver_82 (by decide) ?_
          have hz_9 : lp (q_handOver (s_lowest st)) (k + 1) (0, st) = (((lp (q_handOver (s_lowest st)) k (0, st)).1) + 1, (sN (pI (m_takeOut ((lp (q_handOver (s_lowest st)) k (0, st)).2) k) k 5 (-2)) 3 (((pI (m_takeOut ((lp (q_handOver (s_lowest st)) k (0, st)).2) k) k 5 (-2)).2.2 3) + (itm (pI (m_takeOut ((lp (q_handOver (s_lowest st)) k (0, st)).2) k) k 5 (-2)) k 2)))) := by simp only [lp, q_handOver, if_pos hb_4, if_pos c_6]
          exact ih (k + 1) (by omega) _ _ (by rw [hz_9]; exact hP) (by rw [hz_9]; exact hD) hS ls (by rw [hz_9]; exact lv_sub hl [0, 3, 4, 1, 5, 6] rfl)
      case false =>
        refine lv_if_eq (tgt := 79) hx hb dX1_handOver_37 (by decide) (fun _ => ?_) (fun c_10 => absurd (by decide) c_10)
        refine lv_iinc (v := nI (k + 1)) (lv' := [(5, .int (nI (k + 1))), (6, .ref (a (3 + k))), (4, .int (nI 12)), (3, .ref (a 1)), (2, .int ((lp (q_handOver (s_lowest st)) k (0, st)).1)), (1, .int (s_lowest st)), (0, .ref (a 0))]) hx hb dX1_handOver_79 hl (k := 1) rfl (by exact nI_1 k) (by decide) rfl (fun ls hl => ?_)
        refine lv_goto (tgt := 19) hx hb dX1_handOver_82 (by decide) ?_
        have hz_11 : lp (q_handOver (s_lowest st)) (k + 1) (0, st) = ((lp (q_handOver (s_lowest st)) k (0, st)).1, (lp (q_handOver (s_lowest st)) k (0, st)).2) := by simp only [lp, q_handOver, if_neg (bf hb_4)]
        exact ih (k + 1) (by omega) _ _ (by rw [hz_11]; exact hP) (by rw [hz_11]; exact hD) hS ls (by rw [hz_11]; exact lv_sub hl [0, 2, 3, 4, 5, 6] rfl)
  exact L19 12 0 (by omega) _ _ hP hD hS ls (lv_sub hl [0, 1, 2, 3, 4, 5] rfl)
