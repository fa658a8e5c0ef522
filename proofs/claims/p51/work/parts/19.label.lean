/-! THE LABEL: what the builder has as a list of letters -/
def TXr (t : Nat → Int32) (c : List Int32) : Prop := ∀ j, j < c.length → t j = c.getD j 0
theorem TX_c {t t' : Nat → Int32} {c : List Int32} {ch : Int32} (h : TXr t c) (h1 : ∀ j, j < c.length → t' j = t j) (h2 : t' c.length = ch) : TXr t' (c ++ [ch]) := by
  intro j hj
  rw [List.length_append] at hj
  simp only [List.length_cons, List.length_nil] at hj
  by_cases e : j < c.length
  · rw [h1 j e, h j e, List.getD_eq_getElem?_getD, List.getD_eq_getElem?_getD, List.getElem?_append_left e]
  · obtain rfl : j = c.length := by omega
    rw [h2, List.getD_eq_getElem?_getD, List.getElem?_append_right (Nat.le_refl _), Nat.sub_self]
    rfl
theorem TX_l {t t' : Nat → Int32} {c d : List Int32} (h : TXr t c) (h1 : ∀ j, j < c.length → t' j = t j) (h2 : ∀ j, j < d.length → t' (c.length + j) = d.getD j 0) : TXr t' (c ++ d) := by
  intro j hj
  rw [List.length_append] at hj
  by_cases e : j < c.length
  · rw [h1 j e, h j e, List.getD_eq_getElem?_getD, List.getD_eq_getElem?_getD, List.getElem?_append_left e]
  · have h3 := h2 (j - c.length) (by omega)
    rw [show c.length + (j - c.length) = j by omega] at h3
    rw [h3, List.getD_eq_getElem?_getD, List.getD_eq_getElem?_getD, List.getElem?_append_right (by omega)]
theorem digs_len (k : Nat) : (digs k).length = dg k := by
  unfold digs dg
  split <;> rfl
def idN (st : CS) (k : Nat) : Nat := (itm st k 0).toNatClampNeg
def cLN (st : CS) (b w : Int32) : Nat := (s_countInLayer st b w).toNatClampNeg
theorem cLN_aux (st : CS) (b w : Int32) : ∀ k, k ≤ 12 → ∃ j, j ≤ k ∧ lp (q_countInLayer st b w) k 0 = nI j := by
  intro k
  induction k with
  | zero => intro _; exact ⟨0, Nat.le_refl 0, rfl⟩
  | succ k ih =>
    intro hk
    obtain ⟨j, hj, e⟩ := ih (by omega)
    show ∃ i, i ≤ k + 1 ∧ q_countInLayer st b w k (lp (q_countInLayer st b w) k 0) = nI i
    rw [e]
    unfold q_countInLayer
    split
    · split
      · exact ⟨j + 1, by omega, nI_1 j⟩
      · exact ⟨j, by omega, rfl⟩
    · exact ⟨j, by omega, rfl⟩
theorem cLN_ok (st : CS) (b w : Int32) : s_countInLayer st b w = nI (cLN st b w) ∧ cLN st b w ≤ 12 := by
  obtain ⟨j, hj, e⟩ := cLN_aux st b w 12 (Nat.le_refl 12)
  have e : s_countInLayer st b w = nI j := e
  unfold cLN
  rw [e, nI_clamp (by omega)]
  exact ⟨rfl, hj⟩
/-- one item of a layer -/
def t_sep (pos : Nat) : List Int32 := if pos = 0 then [] else [32]
def t_bang (st : CS) (k : Nat) : List Int32 := if z01 (itm st k 4) = 0 then [] else [33]
def s_layL (st : CS) (b w : Int32) : Nat → Nat → List Int32
  | 0, _ => []
  | m + 1, pos => t_sep pos ++ (digs (idN st (s_findPlace st b w (nI pos))) ++ (t_bang st (s_findPlace st b w (nI pos)) ++ s_layL st b w m (pos + 1)))
theorem s_layL_0 (st : CS) (b w : Int32) (k : Nat) : s_layL st b w 0 k = [] := rfl
theorem s_layL_s (st : CS) (b w : Int32) (n k : Nat) : s_layL st b w (n + 1) k = t_sep k ++ (digs (idN st (s_findPlace st b w (nI k))) ++ (t_bang st (s_findPlace st b w (nI k)) ++ s_layL st b w n (k + 1))) := rfl
def s_lay (st : CS) (b w : Int32) : List Int32 := s_layL st b w (cLN st b w) 0
def s_desc (st : CS) (b : Int32) : Nat → List Int32
  | 0 => []
  | m + 1 => 91 :: (s_lay st b (nI m) ++ (93 :: s_desc st b m))
abbrev IDok (st : CS) : Prop := ∀ k, k < 13 → itm st k 0 = nI (idN st k) ∧ idN st k < 100
abbrev LYp (D : va_G) (G : GA) (B0 : Nat) (X : Nat → Nat → Nat) (a : Nat → Nat) (st : CS) (x y cap : Nat) (t : Nat → Int32) (n : Nat) (ml : Int32) (sz : Nat) (U : State) : Prop := U.heap.size = sz ∧ va_P D vwCl (cw G a st) U.heap ∧ va_P D vwCl (lb G x y cap t n ml) U.heap ∧ KK D G U ∧ va_D (bA B0) (lb G x y cap t n ml) ∧ (∀ p ∈ lb G x y cap t n ml, ∀ q ∈ cw G a st, p.1 ≠ q.1) ∧ EN B0 X U U.heap
theorem pv_ly {s : State} {H : Heap} {D : va_G} {G : GA} {B0 : Nat} {X : Nat → Nat → Nat} {a : Nat → Nat} {st : CS} {x y cap n : Nat} {t : Nat → Int32} {ml : Int32} {A : Nat → Prop} {As : List Value} (hK : KK D G s) (hO : va_P D vwCl (cw G a st) H) (hP : va_P D vwCl (lb G x y cap t n ml) H) (hD : va_D A (lb G x y cap t n ml)) (hdj : ∀ p ∈ lb G x y cap t n ml, ∀ q ∈ cw G a st, p.1 ≠ q.1) (hAB : ∀ q, A q → B0 ≤ q) (hE : EN B0 X s H) : PreV s H RX1 (a 0) (va_Pc (.ref (a 0) :: As) (LYp D G B0 X a st x y cap t n ml H.size)) As :=
  ⟨fun A U g mk q => ⟨q.1, q.2.1, q.2.2.1, q.2.2.2.1, va_K.moved (Vm.Alike.refl U.vm) q.2.2.2.2.1, q.2.2.2.2.2.1, q.2.2.2.2.2.2.1, EN.warm (s := U) (State.WarmedH.refl U) q.2.2.2.2.2.2.2⟩, va_recv hK hO (ci := 4) (q0 := 0) rfl rfl, fun U hU hW => ⟨rfl, by rw [hU], by rw [hU]; exact hO, by rw [hU]; exact hP, va_K.moved hW.alike hK, hD.weaken (fun _ q _ h => hAB q.1 h), hdj, by rw [hU]; exact hE.warm hW⟩⟩
theorem nI_pm (a : Int32) : a + (-1) = a - 1 := (Int32.sub_eq_add_neg a 1).symm
theorem neg1_lt {m : Nat} (h : m = 0) : nI m - 1 < 0 := by rw [h]; decide
theorem s_desc_0 (st : CS) (b : Int32) : s_desc st b 0 = [] := rfl
theorem s_desc_s (st : CS) (b : Int32) (m : Nat) : s_desc st b (m + 1) = 91 :: (s_lay st b (nI m) ++ (93 :: s_desc st b m)) := rfl
theorem neg1_nlt {m : Nat} (h : m < 100) : ¬ nI m < 0 := nI_pos (by omega)
theorem nI_pr (k : Nat) : nI (k + 1) - 1 = nI k := by
  rw [← nI_1 k, Int32.add_sub_cancel]
theorem gw_X1_200 : GoodIn tb (wsV RX1 200 RX1 yX1_findPlace (wA yX1_findPlace cX1_findPlace 8 (some (.object "CourierBags$Item")))) := gV kw_1279 kw_1280 kw_1281 kw_25 kw_1282
theorem gw_X1_196 : GoodIn tb (wsV RX1 196 RX1 yX1_describeLayer (wA yX1_describeLayer cX1_describeLayer 7 none)) := gV kw_1275 kw_1277 kw_19 kw_25 kw_1278
set_option maxRecDepth 100000 in
set_option maxHeartbeats 4000000 in
theorem c_X1_describeLayer (l : Launch) (D : va_G) (G : GA) (B0 : Nat) (X : Nat → Nat → Nat) (a : Nat → Nat) (st : CS) (x y cap : Nat) (t : Nat → Int32) (c0 : List Int32) (ml : Int32) (hT : TXr t c0) (hn : c0.length ≤ cap) (hcap : cap ≤ 202) (hf : bF t) (hid : IDok st) (b w : Int32) (hlen : (c0 ++ s_lay st b w).length ≤ 100) (sz : Nat) : Met l yX1_describeLayer (wA yX1_describeLayer cX1_describeLayer 7 none) ({ frames := 6, cells := 36, slots := 7272, locals := 135 } : Room) (va_Pc [.ref (a 0), .int b, .int w, .ref x] (LYp D G B0 X a st x y cap t c0.length ml sz)) (va_Qv (fun u : BR => TXr u.2.2 (c0 ++ s_lay st b w) ∧ bF u.2.2 ∧ (c0 ++ s_lay st b w).length ≤ u.2.1 ∧ u.2.1 ≤ 202) (fun u t9 => va_P D vwCl (lb G x u.1 u.2.1 u.2.2 (c0 ++ s_lay st b w).length ml) t9.heap ∧ va_D (va_A (lb G x y cap t c0.length ml) sz) (lb G x u.1 u.2.1 u.2.2 (c0 ++ s_lay st b w).length ml)) (va_A (lb G x y cap t c0.length ml) sz)) 36 7272 (va_A (lb G x y cap t c0.length ml) sz) := by
  refine Met.ofW (cc := cX1_describeLayer) (maxL := 7) (ret := none) (by decide) rfl ?_
  intro p9 e s m args below meth c9 s₁ B hml hv
  obtain ⟨rfl, hsz, hO, hP, hK, hDB, hdj, hE⟩ := hv
  have hx := B.exec
  have hb := B.bytes
  have hr := B.returns
  have hts : ∀ w9 ∈ tb, w9.before ([.ref (a 0), .int b, .int w, .ref x] : List Value).toArray s = true := fun w9 h9 => atoms_spec (ws := (wA yX1_describeLayer cX1_describeLayer 7 none)) B.pre w9 (List.mem_cons_of_mem _ h9)
  have hown : s.vm.findClass RX1 = some m.cls := findClass_of_methodNamed B.named
  have hlocks := B.notSynchronized
  subst hsz
  have hD := hDB.self (sz := s.heap.size)
  have hAB := A_sub hDB hE.1
  have hno : ∀ q ∈ cw G a st, ¬ va_A (lb G x y cap t c0.length ml) s.heap.size q.1 := fun q hq hA9 => by
    rcases A_mem hA9 with ⟨p9, hp9, e9⟩ | h9
    · exact hdj p9 hp9 q hq e9
    · exact absurd ((P_mem hO hq).lt) (Nat.not_lt.mpr h9)
  generalize hAe : va_A (lb G x y cap t c0.length ml) s.heap.size = A at hD hAB hno ⊢
  have hA : ∀ q : Nat, s.heap.size ≤ q → A q := fun q h => by rw [← hAe]; exact Or.inr h
  have hS : va_S A s.heap s.heap [] := va_S.rf
  have hl := lv_entry ([.ref (a 0), .int b, .int w, .ref x]) (n := 7) (Nat.le_of_ble_eq_true rfl)
  rw [lg_entry_eq]
  generalize (lg_sl ([.ref (a 0), .int b, .int w, .ref x]) ++ List.replicate (7 - (lg_sl ([.ref (a 0), .int b, .int w, .ref x])).length) Slot.unset).toArray = ls at hl ⊢
  have hl : lv_has ls 7 [(0, .ref (a 0)), (1, .int b), (2, .int w), (3, .ref x)] := hl
  refine lv_aload_n hx hb dX1_describeLayer_0 rfl (lv_at hl 0 rfl) ?_
  refine lv_iload_n hx hb dX1_describeLayer_1 rfl (lv_at hl 1 rfl) ?_
  refine lv_iload_n hx hb dX1_describeLayer_2 rfl (lv_at hl 2 rfl) ?_
  have hPc := P_S hO hno hS
  refine vp_callSi (va_runV (As := [.int b, .int w]) (rest := []) ⟨hx, hb, hml, hown, hts⟩ (c_X1_countInLayer l D G a st b w) (cwV 2 hts gw_X1_139 rfl rfl rfl (by decide +kernel) ⟨Nat.le_of_ble_eq_true rfl, Nat.le_of_ble_eq_true rfl⟩) (pv_cw hK hPc) rfl rfl hl.1 rfl (lv_room (Nat.le_of_ble_eq_true rfl)) dX1_describeLayer_3 ⟨(by show _ ≤ 36; omega), (by show _ ≤ 7272; omega)⟩).run (nm_e ?_)
  refine lv_istore (lv' := [(4, .int (s_countInLayer st b w)), (0, .ref (a 0)), (1, .int b), (2, .int w), (3, .ref x)]) hx hb dX1_describeLayer_6 hl (by decide) rfl (fun ls hl => ?_)
  refine lv_iconst (v := 0) hx hb dX1_describeLayer_8 (by decide) ?_
  refine lv_istore (lv' := [(5, .int 0), (4, .int (s_countInLayer st b w)), (0, .ref (a 0)), (1, .int b), (2, .int w), (3, .ref x)]) hx hb dX1_describeLayer_9 hl (by decide) rfl (fun ls hl => ?_)
  obtain ⟨hN, hN12⟩ := cLN_ok st b w
  rw [hN] at hl
  have L11 : ∀ (n k : Nat), k + n = cLN st b w → ∀ (c1 : List Int32) (y1 cap1 : Nat) (t1 : Nat → Int32) (H : Heap) (locs : List Loc), c1 ++ s_layL st b w n k = c0 ++ s_lay st b w → TXr t1 c1 → c1.length ≤ cap1 → cap1 ≤ 202 → bF t1 → va_P D vwCl (lb G x y1 cap1 t1 c1.length ml) H → va_D A (lb G x y1 cap1 t1 c1.length ml) → va_S A s.heap H locs → ∀ ls : Array Slot, lv_has ls 7 [(0, .ref (a 0)), (1, .int b), (2, .int w), (3, .ref x), (4, .int (nI (cLN st b w))), (5, .int (nI k))] → W p9 l e (headSpec (wA yX1_describeLayer cX1_describeLayer 7 none) ({ frames := 6, cells := 36, slots := 7272, locals := 135 } : Room)).room s m ([.ref (a 0), .int b, .int w, .ref x] : List Value).toArray below meth c9 H locs (3 * k) (606 * k) (MQ below (va_Qv (fun u : BR => TXr u.2.2 (c0 ++ s_lay st b w) ∧ bF u.2.2 ∧ (c0 ++ s_lay st b w).length ≤ u.2.1 ∧ u.2.1 ≤ 202) (fun u t9 => va_P D vwCl (lb G x u.1 u.2.1 u.2.2 (c0 ++ s_lay st b w).length ml) t9.heap ∧ va_D A (lb G x u.1 u.2.1 u.2.2 (c0 ++ s_lay st b w).length ml)) A) ([.ref (a 0), .int b, .int w, .ref x] : List Value).toArray s 36 7272 A) (F0 m 11 ls []) := by
    intro n
    induction n with
    | zero =>
      intro k hk c1 y1 cap1 t1 H locs he hT1 hn1 hc1 hf1 hP hD hS ls hl
      refine lv_iload hx hb dX1_describeLayer_11 (lv_at hl 5 rfl) ?_
      refine lv_iload hx hb dX1_describeLayer_13 (lv_at hl 4 rfl) ?_
      refine lv_icmp_ge (tgt := 71) hx hb dX1_describeLayer_15 (by decide) (fun _ => ?_) (fun c_1 => absurd (nI_le (a := cLN st b w) (b := k) (by omega) (by omega)) c_1)
      have hk12 : k ≤ 12 := by omega
      refine W.widen (k := 36) (n := 7272) (by omega) (by omega) ?_
      have hfin : c1 = c0 ++ s_lay st b w := by rw [← he, s_layL_0, List.append_nil]
      have hT9 := hT1
      have hn9 := hn1
      rw [hfin] at hT9 hn9 hP hD
      exact W.vret hx hb hr (fun t8 ht hW => ⟨⟨(y1, cap1, t1), rfl, ⟨hT9, hf1, hn9, hc1⟩, by rw [ht]; exact hP, hD⟩, hS.F ht⟩) hS.2.2 dX1_describeLayer_71
    | succ n ih =>
      intro k hk c1 y1 cap1 t1 H locs he hT1 hn1 hc1 hf1 hP hD hS ls hl
      have hle : (c1 ++ s_layL st b w (n + 1) k).length ≤ 100 := by rw [he]; exact hlen
      rw [s_layL_s] at hle
      simp only [List.length_append, digs_len] at hle
      refine lv_iload hx hb dX1_describeLayer_11 (lv_at hl 5 rfl) ?_
      refine lv_iload hx hb dX1_describeLayer_13 (lv_at hl 4 rfl) ?_
      refine lv_icmp_ge (tgt := 71) hx hb dX1_describeLayer_15 (by decide) (fun c_2 => absurd c_2 (nI_ge (a := k) (b := cLN st b w) (by omega) (by omega))) (fun _ => ?_)
      refine lv_aload_n hx hb dX1_describeLayer_18 rfl (lv_at hl 0 rfl) ?_
      refine lv_iload_n hx hb dX1_describeLayer_19 rfl (lv_at hl 1 rfl) ?_
      refine lv_iload_n hx hb dX1_describeLayer_20 rfl (lv_at hl 2 rfl) ?_
      refine lv_iload hx hb dX1_describeLayer_21 (lv_at hl 5 rfl) ?_
      have hPc := P_S hO hno hS
      refine va_csr (va_runV (As := [.int b, .int w, .int (nI k)]) (rest := []) ⟨hx, hb, hml, hown, hts⟩ (c_X1_findPlace l D G a st b w (nI k)) (cwV 3 hts gw_X1_200 rfl rfl rfl (by decide +kernel) ⟨Nat.le_of_ble_eq_true rfl, Nat.le_of_ble_eq_true rfl⟩) (pv_cw hK hPc) rfl rfl hl.1 rfl (lv_room (Nat.le_of_ble_eq_true rfl)) dX1_describeLayer_23 ⟨(by show _ ≤ 36; omega), (by show _ ≤ 7272; omega)⟩).run (nm_e ?_)
      refine lv_astore (x := (a (3 + (s_findPlace st b w (nI k))))) (lv' := [(6, .ref (a (3 + (s_findPlace st b w (nI k))))), (0, .ref (a 0)), (1, .int b), (2, .int w), (3, .ref x), (4, .int (nI (cLN st b w))), (5, .int (nI k))]) hx hb dX1_describeLayer_26 hl (by decide) rfl (fun ls hl => ?_)
      refine lv_iload hx hb dX1_describeLayer_28 (lv_at hl 6 rfl) ?_
      by_cases hk0 : k = 0
      · skip
        simp only [t_sep, if_pos hk0, List.length_nil] at hle
        refine lv_if_le (tgt := 40) hx hb dX1_describeLayer_30 (by decide) (fun _ => ?_) (fun c_3 => absurd (by rw [hk0]; decide) c_3)
        refine lv_aload_n hx hb dX1_describeLayer_40 rfl (lv_at hl 4 rfl) ?_
        refine lv_aload hx hb dX1_describeLayer_41 (lv_at hl 0 rfl) ?_
        have hPc := P_S hO hno hS
        refine va_get (D := D) (ci := 6) (v := .int (itm st (s_findPlace st b w (nI k)) 0)) (C := RX4) (T := TX4) (N := 8) hx hb hts i_X4 hown hK hPc (3 + (s_findPlace st b w (nI k))) (cw_it G a st (s_findPlace_lt st b w (nI k))) rfl 0 (by decide) (hts _ kw_79) (fun _ h9 => h9) rfl dX1_describeLayer_43 ?_
        rw [(hid _ (s_findPlace_lt st b w (nI k))).1]
        have hFc := freeC hD hS hA
        refine va_callr (va_runV (As := [.int (nI (idN st (s_findPlace st b w (nI k))))]) (rest := []) ⟨hx, hb, hml, hown, hts⟩ (c_J4_append_bf812 l D G B0 X x y1 cap1 t1 c1.length ml hn1 hc1 hf1 (idN st (s_findPlace st b w (nI k))) (hid _ (s_findPlace_lt st b w (nI k))).2 (by (try simp only [List.length_append, digs_len, List.length_cons, List.length_nil]); omega) H.size) (cwV 1 hts (gV kw_1283 kw_1140 kw_1141 kw_32 kw_1142) rfl rfl rfl (by decide +kernel) ⟨Nat.le_of_ble_eq_true rfl, Nat.le_of_ble_eq_true rfl⟩) (pv_lb hK hP hD hAB (hE.at hS hAB)) rfl rfl hl.1 rfl (lv_room (Nat.le_of_ble_eq_true rfl)) dX1_describeLayer_46 ⟨(by show _ ≤ 36; omega), (by show _ ≤ 7272; omega)⟩) hS (fun q _ h => hFc q h) hFc (fun u4 q9 t9 H locs ht hvm hw hB hz1 hk1 hS => ?_)
        obtain ⟨e9, hB, hB2⟩ := hB
        have e9 := e9.symm
        subst e9
        rw [ht] at hB
        obtain ⟨f4_0, f4_1, f4_2, f4_3, f4_4⟩ := hw
        have hP : va_P D vwCl (lb G x u4.1 u4.2.1 u4.2.2 (c1.length + dg (idN st (s_findPlace st b w (nI k)))) ml) H := hB
        have hD : va_D A (lb G x u4.1 u4.2.1 u4.2.2 (c1.length + dg (idN st (s_findPlace st b w (nI k)))) ml) := hB2.weaken (fun _ _ _ h9 => hFc _ h9)
        have hT5 : TXr u4.2.2 (c1 ++ digs (idN st (s_findPlace st b w (nI k)))) := TX_l hT1 f4_0 (fun j hj => f4_1 j (by rw [digs_len] at hj; exact hj))
        have hl5 : (c1 ++ digs (idN st (s_findPlace st b w (nI k)))).length = c1.length + dg (idN st (s_findPlace st b w (nI k))) := by simp only [List.length_append, digs_len]
        rw [← hl5] at hP hD
        have hn5 : (c1 ++ digs (idN st (s_findPlace st b w (nI k)))).length ≤ u4.2.1 := by rw [hl5]; exact f4_3
        refine lv_pop hx hb dX1_describeLayer_49 rfl ?_
        refine lv_aload hx hb dX1_describeLayer_50 (lv_at hl 0 rfl) ?_
        have hPc := P_S hO hno hS
        refine va_get (D := D) (ci := 6) (v := .int (z01 (itm st (s_findPlace st b w (nI k)) 4))) (C := RX4) (T := TX4) (N := 8) hx hb hts i_X4 hown hK hPc (3 + (s_findPlace st b w (nI k))) (cw_it G a st (s_findPlace_lt st b w (nI k))) rfl 4 (by decide) (hts _ kw_91) (fun _ h9 => h9) rfl dX1_describeLayer_52 ?_
        refine lv_if_eq (tgt := 65) hx hb dX1_describeLayer_55 (by decide) (fun cz => ?_) (fun cz => ?_)
        · skip
          simp only [t_bang, if_pos cz, List.length_nil] at hle
          refine lv_iinc (v := nI (k + 1)) (lv' := [(5, .int (nI (k + 1))), (6, .ref (a (3 + (s_findPlace st b w (nI k))))), (0, .ref (a 0)), (1, .int b), (2, .int w), (3, .ref x), (4, .int (nI (cLN st b w)))]) hx hb dX1_describeLayer_65 hl (k := 6) rfl (by exact nI_1 k) (by decide) rfl (fun ls hl => ?_)
          refine lv_goto (tgt := 11) hx hb dX1_describeLayer_68 (by decide) ?_
          refine W.widen (k := 3 * (k + 1)) (n := 606 * (k + 1)) (by omega) (by omega) ?_
          exact ih (k + 1) (by omega) (c1 ++ digs (idN st (s_findPlace st b w (nI k)))) u4.1 u4.2.1 u4.2.2 _ _ (by rw [← he, s_layL_s]; simp only [t_sep, if_pos hk0, t_bang, if_pos cz, List.append_assoc, List.nil_append, List.cons_append]) hT5 hn5 f4_4 f4_2 hP hD hS ls (lv_sub hl [2, 3, 4, 5, 6, 0] rfl)
        · skip
          simp only [t_bang, if_neg cz, List.length_cons, List.length_nil] at hle
          refine lv_aload_n hx hb dX1_describeLayer_58 rfl (lv_at hl 4 rfl) ?_
          refine lv_bipush (v := 33) hx hb dX1_describeLayer_59 (by decide) ?_
          have hFc := freeC hD hS hA
          refine va_callr (va_runV (As := [.int 33]) (rest := []) ⟨hx, hb, hml, hown, hts⟩ (c_J4_append_cf468 l D G B0 X x u4.1 u4.2.1 u4.2.2 ((c1 ++ digs (idN st (s_findPlace st b w (nI k)))).length) ml hn5 f4_4 f4_2 33 (by decide) (by decide) (by decide) (by decide) (by (try simp only [List.length_append, digs_len, List.length_cons, List.length_nil]); omega) H.size) (cwV 1 hts (gV kw_1262 kw_1263 kw_1264 kw_32 kw_1265) rfl rfl rfl (by decide +kernel) ⟨Nat.le_of_ble_eq_true rfl, Nat.le_of_ble_eq_true rfl⟩) (pv_lb hK hP hD hAB (hE.at hS hAB)) rfl rfl hl.1 rfl (lv_room (Nat.le_of_ble_eq_true rfl)) dX1_describeLayer_61 ⟨(by show _ ≤ 36; omega), (by show _ ≤ 7272; omega)⟩) hS (fun q _ h => hFc q h) hFc (fun u6 q9 t9 H locs ht hvm hw hB hz1 hk1 hS => ?_)
          obtain ⟨e9, hB, hB2⟩ := hB
          have e9 := e9.symm
          subst e9
          rw [ht] at hB
          obtain ⟨f6_0, f6_1, f6_2, f6_3, f6_4⟩ := hw
          have hP : va_P D vwCl (lb G x u6.1 u6.2.1 u6.2.2 (((c1 ++ digs (idN st (s_findPlace st b w (nI k)))).length) + 1) ml) H := hB
          have hD : va_D A (lb G x u6.1 u6.2.1 u6.2.2 (((c1 ++ digs (idN st (s_findPlace st b w (nI k)))).length) + 1) ml) := hB2.weaken (fun _ _ _ h9 => hFc _ h9)
          have hT7 : TXr u6.2.2 ((c1 ++ digs (idN st (s_findPlace st b w (nI k)))) ++ [33]) := TX_c hT5 f6_0 f6_1
          have hl7 : ((c1 ++ digs (idN st (s_findPlace st b w (nI k)))) ++ [33]).length = ((c1 ++ digs (idN st (s_findPlace st b w (nI k)))).length) + 1 := by simp only [List.length_append, List.length_cons, List.length_nil]
          rw [← hl7] at hP hD
          have hn7 : ((c1 ++ digs (idN st (s_findPlace st b w (nI k)))) ++ [33]).length ≤ u6.2.1 := by rw [hl7]; exact f6_3
          refine lv_pop hx hb dX1_describeLayer_64 rfl ?_
          refine lv_iinc (v := nI (k + 1)) (lv' := [(5, .int (nI (k + 1))), (6, .ref (a (3 + (s_findPlace st b w (nI k))))), (0, .ref (a 0)), (1, .int b), (2, .int w), (3, .ref x), (4, .int (nI (cLN st b w)))]) hx hb dX1_describeLayer_65 hl (k := 6) rfl (by exact nI_1 k) (by decide) rfl (fun ls hl => ?_)
          refine lv_goto (tgt := 11) hx hb dX1_describeLayer_68 (by decide) ?_
          refine W.widen (k := 3 * (k + 1)) (n := 606 * (k + 1)) (by omega) (by omega) ?_
          exact ih (k + 1) (by omega) ((c1 ++ digs (idN st (s_findPlace st b w (nI k)))) ++ [33]) u6.1 u6.2.1 u6.2.2 _ _ (by rw [← he, s_layL_s]; simp only [t_sep, if_pos hk0, t_bang, if_neg cz, List.append_assoc, List.nil_append, List.cons_append]) hT7 hn7 f6_4 f6_2 hP hD hS ls (lv_sub hl [2, 3, 4, 5, 6, 0] rfl)
      · skip
        simp only [t_sep, if_neg hk0, List.length_cons, List.length_nil] at hle
        refine lv_if_le (tgt := 40) hx hb dX1_describeLayer_30 (by decide) (fun c_8 => absurd c_8 (nI_nle (n := k) (by omega) (by omega))) (fun _ => ?_)
        refine lv_aload_n hx hb dX1_describeLayer_33 rfl (lv_at hl 4 rfl) ?_
        refine lv_bipush (v := 32) hx hb dX1_describeLayer_34 (by decide) ?_
        have hFc := freeC hD hS hA
        refine va_callr (va_runV (As := [.int 32]) (rest := []) ⟨hx, hb, hml, hown, hts⟩ (c_J4_append_cf468 l D G B0 X x y1 cap1 t1 c1.length ml hn1 hc1 hf1 32 (by decide) (by decide) (by decide) (by decide) (by (try simp only [List.length_append, digs_len, List.length_cons, List.length_nil]); omega) H.size) (cwV 1 hts (gV kw_1262 kw_1263 kw_1264 kw_32 kw_1265) rfl rfl rfl (by decide +kernel) ⟨Nat.le_of_ble_eq_true rfl, Nat.le_of_ble_eq_true rfl⟩) (pv_lb hK hP hD hAB (hE.at hS hAB)) rfl rfl hl.1 rfl (lv_room (Nat.le_of_ble_eq_true rfl)) dX1_describeLayer_36 ⟨(by show _ ≤ 36; omega), (by show _ ≤ 7272; omega)⟩) hS (fun q _ h => hFc q h) hFc (fun u9 q9 t9 H locs ht hvm hw hB hz1 hk1 hS => ?_)
        obtain ⟨e9, hB, hB2⟩ := hB
        have e9 := e9.symm
        subst e9
        rw [ht] at hB
        obtain ⟨f9_0, f9_1, f9_2, f9_3, f9_4⟩ := hw
        have hP : va_P D vwCl (lb G x u9.1 u9.2.1 u9.2.2 (c1.length + 1) ml) H := hB
        have hD : va_D A (lb G x u9.1 u9.2.1 u9.2.2 (c1.length + 1) ml) := hB2.weaken (fun _ _ _ h9 => hFc _ h9)
        have hT10 : TXr u9.2.2 (c1 ++ [32]) := TX_c hT1 f9_0 f9_1
        have hl10 : (c1 ++ [32]).length = c1.length + 1 := by simp only [List.length_append, List.length_cons, List.length_nil]
        rw [← hl10] at hP hD
        have hn10 : (c1 ++ [32]).length ≤ u9.2.1 := by rw [hl10]; exact f9_3
        refine lv_pop hx hb dX1_describeLayer_39 rfl ?_
        refine lv_aload_n hx hb dX1_describeLayer_40 rfl (lv_at hl 4 rfl) ?_
        refine lv_aload hx hb dX1_describeLayer_41 (lv_at hl 0 rfl) ?_
        have hPc := P_S hO hno hS
        refine va_get (D := D) (ci := 6) (v := .int (itm st (s_findPlace st b w (nI k)) 0)) (C := RX4) (T := TX4) (N := 8) hx hb hts i_X4 hown hK hPc (3 + (s_findPlace st b w (nI k))) (cw_it G a st (s_findPlace_lt st b w (nI k))) rfl 0 (by decide) (hts _ kw_79) (fun _ h9 => h9) rfl dX1_describeLayer_43 ?_
        rw [(hid _ (s_findPlace_lt st b w (nI k))).1]
        have hFc := freeC hD hS hA
        refine va_callr (va_runV (As := [.int (nI (idN st (s_findPlace st b w (nI k))))]) (rest := []) ⟨hx, hb, hml, hown, hts⟩ (c_J4_append_bf812 l D G B0 X x u9.1 u9.2.1 u9.2.2 ((c1 ++ [32]).length) ml hn10 f9_4 f9_2 (idN st (s_findPlace st b w (nI k))) (hid _ (s_findPlace_lt st b w (nI k))).2 (by (try simp only [List.length_append, digs_len, List.length_cons, List.length_nil]); omega) H.size) (cwV 1 hts (gV kw_1283 kw_1140 kw_1141 kw_32 kw_1142) rfl rfl rfl (by decide +kernel) ⟨Nat.le_of_ble_eq_true rfl, Nat.le_of_ble_eq_true rfl⟩) (pv_lb hK hP hD hAB (hE.at hS hAB)) rfl rfl hl.1 rfl (lv_room (Nat.le_of_ble_eq_true rfl)) dX1_describeLayer_46 ⟨(by show _ ≤ 36; omega), (by show _ ≤ 7272; omega)⟩) hS (fun q _ h => hFc q h) hFc (fun u11 q9 t9 H locs ht hvm hw hB hz1 hk1 hS => ?_)
        obtain ⟨e9, hB, hB2⟩ := hB
        have e9 := e9.symm
        subst e9
        rw [ht] at hB
        obtain ⟨f11_0, f11_1, f11_2, f11_3, f11_4⟩ := hw
        have hP : va_P D vwCl (lb G x u11.1 u11.2.1 u11.2.2 (((c1 ++ [32]).length) + dg (idN st (s_findPlace st b w (nI k)))) ml) H := hB
        have hD : va_D A (lb G x u11.1 u11.2.1 u11.2.2 (((c1 ++ [32]).length) + dg (idN st (s_findPlace st b w (nI k)))) ml) := hB2.weaken (fun _ _ _ h9 => hFc _ h9)
        have hT12 : TXr u11.2.2 ((c1 ++ [32]) ++ digs (idN st (s_findPlace st b w (nI k)))) := TX_l hT10 f11_0 (fun j hj => f11_1 j (by rw [digs_len] at hj; exact hj))
        have hl12 : ((c1 ++ [32]) ++ digs (idN st (s_findPlace st b w (nI k)))).length = ((c1 ++ [32]).length) + dg (idN st (s_findPlace st b w (nI k))) := by simp only [List.length_append, digs_len]
        rw [← hl12] at hP hD
        have hn12 : ((c1 ++ [32]) ++ digs (idN st (s_findPlace st b w (nI k)))).length ≤ u11.2.1 := by rw [hl12]; exact f11_3
        refine lv_pop hx hb dX1_describeLayer_49 rfl ?_
        refine lv_aload hx hb dX1_describeLayer_50 (lv_at hl 0 rfl) ?_
        have hPc := P_S hO hno hS
        refine va_get (D := D) (ci := 6) (v := .int (z01 (itm st (s_findPlace st b w (nI k)) 4))) (C := RX4) (T := TX4) (N := 8) hx hb hts i_X4 hown hK hPc (3 + (s_findPlace st b w (nI k))) (cw_it G a st (s_findPlace_lt st b w (nI k))) rfl 4 (by decide) (hts _ kw_91) (fun _ h9 => h9) rfl dX1_describeLayer_52 ?_
        refine lv_if_eq (tgt := 65) hx hb dX1_describeLayer_55 (by decide) (fun cz => ?_) (fun cz => ?_)
        · skip
          simp only [t_bang, if_pos cz, List.length_nil] at hle
          refine lv_iinc (v := nI (k + 1)) (lv' := [(5, .int (nI (k + 1))), (6, .ref (a (3 + (s_findPlace st b w (nI k))))), (0, .ref (a 0)), (1, .int b), (2, .int w), (3, .ref x), (4, .int (nI (cLN st b w)))]) hx hb dX1_describeLayer_65 hl (k := 6) rfl (by exact nI_1 k) (by decide) rfl (fun ls hl => ?_)
          refine lv_goto (tgt := 11) hx hb dX1_describeLayer_68 (by decide) ?_
          refine W.widen (k := 3 * (k + 1)) (n := 606 * (k + 1)) (by omega) (by omega) ?_
          exact ih (k + 1) (by omega) ((c1 ++ [32]) ++ digs (idN st (s_findPlace st b w (nI k)))) u11.1 u11.2.1 u11.2.2 _ _ (by rw [← he, s_layL_s]; simp only [t_sep, if_neg hk0, t_bang, if_pos cz, List.append_assoc, List.nil_append, List.cons_append]) hT12 hn12 f11_4 f11_2 hP hD hS ls (lv_sub hl [2, 3, 4, 5, 6, 0] rfl)
        · skip
          simp only [t_bang, if_neg cz, List.length_cons, List.length_nil] at hle
          refine lv_aload_n hx hb dX1_describeLayer_58 rfl (lv_at hl 4 rfl) ?_
          refine lv_bipush (v := 33) hx hb dX1_describeLayer_59 (by decide) ?_
          have hFc := freeC hD hS hA
          refine va_callr (va_runV (As := [.int 33]) (rest := []) ⟨hx, hb, hml, hown, hts⟩ (c_J4_append_cf468 l D G B0 X x u11.1 u11.2.1 u11.2.2 (((c1 ++ [32]) ++ digs (idN st (s_findPlace st b w (nI k)))).length) ml hn12 f11_4 f11_2 33 (by decide) (by decide) (by decide) (by decide) (by (try simp only [List.length_append, digs_len, List.length_cons, List.length_nil]); omega) H.size) (cwV 1 hts (gV kw_1262 kw_1263 kw_1264 kw_32 kw_1265) rfl rfl rfl (by decide +kernel) ⟨Nat.le_of_ble_eq_true rfl, Nat.le_of_ble_eq_true rfl⟩) (pv_lb hK hP hD hAB (hE.at hS hAB)) rfl rfl hl.1 rfl (lv_room (Nat.le_of_ble_eq_true rfl)) dX1_describeLayer_61 ⟨(by show _ ≤ 36; omega), (by show _ ≤ 7272; omega)⟩) hS (fun q _ h => hFc q h) hFc (fun u13 q9 t9 H locs ht hvm hw hB hz1 hk1 hS => ?_)
          obtain ⟨e9, hB, hB2⟩ := hB
          have e9 := e9.symm
          subst e9
          rw [ht] at hB
          obtain ⟨f13_0, f13_1, f13_2, f13_3, f13_4⟩ := hw
          have hP : va_P D vwCl (lb G x u13.1 u13.2.1 u13.2.2 ((((c1 ++ [32]) ++ digs (idN st (s_findPlace st b w (nI k)))).length) + 1) ml) H := hB
          have hD : va_D A (lb G x u13.1 u13.2.1 u13.2.2 ((((c1 ++ [32]) ++ digs (idN st (s_findPlace st b w (nI k)))).length) + 1) ml) := hB2.weaken (fun _ _ _ h9 => hFc _ h9)
          have hT14 : TXr u13.2.2 (((c1 ++ [32]) ++ digs (idN st (s_findPlace st b w (nI k)))) ++ [33]) := TX_c hT12 f13_0 f13_1
          have hl14 : (((c1 ++ [32]) ++ digs (idN st (s_findPlace st b w (nI k)))) ++ [33]).length = (((c1 ++ [32]) ++ digs (idN st (s_findPlace st b w (nI k)))).length) + 1 := by simp only [List.length_append, List.length_cons, List.length_nil]
          rw [← hl14] at hP hD
          have hn14 : (((c1 ++ [32]) ++ digs (idN st (s_findPlace st b w (nI k)))) ++ [33]).length ≤ u13.2.1 := by rw [hl14]; exact f13_3
          refine lv_pop hx hb dX1_describeLayer_64 rfl ?_
          refine lv_iinc (v := nI (k + 1)) (lv' := [(5, .int (nI (k + 1))), (6, .ref (a (3 + (s_findPlace st b w (nI k))))), (0, .ref (a 0)), (1, .int b), (2, .int w), (3, .ref x), (4, .int (nI (cLN st b w)))]) hx hb dX1_describeLayer_65 hl (k := 6) rfl (by exact nI_1 k) (by decide) rfl (fun ls hl => ?_)
          refine lv_goto (tgt := 11) hx hb dX1_describeLayer_68 (by decide) ?_
          refine W.widen (k := 3 * (k + 1)) (n := 606 * (k + 1)) (by omega) (by omega) ?_
          exact ih (k + 1) (by omega) (((c1 ++ [32]) ++ digs (idN st (s_findPlace st b w (nI k)))) ++ [33]) u13.1 u13.2.1 u13.2.2 _ _ (by rw [← he, s_layL_s]; simp only [t_sep, if_neg hk0, t_bang, if_neg cz, List.append_assoc, List.nil_append, List.cons_append]) hT14 hn14 f13_4 f13_2 hP hD hS ls (lv_sub hl [2, 3, 4, 5, 6, 0] rfl)
  exact L11 _ 0 (Nat.zero_add _) c0 y cap t _ _ rfl hT hn hcap hf hP hD hS ls (lv_sub hl [2, 3, 4, 5, 1, 0] rfl)
set_option maxRecDepth 100000 in
set_option maxHeartbeats 4000000 in
theorem c_X1_describe (l : Launch) (D : va_G) (G : GA) (B0 : Nat) (X : Nat → Nat → Nat) (a : Nat → Nat) (st : CS) (x y cap : Nat) (t : Nat → Int32) (c0 : List Int32) (ml : Int32) (hT : TXr t c0) (hn : c0.length ≤ cap) (hcap : cap ≤ 202) (hf : bF t) (hid : IDok st) (b : Int32) (L : Nat) (hL : s_countLayers st b = nI L) (hL5 : L ≤ 5) (hlen : (c0 ++ s_desc st b L).length ≤ 100) (sz : Nat) : Met l yX1_describe (wA yX1_describe cX1_describe 4 none) ({ frames := 7, cells := 190, slots := 38380, locals := 161 } : Room) (va_Pc [.ref (a 0), .int b, .ref x] (LYp D G B0 X a st x y cap t c0.length ml sz)) (va_Qv (fun u : BR => TXr u.2.2 (c0 ++ s_desc st b L) ∧ bF u.2.2 ∧ (c0 ++ s_desc st b L).length ≤ u.2.1 ∧ u.2.1 ≤ 202) (fun u t9 => va_P D vwCl (lb G x u.1 u.2.1 u.2.2 (c0 ++ s_desc st b L).length ml) t9.heap ∧ va_D (va_A (lb G x y cap t c0.length ml) sz) (lb G x u.1 u.2.1 u.2.2 (c0 ++ s_desc st b L).length ml)) (va_A (lb G x y cap t c0.length ml) sz)) 190 38380 (va_A (lb G x y cap t c0.length ml) sz) := by
  refine Met.ofW (cc := cX1_describe) (maxL := 4) (ret := none) (by decide) rfl ?_
  intro p9 e s m args below meth c9 s₁ B hml hv
  obtain ⟨rfl, hsz, hO, hP, hK, hDB, hdj, hE⟩ := hv
  have hx := B.exec
  have hb := B.bytes
  have hr := B.returns
  have hts : ∀ w9 ∈ tb, w9.before ([.ref (a 0), .int b, .ref x] : List Value).toArray s = true := fun w9 h9 => atoms_spec (ws := (wA yX1_describe cX1_describe 4 none)) B.pre w9 (List.mem_cons_of_mem _ h9)
  have hown : s.vm.findClass RX1 = some m.cls := findClass_of_methodNamed B.named
  have hlocks := B.notSynchronized
  subst hsz
  have hD := hDB.self (sz := s.heap.size)
  have hAB := A_sub hDB hE.1
  have hno : ∀ q ∈ cw G a st, ¬ va_A (lb G x y cap t c0.length ml) s.heap.size q.1 := fun q hq hA9 => by
    rcases A_mem hA9 with ⟨p9, hp9, e9⟩ | h9
    · exact hdj p9 hp9 q hq e9
    · exact absurd ((P_mem hO hq).lt) (Nat.not_lt.mpr h9)
  generalize hAe : va_A (lb G x y cap t c0.length ml) s.heap.size = A at hD hAB hno ⊢
  have hA : ∀ q : Nat, s.heap.size ≤ q → A q := fun q h => by rw [← hAe]; exact Or.inr h
  have hS : va_S A s.heap s.heap [] := va_S.rf
  have hl := lv_entry ([.ref (a 0), .int b, .ref x]) (n := 4) (Nat.le_of_ble_eq_true rfl)
  rw [lg_entry_eq]
  generalize (lg_sl ([.ref (a 0), .int b, .ref x]) ++ List.replicate (4 - (lg_sl ([.ref (a 0), .int b, .ref x])).length) Slot.unset).toArray = ls at hl ⊢
  have hl : lv_has ls 4 [(0, .ref (a 0)), (1, .int b), (2, .ref x)] := hl
  refine lv_aload_n hx hb dX1_describe_0 rfl (lv_at hl 0 rfl) ?_
  refine lv_iload_n hx hb dX1_describe_1 rfl (lv_at hl 1 rfl) ?_
  have hPc := P_S hO hno hS
  refine vp_callSi (va_runV (As := [.int b]) (rest := []) ⟨hx, hb, hml, hown, hts⟩ (c_X1_countLayers l D G a st b) (cwV 1 hts gw_X1_117 rfl rfl rfl (by decide +kernel) ⟨Nat.le_of_ble_eq_true rfl, Nat.le_of_ble_eq_true rfl⟩) (pv_cw hK hPc) rfl rfl hl.1 rfl (lv_room (Nat.le_of_ble_eq_true rfl)) dX1_describe_2 ⟨(by show _ ≤ 190; omega), (by show _ ≤ 38380; omega)⟩).run (nm_e ?_)
  refine lv_iconst (v := 1) hx hb dX1_describe_5 (by decide) ?_
  refine lv_isub hx hb dX1_describe_6 ?_
  refine lv_istore_n (lv' := [(3, .int ((s_countLayers st b) - 1)), (0, .ref (a 0)), (1, .int b), (2, .ref x)]) hx hb dX1_describe_7 rfl hl (by decide) rfl (fun ls hl => ?_)
  rw [hL] at hl
  have L8 : ∀ k : Nat, k ≤ 5 → ∀ (c1 : List Int32) (y1 cap1 : Nat) (t1 : Nat → Int32) (H : Heap) (locs : List Loc), c1 ++ s_desc st b k = c0 ++ s_desc st b L → TXr t1 c1 → c1.length ≤ cap1 → cap1 ≤ 202 → bF t1 → va_P D vwCl (lb G x y1 cap1 t1 c1.length ml) H → va_D A (lb G x y1 cap1 t1 c1.length ml) → va_S A s.heap H locs → ∀ ls : Array Slot, lv_has ls 4 [(0, .ref (a 0)), (1, .int b), (2, .ref x), (3, .int (nI k - 1))] → W p9 l e (headSpec (wA yX1_describe cX1_describe 4 none) ({ frames := 7, cells := 190, slots := 38380, locals := 161 } : Room)).room s m ([.ref (a 0), .int b, .ref x] : List Value).toArray below meth c9 H locs (38 * (5 - k)) (7676 * (5 - k)) (MQ below (va_Qv (fun u : BR => TXr u.2.2 (c0 ++ s_desc st b L) ∧ bF u.2.2 ∧ (c0 ++ s_desc st b L).length ≤ u.2.1 ∧ u.2.1 ≤ 202) (fun u t9 => va_P D vwCl (lb G x u.1 u.2.1 u.2.2 (c0 ++ s_desc st b L).length ml) t9.heap ∧ va_D A (lb G x u.1 u.2.1 u.2.2 (c0 ++ s_desc st b L).length ml)) A) ([.ref (a 0), .int b, .ref x] : List Value).toArray s 190 38380 A) (F0 m 8 ls []) := by
    intro k
    induction k with
    | zero =>
      intro hk c1 y1 cap1 t1 H locs he hT1 hn1 hc1 hf1 hP hD hS ls hl
      refine lv_iload_n hx hb dX1_describe_8 rfl (lv_at hl 3 rfl) ?_
      refine lv_if_lt (tgt := 39) hx hb dX1_describe_9 (by decide) (fun _ => ?_) (fun c_1 => absurd (neg1_lt rfl) c_1)
      refine W.widen (k := 190) (n := 38380) (by omega) (by omega) ?_
      have hfin : c1 = c0 ++ s_desc st b L := by rw [← he, s_desc_0, List.append_nil]
      have hT9 := hT1
      have hn9 := hn1
      rw [hfin] at hT9 hn9 hP hD
      exact W.vret hx hb hr (fun t8 ht hW => ⟨⟨(y1, cap1, t1), rfl, ⟨hT9, hf1, hn9, hc1⟩, by rw [ht]; exact hP, hD⟩, hS.F ht⟩) hS.2.2 dX1_describe_39
    | succ k ih =>
      intro hk c1 y1 cap1 t1 H locs he hT1 hn1 hc1 hf1 hP hD hS ls hl
      rw [nI_pr] at hl
      have hle : (c1 ++ s_desc st b (k + 1)).length ≤ 100 := by rw [he]; exact hlen
      rw [s_desc_s] at hle
      simp only [List.length_append, List.length_cons] at hle
      refine lv_iload_n hx hb dX1_describe_8 rfl (lv_at hl 3 rfl) ?_
      refine lv_if_lt (tgt := 39) hx hb dX1_describe_9 (by decide) (fun c_2 => absurd c_2 (neg1_nlt (by omega))) (fun _ => ?_)
      refine lv_aload_n hx hb dX1_describe_12 rfl (lv_at hl 2 rfl) ?_
      refine lv_bipush (v := 91) hx hb dX1_describe_13 (by decide) ?_
      have hFc := freeC hD hS hA
      refine va_callr (va_runV (As := [.int 91]) (rest := []) ⟨hx, hb, hml, hown, hts⟩ (c_J4_append_cf468 l D G B0 X x y1 cap1 t1 c1.length ml hn1 hc1 hf1 91 (by decide) (by decide) (by decide) (by decide) (by (try simp only [List.length_append, digs_len, List.length_cons, List.length_nil]); omega) H.size) (cwV 1 hts (gV kw_1262 kw_1263 kw_1264 kw_32 kw_1265) rfl rfl rfl (by decide +kernel) ⟨Nat.le_of_ble_eq_true rfl, Nat.le_of_ble_eq_true rfl⟩) (pv_lb hK hP hD hAB (hE.at hS hAB)) rfl rfl hl.1 rfl (lv_room (Nat.le_of_ble_eq_true rfl)) dX1_describe_15 ⟨(by show _ ≤ 190; omega), (by show _ ≤ 38380; omega)⟩) hS (fun q _ h => hFc q h) hFc (fun u3 q9 t9 H locs ht hvm hw hB hz1 hk1 hS => ?_)
      obtain ⟨e9, hB, hB2⟩ := hB
      have e9 := e9.symm
      subst e9
      rw [ht] at hB
      obtain ⟨f3_0, f3_1, f3_2, f3_3, f3_4⟩ := hw
      have hP : va_P D vwCl (lb G x u3.1 u3.2.1 u3.2.2 (c1.length + 1) ml) H := hB
      have hD : va_D A (lb G x u3.1 u3.2.1 u3.2.2 (c1.length + 1) ml) := hB2.weaken (fun _ _ _ h9 => hFc _ h9)
      have hT4 : TXr u3.2.2 (c1 ++ [91]) := TX_c hT1 f3_0 f3_1
      have hl4 : (c1 ++ [91]).length = c1.length + 1 := by simp only [List.length_append, List.length_cons, List.length_nil]
      rw [← hl4] at hP hD
      have hn4 : (c1 ++ [91]).length ≤ u3.2.1 := by rw [hl4]; exact f3_3
      refine lv_pop hx hb dX1_describe_18 rfl ?_
      refine lv_aload_n hx hb dX1_describe_19 rfl (lv_at hl 0 rfl) ?_
      refine lv_iload_n hx hb dX1_describe_20 rfl (lv_at hl 1 rfl) ?_
      refine lv_iload_n hx hb dX1_describe_21 rfl (lv_at hl 3 rfl) ?_
      refine lv_aload_n hx hb dX1_describe_22 rfl (lv_at hl 2 rfl) ?_
      have hPc := P_S hO hno hS
      have hdj2 : ∀ p ∈ lb G x u3.1 u3.2.1 u3.2.2 ((c1 ++ [91]).length) ml, ∀ q ∈ cw G a st, p.1 ≠ q.1 := fun p hp q hq e => hno q hq (e ▸ D_in hD hp)
      have hFc := freeC hD hS hA
      refine va_callv (va_runV (As := [.int b, .int (nI k), .ref x]) (rest := []) ⟨hx, hb, hml, hown, hts⟩ (c_X1_describeLayer l D G B0 X a st x u3.1 u3.2.1 u3.2.2 (c1 ++ [91]) ml hT4 hn4 f3_4 f3_2 hid b (nI k) (by simp only [List.length_append, List.length_cons, List.length_nil]; omega) H.size) (cwV 3 hts gw_X1_196 rfl rfl rfl (by decide +kernel) ⟨Nat.le_of_ble_eq_true rfl, Nat.le_of_ble_eq_true rfl⟩) (pv_ly hK hPc hP hD hdj2 hAB (hE.at hS hAB)) rfl rfl hl.1 rfl (lv_room (Nat.le_of_ble_eq_true rfl)) dX1_describe_23 ⟨(by show _ ≤ 190; omega), (by show _ ≤ 38380; omega)⟩) hS (fun q _ h => hFc q h) hFc (fun uL t9 H locs ht hvm hw hB hz1 hk1 hS => ?_)
      obtain ⟨hB, hB2⟩ := hB
      rw [ht] at hB
      obtain ⟨hTL, hfL, hnL, hcL⟩ := hw
      have hP : va_P D vwCl (lb G x uL.1 uL.2.1 uL.2.2 (((c1 ++ [91]) ++ s_lay st b (nI k)).length) ml) H := hB
      have hD : va_D A (lb G x uL.1 uL.2.1 uL.2.2 (((c1 ++ [91]) ++ s_lay st b (nI k)).length) ml) := hB2.weaken (fun _ _ _ h9 => hFc _ h9)
      refine lv_aload_n hx hb dX1_describe_26 rfl (lv_at hl 2 rfl) ?_
      refine lv_bipush (v := 93) hx hb dX1_describe_27 (by decide) ?_
      have hFc := freeC hD hS hA
      refine va_callr (va_runV (As := [.int 93]) (rest := []) ⟨hx, hb, hml, hown, hts⟩ (c_J4_append_cf468 l D G B0 X x uL.1 uL.2.1 uL.2.2 (((c1 ++ [91]) ++ s_lay st b (nI k)).length) ml hnL hcL hfL 93 (by decide) (by decide) (by decide) (by decide) (by (try simp only [List.length_append, digs_len, List.length_cons, List.length_nil]); omega) H.size) (cwV 1 hts (gV kw_1262 kw_1263 kw_1264 kw_32 kw_1265) rfl rfl rfl (by decide +kernel) ⟨Nat.le_of_ble_eq_true rfl, Nat.le_of_ble_eq_true rfl⟩) (pv_lb hK hP hD hAB (hE.at hS hAB)) rfl rfl hl.1 rfl (lv_room (Nat.le_of_ble_eq_true rfl)) dX1_describe_29 ⟨(by show _ ≤ 190; omega), (by show _ ≤ 38380; omega)⟩) hS (fun q _ h => hFc q h) hFc (fun u5 q9 t9 H locs ht hvm hw hB hz1 hk1 hS => ?_)
      obtain ⟨e9, hB, hB2⟩ := hB
      have e9 := e9.symm
      subst e9
      rw [ht] at hB
      obtain ⟨f5_0, f5_1, f5_2, f5_3, f5_4⟩ := hw
      have hP : va_P D vwCl (lb G x u5.1 u5.2.1 u5.2.2 ((((c1 ++ [91]) ++ s_lay st b (nI k)).length) + 1) ml) H := hB
      have hD : va_D A (lb G x u5.1 u5.2.1 u5.2.2 ((((c1 ++ [91]) ++ s_lay st b (nI k)).length) + 1) ml) := hB2.weaken (fun _ _ _ h9 => hFc _ h9)
      have hT6 : TXr u5.2.2 (((c1 ++ [91]) ++ s_lay st b (nI k)) ++ [93]) := TX_c hTL f5_0 f5_1
      have hl6 : (((c1 ++ [91]) ++ s_lay st b (nI k)) ++ [93]).length = (((c1 ++ [91]) ++ s_lay st b (nI k)).length) + 1 := by simp only [List.length_append, List.length_cons, List.length_nil]
      rw [← hl6] at hP hD
      have hn6 : (((c1 ++ [91]) ++ s_lay st b (nI k)) ++ [93]).length ≤ u5.2.1 := by rw [hl6]; exact f5_3
      refine lv_pop hx hb dX1_describe_32 rfl ?_
      refine lv_iinc (v := (nI k) + (-1)) (lv' := [(3, .int ((nI k) + (-1))), (0, .ref (a 0)), (1, .int b), (2, .ref x)]) hx hb dX1_describe_33 hl (k := 3) rfl rfl (by decide) rfl (fun ls hl => ?_)
      refine lv_goto (tgt := 8) hx hb dX1_describe_36 (by decide) ?_
      refine W.widen (k := 38 * (5 - k)) (n := 7676 * (5 - k)) (by omega) (by omega) ?_
      rw [nI_pm] at hl
      exact ih (by omega) (((c1 ++ [91]) ++ s_lay st b (nI k)) ++ [93]) u5.1 u5.2.1 u5.2.2 _ _ (by rw [← he, s_desc_s]; simp only [List.append_assoc, List.cons_append, List.nil_append]) hT6 hn6 f5_4 f5_2 hP hD hS ls (lv_sub hl [1, 2, 3, 0] rfl)
  refine W.widen (k := 38 * (5 - L)) (n := 7676 * (5 - L)) (by omega) (by omega) ?_
  exact L8 L hL5 c0 y cap t _ _ rfl hT hn hcap hf hP hD hS ls (lv_sub hl [1, 2, 3, 0] rfl)
