def x_undo (hn : Nat) : Nat := if nI hn = 0 then 4 else 0
def cLy (c0 : CS) (b : Int32) : Nat := (s_countLayers c0 b).toNatClampNeg
def x_labelAt (lv : LV) (i : Int32) : Nat := if i < 0 then 3 else if i < nI lv.2.2.1 then 0 else 3
def x_share (c0 : CS) : Nat := if s_sumLimits c0 = 0 then 6 else 0
theorem ord_v : ∀ k, k < 7 → (([0, 1, 2, 3, 4, 5, 6] : List Int32).getD k 0) = nI k := by decide
set_option maxRecDepth 100000 in
set_option maxHeartbeats 4000000 in
theorem c_ordinal (l : Launch) (B0 : Nat) (X : Nat → Nat → Nat) (k : Nat) (hk : k < 7) : Met l yJx29ce0_ordinal_8abf5 (wA yJx29ce0_ordinal_8abf5 cJx29ce0_ordinal_8abf5 1 (some .int)) ({ frames := 0, cells := 0, slots := 0, locals := 0 } : Room) (va_Pc [.ref (X 1 k)] (RZp B0 X)) (vp_Si (fun r => r = nI k)) 0 0 (fun _ => False) := by
  refine Met.ofW (cc := cJx29ce0_ordinal_8abf5) (maxL := 1) (ret := (some .int)) (by decide) rfl ?_
  intro p9 e s m args below meth c9 s₁ B hml hv
  obtain ⟨rfl, hE⟩ := hv
  have hx := B.exec
  have hb := B.bytes
  have hr := B.returns
  have hts : ∀ w9 ∈ tb, w9.before ([.ref (X 1 k)] : List Value).toArray s = true := fun w9 h9 => atoms_spec (ws := (wA yJx29ce0_ordinal_8abf5 cJx29ce0_ordinal_8abf5 1 (some .int))) B.pre w9 (List.mem_cons_of_mem _ h9)
  have hown : s.vm.findClass "java/lang/Enum" = some m.cls := findClass_of_methodNamed B.named
  have hS0 : va_S (bA B0) s.heap s.heap [] := va_S.rf
  have hl := lv_entry ([.ref (X 1 k)]) (n := 1) (Nat.le_of_ble_eq_true rfl)
  rw [lg_entry_eq]
  generalize (lg_sl ([.ref (X 1 k)]) ++ List.replicate (1 - (lg_sl ([.ref (X 1 k)])).length) Slot.unset).toArray = ls at hl ⊢
  have hl : lv_has ls 1 [(0, .ref (X 1 k))] := hl
  refine lv_aload_n hx hb dJx29ce0_ordinal_8abf5_0 rfl (lv_at hl 0 rfl) ?_
  refine va_getE (q := ("java/lang/Enum", "ordinal", "I", [0, 1, 2, 3, 4, 5, 6])) hx hb hE.k.1 (show k < kNm.length from hk) hS0 hown List.mem_cons_self (hts _ kw_1521) (fun _ h9 => h9) dJx29ce0_ordinal_8abf5_1 ?_
  exact W.iret (v := ([0, 1, 2, 3, 4, 5, 6] : List Int32).getD k 0) hx hb hr (fun t ht hW => ⟨_, rfl, ord_v k hk, ht⟩) (fun q h => absurd h List.not_mem_nil) dJx29ce0_ordinal_8abf5_4
def yX5_ordinal : MethodName := ⟨"CourierBags$Kind", "ordinal", "()I"⟩
theorem gw_ord : GoodIn tb (va_wsU RX7 407 "CourierBags$Kind" "java/lang/Enum" yX5_ordinal yJx29ce0_ordinal_8abf5 (wA yJx29ce0_ordinal_8abf5 cJx29ce0_ordinal_8abf5 1 (some .int))) := gU kw_857 kw_858 kw_860 kw_861 kw_29 kw_862
theorem pv_en {s : State} {H : Heap} {B0 : Nat} {X : Nat → Nat → Nat} {As : List Value} {k : Nat} (hE : EN B0 X s H) (hk : k < 7) : PreV s H "CourierBags$Kind" (X 1 k) (va_Pc (.ref (X 1 k) :: As) (RZp B0 X)) As :=
  ⟨fun A U g mk q => ⟨q.1, EN.warm (s := U) (State.WarmedH.refl U) q.2⟩, by obtain ⟨cell, h1, h2, h3, -⟩ := (hE.k.1.1 k hk).2.1; exact ⟨cell, h1, h2, h3⟩, fun U hU hW => ⟨rfl, by show EN B0 X U U.heap; rw [hU]; exact hE.warm hW⟩⟩
theorem gw_X7_330 : GoodIn tb (wsV RX7 330 RX3 yX3_popInto (wA yX3_popInto cX3_popInto 2 none)) := gV kw_900 kw_901 kw_902 kw_27 kw_903
theorem gw_X7_269 : GoodIn tb (wsV RX7 269 RJ4 yJ4_setLength_d00df (wA yJ4_setLength_d00df cJ4_setLength_d00df 2 none)) := gV kw_1027 kw_1028 kw_1029 kw_32 kw_1030
theorem gw_X7_272 : GoodIn tb (wsV RX7 272 RX1 yX1_describe (wA yX1_describe cX1_describe 4 none)) := gV kw_1258 kw_1259 kw_1260 kw_25 kw_1261
theorem gw_X7_276 : GoodIn tb (wsV RX7 276 RJ4 yJ4_length_8abf5 (wA yJ4_length_8abf5 cJ4_length_8abf5 1 (some .int))) := gV kw_1284 kw_1185 kw_1498 kw_32 kw_1186
theorem gw_X7_281 : GoodIn tb (wsV RX7 281 RJ4 yJ4_charAt_5068e (wA yJ4_charAt_5068e cJ4_charAt_5068e 2 (some .char))) := gV kw_1293 kw_1294 kw_1295 kw_32 kw_1296
set_option maxRecDepth 100000 in
set_option maxHeartbeats 4000000 in
theorem c_X7_undo (l : Launch) (hfl : l.stackTraces = false) (D : va_G) (G : GA) (B0 : Nat) (X : Nat → Nat → Nat) (ad : AD) (c0 c1 c2 : CS) (hS : Nat → CS) (hn : Nat) (sv : SV) (lv : LV) (bs fl : Nat → Int32) (hh : hn ≤ 8) (sz : Nat) : vx_Met l yX7_undo (wA yX7_undo cX7_undo 1 (some .int)) ({ frames := 6, cells := 1, slots := 6, locals := 90 } : Room) (va_Pc [.ref (ad.1 3 0)] (CBp D G B0 X ad c0 c1 c2 hS hn sv lv bs fl sz)) (va_Qi (fun (r : Int32) (u : Unit) => x_undo hn = 0 ∧ r = nI (hn - 1)) (fun u t9 => va_P D vwCl (CBL G X ad (hS (hn - 1)) c1 c2 hS (hn - 1) sv lv bs fl).flatten t9.heap ∧ va_D (va_A (CBL G X ad c0 c1 c2 hS hn sv lv bs fl).flatten sz) (CBL G X ad (hS (hn - 1)) c1 c2 hS (hn - 1) sv lv bs fl).flatten) (va_A (CBL G X ad c0 c1 c2 hS hn sv lv bs fl).flatten sz)) (vx_X (fun _ : Unit => x_undo hn ≠ 0) (fun E _ t9 => E = exN (x_undo hn) ∧ va_P D vwCl (CBL G X ad c0 c1 c2 hS hn sv lv bs fl).flatten t9.heap ∧ va_D (va_A (CBL G X ad c0 c1 c2 hS hn sv lv bs fl).flatten sz) (CBL G X ad c0 c1 c2 hS hn sv lv bs fl).flatten) (va_A (CBL G X ad c0 c1 c2 hS hn sv lv bs fl).flatten sz)) 1 6 (va_A (CBL G X ad c0 c1 c2 hS hn sv lv bs fl).flatten sz) := by
  refine vx_ofW (cc := cX7_undo) (maxL := 1) (ret := (some .int)) (by decide) rfl ?_
  intro p9 e s m args below meth c9 s₁ B hml hxt hv
  obtain ⟨rfl, hsz, hP, hK, hDB, hE⟩ := hv
  have hx := B.exec
  have hb := B.bytes
  have hr := B.returns
  have hts : ∀ w9 ∈ tb, w9.before ([.ref (ad.1 3 0)] : List Value).toArray s = true := fun w9 h9 => atoms_spec (ws := (wA yX7_undo cX7_undo 1 (some .int))) B.pre w9 (List.mem_cons_of_mem _ h9)
  have hown : s.vm.findClass RX7 = some m.cls := findClass_of_methodNamed B.named
  have hlocks := B.notSynchronized
  subst hsz
  have hD := hDB.self (sz := s.heap.size)
  have hAB := A_sub hDB hE.1
  generalize hAe : va_A (CBL G X ad c0 c1 c2 hS hn sv lv bs fl).flatten s.heap.size = A at hD hAB ⊢
  have hA0 : ∀ q : Nat, s.heap.size ≤ q → A q := fun q h => by rw [← hAe]; exact Or.inr h
  have hS0 : va_S A s.heap s.heap [] := va_S.rf
  have hl := lv_entry ([.ref (ad.1 3 0)]) (n := 1) (Nat.le_of_ble_eq_true rfl)
  rw [lg_entry_eq]
  generalize (lg_sl ([.ref (ad.1 3 0)]) ++ List.replicate (1 - (lg_sl ([.ref (ad.1 3 0)])).length) Slot.unset).toArray = ls at hl ⊢
  have hl : lv_has ls 1 [(0, .ref (ad.1 3 0))] := hl
  refine lv_aload_n hx hb dX7_undo_0 rfl (lv_at hl 0 rfl) ?_
  refine va_get (D := D) (ci := 8) (v := .ref (ad.1 3 1)) (C := RX7) (T := TX7) (N := 12) hx hb hts i_X7 hown hK (P_blk hP (i := 0) rfl) 0 rfl rfl 3 (by decide) (hts _ kw_231) (fun _ h9 => h9) rfl dX7_undo_1 ?_
  refine va_getN (D := D) (ci := 5) (v := .int (nI hn)) (C := RX3) (T := TX3) (N := 2) hx hb hts i_X3 hown hK (P_blk hP (i := 4) rfl) 0 rfl rfl 1 (by decide) (va_Nw.use rfl (nw_155 hE.nw)) (fun _ h9 => h9) rfl dX7_undo_4 ?_
  refine lv_if_ne (tgt := 21) hx hb dX7_undo_7 (by decide) (fun c_1 => ?_) (fun c_1 => ?_)
  · skip
    refine lv_aload_n hx hb dX7_undo_21 rfl (lv_at hl 0 rfl) ?_
    refine va_get (D := D) (ci := 8) (v := .ref (ad.1 3 1)) (C := RX7) (T := TX7) (N := 12) hx hb hts i_X7 hown hK (P_blk hP (i := 0) rfl) 0 rfl rfl 3 (by decide) (hts _ kw_231) (fun _ h9 => h9) rfl dX7_undo_22 ?_
    refine lv_aload_n hx hb dX7_undo_25 rfl (lv_at hl 0 rfl) ?_
    refine va_get (D := D) (ci := 8) (v := .ref (ad.1 0 0)) (C := RX7) (T := TX7) (N := 12) hx hb hts i_X7 hown hK (P_blk hP (i := 0) rfl) 0 rfl rfl 0 (by decide) (hts _ kw_228) (fun _ h9 => h9) rfl dX7_undo_26 ?_
    have e9 : hn - 1 + 1 = hn := by have h9 : hn ≠ 0 := fun h8 => c_1 (by rw [h8]; rfl); omega
    have hP : va_P D vwCl (CBL G X ad c0 c1 c2 hS (hn - 1 + 1) sv lv bs fl).flatten s.heap := by rw [e9]; exact hP
    have hD : va_D A (CBL G X ad c0 c1 c2 hS (hn - 1 + 1) sv lv bs fl).flatten := by rw [e9]; exact hD
    have hb4 : (CBL G X ad c0 c1 c2 hS (hn - 1 + 1) sv lv bs fl)[4]? = some (HBL G (ad.1 3 1) (ad.1 3 2) (hR ad.2.1) (nI (hn - 1 + 1)) ad.2.1 hS).flatten := rfl
    have hb1 : (CBL G X ad c0 c1 c2 hS (hn - 1 + 1) sv lv bs fl)[1]? = some (cw G (ad.1 0) c0) := rfl
    have hP2 : va_P D vwCl ((HBL G (ad.1 3 1) (ad.1 3 2) (hR ad.2.1) (nI (hn - 1 + 1)) ad.2.1 hS) ++ [cw G (ad.1 0) c0]).flatten s.heap := by rw [fl_app]; exact P_of (fun q hq => (List.mem_append.mp hq).elim (fun h => P_mem (P_blk hP hb4) h) (fun h => P_mem (P_blk hP hb1) h))
    have hD2 : va_D A ((HBL G (ad.1 3 1) (ad.1 3 2) (hR ad.2.1) (nI (hn - 1 + 1)) ad.2.1 hS) ++ [cw G (ad.1 0) c0]).flatten := by rw [fl_app]; exact D_app (D_blk hD hb4) (D_blk hD hb1) (dj_blk hD hb4 hb1 (by decide))
    have hFc := freeC hD2 hS0 hA0
    refine va_callv (va_runV (As := [.ref (ad.1 0 0)]) (rest := []) ⟨hx, hb, hml, hown, hts⟩ (c_X3_popInto l D G (ad.1 3 1) (ad.1 3 2) ad.2.1 hS (hn - 1) (by omega) (ad.1 0) c0 s.heap.size) (cwV 1 hts gw_X7_330 rfl rfl rfl (by decide +kernel) ⟨Nat.le_of_ble_eq_true rfl, Nat.le_of_ble_eq_true rfl⟩) (pv_ho hK hP2 hD2) rfl rfl hl.1 rfl (lv_room (Nat.le_of_ble_eq_true rfl)) dX7_undo_29 ⟨Nat.le_of_ble_eq_true rfl, Nat.le_of_ble_eq_true rfl⟩) hS0 (fun q _ h => hFc q h) hFc (fun u t9 H1 locs ht hvm hw hB hz1 hk1 hS0 => ?_)
    have hB : va_P D vwCl ((HBL G (ad.1 3 1) (ad.1 3 2) (hR ad.2.1) (nI (hn - 1)) ad.2.1 hS).flatten ++ cw G (ad.1 0) (hS (hn - 1))) H1 := by have h9 := hB; rw [ht, fl_app] at h9; exact h9
    rw [fl_app] at hk1
    have hP := P_rep2 hP hD hb4 hb1 (by decide) hk1 hB
    have hD := D_rep (C1 := cw G (ad.1 0) (hS (hn - 1))) (D_rep (C1 := (HBL G (ad.1 3 1) (ad.1 3 2) (hR ad.2.1) (nI (hn - 1)) ad.2.1 hS).flatten) hD hb4 rfl) (i := 1) (C := cw G (ad.1 0) c0) rfl (cw_addr G _ _ _)
    obtain ⟨H, rfl⟩ : ∃ z, z = H1 := ⟨_, rfl⟩
    have hP : va_P D vwCl (CBL G X ad (hS (hn - 1)) c1 c2 hS (hn - 1) sv lv bs fl).flatten H := hP
    have hD : va_D A (CBL G X ad (hS (hn - 1)) c1 c2 hS (hn - 1) sv lv bs fl).flatten := hD
    refine lv_aload_n hx hb dX7_undo_32 rfl (lv_at hl 0 rfl) ?_
    refine va_get (D := D) (ci := 8) (v := .ref (ad.1 3 1)) (C := RX7) (T := TX7) (N := 12) hx hb hts i_X7 hown hK (P_blk hP (i := 0) rfl) 0 rfl rfl 3 (by decide) (hts _ kw_231) (fun _ h9 => h9) rfl dX7_undo_33 ?_
    refine va_getN (D := D) (ci := 5) (v := .int (nI (hn - 1))) (C := RX3) (T := TX3) (N := 2) hx hb hts i_X3 hown hK (P_blk hP (i := 4) rfl) 0 rfl rfl 1 (by decide) (va_Nw.use rfl (nw_155 hE.nw)) (fun _ h9 => h9) rfl dX7_undo_36 ?_
    refine W.widen (k := 1) (n := 6) (Nat.le_of_ble_eq_true rfl) (Nat.le_of_ble_eq_true rfl) ?_
    have hP9 : va_P D vwCl (CBL G X ad (hS (hn - 1)) c1 c2 hS (hn - 1) sv lv bs fl).flatten H := hP
    have hD9 : va_D A (CBL G X ad (hS (hn - 1)) c1 c2 hS (hn - 1) sv lv bs fl).flatten := hD
    exact vx_ret (W.iret (v := nI (hn - 1)) hx hb hr (fun t ht hW => ⟨⟨nI (hn - 1), (), rfl, ⟨(by simp only [x_undo, if_neg c_1]), rfl⟩, by rw [ht]; exact hP9, hD9⟩, hS0.F ht⟩) hS0.2.2 dX7_undo_39)
  · skip
    exact tw_ise hx hb hfl hts hown hE hAB (hE.s.1 10 ("CourierBags", 328, "there is no modification to undo") rfl) hS0 (hml.trans hl.1.symm).symm dX7_undo_10 dX7_undo_13 (Or.inr ⟨dX7_undo_14, rfl⟩) dX7_undo_17 dX7_undo_20 hxt (Nat.le_of_ble_eq_true rfl) (Nat.le_of_ble_eq_true rfl) (Nat.le_of_ble_eq_true rfl) (Nat.le_of_ble_eq_true rfl) hlocks (fun t hv hz hk => ⟨(), by rw [(show x_undo hn = 4 from by simp only [x_undo, if_pos c_1])]; decide, ⟨by rw [(show x_undo hn = 4 from by simp only [x_undo, if_pos c_1])]; rfl, (hP).kept (fun k q9 hq9 => hk q9.1 ((hP k q9 hq9).lt)), hD⟩, S_F hS0 hz hk⟩) hS0.2.2 (Nat.le_of_ble_eq_true rfl) (Nat.le_of_ble_eq_true rfl)
set_option maxRecDepth 100000 in
set_option maxHeartbeats 4000000 in
theorem c_X7_writeLabel (l : Launch) (hfl : l.stackTraces = false) (D : va_G) (G : GA) (B0 : Nat) (X : Nat → Nat → Nat) (ad : AD) (c0 c1 c2 : CS) (hS : Nat → CS) (hn : Nat) (sv : SV) (lv : LV) (bs fl : Nat → Int32) (b : Int32) (hlv1 : lv.2.2.1 ≤ lv.1) (hlv2 : lv.1 ≤ 202) (hlv3 : bF lv.2.1) (hid : IDok c0) (hL : s_countLayers c0 b = nI (cLy c0 b)) (hL5 : cLy c0 b ≤ 5) (hlen : (s_desc c0 b (cLy c0 b)).length ≤ 100) (sz : Nat) : vx_Met l yX7_writeLabel (wA yX7_writeLabel cX7_writeLabel 2 (some .int)) ({ frames := 8, cells := 192, slots := 38588, locals := 184 } : Room) (va_Pc [.ref (ad.1 3 0), .int b] (CBp D G B0 X ad c0 c1 c2 hS hn sv lv bs fl sz)) (va_Qi (fun (r : Int32) (u : BR) => x_bag c0 b = 0 ∧ TXr u.2.2 (s_desc c0 b (cLy c0 b)) ∧ bF u.2.2 ∧ (s_desc c0 b (cLy c0 b)).length ≤ u.2.1 ∧ u.2.1 ≤ 202 ∧ r = nI (s_desc c0 b (cLy c0 b)).length) (fun u t9 => va_P D vwCl (CBL G X (ad.1, ad.2.1, u.1) c0 c1 c2 hS hn sv (u.2.1, u.2.2, (s_desc c0 b (cLy c0 b)).length, (if lv.2.2.1 ≤ 0 then lv.2.2.2 else 1)) bs fl).flatten t9.heap ∧ va_D (va_A (CBL G X ad c0 c1 c2 hS hn sv lv bs fl).flatten sz) (CBL G X (ad.1, ad.2.1, u.1) c0 c1 c2 hS hn sv (u.2.1, u.2.2, (s_desc c0 b (cLy c0 b)).length, (if lv.2.2.1 ≤ 0 then lv.2.2.2 else 1)) bs fl).flatten) (va_A (CBL G X ad c0 c1 c2 hS hn sv lv bs fl).flatten sz)) (vx_X (fun _ : Unit => x_bag c0 b ≠ 0) (fun E _ t9 => E = exN (x_bag c0 b) ∧ va_P D vwCl (CBL G X ad c0 c1 c2 hS hn sv lv bs fl).flatten t9.heap ∧ va_D (va_A (CBL G X ad c0 c1 c2 hS hn sv lv bs fl).flatten sz) (CBL G X ad c0 c1 c2 hS hn sv lv bs fl).flatten) (va_A (CBL G X ad c0 c1 c2 hS hn sv lv bs fl).flatten sz)) 192 38588 (va_A (CBL G X ad c0 c1 c2 hS hn sv lv bs fl).flatten sz) := by
  refine vx_ofW (cc := cX7_writeLabel) (maxL := 2) (ret := (some .int)) (by decide) rfl ?_
  intro p9 e s m args below meth c9 s₁ B hml hxt hv
  obtain ⟨rfl, hsz, hP, hK, hDB, hE⟩ := hv
  have hx := B.exec
  have hb := B.bytes
  have hr := B.returns
  have hts : ∀ w9 ∈ tb, w9.before ([.ref (ad.1 3 0), .int b] : List Value).toArray s = true := fun w9 h9 => atoms_spec (ws := (wA yX7_writeLabel cX7_writeLabel 2 (some .int))) B.pre w9 (List.mem_cons_of_mem _ h9)
  have hown : s.vm.findClass RX7 = some m.cls := findClass_of_methodNamed B.named
  have hlocks := B.notSynchronized
  subst hsz
  have hD := hDB.self (sz := s.heap.size)
  have hAB := A_sub hDB hE.1
  generalize hAe : va_A (CBL G X ad c0 c1 c2 hS hn sv lv bs fl).flatten s.heap.size = A at hD hAB ⊢
  have hA0 : ∀ q : Nat, s.heap.size ≤ q → A q := fun q h => by rw [← hAe]; exact Or.inr h
  have hS0 : va_S A s.heap s.heap [] := va_S.rf
  have hl := lv_entry ([.ref (ad.1 3 0), .int b]) (n := 2) (Nat.le_of_ble_eq_true rfl)
  rw [lg_entry_eq]
  generalize (lg_sl ([.ref (ad.1 3 0), .int b]) ++ List.replicate (2 - (lg_sl ([.ref (ad.1 3 0), .int b])).length) Slot.unset).toArray = ls at hl ⊢
  have hl : lv_has ls 2 [(0, .ref (ad.1 3 0)), (1, .int b)] := hl
  refine lv_aload_n hx hb dX7_writeLabel_0 rfl (lv_at hl 0 rfl) ?_
  refine lv_iload_n hx hb dX7_writeLabel_1 rfl (lv_at hl 1 rfl) ?_
  refine vx_callv (vx_runV (As := [.int b]) (rest := []) ⟨hx, hb, hml, hown, hts⟩ (c_X7_requireBag l hfl D G B0 X ad c0 c1 c2 hS hn sv lv bs fl b) (cwV 1 hts gw_X7_106 rfl rfl rfl (by decide +kernel) ⟨Nat.le_of_ble_eq_true rfl, Nat.le_of_ble_eq_true rfl⟩) (pv_cq hK hP (hE.at hS0 hAB)) rfl rfl hl.1 rfl (lv_room (Nat.le_of_ble_eq_true rfl)) dX7_writeLabel_2 ⟨Nat.le_of_ble_eq_true rfl, Nat.le_of_ble_eq_true rfl⟩) hS0 (fun _ _ h => h.elim) (fun _ h => h.elim) (fun _ _ h => h.elim) ?_ ?_
  · intro E ce q9 u t9 H9 locs9 ht hvm hq_1 hBX hz1 hk1 hS9 hce hcv hcl
    have hPx : va_P D vwCl (CBL G X ad c0 c1 c2 hS hn sv lv bs fl).flatten H9 := P_keep hP hk1 (fun _ _ h => h.elim)
    have hDx : va_D A (CBL G X ad c0 c1 c2 hS hn sv lv bs fl).flatten := hD
    exact vx_out (fun x hx => (hxt x hx).elim) hlocks hce hcv hcl (fun t8 ht8 hv8 => ⟨(), hq_1, ⟨hBX, by rw [ht8]; exact hPx, hDx⟩, hS9.F ht8⟩) hS9.2.2 (Nat.le_of_ble_eq_true rfl) (Nat.le_of_ble_eq_true rfl)
  · intro u t9 H9 locs9 ht hvm hq_1 hB hz1 hk1 hS9
    have hP : va_P D vwCl (CBL G X ad c0 c1 c2 hS hn sv lv bs fl).flatten H9 := P_keep hP hk1 (fun _ _ h => h.elim)
    clear hS0
    obtain ⟨H, rfl⟩ : ∃ z, z = H9 := ⟨_, rfl⟩
    have hS0 := hS9
    refine lv_aload_n hx hb dX7_writeLabel_5 rfl (lv_at hl 0 rfl) ?_
    refine va_get (D := D) (ci := 8) (v := .ref (ad.1 3 6)) (C := RX7) (T := TX7) (N := 12) hx hb hts i_X7 hown hK (P_blk hP (i := 0) rfl) 0 rfl rfl 5 (by decide) (hts _ kw_233) (fun _ h9 => h9) rfl dX7_writeLabel_6 ?_
    refine lv_iconst (v := 0) hx hb dX7_writeLabel_9 (by decide) ?_
    have hb6 : (CBL G X ad c0 c1 c2 hS hn sv lv bs fl)[6]? = some (lb G (ad.1 3 6) ad.2.2 lv.1 lv.2.1 lv.2.2.1 lv.2.2.2) := rfl
    have hFc := freeB hD hb6 hS0 hA0
    refine va_callv (va_runV (As := [.int 0]) (rest := []) ⟨hx, hb, hml, hown, hts⟩ (c_J4_setLength_d00df l D G B0 X (ad.1 3 6) ad.2.2 lv.1 lv.2.1 lv.2.2.1 lv.2.2.2 hlv1 hlv2 hlv3 H.size) (cwV 1 hts gw_X7_269 rfl rfl rfl (by decide +kernel) ⟨Nat.le_of_ble_eq_true rfl, Nat.le_of_ble_eq_true rfl⟩) (pv_lb hK (P_blk hP hb6) (D_blk hD hb6) hAB (hE.at hS0 hAB)) rfl rfl hl.1 rfl (lv_room (Nat.le_of_ble_eq_true rfl)) dX7_writeLabel_10 ⟨Nat.le_of_ble_eq_true rfl, Nat.le_of_ble_eq_true rfl⟩) hS0 (fun q _ h => hFc q h) hFc (fun u1 t9 H1 locs ht hvm hw hB hz1 hk1 hS0 => ?_)
    obtain ⟨hB, hB2⟩ := hB
    rw [ht] at hB
    obtain ⟨hw1, hw2, hw3⟩ := hw
    have hD8 := D_rep2 (C1 := (lb G (ad.1 3 6) u1.1 u1.2.1 u1.2.2 0 (if lv.2.2.1 ≤ 0 then lv.2.2.2 else 1))) hP hD hb6 hB2 hFc
    have hP := P_rep hP hD hb6 hk1 hB
    have hD := hD8
    obtain ⟨H, rfl⟩ : ∃ z, z = H1 := ⟨_, rfl⟩
    have hP : va_P D vwCl (CBL G X (ad.1, ad.2.1, u1.1) c0 c1 c2 hS hn sv (u1.2.1, u1.2.2, 0, (if lv.2.2.1 ≤ 0 then lv.2.2.2 else 1)) bs fl).flatten H := hP
    have hD : va_D A (CBL G X (ad.1, ad.2.1, u1.1) c0 c1 c2 hS hn sv (u1.2.1, u1.2.2, 0, (if lv.2.2.1 ≤ 0 then lv.2.2.2 else 1)) bs fl).flatten := hD
    refine lv_aload_n hx hb dX7_writeLabel_13 rfl (lv_at hl 0 rfl) ?_
    refine va_get (D := D) (ci := 8) (v := .ref (ad.1 0 0)) (C := RX7) (T := TX7) (N := 12) hx hb hts i_X7 hown hK (P_blk hP (i := 0) rfl) 0 rfl rfl 0 (by decide) (hts _ kw_228) (fun _ h9 => h9) rfl dX7_writeLabel_14 ?_
    refine lv_iload_n hx hb dX7_writeLabel_17 rfl (lv_at hl 1 rfl) ?_
    refine lv_aload_n hx hb dX7_writeLabel_18 rfl (lv_at hl 0 rfl) ?_
    refine va_get (D := D) (ci := 8) (v := .ref (ad.1 3 6)) (C := RX7) (T := TX7) (N := 12) hx hb hts i_X7 hown hK (P_blk hP (i := 0) rfl) 0 rfl rfl 5 (by decide) (hts _ kw_233) (fun _ h9 => h9) rfl dX7_writeLabel_19 ?_
    have hb6 : (CBL G X (ad.1, ad.2.1, u1.1) c0 c1 c2 hS hn sv (u1.2.1, u1.2.2, 0, (if lv.2.2.1 ≤ 0 then lv.2.2.2 else 1)) bs fl)[6]? = some (lb G (ad.1 3 6) u1.1 u1.2.1 u1.2.2 0 (if lv.2.2.1 ≤ 0 then lv.2.2.2 else 1)) := rfl
    have hb1 : (CBL G X (ad.1, ad.2.1, u1.1) c0 c1 c2 hS hn sv (u1.2.1, u1.2.2, 0, (if lv.2.2.1 ≤ 0 then lv.2.2.2 else 1)) bs fl)[1]? = some (cw G (ad.1 0) c0) := rfl
    have hFc := freeB hD hb6 hS0 hA0
    refine va_callv (va_runV (As := [.int b, .ref (ad.1 3 6)]) (rest := []) ⟨hx, hb, hml, hown, hts⟩ (c_X1_describe l D G B0 X (ad.1 0) c0 (ad.1 3 6) u1.1 u1.2.1 u1.2.2 [] (if lv.2.2.1 ≤ 0 then lv.2.2.2 else 1) (fun j h9 => absurd h9 (Nat.not_lt_zero j)) (Nat.zero_le _) hw2 hw1 hid b (cLy c0 b) hL hL5 hlen H.size) (cwV 2 hts gw_X7_272 rfl rfl rfl (by decide +kernel) ⟨Nat.le_of_ble_eq_true rfl, Nat.le_of_ble_eq_true rfl⟩) (pv_ly hK (P_blk hP hb1) (P_blk hP hb6) (D_blk hD hb6) (dj_blk hD hb6 hb1 (by decide)) hAB (hE.at hS0 hAB)) rfl rfl hl.1 rfl (lv_room (Nat.le_of_ble_eq_true rfl)) dX7_writeLabel_22 ⟨Nat.le_of_ble_eq_true rfl, Nat.le_of_ble_eq_true rfl⟩) hS0 (fun q _ h => hFc q h) hFc (fun u2 t9 H1 locs ht hvm hw hB hz1 hk1 hS0 => ?_)
    obtain ⟨hB, hB2⟩ := hB
    rw [ht] at hB
    obtain ⟨hv1, hv2, hv3, hv4⟩ := hw
    have hD8 := D_rep2 (C1 := (lb G (ad.1 3 6) u2.1 u2.2.1 u2.2.2 (s_desc c0 b (cLy c0 b)).length (if lv.2.2.1 ≤ 0 then lv.2.2.2 else 1))) hP hD hb6 hB2 hFc
    have hP := P_rep hP hD hb6 hk1 hB
    have hD := hD8
    obtain ⟨H, rfl⟩ : ∃ z, z = H1 := ⟨_, rfl⟩
    have hP : va_P D vwCl (CBL G X (ad.1, ad.2.1, u2.1) c0 c1 c2 hS hn sv (u2.2.1, u2.2.2, (s_desc c0 b (cLy c0 b)).length, (if lv.2.2.1 ≤ 0 then lv.2.2.2 else 1)) bs fl).flatten H := hP
    have hD : va_D A (CBL G X (ad.1, ad.2.1, u2.1) c0 c1 c2 hS hn sv (u2.2.1, u2.2.2, (s_desc c0 b (cLy c0 b)).length, (if lv.2.2.1 ≤ 0 then lv.2.2.2 else 1)) bs fl).flatten := hD
    refine lv_aload_n hx hb dX7_writeLabel_25 rfl (lv_at hl 0 rfl) ?_
    refine va_get (D := D) (ci := 8) (v := .ref (ad.1 3 6)) (C := RX7) (T := TX7) (N := 12) hx hb hts i_X7 hown hK (P_blk hP (i := 0) rfl) 0 rfl rfl 5 (by decide) (hts _ kw_233) (fun _ h9 => h9) rfl dX7_writeLabel_26 ?_
    refine vp_callSi (va_runV (As := []) (rest := []) ⟨hx, hb, hml, hown, hts⟩ (c_J4_length_8abf5 l D G B0 X (ad.1 3 6) u2.1 u2.2.1 u2.2.2 ((s_desc c0 b (cLy c0 b)).length) (if lv.2.2.1 ≤ 0 then lv.2.2.2 else 1) hv3 hv4 hv2) (cwV 0 hts gw_X7_276 rfl rfl rfl (by decide +kernel) ⟨Nat.le_of_ble_eq_true rfl, Nat.le_of_ble_eq_true rfl⟩) (pv_lr hK (P_blk hP (i := 6) rfl) (hE.at hS0 hAB)) rfl rfl hl.1 rfl (lv_room (Nat.le_of_ble_eq_true rfl)) dX7_writeLabel_29 ⟨Nat.le_of_ble_eq_true rfl, Nat.le_of_ble_eq_true rfl⟩).run (nm_e ?_)
    refine W.widen (k := 192) (n := 38588) (Nat.le_of_ble_eq_true rfl) (Nat.le_of_ble_eq_true rfl) ?_
    have hP9 : va_P D vwCl (CBL G X (ad.1, ad.2.1, u2.1) c0 c1 c2 hS hn sv (u2.2.1, u2.2.2, (s_desc c0 b (cLy c0 b)).length, (if lv.2.2.1 ≤ 0 then lv.2.2.2 else 1)) bs fl).flatten H := hP
    have hD9 : va_D A (CBL G X (ad.1, ad.2.1, u2.1) c0 c1 c2 hS hn sv (u2.2.1, u2.2.2, (s_desc c0 b (cLy c0 b)).length, (if lv.2.2.1 ≤ 0 then lv.2.2.2 else 1)) bs fl).flatten := hD
    exact vx_ret (W.iret (v := nI ((s_desc c0 b (cLy c0 b)).length)) hx hb hr (fun t ht hW => ⟨⟨nI ((s_desc c0 b (cLy c0 b)).length), u2, rfl, ⟨hq_1, hv1, hv2, hv3, hv4, rfl⟩, by rw [ht]; exact hP9, hD9⟩, hS0.F ht⟩) hS0.2.2 dX7_writeLabel_32)
set_option maxRecDepth 100000 in
set_option maxHeartbeats 4000000 in
theorem c_X7_labelAt (l : Launch) (hfl : l.stackTraces = false) (D : va_G) (G : GA) (B0 : Nat) (X : Nat → Nat → Nat) (ad : AD) (c0 c1 c2 : CS) (hS : Nat → CS) (hn : Nat) (sv : SV) (lv : LV) (bs fl : Nat → Int32) (i : Int32) (hlv1 : lv.2.2.1 ≤ lv.1) (hlv2 : lv.1 ≤ 202) (hlv3 : bF lv.2.1) : vx_Met l yX7_labelAt (wA yX7_labelAt cX7_labelAt 2 (some .char)) ({ frames := 6, cells := 1, slots := 6, locals := 90 } : Room) (va_Pc [.ref (ad.1 3 0), .int i] (CQp D G B0 X ad c0 c1 c2 hS hn sv lv bs fl)) (va_Qi (fun (r : Int32) (_ : Unit) => x_labelAt lv i = 0 ∧ r = (lv.2.1 i.toNatClampNeg &&& 255)) (fun _ _ => True) (fun _ => False)) (vx_X (fun _ : Unit => x_labelAt lv i ≠ 0) (fun E _ _ => E = exN (x_labelAt lv i)) (fun _ => False)) 1 6 (fun _ => False) := by
  refine vx_ofW (cc := cX7_labelAt) (maxL := 2) (ret := (some .char)) (by decide) rfl ?_
  intro p9 e s m args below meth c9 s₁ B hml hxt hv
  obtain ⟨rfl, hP, hK, hE⟩ := hv
  have hx := B.exec
  have hb := B.bytes
  have hr := B.returns
  have hts : ∀ w9 ∈ tb, w9.before ([.ref (ad.1 3 0), .int i] : List Value).toArray s = true := fun w9 h9 => atoms_spec (ws := (wA yX7_labelAt cX7_labelAt 2 (some .char))) B.pre w9 (List.mem_cons_of_mem _ h9)
  have hown : s.vm.findClass RX7 = some m.cls := findClass_of_methodNamed B.named
  have hlocks := B.notSynchronized
  have hAB : ∀ q : Nat, (fun _ : Nat => False) q → B0 ≤ q := fun _ h => h.elim
  have hS0 : va_S (fun _ => False) s.heap s.heap [] := va_S.rf
  have hl := lv_entry ([.ref (ad.1 3 0), .int i]) (n := 2) (Nat.le_of_ble_eq_true rfl)
  rw [lg_entry_eq]
  generalize (lg_sl ([.ref (ad.1 3 0), .int i]) ++ List.replicate (2 - (lg_sl ([.ref (ad.1 3 0), .int i])).length) Slot.unset).toArray = ls at hl ⊢
  have hl : lv_has ls 2 [(0, .ref (ad.1 3 0)), (1, .int i)] := hl
  refine lv_iload_n hx hb dX7_labelAt_0 rfl (lv_at hl 1 rfl) ?_
  refine lv_if_lt (tgt := 15) hx hb dX7_labelAt_1 (by decide) (fun c_1 => ?_) (fun c_1 => ?_)
  · skip
    exact tw_iob hx hb hfl hts hown hE hAB (hE.s.1 20 ("CourierBags", 279, "there is no such character") rfl) hS0 (hml.trans hl.1.symm).symm dX7_labelAt_15 dX7_labelAt_18 (Or.inr ⟨dX7_labelAt_19, rfl⟩) dX7_labelAt_22 dX7_labelAt_25 hxt (Nat.le_of_ble_eq_true rfl) (Nat.le_of_ble_eq_true rfl) (Nat.le_of_ble_eq_true rfl) (Nat.le_of_ble_eq_true rfl) hlocks (fun t hv hz hk => ⟨(), by rw [(show x_labelAt lv i = 3 from by simp only [x_labelAt, if_pos c_1])]; decide, by rw [(show x_labelAt lv i = 3 from by simp only [x_labelAt, if_pos c_1])]; rfl, S_F hS0 hz hk⟩) hS0.2.2 (Nat.le_of_ble_eq_true rfl) (Nat.le_of_ble_eq_true rfl)
  · skip
    refine lv_iload_n hx hb dX7_labelAt_4 rfl (lv_at hl 1 rfl) ?_
    refine lv_aload_n hx hb dX7_labelAt_5 rfl (lv_at hl 0 rfl) ?_
    refine va_get (D := D) (ci := 8) (v := .ref (ad.1 3 6)) (C := RX7) (T := TX7) (N := 12) hx hb hts i_X7 hown hK (P_blk hP (i := 0) rfl) 0 rfl rfl 5 (by decide) (hts _ kw_233) (fun _ h9 => h9) rfl dX7_labelAt_6 ?_
    refine vp_callSi (va_runV (As := []) (rest := [.int i]) ⟨hx, hb, hml, hown, hts⟩ (c_J4_length_8abf5 l D G B0 X (ad.1 3 6) ad.2.2 lv.1 lv.2.1 lv.2.2.1 lv.2.2.2 hlv1 hlv2 hlv3) (cwV 0 hts gw_X7_276 rfl rfl rfl (by decide +kernel) ⟨Nat.le_of_ble_eq_true rfl, Nat.le_of_ble_eq_true rfl⟩) (pv_lr hK (P_blk hP (i := 6) rfl) (hE.at hS0 hAB)) rfl rfl hl.1 rfl (lv_room (Nat.le_of_ble_eq_true rfl)) dX7_labelAt_9 ⟨Nat.le_of_ble_eq_true rfl, Nat.le_of_ble_eq_true rfl⟩).run (nm_e ?_)
    refine lv_icmp_lt (tgt := 26) hx hb dX7_labelAt_12 (by decide) (fun c_2 => ?_) (fun c_2 => ?_)
    · skip
      obtain ⟨j, hj9, rfl⟩ := nI_of c_1
      have hj : j < lv.2.2.1 := (nI_ltI (by omega) (by omega)).mp c_2
      refine lv_aload_n hx hb dX7_labelAt_26 rfl (lv_at hl 0 rfl) ?_
      refine va_get (D := D) (ci := 8) (v := .ref (ad.1 3 6)) (C := RX7) (T := TX7) (N := 12) hx hb hts i_X7 hown hK (P_blk hP (i := 0) rfl) 0 rfl rfl 5 (by decide) (hts _ kw_233) (fun _ h9 => h9) rfl dX7_labelAt_27 ?_
      refine lv_iload_n hx hb dX7_labelAt_30 rfl (lv_at hl 1 rfl) ?_
      refine vp_callSi (va_runV (As := [.int (nI j)]) (rest := []) ⟨hx, hb, hml, hown, hts⟩ (c_J4_charAt_5068e l D G B0 X (ad.1 3 6) ad.2.2 lv.1 lv.2.1 lv.2.2.1 lv.2.2.2 hlv1 hlv2 hlv3 j hj) (cwV 1 hts gw_X7_281 rfl rfl rfl (by decide +kernel) ⟨Nat.le_of_ble_eq_true rfl, Nat.le_of_ble_eq_true rfl⟩) (pv_lr hK (P_blk hP (i := 6) rfl) (hE.at hS0 hAB)) rfl rfl hl.1 rfl (lv_room (Nat.le_of_ble_eq_true rfl)) dX7_labelAt_31 ⟨Nat.le_of_ble_eq_true rfl, Nat.le_of_ble_eq_true rfl⟩).run (nm_e ?_)
      refine W.widen (k := 1) (n := 6) (Nat.le_of_ble_eq_true rfl) (Nat.le_of_ble_eq_true rfl) ?_
      exact vx_ret (W.zret (ty := .char) (v := (lv.2.1 j &&& 255)) hx hb hr (sc_nar _) (fun t ht hW => ⟨⟨(lv.2.1 j &&& 255), (), rfl, ⟨by simp only [x_labelAt, if_neg c_1, if_pos c_2], by rw [nI_clamp (by omega)]⟩, trivial⟩, hS0.F ht⟩) hS0.2.2 dX7_labelAt_34)
    · skip
      exact tw_iob hx hb hfl hts hown hE hAB (hE.s.1 20 ("CourierBags", 279, "there is no such character") rfl) hS0 (hml.trans hl.1.symm).symm dX7_labelAt_15 dX7_labelAt_18 (Or.inr ⟨dX7_labelAt_19, rfl⟩) dX7_labelAt_22 dX7_labelAt_25 hxt (Nat.le_of_ble_eq_true rfl) (Nat.le_of_ble_eq_true rfl) (Nat.le_of_ble_eq_true rfl) (Nat.le_of_ble_eq_true rfl) hlocks (fun t hv hz hk => ⟨(), by rw [(show x_labelAt lv i = 3 from by simp only [x_labelAt, if_neg c_1, if_neg c_2])]; decide, by rw [(show x_labelAt lv i = 3 from by simp only [x_labelAt, if_neg c_1, if_neg c_2])]; rfl, S_F hS0 hz hk⟩) hS0.2.2 (Nat.le_of_ble_eq_true rfl) (Nat.le_of_ble_eq_true rfl)
set_option maxRecDepth 100000 in
set_option maxHeartbeats 4000000 in
theorem c_X7_bestLoadByTable (l : Launch) (hfl : l.stackTraces = false) (D : va_G) (G : GA) (B0 : Nat) (X : Nat → Nat → Nat) (ad : AD) (c0 c1 c2 : CS) (hS : Nat → CS) (hn : Nat) (sv : SV) (lv : LV) (bs fl : Nat → Int32) (b : Int32) (hNB : x_bag c0 b ≠ 0) : vx_Met l yX7_bestLoadByTable (wA yX7_bestLoadByTable cX7_bestLoadByTable 2 (some .int)) ({ frames := 7, cells := 1, slots := 6, locals := 111 } : Room) (va_Pc [.ref (ad.1 3 0), .int b] (CQp D G B0 X ad c0 c1 c2 hS hn sv lv bs fl)) (va_Qi (fun (r : Int32) (_ : Unit) => x_bag c0 b = 0 ∧ r = 0) (fun _ _ => True) (fun _ => False)) (vx_X (fun _ : Unit => x_bag c0 b ≠ 0) (fun E _ _ => E = exN (x_bag c0 b)) (fun _ => False)) 1 6 (fun _ => False) := by
  refine vx_ofW (cc := cX7_bestLoadByTable) (maxL := 2) (ret := (some .int)) (by decide) rfl ?_
  intro p9 e s m args below meth c9 s₁ B hml hxt hv
  obtain ⟨rfl, hP, hK, hE⟩ := hv
  have hx := B.exec
  have hb := B.bytes
  have hr := B.returns
  have hts : ∀ w9 ∈ tb, w9.before ([.ref (ad.1 3 0), .int b] : List Value).toArray s = true := fun w9 h9 => atoms_spec (ws := (wA yX7_bestLoadByTable cX7_bestLoadByTable 2 (some .int))) B.pre w9 (List.mem_cons_of_mem _ h9)
  have hown : s.vm.findClass RX7 = some m.cls := findClass_of_methodNamed B.named
  have hlocks := B.notSynchronized
  have hAB : ∀ q : Nat, (fun _ : Nat => False) q → B0 ≤ q := fun _ h => h.elim
  have hS0 : va_S (fun _ => False) s.heap s.heap [] := va_S.rf
  have hl := lv_entry ([.ref (ad.1 3 0), .int b]) (n := 2) (Nat.le_of_ble_eq_true rfl)
  rw [lg_entry_eq]
  generalize (lg_sl ([.ref (ad.1 3 0), .int b]) ++ List.replicate (2 - (lg_sl ([.ref (ad.1 3 0), .int b])).length) Slot.unset).toArray = ls at hl ⊢
  have hl : lv_has ls 2 [(0, .ref (ad.1 3 0)), (1, .int b)] := hl
  refine lv_aload_n hx hb dX7_bestLoadByTable_0 rfl (lv_at hl 0 rfl) ?_
  refine lv_iload_n hx hb dX7_bestLoadByTable_1 rfl (lv_at hl 1 rfl) ?_
  refine vx_callv (vx_runV (As := [.int b]) (rest := []) ⟨hx, hb, hml, hown, hts⟩ (c_X7_requireBag l hfl D G B0 X ad c0 c1 c2 hS hn sv lv bs fl b) (cwV 1 hts gw_X7_106 rfl rfl rfl (by decide +kernel) ⟨Nat.le_of_ble_eq_true rfl, Nat.le_of_ble_eq_true rfl⟩) (pv_cq hK hP (hE.at hS0 hAB)) rfl rfl hl.1 rfl (lv_room (Nat.le_of_ble_eq_true rfl)) dX7_bestLoadByTable_2 ⟨Nat.le_of_ble_eq_true rfl, Nat.le_of_ble_eq_true rfl⟩) hS0 (fun _ _ h => h.elim) (fun _ h => h.elim) (fun _ _ h => h.elim) ?_ ?_
  · intro E ce q9 u t9 H9 locs9 ht hvm hq_1 hBX hz1 hk1 hS9 hce hcv hcl
    exact vx_out (fun x hx => (hxt x hx).elim) hlocks hce hcv hcl (fun t8 ht8 hv8 => ⟨(), hq_1, hBX, hS9.F ht8⟩) hS9.2.2 (Nat.le_of_ble_eq_true rfl) (Nat.le_of_ble_eq_true rfl)
  · intro u t9 H9 locs9 ht hvm hq_1 hB hz1 hk1 hS9
    have hP : va_P D vwCl (CBL G X ad c0 c1 c2 hS hn sv lv bs fl).flatten H9 := P_keep hP hk1 (fun _ _ h => h.elim)
    clear hS0
    obtain ⟨H, rfl⟩ : ∃ z, z = H9 := ⟨_, rfl⟩
    have hS0 := hS9
    refine lv_aload_n hx hb dX7_bestLoadByTable_5 rfl (lv_at hl 0 rfl) ?_
    refine va_get (D := D) (ci := 8) (v := .ref (ad.1 0 0)) (C := RX7) (T := TX7) (N := 12) hx hb hts i_X7 hown hK (P_blk hP (i := 0) rfl) 0 rfl rfl 0 (by decide) (hts _ kw_228) (fun _ h9 => h9) rfl dX7_bestLoadByTable_6 ?_
    refine lv_iload_n hx hb dX7_bestLoadByTable_9 rfl (lv_at hl 1 rfl) ?_
    refine lv_aload_n hx hb dX7_bestLoadByTable_10 rfl (lv_at hl 0 rfl) ?_
    refine va_get (D := D) (ci := 8) (v := .ref (ad.1 3 8)) (C := RX7) (T := TX7) (N := 12) hx hb hts i_X7 hown hK (P_blk hP (i := 0) rfl) 0 rfl rfl 6 (by decide) (hts _ kw_234) (fun _ h9 => h9) rfl dX7_bestLoadByTable_11 ?_
    exact absurd hq_1 hNB
