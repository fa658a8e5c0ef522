theorem pushD {A : Nat → Prop} {G : GA} {q1 q2 : Nat} {rf rf' : Nat → Option Nat} {n n' : Int32} {hA : Nat → Nat → Nat} {hS hS' : Nat → CS} {k : Nat} (hD : va_D A (HBL G q1 q2 rf n hA hS).flatten) : va_D A (HBL G q1 q2 rf' n' (pA hA k) hS').flatten := by
  unfold pA
  split
  · exact D_addr hD rfl
  · exact rotD hD
theorem f_open_lt (st : CS) (x : Int32) : f_open st x < 6 := by
  unfold f_open
  repeat' split
  all_goals decide
theorem f_takeIn_lt (st : CS) (z : Int32) (w : Int32) (v : Int32) : f_takeIn st z w v < 6 := by
  unfold f_takeIn
  repeat' split
  all_goals decide
theorem f_drop_lt (st : CS) (id : Int32) : f_drop st id < 6 := by
  unfold f_drop
  repeat' split
  all_goals decide
theorem f_unload_lt (st : CS) (id : Int32) : f_unload st id < 6 := by
  unfold f_unload
  repeat' split
  all_goals decide
theorem f_fill_lt (st : CS) (b : Int32) : f_fill st b < 6 := by
  unfold f_fill
  repeat' split
  all_goals decide
theorem f_handOver_lt (st : CS) : f_handOver st  < 6 := by
  unfold f_handOver
  repeat' split
  all_goals decide
theorem gw_X7_60 : GoodIn tb (wsV RX7 60 RX1 yX1_openFault (wA yX1_openFault cX1_openFault 2 (some (.object "CourierBags$Fault")))) := gV kw_334 kw_335 kw_336 kw_25 kw_337
theorem gw_X7_64 : GoodIn tb (va_wsS RX7 64 yX7_raise (wA yX7_raise cX7_raise 1 none)) := gS kw_344 kw_345 kw_24 kw_346
theorem gw_X7_68 : GoodIn tb (wsV RX7 68 RX3 yX3_push (wA yX3_push cX3_push 2 none)) := gV kw_491 kw_492 kw_493 kw_27 kw_494
theorem gw_X7_72 : GoodIn tb (wsV RX7 72 RX1 yX1_open (wA yX1_open cX1_open 3 (some .int))) := gV kw_500 kw_501 kw_502 kw_25 kw_503
theorem gw_X7_76 : GoodIn tb (wsV RX7 76 RX1 yX1_takeInFault (wA yX1_takeInFault cX1_takeInFault 4 (some (.object "CourierBags$Fault")))) := gV kw_511 kw_512 kw_513 kw_25 kw_514
theorem gw_X7_80 : GoodIn tb (wsV RX7 80 RX1 yX1_takeIn (wA yX1_takeIn cX1_takeIn 6 (some .int))) := gV kw_516 kw_517 kw_518 kw_25 kw_519
theorem gw_X7_84 : GoodIn tb (wsV RX7 84 RX1 yX1_dropFault (wA yX1_dropFault cX1_dropFault 3 (some (.object "CourierBags$Fault")))) := gV kw_532 kw_533 kw_534 kw_25 kw_535
theorem gw_X7_87 : GoodIn tb (wsV RX7 87 RX1 yX1_drop (wA yX1_drop cX1_drop 2 (some .int))) := gV kw_542 kw_543 kw_544 kw_25 kw_545
theorem gw_X7_116 : GoodIn tb (wsV RX7 116 RX1 yX1_unloadFault (wA yX1_unloadFault cX1_unloadFault 4 (some (.object "CourierBags$Fault")))) := gV kw_553 kw_554 kw_555 kw_25 kw_556
theorem gw_X7_119 : GoodIn tb (wsV RX7 119 RX1 yX1_unload (wA yX1_unload cX1_unload 4 (some .int))) := gV kw_564 kw_565 kw_566 kw_25 kw_567
theorem gw_X7_122 : GoodIn tb (wsV RX7 122 RX1 yX1_fillFault (wA yX1_fillFault cX1_fillFault 2 (some (.object "CourierBags$Fault")))) := gV kw_604 kw_605 kw_606 kw_25 kw_607
theorem gw_X7_125 : GoodIn tb (wsV RX7 125 RX1 yX1_fill (wA yX1_fill cX1_fill 6 (some .int))) := gV kw_613 kw_614 kw_615 kw_25 kw_616
theorem gw_X7_128 : GoodIn tb (wsV RX7 128 RX1 yX1_handOverFault (wA yX1_handOverFault cX1_handOverFault 1 (some (.object "CourierBags$Fault")))) := gV kw_676 kw_677 kw_678 kw_25 kw_679
theorem gw_X7_132 : GoodIn tb (wsV RX7 132 RX1 yX1_handOver (wA yX1_handOver cX1_handOver 7 (some .int))) := gV kw_685 kw_686 kw_687 kw_25 kw_688
set_option maxRecDepth 100000 in
set_option maxHeartbeats 4000000 in
theorem c_X7_addBag (l : Launch) (hfl : l.stackTraces = false) (D : va_G) (G : GA) (B0 : Nat) (X : Nat → Nat → Nat) (ad : AD) (c0 c1 c2 : CS) (hS : Nat → CS) (hn : Nat) (sv : SV) (lv : LV) (bs fl : Nat → Int32) (b : Int32) (hh : hn ≤ 8) (hBg : c0.2.2 1 = nI (nbg c0)) (hBg3 : nbg c0 ≤ 3) (sz : Nat) : vx_Met l yX7_addBag (wA yX7_addBag cX7_addBag 2 (some .int)) ({ frames := 7, cells := 1, slots := 6, locals := 110 } : Room) (va_Pc [.ref (ad.1 3 0), .int b] (CBp D G B0 X ad c0 c1 c2 hS hn sv lv bs fl sz)) (va_Qi (fun (r : Int32) (u : Unit) => f_open c0 b = 0 ∧ r = (m_open c0 b).1) (fun u t9 => va_P D vwCl (CBL G X (ad.1, pA ad.2.1 hn, ad.2.2) ((m_open c0 b).2) c1 c2 (pS hS hn c0) (pN hn) sv lv bs fl).flatten t9.heap ∧ va_D (va_A (CBL G X ad c0 c1 c2 hS hn sv lv bs fl).flatten sz) (CBL G X (ad.1, pA ad.2.1 hn, ad.2.2) ((m_open c0 b).2) c1 c2 (pS hS hn c0) (pN hn) sv lv bs fl).flatten) (va_A (CBL G X ad c0 c1 c2 hS hn sv lv bs fl).flatten sz)) (vx_X (fun _ : Unit => f_open c0 b ≠ 0) (fun E _ t9 => E = exN (f_open c0 b) ∧ va_P D vwCl (CBL G X ad c0 c1 c2 hS hn sv lv bs fl).flatten t9.heap ∧ va_D (va_A (CBL G X ad c0 c1 c2 hS hn sv lv bs fl).flatten sz) (CBL G X ad c0 c1 c2 hS hn sv lv bs fl).flatten) (va_A (CBL G X ad c0 c1 c2 hS hn sv lv bs fl).flatten sz)) 1 6 (va_A (CBL G X ad c0 c1 c2 hS hn sv lv bs fl).flatten sz) := by
  refine vx_ofW (cc := cX7_addBag) (maxL := 2) (ret := (some .int)) (by decide) rfl ?_
  intro p9 e s m args below meth c9 s₁ B hml hxt hv
  obtain ⟨rfl, hsz, hP, hK, hDB, hE⟩ := hv
  have hx := B.exec
  have hb := B.bytes
  have hr := B.returns
  have hts : ∀ w9 ∈ tb, w9.before ([.ref (ad.1 3 0), .int b] : List Value).toArray s = true := fun w9 h9 => atoms_spec (ws := (wA yX7_addBag cX7_addBag 2 (some .int))) B.pre w9 (List.mem_cons_of_mem _ h9)
  have hown : s.vm.findClass RX7 = some m.cls := findClass_of_methodNamed B.named
  have hlocks := B.notSynchronized
  subst hsz
  have hD := hDB.self (sz := s.heap.size)
  have hAB := A_sub hDB hE.1
  generalize hAe : va_A (CBL G X ad c0 c1 c2 hS hn sv lv bs fl).flatten s.heap.size = A at hD hAB ⊢
  have hA0 : ∀ q : Nat, s.heap.size ≤ q → A q := fun q h => by rw [← hAe]; exact Or.inr h
  have hS0 : va_S A s.heap s.heap [] := va_S.rf
  have hl := lv_entry ([.ref (ad.1 3 0), .int b]) (n := 2) (Nat.le_of_ble_eq_true rfl)
  rw [lg_entry_eq]
  generalize (lg_sl ([.ref (ad.1 3 0), .int b]) ++ List.replicate (2 - (lg_sl ([.ref (ad.1 3 0), .int b])).length) Slot.unset).toArray = ls at hl ⊢
  have hl : lv_has ls 2 [(0, .ref (ad.1 3 0)), (1, .int b)] := hl
  refine lv_aload_n hx hb dX7_addBag_0 rfl (lv_at hl 0 rfl) ?_
  refine va_get (D := D) (ci := 8) (v := .ref (ad.1 0 0)) (C := RX7) (T := TX7) (N := 12) hx hb hts i_X7 hown hK (P_blk hP (i := 0) rfl) 0 rfl rfl 0 (by decide) (hts _ kw_228) (fun _ h9 => h9) rfl dX7_addBag_1 ?_
  refine lv_iload_n hx hb dX7_addBag_4 rfl (lv_at hl 1 rfl) ?_
  have hPc : va_P D vwCl (cw G (ad.1 0) c0) s.heap := P_blk hP (i := 1) rfl
  refine va_csr (va_runV (As := [.int b]) (rest := []) ⟨hx, hb, hml, hown, hts⟩ (c_X1_openFault l D G B0 X (ad.1 0) c0 b) (cwV 1 hts gw_X7_60 rfl rfl rfl (by decide +kernel) ⟨Nat.le_of_ble_eq_true rfl, Nat.le_of_ble_eq_true rfl⟩) (pv_ce hK hPc (hE.at hS0 hAB)) rfl rfl hl.1 rfl (lv_room (Nat.le_of_ble_eq_true rfl)) dX7_addBag_5 ⟨Nat.le_of_ble_eq_true rfl, Nat.le_of_ble_eq_true rfl⟩).run (nm_e ?_)
  refine vx_callv (vx_runS (As := [.ref (X 0 (f_open c0 b))]) (rest := []) ⟨hx, hb, hml, hown, hts⟩ (c_X7_raise l hfl B0 X (f_open c0 b) (f_open_lt c0 b)) (va_cwS 1 hts gw_X7_64 rfl rfl rfl (by decide +kernel) ⟨Nat.le_of_ble_eq_true rfl, Nat.le_of_ble_eq_true rfl⟩) (ps_rz (hE.at hS0 hAB)) rfl rfl hl.1 rfl (lv_room (Nat.le_of_ble_eq_true rfl)) dX7_addBag_8 ⟨Nat.le_of_ble_eq_true rfl, Nat.le_of_ble_eq_true rfl⟩) hS0 (fun _ _ h => h.elim) (fun _ h => h.elim) (fun _ _ h => h.elim) ?_ ?_
  · intro E ce q9 u t9 H9 locs9 ht hvm hq_1 hBX hz1 hk1 hS9 hce hcv hcl
    have hPx : va_P D vwCl (CBL G X ad c0 c1 c2 hS hn sv lv bs fl).flatten H9 := P_keep hP hk1 (fun _ _ h => h.elim)
    have hDx : va_D A (CBL G X ad c0 c1 c2 hS hn sv lv bs fl).flatten := hD
    exact vx_out (fun x hx => (hxt x hx).elim) hlocks hce hcv hcl (fun t8 ht8 hv8 => ⟨(), hq_1, ⟨hBX, by rw [ht8]; exact hPx, hDx⟩, hS9.F ht8⟩) hS9.2.2 (Nat.le_of_ble_eq_true rfl) (Nat.le_of_ble_eq_true rfl)
  · intro u t9 H9 locs9 ht hvm hq_1 hB hz1 hk1 hS9
    have hP : va_P D vwCl (CBL G X ad c0 c1 c2 hS hn sv lv bs fl).flatten H9 := P_keep hP hk1 (fun _ _ h => h.elim)
    clear hS0
    obtain ⟨H, rfl⟩ : ∃ z, z = H9 := ⟨_, rfl⟩
    have hS0 := hS9
    refine lv_aload_n hx hb dX7_addBag_11 rfl (lv_at hl 0 rfl) ?_
    refine va_get (D := D) (ci := 8) (v := .ref (ad.1 3 1)) (C := RX7) (T := TX7) (N := 12) hx hb hts i_X7 hown hK (P_blk hP (i := 0) rfl) 0 rfl rfl 3 (by decide) (hts _ kw_231) (fun _ h9 => h9) rfl dX7_addBag_12 ?_
    refine lv_aload_n hx hb dX7_addBag_15 rfl (lv_at hl 0 rfl) ?_
    refine va_get (D := D) (ci := 8) (v := .ref (ad.1 0 0)) (C := RX7) (T := TX7) (N := 12) hx hb hts i_X7 hown hK (P_blk hP (i := 0) rfl) 0 rfl rfl 0 (by decide) (hts _ kw_228) (fun _ h9 => h9) rfl dX7_addBag_16 ?_
    have hb4 : (CBL G X ad c0 c1 c2 hS hn sv lv bs fl)[4]? = some (HBL G (ad.1 3 1) (ad.1 3 2) (hR ad.2.1) (nI hn) ad.2.1 hS).flatten := rfl
    have hb1 : (CBL G X ad c0 c1 c2 hS hn sv lv bs fl)[1]? = some (cw G (ad.1 0) c0) := rfl
    have hFc := freeB hD hb4 hS0 hA0
    refine va_callv (va_runV (As := [.ref (ad.1 0 0)]) (rest := []) ⟨hx, hb, hml, hown, hts⟩ (c_X3_push l D G (ad.1 3 1) (ad.1 3 2) ad.2.1 hS hn hh (ad.1 0) c0 H.size) (cwV 1 hts gw_X7_68 rfl rfl rfl (by decide +kernel) ⟨Nat.le_of_ble_eq_true rfl, Nat.le_of_ble_eq_true rfl⟩) (pv_hp hK (P_blk hP hb4) (D_blk hD hb4) (P_blk hP hb1) (D_blk hD hb1) (dj_blk hD hb4 hb1 (by decide))) rfl rfl hl.1 rfl (lv_room (Nat.le_of_ble_eq_true rfl)) dX7_addBag_19 ⟨Nat.le_of_ble_eq_true rfl, Nat.le_of_ble_eq_true rfl⟩) hS0 (fun q _ h => hFc q h) hFc (fun u t9 H1 locs ht hvm hw hB hz1 hk1 hS0 => ?_)
    have hB : va_P D vwCl (HBL G (ad.1 3 1) (ad.1 3 2) (hR (pA ad.2.1 hn)) (nI (pN hn)) (pA ad.2.1 hn) (pS hS hn c0)).flatten H1 := by have h9 := hB; rw [ht] at h9; exact h9
    have hD8 := D_rep2 (C1 := (HBL G (ad.1 3 1) (ad.1 3 2) (hR (pA ad.2.1 hn)) (nI (pN hn)) (pA ad.2.1 hn) (pS hS hn c0)).flatten) hP hD hb4 (pushD ((D_blk hD hb4).self (sz := H.size))) hFc
    have hP := P_rep hP hD hb4 hk1 hB
    have hD := hD8
    obtain ⟨H, rfl⟩ : ∃ z, z = H1 := ⟨_, rfl⟩
    have hP : va_P D vwCl (CBL G X (ad.1, pA ad.2.1 hn, ad.2.2) c0 c1 c2 (pS hS hn c0) (pN hn) sv lv bs fl).flatten H := hP
    have hD : va_D A (CBL G X (ad.1, pA ad.2.1 hn, ad.2.2) c0 c1 c2 (pS hS hn c0) (pN hn) sv lv bs fl).flatten := hD
    refine lv_aload_n hx hb dX7_addBag_22 rfl (lv_at hl 0 rfl) ?_
    refine va_get (D := D) (ci := 8) (v := .ref (ad.1 0 0)) (C := RX7) (T := TX7) (N := 12) hx hb hts i_X7 hown hK (P_blk hP (i := 0) rfl) 0 rfl rfl 0 (by decide) (hts _ kw_228) (fun _ h9 => h9) rfl dX7_addBag_23 ?_
    refine lv_iload_n hx hb dX7_addBag_26 rfl (lv_at hl 1 rfl) ?_
    have hbi : (CBL G X (ad.1, pA ad.2.1 hn, ad.2.2) c0 c1 c2 (pS hS hn c0) (pN hn) sv lv bs fl)[1]? = some (cw G (ad.1 0) c0) := rfl
    have hFc := freeB hD hbi hS0 hA0
    refine va_calli (va_runV (As := [.int b]) (rest := []) ⟨hx, hb, hml, hown, hts⟩ (c_X1_open l D G (ad.1 0) c0 b hBg hBg3 H.size) (cwV 1 hts gw_X7_72 rfl rfl rfl (by decide +kernel) ⟨Nat.le_of_ble_eq_true rfl, Nat.le_of_ble_eq_true rfl⟩) (pv_cm hK (P_blk hP hbi) (D_blk hD hbi)) rfl rfl hl.1 rfl (lv_room (Nat.le_of_ble_eq_true rfl)) dX7_addBag_27 ⟨Nat.le_of_ble_eq_true rfl, Nat.le_of_ble_eq_true rfl⟩) hS0 (fun q _ h => hFc q h) hFc (fun r u t9 H1 locs ht hvm hw_2 hB hz1 hk1 hS0 => ?_)
    have hB : va_P D vwCl (cw G (ad.1 0) ((m_open c0 b).2)) H1 := by have h9 := hB; rw [ht] at h9; exact h9
    have hP := P_rep hP hD hbi hk1 hB
    have hD := D_rep (C1 := cw G (ad.1 0) ((m_open c0 b).2)) hD hbi (cw_addr G _ _ _)
    obtain ⟨H, rfl⟩ : ∃ z, z = H1 := ⟨_, rfl⟩
    have hP : va_P D vwCl (CBL G X (ad.1, pA ad.2.1 hn, ad.2.2) ((m_open c0 b).2) c1 c2 (pS hS hn c0) (pN hn) sv lv bs fl).flatten H := hP
    have hD : va_D A (CBL G X (ad.1, pA ad.2.1 hn, ad.2.2) ((m_open c0 b).2) c1 c2 (pS hS hn c0) (pN hn) sv lv bs fl).flatten := hD
    rw [hw_2]
    refine W.widen (k := 1) (n := 6) (Nat.le_of_ble_eq_true rfl) (Nat.le_of_ble_eq_true rfl) ?_
    have hP9 : va_P D vwCl (CBL G X (ad.1, pA ad.2.1 hn, ad.2.2) ((m_open c0 b).2) c1 c2 (pS hS hn c0) (pN hn) sv lv bs fl).flatten H := hP
    have hD9 : va_D A (CBL G X (ad.1, pA ad.2.1 hn, ad.2.2) ((m_open c0 b).2) c1 c2 (pS hS hn c0) (pN hn) sv lv bs fl).flatten := hD
    exact vx_ret (W.iret (v := (m_open c0 b).1) hx hb hr (fun t ht hW => ⟨⟨(m_open c0 b).1, (), rfl, ⟨hq_1, rfl⟩, by rw [ht]; exact hP9, hD9⟩, hS0.F ht⟩) hS0.2.2 dX7_addBag_30)
set_option maxRecDepth 100000 in
set_option maxHeartbeats 4000000 in
theorem c_X7_addItem (l : Launch) (hfl : l.stackTraces = false) (D : va_G) (G : GA) (B0 : Nat) (X : Nat → Nat → Nat) (ad : AD) (c0 c1 c2 : CS) (hS : Nat → CS) (hn : Nat) (sv : SV) (lv : LV) (bs fl : Nat → Int32) (z : Int32) (w : Int32) (v : Int32) (b : Bool) (hh : hn ≤ 8) (hFr : f_takeIn c0 z w v = 0 → s_findFree c0 < 12) (sz : Nat) : vx_Met l yX7_addItem (wA yX7_addItem cX7_addItem 5 (some .int)) ({ frames := 7, cells := 1, slots := 6, locals := 110 } : Room) (va_Pc [.ref (ad.1 3 0), .int z, .int w, .int v, .int (bi b)] (CBp D G B0 X ad c0 c1 c2 hS hn sv lv bs fl sz)) (va_Qi (fun (r : Int32) (u : Unit) => f_takeIn c0 z w v = 0 ∧ r = (m_takeIn c0 z w v b).1) (fun u t9 => va_P D vwCl (CBL G X (ad.1, pA ad.2.1 hn, ad.2.2) ((m_takeIn c0 z w v b).2) c1 c2 (pS hS hn c0) (pN hn) sv lv bs fl).flatten t9.heap ∧ va_D (va_A (CBL G X ad c0 c1 c2 hS hn sv lv bs fl).flatten sz) (CBL G X (ad.1, pA ad.2.1 hn, ad.2.2) ((m_takeIn c0 z w v b).2) c1 c2 (pS hS hn c0) (pN hn) sv lv bs fl).flatten) (va_A (CBL G X ad c0 c1 c2 hS hn sv lv bs fl).flatten sz)) (vx_X (fun _ : Unit => f_takeIn c0 z w v ≠ 0) (fun E _ t9 => E = exN (f_takeIn c0 z w v) ∧ va_P D vwCl (CBL G X ad c0 c1 c2 hS hn sv lv bs fl).flatten t9.heap ∧ va_D (va_A (CBL G X ad c0 c1 c2 hS hn sv lv bs fl).flatten sz) (CBL G X ad c0 c1 c2 hS hn sv lv bs fl).flatten) (va_A (CBL G X ad c0 c1 c2 hS hn sv lv bs fl).flatten sz)) 1 6 (va_A (CBL G X ad c0 c1 c2 hS hn sv lv bs fl).flatten sz) := by
  refine vx_ofW (cc := cX7_addItem) (maxL := 5) (ret := (some .int)) (by decide) rfl ?_
  intro p9 e s m args below meth c9 s₁ B hml hxt hv
  obtain ⟨rfl, hsz, hP, hK, hDB, hE⟩ := hv
  have hx := B.exec
  have hb := B.bytes
  have hr := B.returns
  have hts : ∀ w9 ∈ tb, w9.before ([.ref (ad.1 3 0), .int z, .int w, .int v, .int (bi b)] : List Value).toArray s = true := fun w9 h9 => atoms_spec (ws := (wA yX7_addItem cX7_addItem 5 (some .int))) B.pre w9 (List.mem_cons_of_mem _ h9)
  have hown : s.vm.findClass RX7 = some m.cls := findClass_of_methodNamed B.named
  have hlocks := B.notSynchronized
  subst hsz
  have hD := hDB.self (sz := s.heap.size)
  have hAB := A_sub hDB hE.1
  generalize hAe : va_A (CBL G X ad c0 c1 c2 hS hn sv lv bs fl).flatten s.heap.size = A at hD hAB ⊢
  have hA0 : ∀ q : Nat, s.heap.size ≤ q → A q := fun q h => by rw [← hAe]; exact Or.inr h
  have hS0 : va_S A s.heap s.heap [] := va_S.rf
  have hl := lv_entry ([.ref (ad.1 3 0), .int z, .int w, .int v, .int (bi b)]) (n := 5) (Nat.le_of_ble_eq_true rfl)
  rw [lg_entry_eq]
  generalize (lg_sl ([.ref (ad.1 3 0), .int z, .int w, .int v, .int (bi b)]) ++ List.replicate (5 - (lg_sl ([.ref (ad.1 3 0), .int z, .int w, .int v, .int (bi b)])).length) Slot.unset).toArray = ls at hl ⊢
  have hl : lv_has ls 5 [(0, .ref (ad.1 3 0)), (1, .int z), (2, .int w), (3, .int v), (4, .int (bi b))] := hl
  refine lv_aload_n hx hb dX7_addItem_0 rfl (lv_at hl 0 rfl) ?_
  refine va_get (D := D) (ci := 8) (v := .ref (ad.1 0 0)) (C := RX7) (T := TX7) (N := 12) hx hb hts i_X7 hown hK (P_blk hP (i := 0) rfl) 0 rfl rfl 0 (by decide) (hts _ kw_228) (fun _ h9 => h9) rfl dX7_addItem_1 ?_
  refine lv_iload_n hx hb dX7_addItem_4 rfl (lv_at hl 1 rfl) ?_
  refine lv_iload_n hx hb dX7_addItem_5 rfl (lv_at hl 2 rfl) ?_
  refine lv_iload_n hx hb dX7_addItem_6 rfl (lv_at hl 3 rfl) ?_
  have hPc : va_P D vwCl (cw G (ad.1 0) c0) s.heap := P_blk hP (i := 1) rfl
  refine va_csr (va_runV (As := [.int z, .int w, .int v]) (rest := []) ⟨hx, hb, hml, hown, hts⟩ (c_X1_takeInFault l D G B0 X (ad.1 0) c0 z w v) (cwV 3 hts gw_X7_76 rfl rfl rfl (by decide +kernel) ⟨Nat.le_of_ble_eq_true rfl, Nat.le_of_ble_eq_true rfl⟩) (pv_ce hK hPc (hE.at hS0 hAB)) rfl rfl hl.1 rfl (lv_room (Nat.le_of_ble_eq_true rfl)) dX7_addItem_7 ⟨Nat.le_of_ble_eq_true rfl, Nat.le_of_ble_eq_true rfl⟩).run (nm_e ?_)
  refine vx_callv (vx_runS (As := [.ref (X 0 (f_takeIn c0 z w v))]) (rest := []) ⟨hx, hb, hml, hown, hts⟩ (c_X7_raise l hfl B0 X (f_takeIn c0 z w v) (f_takeIn_lt c0 z w v)) (va_cwS 1 hts gw_X7_64 rfl rfl rfl (by decide +kernel) ⟨Nat.le_of_ble_eq_true rfl, Nat.le_of_ble_eq_true rfl⟩) (ps_rz (hE.at hS0 hAB)) rfl rfl hl.1 rfl (lv_room (Nat.le_of_ble_eq_true rfl)) dX7_addItem_10 ⟨Nat.le_of_ble_eq_true rfl, Nat.le_of_ble_eq_true rfl⟩) hS0 (fun _ _ h => h.elim) (fun _ h => h.elim) (fun _ _ h => h.elim) ?_ ?_
  · intro E ce q9 u t9 H9 locs9 ht hvm hq_1 hBX hz1 hk1 hS9 hce hcv hcl
    have hPx : va_P D vwCl (CBL G X ad c0 c1 c2 hS hn sv lv bs fl).flatten H9 := P_keep hP hk1 (fun _ _ h => h.elim)
    have hDx : va_D A (CBL G X ad c0 c1 c2 hS hn sv lv bs fl).flatten := hD
    exact vx_out (fun x hx => (hxt x hx).elim) hlocks hce hcv hcl (fun t8 ht8 hv8 => ⟨(), hq_1, ⟨hBX, by rw [ht8]; exact hPx, hDx⟩, hS9.F ht8⟩) hS9.2.2 (Nat.le_of_ble_eq_true rfl) (Nat.le_of_ble_eq_true rfl)
  · intro u t9 H9 locs9 ht hvm hq_1 hB hz1 hk1 hS9
    have hP : va_P D vwCl (CBL G X ad c0 c1 c2 hS hn sv lv bs fl).flatten H9 := P_keep hP hk1 (fun _ _ h => h.elim)
    clear hS0
    obtain ⟨H, rfl⟩ : ∃ z, z = H9 := ⟨_, rfl⟩
    have hS0 := hS9
    refine lv_aload_n hx hb dX7_addItem_13 rfl (lv_at hl 0 rfl) ?_
    refine va_get (D := D) (ci := 8) (v := .ref (ad.1 3 1)) (C := RX7) (T := TX7) (N := 12) hx hb hts i_X7 hown hK (P_blk hP (i := 0) rfl) 0 rfl rfl 3 (by decide) (hts _ kw_231) (fun _ h9 => h9) rfl dX7_addItem_14 ?_
    refine lv_aload_n hx hb dX7_addItem_17 rfl (lv_at hl 0 rfl) ?_
    refine va_get (D := D) (ci := 8) (v := .ref (ad.1 0 0)) (C := RX7) (T := TX7) (N := 12) hx hb hts i_X7 hown hK (P_blk hP (i := 0) rfl) 0 rfl rfl 0 (by decide) (hts _ kw_228) (fun _ h9 => h9) rfl dX7_addItem_18 ?_
    have hb4 : (CBL G X ad c0 c1 c2 hS hn sv lv bs fl)[4]? = some (HBL G (ad.1 3 1) (ad.1 3 2) (hR ad.2.1) (nI hn) ad.2.1 hS).flatten := rfl
    have hb1 : (CBL G X ad c0 c1 c2 hS hn sv lv bs fl)[1]? = some (cw G (ad.1 0) c0) := rfl
    have hFc := freeB hD hb4 hS0 hA0
    refine va_callv (va_runV (As := [.ref (ad.1 0 0)]) (rest := []) ⟨hx, hb, hml, hown, hts⟩ (c_X3_push l D G (ad.1 3 1) (ad.1 3 2) ad.2.1 hS hn hh (ad.1 0) c0 H.size) (cwV 1 hts gw_X7_68 rfl rfl rfl (by decide +kernel) ⟨Nat.le_of_ble_eq_true rfl, Nat.le_of_ble_eq_true rfl⟩) (pv_hp hK (P_blk hP hb4) (D_blk hD hb4) (P_blk hP hb1) (D_blk hD hb1) (dj_blk hD hb4 hb1 (by decide))) rfl rfl hl.1 rfl (lv_room (Nat.le_of_ble_eq_true rfl)) dX7_addItem_21 ⟨Nat.le_of_ble_eq_true rfl, Nat.le_of_ble_eq_true rfl⟩) hS0 (fun q _ h => hFc q h) hFc (fun u t9 H1 locs ht hvm hw hB hz1 hk1 hS0 => ?_)
    have hB : va_P D vwCl (HBL G (ad.1 3 1) (ad.1 3 2) (hR (pA ad.2.1 hn)) (nI (pN hn)) (pA ad.2.1 hn) (pS hS hn c0)).flatten H1 := by have h9 := hB; rw [ht] at h9; exact h9
    have hD8 := D_rep2 (C1 := (HBL G (ad.1 3 1) (ad.1 3 2) (hR (pA ad.2.1 hn)) (nI (pN hn)) (pA ad.2.1 hn) (pS hS hn c0)).flatten) hP hD hb4 (pushD ((D_blk hD hb4).self (sz := H.size))) hFc
    have hP := P_rep hP hD hb4 hk1 hB
    have hD := hD8
    obtain ⟨H, rfl⟩ : ∃ z, z = H1 := ⟨_, rfl⟩
    have hP : va_P D vwCl (CBL G X (ad.1, pA ad.2.1 hn, ad.2.2) c0 c1 c2 (pS hS hn c0) (pN hn) sv lv bs fl).flatten H := hP
    have hD : va_D A (CBL G X (ad.1, pA ad.2.1 hn, ad.2.2) c0 c1 c2 (pS hS hn c0) (pN hn) sv lv bs fl).flatten := hD
    refine lv_aload_n hx hb dX7_addItem_24 rfl (lv_at hl 0 rfl) ?_
    refine va_get (D := D) (ci := 8) (v := .ref (ad.1 0 0)) (C := RX7) (T := TX7) (N := 12) hx hb hts i_X7 hown hK (P_blk hP (i := 0) rfl) 0 rfl rfl 0 (by decide) (hts _ kw_228) (fun _ h9 => h9) rfl dX7_addItem_25 ?_
    refine lv_iload_n hx hb dX7_addItem_28 rfl (lv_at hl 1 rfl) ?_
    refine lv_iload_n hx hb dX7_addItem_29 rfl (lv_at hl 2 rfl) ?_
    refine lv_iload_n hx hb dX7_addItem_30 rfl (lv_at hl 3 rfl) ?_
    refine lv_iload hx hb dX7_addItem_31 (lv_at hl 4 rfl) ?_
    have hbi : (CBL G X (ad.1, pA ad.2.1 hn, ad.2.2) c0 c1 c2 (pS hS hn c0) (pN hn) sv lv bs fl)[1]? = some (cw G (ad.1 0) c0) := rfl
    have hFc := freeB hD hbi hS0 hA0
    refine va_calli (va_runV (As := [.int z, .int w, .int v, .int (bi b)]) (rest := []) ⟨hx, hb, hml, hown, hts⟩ (c_X1_takeIn l D G (ad.1 0) c0 z w v b (hFr hq_1) H.size) (cwV 4 hts gw_X7_80 rfl rfl rfl (by decide +kernel) ⟨Nat.le_of_ble_eq_true rfl, Nat.le_of_ble_eq_true rfl⟩) (pv_cm hK (P_blk hP hbi) (D_blk hD hbi)) rfl rfl hl.1 rfl (lv_room (Nat.le_of_ble_eq_true rfl)) dX7_addItem_33 ⟨Nat.le_of_ble_eq_true rfl, Nat.le_of_ble_eq_true rfl⟩) hS0 (fun q _ h => hFc q h) hFc (fun r u t9 H1 locs ht hvm hw_2 hB hz1 hk1 hS0 => ?_)
    have hB : va_P D vwCl (cw G (ad.1 0) ((m_takeIn c0 z w v b).2)) H1 := by have h9 := hB; rw [ht] at h9; exact h9
    have hP := P_rep hP hD hbi hk1 hB
    have hD := D_rep (C1 := cw G (ad.1 0) ((m_takeIn c0 z w v b).2)) hD hbi (cw_addr G _ _ _)
    obtain ⟨H, rfl⟩ : ∃ z, z = H1 := ⟨_, rfl⟩
    have hP : va_P D vwCl (CBL G X (ad.1, pA ad.2.1 hn, ad.2.2) ((m_takeIn c0 z w v b).2) c1 c2 (pS hS hn c0) (pN hn) sv lv bs fl).flatten H := hP
    have hD : va_D A (CBL G X (ad.1, pA ad.2.1 hn, ad.2.2) ((m_takeIn c0 z w v b).2) c1 c2 (pS hS hn c0) (pN hn) sv lv bs fl).flatten := hD
    rw [hw_2]
    refine W.widen (k := 1) (n := 6) (Nat.le_of_ble_eq_true rfl) (Nat.le_of_ble_eq_true rfl) ?_
    have hP9 : va_P D vwCl (CBL G X (ad.1, pA ad.2.1 hn, ad.2.2) ((m_takeIn c0 z w v b).2) c1 c2 (pS hS hn c0) (pN hn) sv lv bs fl).flatten H := hP
    have hD9 : va_D A (CBL G X (ad.1, pA ad.2.1 hn, ad.2.2) ((m_takeIn c0 z w v b).2) c1 c2 (pS hS hn c0) (pN hn) sv lv bs fl).flatten := hD
    exact vx_ret (W.iret (v := (m_takeIn c0 z w v b).1) hx hb hr (fun t ht hW => ⟨⟨(m_takeIn c0 z w v b).1, (), rfl, ⟨hq_1, rfl⟩, by rw [ht]; exact hP9, hD9⟩, hS0.F ht⟩) hS0.2.2 dX7_addItem_36)
set_option maxRecDepth 100000 in
set_option maxHeartbeats 4000000 in
theorem c_X7_removeItem (l : Launch) (hfl : l.stackTraces = false) (D : va_G) (G : GA) (B0 : Nat) (X : Nat → Nat → Nat) (ad : AD) (c0 c1 c2 : CS) (hS : Nat → CS) (hn : Nat) (sv : SV) (lv : LV) (bs fl : Nat → Int32) (id : Int32) (hh : hn ≤ 8) (hFr : f_drop c0 id = 0 → s_find c0 id < 12) (sz : Nat) : vx_Met l yX7_removeItem (wA yX7_removeItem cX7_removeItem 2 (some .int)) ({ frames := 7, cells := 1, slots := 6, locals := 110 } : Room) (va_Pc [.ref (ad.1 3 0), .int id] (CBp D G B0 X ad c0 c1 c2 hS hn sv lv bs fl sz)) (va_Qi (fun (r : Int32) (u : Unit) => f_drop c0 id = 0 ∧ r = (m_drop c0 id).1) (fun u t9 => va_P D vwCl (CBL G X (ad.1, pA ad.2.1 hn, ad.2.2) ((m_drop c0 id).2) c1 c2 (pS hS hn c0) (pN hn) sv lv bs fl).flatten t9.heap ∧ va_D (va_A (CBL G X ad c0 c1 c2 hS hn sv lv bs fl).flatten sz) (CBL G X (ad.1, pA ad.2.1 hn, ad.2.2) ((m_drop c0 id).2) c1 c2 (pS hS hn c0) (pN hn) sv lv bs fl).flatten) (va_A (CBL G X ad c0 c1 c2 hS hn sv lv bs fl).flatten sz)) (vx_X (fun _ : Unit => f_drop c0 id ≠ 0) (fun E _ t9 => E = exN (f_drop c0 id) ∧ va_P D vwCl (CBL G X ad c0 c1 c2 hS hn sv lv bs fl).flatten t9.heap ∧ va_D (va_A (CBL G X ad c0 c1 c2 hS hn sv lv bs fl).flatten sz) (CBL G X ad c0 c1 c2 hS hn sv lv bs fl).flatten) (va_A (CBL G X ad c0 c1 c2 hS hn sv lv bs fl).flatten sz)) 1 6 (va_A (CBL G X ad c0 c1 c2 hS hn sv lv bs fl).flatten sz) := by
  refine vx_ofW (cc := cX7_removeItem) (maxL := 2) (ret := (some .int)) (by decide) rfl ?_
  intro p9 e s m args below meth c9 s₁ B hml hxt hv
  obtain ⟨rfl, hsz, hP, hK, hDB, hE⟩ := hv
  have hx := B.exec
  have hb := B.bytes
  have hr := B.returns
  have hts : ∀ w9 ∈ tb, w9.before ([.ref (ad.1 3 0), .int id] : List Value).toArray s = true := fun w9 h9 => atoms_spec (ws := (wA yX7_removeItem cX7_removeItem 2 (some .int))) B.pre w9 (List.mem_cons_of_mem _ h9)
  have hown : s.vm.findClass RX7 = some m.cls := findClass_of_methodNamed B.named
  have hlocks := B.notSynchronized
  subst hsz
  have hD := hDB.self (sz := s.heap.size)
  have hAB := A_sub hDB hE.1
  generalize hAe : va_A (CBL G X ad c0 c1 c2 hS hn sv lv bs fl).flatten s.heap.size = A at hD hAB ⊢
  have hA0 : ∀ q : Nat, s.heap.size ≤ q → A q := fun q h => by rw [← hAe]; exact Or.inr h
  have hS0 : va_S A s.heap s.heap [] := va_S.rf
  have hl := lv_entry ([.ref (ad.1 3 0), .int id]) (n := 2) (Nat.le_of_ble_eq_true rfl)
  rw [lg_entry_eq]
  generalize (lg_sl ([.ref (ad.1 3 0), .int id]) ++ List.replicate (2 - (lg_sl ([.ref (ad.1 3 0), .int id])).length) Slot.unset).toArray = ls at hl ⊢
  have hl : lv_has ls 2 [(0, .ref (ad.1 3 0)), (1, .int id)] := hl
  refine lv_aload_n hx hb dX7_removeItem_0 rfl (lv_at hl 0 rfl) ?_
  refine va_get (D := D) (ci := 8) (v := .ref (ad.1 0 0)) (C := RX7) (T := TX7) (N := 12) hx hb hts i_X7 hown hK (P_blk hP (i := 0) rfl) 0 rfl rfl 0 (by decide) (hts _ kw_228) (fun _ h9 => h9) rfl dX7_removeItem_1 ?_
  refine lv_iload_n hx hb dX7_removeItem_4 rfl (lv_at hl 1 rfl) ?_
  have hPc : va_P D vwCl (cw G (ad.1 0) c0) s.heap := P_blk hP (i := 1) rfl
  refine va_csr (va_runV (As := [.int id]) (rest := []) ⟨hx, hb, hml, hown, hts⟩ (c_X1_dropFault l D G B0 X (ad.1 0) c0 id) (cwV 1 hts gw_X7_84 rfl rfl rfl (by decide +kernel) ⟨Nat.le_of_ble_eq_true rfl, Nat.le_of_ble_eq_true rfl⟩) (pv_ce hK hPc (hE.at hS0 hAB)) rfl rfl hl.1 rfl (lv_room (Nat.le_of_ble_eq_true rfl)) dX7_removeItem_5 ⟨Nat.le_of_ble_eq_true rfl, Nat.le_of_ble_eq_true rfl⟩).run (nm_e ?_)
  refine vx_callv (vx_runS (As := [.ref (X 0 (f_drop c0 id))]) (rest := []) ⟨hx, hb, hml, hown, hts⟩ (c_X7_raise l hfl B0 X (f_drop c0 id) (f_drop_lt c0 id)) (va_cwS 1 hts gw_X7_64 rfl rfl rfl (by decide +kernel) ⟨Nat.le_of_ble_eq_true rfl, Nat.le_of_ble_eq_true rfl⟩) (ps_rz (hE.at hS0 hAB)) rfl rfl hl.1 rfl (lv_room (Nat.le_of_ble_eq_true rfl)) dX7_removeItem_8 ⟨Nat.le_of_ble_eq_true rfl, Nat.le_of_ble_eq_true rfl⟩) hS0 (fun _ _ h => h.elim) (fun _ h => h.elim) (fun _ _ h => h.elim) ?_ ?_
  · intro E ce q9 u t9 H9 locs9 ht hvm hq_1 hBX hz1 hk1 hS9 hce hcv hcl
    have hPx : va_P D vwCl (CBL G X ad c0 c1 c2 hS hn sv lv bs fl).flatten H9 := P_keep hP hk1 (fun _ _ h => h.elim)
    have hDx : va_D A (CBL G X ad c0 c1 c2 hS hn sv lv bs fl).flatten := hD
    exact vx_out (fun x hx => (hxt x hx).elim) hlocks hce hcv hcl (fun t8 ht8 hv8 => ⟨(), hq_1, ⟨hBX, by rw [ht8]; exact hPx, hDx⟩, hS9.F ht8⟩) hS9.2.2 (Nat.le_of_ble_eq_true rfl) (Nat.le_of_ble_eq_true rfl)
  · intro u t9 H9 locs9 ht hvm hq_1 hB hz1 hk1 hS9
    have hP : va_P D vwCl (CBL G X ad c0 c1 c2 hS hn sv lv bs fl).flatten H9 := P_keep hP hk1 (fun _ _ h => h.elim)
    clear hS0
    obtain ⟨H, rfl⟩ : ∃ z, z = H9 := ⟨_, rfl⟩
    have hS0 := hS9
    refine lv_aload_n hx hb dX7_removeItem_11 rfl (lv_at hl 0 rfl) ?_
    refine va_get (D := D) (ci := 8) (v := .ref (ad.1 3 1)) (C := RX7) (T := TX7) (N := 12) hx hb hts i_X7 hown hK (P_blk hP (i := 0) rfl) 0 rfl rfl 3 (by decide) (hts _ kw_231) (fun _ h9 => h9) rfl dX7_removeItem_12 ?_
    refine lv_aload_n hx hb dX7_removeItem_15 rfl (lv_at hl 0 rfl) ?_
    refine va_get (D := D) (ci := 8) (v := .ref (ad.1 0 0)) (C := RX7) (T := TX7) (N := 12) hx hb hts i_X7 hown hK (P_blk hP (i := 0) rfl) 0 rfl rfl 0 (by decide) (hts _ kw_228) (fun _ h9 => h9) rfl dX7_removeItem_16 ?_
    have hb4 : (CBL G X ad c0 c1 c2 hS hn sv lv bs fl)[4]? = some (HBL G (ad.1 3 1) (ad.1 3 2) (hR ad.2.1) (nI hn) ad.2.1 hS).flatten := rfl
    have hb1 : (CBL G X ad c0 c1 c2 hS hn sv lv bs fl)[1]? = some (cw G (ad.1 0) c0) := rfl
    have hFc := freeB hD hb4 hS0 hA0
    refine va_callv (va_runV (As := [.ref (ad.1 0 0)]) (rest := []) ⟨hx, hb, hml, hown, hts⟩ (c_X3_push l D G (ad.1 3 1) (ad.1 3 2) ad.2.1 hS hn hh (ad.1 0) c0 H.size) (cwV 1 hts gw_X7_68 rfl rfl rfl (by decide +kernel) ⟨Nat.le_of_ble_eq_true rfl, Nat.le_of_ble_eq_true rfl⟩) (pv_hp hK (P_blk hP hb4) (D_blk hD hb4) (P_blk hP hb1) (D_blk hD hb1) (dj_blk hD hb4 hb1 (by decide))) rfl rfl hl.1 rfl (lv_room (Nat.le_of_ble_eq_true rfl)) dX7_removeItem_19 ⟨Nat.le_of_ble_eq_true rfl, Nat.le_of_ble_eq_true rfl⟩) hS0 (fun q _ h => hFc q h) hFc (fun u t9 H1 locs ht hvm hw hB hz1 hk1 hS0 => ?_)
    have hB : va_P D vwCl (HBL G (ad.1 3 1) (ad.1 3 2) (hR (pA ad.2.1 hn)) (nI (pN hn)) (pA ad.2.1 hn) (pS hS hn c0)).flatten H1 := by have h9 := hB; rw [ht] at h9; exact h9
    have hD8 := D_rep2 (C1 := (HBL G (ad.1 3 1) (ad.1 3 2) (hR (pA ad.2.1 hn)) (nI (pN hn)) (pA ad.2.1 hn) (pS hS hn c0)).flatten) hP hD hb4 (pushD ((D_blk hD hb4).self (sz := H.size))) hFc
    have hP := P_rep hP hD hb4 hk1 hB
    have hD := hD8
    obtain ⟨H, rfl⟩ : ∃ z, z = H1 := ⟨_, rfl⟩
    have hP : va_P D vwCl (CBL G X (ad.1, pA ad.2.1 hn, ad.2.2) c0 c1 c2 (pS hS hn c0) (pN hn) sv lv bs fl).flatten H := hP
    have hD : va_D A (CBL G X (ad.1, pA ad.2.1 hn, ad.2.2) c0 c1 c2 (pS hS hn c0) (pN hn) sv lv bs fl).flatten := hD
    refine lv_aload_n hx hb dX7_removeItem_22 rfl (lv_at hl 0 rfl) ?_
    refine va_get (D := D) (ci := 8) (v := .ref (ad.1 0 0)) (C := RX7) (T := TX7) (N := 12) hx hb hts i_X7 hown hK (P_blk hP (i := 0) rfl) 0 rfl rfl 0 (by decide) (hts _ kw_228) (fun _ h9 => h9) rfl dX7_removeItem_23 ?_
    refine lv_iload_n hx hb dX7_removeItem_26 rfl (lv_at hl 1 rfl) ?_
    have hbi : (CBL G X (ad.1, pA ad.2.1 hn, ad.2.2) c0 c1 c2 (pS hS hn c0) (pN hn) sv lv bs fl)[1]? = some (cw G (ad.1 0) c0) := rfl
    have hFc := freeB hD hbi hS0 hA0
    refine va_calli (va_runV (As := [.int id]) (rest := []) ⟨hx, hb, hml, hown, hts⟩ (c_X1_drop l D G (ad.1 0) c0 id (hFr hq_1) H.size) (cwV 1 hts gw_X7_87 rfl rfl rfl (by decide +kernel) ⟨Nat.le_of_ble_eq_true rfl, Nat.le_of_ble_eq_true rfl⟩) (pv_cm hK (P_blk hP hbi) (D_blk hD hbi)) rfl rfl hl.1 rfl (lv_room (Nat.le_of_ble_eq_true rfl)) dX7_removeItem_27 ⟨Nat.le_of_ble_eq_true rfl, Nat.le_of_ble_eq_true rfl⟩) hS0 (fun q _ h => hFc q h) hFc (fun r u t9 H1 locs ht hvm hw_2 hB hz1 hk1 hS0 => ?_)
    have hB : va_P D vwCl (cw G (ad.1 0) ((m_drop c0 id).2)) H1 := by have h9 := hB; rw [ht] at h9; exact h9
    have hP := P_rep hP hD hbi hk1 hB
    have hD := D_rep (C1 := cw G (ad.1 0) ((m_drop c0 id).2)) hD hbi (cw_addr G _ _ _)
    obtain ⟨H, rfl⟩ : ∃ z, z = H1 := ⟨_, rfl⟩
    have hP : va_P D vwCl (CBL G X (ad.1, pA ad.2.1 hn, ad.2.2) ((m_drop c0 id).2) c1 c2 (pS hS hn c0) (pN hn) sv lv bs fl).flatten H := hP
    have hD : va_D A (CBL G X (ad.1, pA ad.2.1 hn, ad.2.2) ((m_drop c0 id).2) c1 c2 (pS hS hn c0) (pN hn) sv lv bs fl).flatten := hD
    rw [hw_2]
    refine W.widen (k := 1) (n := 6) (Nat.le_of_ble_eq_true rfl) (Nat.le_of_ble_eq_true rfl) ?_
    have hP9 : va_P D vwCl (CBL G X (ad.1, pA ad.2.1 hn, ad.2.2) ((m_drop c0 id).2) c1 c2 (pS hS hn c0) (pN hn) sv lv bs fl).flatten H := hP
    have hD9 : va_D A (CBL G X (ad.1, pA ad.2.1 hn, ad.2.2) ((m_drop c0 id).2) c1 c2 (pS hS hn c0) (pN hn) sv lv bs fl).flatten := hD
    exact vx_ret (W.iret (v := (m_drop c0 id).1) hx hb hr (fun t ht hW => ⟨⟨(m_drop c0 id).1, (), rfl, ⟨hq_1, rfl⟩, by rw [ht]; exact hP9, hD9⟩, hS0.F ht⟩) hS0.2.2 dX7_removeItem_30)
set_option maxRecDepth 100000 in
set_option maxHeartbeats 4000000 in
theorem c_X7_unpack (l : Launch) (hfl : l.stackTraces = false) (D : va_G) (G : GA) (B0 : Nat) (X : Nat → Nat → Nat) (ad : AD) (c0 c1 c2 : CS) (hS : Nat → CS) (hn : Nat) (sv : SV) (lv : LV) (bs fl : Nat → Int32) (id : Int32) (hh : hn ≤ 8) (hFr : f_unload c0 id = 0 → s_find c0 id < 12) (sz : Nat) : vx_Met l yX7_unpack (wA yX7_unpack cX7_unpack 2 (some .int)) ({ frames := 7, cells := 1, slots := 6, locals := 110 } : Room) (va_Pc [.ref (ad.1 3 0), .int id] (CBp D G B0 X ad c0 c1 c2 hS hn sv lv bs fl sz)) (va_Qi (fun (r : Int32) (u : Unit) => f_unload c0 id = 0 ∧ r = (m_unload c0 id).1) (fun u t9 => va_P D vwCl (CBL G X (ad.1, pA ad.2.1 hn, ad.2.2) ((m_unload c0 id).2) c1 c2 (pS hS hn c0) (pN hn) sv lv bs fl).flatten t9.heap ∧ va_D (va_A (CBL G X ad c0 c1 c2 hS hn sv lv bs fl).flatten sz) (CBL G X (ad.1, pA ad.2.1 hn, ad.2.2) ((m_unload c0 id).2) c1 c2 (pS hS hn c0) (pN hn) sv lv bs fl).flatten) (va_A (CBL G X ad c0 c1 c2 hS hn sv lv bs fl).flatten sz)) (vx_X (fun _ : Unit => f_unload c0 id ≠ 0) (fun E _ t9 => E = exN (f_unload c0 id) ∧ va_P D vwCl (CBL G X ad c0 c1 c2 hS hn sv lv bs fl).flatten t9.heap ∧ va_D (va_A (CBL G X ad c0 c1 c2 hS hn sv lv bs fl).flatten sz) (CBL G X ad c0 c1 c2 hS hn sv lv bs fl).flatten) (va_A (CBL G X ad c0 c1 c2 hS hn sv lv bs fl).flatten sz)) 1 6 (va_A (CBL G X ad c0 c1 c2 hS hn sv lv bs fl).flatten sz) := by
  refine vx_ofW (cc := cX7_unpack) (maxL := 2) (ret := (some .int)) (by decide) rfl ?_
  intro p9 e s m args below meth c9 s₁ B hml hxt hv
  obtain ⟨rfl, hsz, hP, hK, hDB, hE⟩ := hv
  have hx := B.exec
  have hb := B.bytes
  have hr := B.returns
  have hts : ∀ w9 ∈ tb, w9.before ([.ref (ad.1 3 0), .int id] : List Value).toArray s = true := fun w9 h9 => atoms_spec (ws := (wA yX7_unpack cX7_unpack 2 (some .int))) B.pre w9 (List.mem_cons_of_mem _ h9)
  have hown : s.vm.findClass RX7 = some m.cls := findClass_of_methodNamed B.named
  have hlocks := B.notSynchronized
  subst hsz
  have hD := hDB.self (sz := s.heap.size)
  have hAB := A_sub hDB hE.1
  generalize hAe : va_A (CBL G X ad c0 c1 c2 hS hn sv lv bs fl).flatten s.heap.size = A at hD hAB ⊢
  have hA0 : ∀ q : Nat, s.heap.size ≤ q → A q := fun q h => by rw [← hAe]; exact Or.inr h
  have hS0 : va_S A s.heap s.heap [] := va_S.rf
  have hl := lv_entry ([.ref (ad.1 3 0), .int id]) (n := 2) (Nat.le_of_ble_eq_true rfl)
  rw [lg_entry_eq]
  generalize (lg_sl ([.ref (ad.1 3 0), .int id]) ++ List.replicate (2 - (lg_sl ([.ref (ad.1 3 0), .int id])).length) Slot.unset).toArray = ls at hl ⊢
  have hl : lv_has ls 2 [(0, .ref (ad.1 3 0)), (1, .int id)] := hl
  refine lv_aload_n hx hb dX7_unpack_0 rfl (lv_at hl 0 rfl) ?_
  refine va_get (D := D) (ci := 8) (v := .ref (ad.1 0 0)) (C := RX7) (T := TX7) (N := 12) hx hb hts i_X7 hown hK (P_blk hP (i := 0) rfl) 0 rfl rfl 0 (by decide) (hts _ kw_228) (fun _ h9 => h9) rfl dX7_unpack_1 ?_
  refine lv_iload_n hx hb dX7_unpack_4 rfl (lv_at hl 1 rfl) ?_
  have hPc : va_P D vwCl (cw G (ad.1 0) c0) s.heap := P_blk hP (i := 1) rfl
  refine va_csr (va_runV (As := [.int id]) (rest := []) ⟨hx, hb, hml, hown, hts⟩ (c_X1_unloadFault l D G B0 X (ad.1 0) c0 id) (cwV 1 hts gw_X7_116 rfl rfl rfl (by decide +kernel) ⟨Nat.le_of_ble_eq_true rfl, Nat.le_of_ble_eq_true rfl⟩) (pv_ce hK hPc (hE.at hS0 hAB)) rfl rfl hl.1 rfl (lv_room (Nat.le_of_ble_eq_true rfl)) dX7_unpack_5 ⟨Nat.le_of_ble_eq_true rfl, Nat.le_of_ble_eq_true rfl⟩).run (nm_e ?_)
  refine vx_callv (vx_runS (As := [.ref (X 0 (f_unload c0 id))]) (rest := []) ⟨hx, hb, hml, hown, hts⟩ (c_X7_raise l hfl B0 X (f_unload c0 id) (f_unload_lt c0 id)) (va_cwS 1 hts gw_X7_64 rfl rfl rfl (by decide +kernel) ⟨Nat.le_of_ble_eq_true rfl, Nat.le_of_ble_eq_true rfl⟩) (ps_rz (hE.at hS0 hAB)) rfl rfl hl.1 rfl (lv_room (Nat.le_of_ble_eq_true rfl)) dX7_unpack_8 ⟨Nat.le_of_ble_eq_true rfl, Nat.le_of_ble_eq_true rfl⟩) hS0 (fun _ _ h => h.elim) (fun _ h => h.elim) (fun _ _ h => h.elim) ?_ ?_
  · intro E ce q9 u t9 H9 locs9 ht hvm hq_1 hBX hz1 hk1 hS9 hce hcv hcl
    have hPx : va_P D vwCl (CBL G X ad c0 c1 c2 hS hn sv lv bs fl).flatten H9 := P_keep hP hk1 (fun _ _ h => h.elim)
    have hDx : va_D A (CBL G X ad c0 c1 c2 hS hn sv lv bs fl).flatten := hD
    exact vx_out (fun x hx => (hxt x hx).elim) hlocks hce hcv hcl (fun t8 ht8 hv8 => ⟨(), hq_1, ⟨hBX, by rw [ht8]; exact hPx, hDx⟩, hS9.F ht8⟩) hS9.2.2 (Nat.le_of_ble_eq_true rfl) (Nat.le_of_ble_eq_true rfl)
  · intro u t9 H9 locs9 ht hvm hq_1 hB hz1 hk1 hS9
    have hP : va_P D vwCl (CBL G X ad c0 c1 c2 hS hn sv lv bs fl).flatten H9 := P_keep hP hk1 (fun _ _ h => h.elim)
    clear hS0
    obtain ⟨H, rfl⟩ : ∃ z, z = H9 := ⟨_, rfl⟩
    have hS0 := hS9
    refine lv_aload_n hx hb dX7_unpack_11 rfl (lv_at hl 0 rfl) ?_
    refine va_get (D := D) (ci := 8) (v := .ref (ad.1 3 1)) (C := RX7) (T := TX7) (N := 12) hx hb hts i_X7 hown hK (P_blk hP (i := 0) rfl) 0 rfl rfl 3 (by decide) (hts _ kw_231) (fun _ h9 => h9) rfl dX7_unpack_12 ?_
    refine lv_aload_n hx hb dX7_unpack_15 rfl (lv_at hl 0 rfl) ?_
    refine va_get (D := D) (ci := 8) (v := .ref (ad.1 0 0)) (C := RX7) (T := TX7) (N := 12) hx hb hts i_X7 hown hK (P_blk hP (i := 0) rfl) 0 rfl rfl 0 (by decide) (hts _ kw_228) (fun _ h9 => h9) rfl dX7_unpack_16 ?_
    have hb4 : (CBL G X ad c0 c1 c2 hS hn sv lv bs fl)[4]? = some (HBL G (ad.1 3 1) (ad.1 3 2) (hR ad.2.1) (nI hn) ad.2.1 hS).flatten := rfl
    have hb1 : (CBL G X ad c0 c1 c2 hS hn sv lv bs fl)[1]? = some (cw G (ad.1 0) c0) := rfl
    have hFc := freeB hD hb4 hS0 hA0
    refine va_callv (va_runV (As := [.ref (ad.1 0 0)]) (rest := []) ⟨hx, hb, hml, hown, hts⟩ (c_X3_push l D G (ad.1 3 1) (ad.1 3 2) ad.2.1 hS hn hh (ad.1 0) c0 H.size) (cwV 1 hts gw_X7_68 rfl rfl rfl (by decide +kernel) ⟨Nat.le_of_ble_eq_true rfl, Nat.le_of_ble_eq_true rfl⟩) (pv_hp hK (P_blk hP hb4) (D_blk hD hb4) (P_blk hP hb1) (D_blk hD hb1) (dj_blk hD hb4 hb1 (by decide))) rfl rfl hl.1 rfl (lv_room (Nat.le_of_ble_eq_true rfl)) dX7_unpack_19 ⟨Nat.le_of_ble_eq_true rfl, Nat.le_of_ble_eq_true rfl⟩) hS0 (fun q _ h => hFc q h) hFc (fun u t9 H1 locs ht hvm hw hB hz1 hk1 hS0 => ?_)
    have hB : va_P D vwCl (HBL G (ad.1 3 1) (ad.1 3 2) (hR (pA ad.2.1 hn)) (nI (pN hn)) (pA ad.2.1 hn) (pS hS hn c0)).flatten H1 := by have h9 := hB; rw [ht] at h9; exact h9
    have hD8 := D_rep2 (C1 := (HBL G (ad.1 3 1) (ad.1 3 2) (hR (pA ad.2.1 hn)) (nI (pN hn)) (pA ad.2.1 hn) (pS hS hn c0)).flatten) hP hD hb4 (pushD ((D_blk hD hb4).self (sz := H.size))) hFc
    have hP := P_rep hP hD hb4 hk1 hB
    have hD := hD8
    obtain ⟨H, rfl⟩ : ∃ z, z = H1 := ⟨_, rfl⟩
    have hP : va_P D vwCl (CBL G X (ad.1, pA ad.2.1 hn, ad.2.2) c0 c1 c2 (pS hS hn c0) (pN hn) sv lv bs fl).flatten H := hP
    have hD : va_D A (CBL G X (ad.1, pA ad.2.1 hn, ad.2.2) c0 c1 c2 (pS hS hn c0) (pN hn) sv lv bs fl).flatten := hD
    refine lv_aload_n hx hb dX7_unpack_22 rfl (lv_at hl 0 rfl) ?_
    refine va_get (D := D) (ci := 8) (v := .ref (ad.1 0 0)) (C := RX7) (T := TX7) (N := 12) hx hb hts i_X7 hown hK (P_blk hP (i := 0) rfl) 0 rfl rfl 0 (by decide) (hts _ kw_228) (fun _ h9 => h9) rfl dX7_unpack_23 ?_
    refine lv_iload_n hx hb dX7_unpack_26 rfl (lv_at hl 1 rfl) ?_
    have hbi : (CBL G X (ad.1, pA ad.2.1 hn, ad.2.2) c0 c1 c2 (pS hS hn c0) (pN hn) sv lv bs fl)[1]? = some (cw G (ad.1 0) c0) := rfl
    have hFc := freeB hD hbi hS0 hA0
    refine va_calli (va_runV (As := [.int id]) (rest := []) ⟨hx, hb, hml, hown, hts⟩ (c_X1_unload l D G (ad.1 0) c0 id (hFr hq_1) H.size) (cwV 1 hts gw_X7_119 rfl rfl rfl (by decide +kernel) ⟨Nat.le_of_ble_eq_true rfl, Nat.le_of_ble_eq_true rfl⟩) (pv_cm hK (P_blk hP hbi) (D_blk hD hbi)) rfl rfl hl.1 rfl (lv_room (Nat.le_of_ble_eq_true rfl)) dX7_unpack_27 ⟨Nat.le_of_ble_eq_true rfl, Nat.le_of_ble_eq_true rfl⟩) hS0 (fun q _ h => hFc q h) hFc (fun r u t9 H1 locs ht hvm hw_2 hB hz1 hk1 hS0 => ?_)
    have hB : va_P D vwCl (cw G (ad.1 0) ((m_unload c0 id).2)) H1 := by have h9 := hB; rw [ht] at h9; exact h9
    have hP := P_rep hP hD hbi hk1 hB
    have hD := D_rep (C1 := cw G (ad.1 0) ((m_unload c0 id).2)) hD hbi (cw_addr G _ _ _)
    obtain ⟨H, rfl⟩ : ∃ z, z = H1 := ⟨_, rfl⟩
    have hP : va_P D vwCl (CBL G X (ad.1, pA ad.2.1 hn, ad.2.2) ((m_unload c0 id).2) c1 c2 (pS hS hn c0) (pN hn) sv lv bs fl).flatten H := hP
    have hD : va_D A (CBL G X (ad.1, pA ad.2.1 hn, ad.2.2) ((m_unload c0 id).2) c1 c2 (pS hS hn c0) (pN hn) sv lv bs fl).flatten := hD
    rw [hw_2]
    refine W.widen (k := 1) (n := 6) (Nat.le_of_ble_eq_true rfl) (Nat.le_of_ble_eq_true rfl) ?_
    have hP9 : va_P D vwCl (CBL G X (ad.1, pA ad.2.1 hn, ad.2.2) ((m_unload c0 id).2) c1 c2 (pS hS hn c0) (pN hn) sv lv bs fl).flatten H := hP
    have hD9 : va_D A (CBL G X (ad.1, pA ad.2.1 hn, ad.2.2) ((m_unload c0 id).2) c1 c2 (pS hS hn c0) (pN hn) sv lv bs fl).flatten := hD
    exact vx_ret (W.iret (v := (m_unload c0 id).1) hx hb hr (fun t ht hW => ⟨⟨(m_unload c0 id).1, (), rfl, ⟨hq_1, rfl⟩, by rw [ht]; exact hP9, hD9⟩, hS0.F ht⟩) hS0.2.2 dX7_unpack_30)
set_option maxRecDepth 100000 in
set_option maxHeartbeats 4000000 in
theorem c_X7_autoPack (l : Launch) (hfl : l.stackTraces = false) (D : va_G) (G : GA) (B0 : Nat) (X : Nat → Nat → Nat) (ad : AD) (c0 c1 c2 : CS) (hS : Nat → CS) (hn : Nat) (sv : SV) (lv : LV) (bs fl : Nat → Int32) (b : Int32) (hh : hn ≤ 8) (sz : Nat) : vx_Met l yX7_autoPack (wA yX7_autoPack cX7_autoPack 2 (some .int)) ({ frames := 7, cells := 1, slots := 6, locals := 119 } : Room) (va_Pc [.ref (ad.1 3 0), .int b] (CBp D G B0 X ad c0 c1 c2 hS hn sv lv bs fl sz)) (va_Qi (fun (r : Int32) (u : Unit) => f_fill c0 b = 0 ∧ r = (m_fill c0 b).1) (fun u t9 => va_P D vwCl (CBL G X (ad.1, pA ad.2.1 hn, ad.2.2) ((m_fill c0 b).2) c1 c2 (pS hS hn c0) (pN hn) sv lv bs fl).flatten t9.heap ∧ va_D (va_A (CBL G X ad c0 c1 c2 hS hn sv lv bs fl).flatten sz) (CBL G X (ad.1, pA ad.2.1 hn, ad.2.2) ((m_fill c0 b).2) c1 c2 (pS hS hn c0) (pN hn) sv lv bs fl).flatten) (va_A (CBL G X ad c0 c1 c2 hS hn sv lv bs fl).flatten sz)) (vx_X (fun _ : Unit => f_fill c0 b ≠ 0) (fun E _ t9 => E = exN (f_fill c0 b) ∧ va_P D vwCl (CBL G X ad c0 c1 c2 hS hn sv lv bs fl).flatten t9.heap ∧ va_D (va_A (CBL G X ad c0 c1 c2 hS hn sv lv bs fl).flatten sz) (CBL G X ad c0 c1 c2 hS hn sv lv bs fl).flatten) (va_A (CBL G X ad c0 c1 c2 hS hn sv lv bs fl).flatten sz)) 1 6 (va_A (CBL G X ad c0 c1 c2 hS hn sv lv bs fl).flatten sz) := by
  refine vx_ofW (cc := cX7_autoPack) (maxL := 2) (ret := (some .int)) (by decide) rfl ?_
  intro p9 e s m args below meth c9 s₁ B hml hxt hv
  obtain ⟨rfl, hsz, hP, hK, hDB, hE⟩ := hv
  have hx := B.exec
  have hb := B.bytes
  have hr := B.returns
  have hts : ∀ w9 ∈ tb, w9.before ([.ref (ad.1 3 0), .int b] : List Value).toArray s = true := fun w9 h9 => atoms_spec (ws := (wA yX7_autoPack cX7_autoPack 2 (some .int))) B.pre w9 (List.mem_cons_of_mem _ h9)
  have hown : s.vm.findClass RX7 = some m.cls := findClass_of_methodNamed B.named
  have hlocks := B.notSynchronized
  subst hsz
  have hD := hDB.self (sz := s.heap.size)
  have hAB := A_sub hDB hE.1
  generalize hAe : va_A (CBL G X ad c0 c1 c2 hS hn sv lv bs fl).flatten s.heap.size = A at hD hAB ⊢
  have hA0 : ∀ q : Nat, s.heap.size ≤ q → A q := fun q h => by rw [← hAe]; exact Or.inr h
  have hS0 : va_S A s.heap s.heap [] := va_S.rf
  have hl := lv_entry ([.ref (ad.1 3 0), .int b]) (n := 2) (Nat.le_of_ble_eq_true rfl)
  rw [lg_entry_eq]
  generalize (lg_sl ([.ref (ad.1 3 0), .int b]) ++ List.replicate (2 - (lg_sl ([.ref (ad.1 3 0), .int b])).length) Slot.unset).toArray = ls at hl ⊢
  have hl : lv_has ls 2 [(0, .ref (ad.1 3 0)), (1, .int b)] := hl
  refine lv_aload_n hx hb dX7_autoPack_0 rfl (lv_at hl 0 rfl) ?_
  refine va_get (D := D) (ci := 8) (v := .ref (ad.1 0 0)) (C := RX7) (T := TX7) (N := 12) hx hb hts i_X7 hown hK (P_blk hP (i := 0) rfl) 0 rfl rfl 0 (by decide) (hts _ kw_228) (fun _ h9 => h9) rfl dX7_autoPack_1 ?_
  refine lv_iload_n hx hb dX7_autoPack_4 rfl (lv_at hl 1 rfl) ?_
  have hPc : va_P D vwCl (cw G (ad.1 0) c0) s.heap := P_blk hP (i := 1) rfl
  refine va_csr (va_runV (As := [.int b]) (rest := []) ⟨hx, hb, hml, hown, hts⟩ (c_X1_fillFault l D G B0 X (ad.1 0) c0 b) (cwV 1 hts gw_X7_122 rfl rfl rfl (by decide +kernel) ⟨Nat.le_of_ble_eq_true rfl, Nat.le_of_ble_eq_true rfl⟩) (pv_ce hK hPc (hE.at hS0 hAB)) rfl rfl hl.1 rfl (lv_room (Nat.le_of_ble_eq_true rfl)) dX7_autoPack_5 ⟨Nat.le_of_ble_eq_true rfl, Nat.le_of_ble_eq_true rfl⟩).run (nm_e ?_)
  refine vx_callv (vx_runS (As := [.ref (X 0 (f_fill c0 b))]) (rest := []) ⟨hx, hb, hml, hown, hts⟩ (c_X7_raise l hfl B0 X (f_fill c0 b) (f_fill_lt c0 b)) (va_cwS 1 hts gw_X7_64 rfl rfl rfl (by decide +kernel) ⟨Nat.le_of_ble_eq_true rfl, Nat.le_of_ble_eq_true rfl⟩) (ps_rz (hE.at hS0 hAB)) rfl rfl hl.1 rfl (lv_room (Nat.le_of_ble_eq_true rfl)) dX7_autoPack_8 ⟨Nat.le_of_ble_eq_true rfl, Nat.le_of_ble_eq_true rfl⟩) hS0 (fun _ _ h => h.elim) (fun _ h => h.elim) (fun _ _ h => h.elim) ?_ ?_
  · intro E ce q9 u t9 H9 locs9 ht hvm hq_1 hBX hz1 hk1 hS9 hce hcv hcl
    have hPx : va_P D vwCl (CBL G X ad c0 c1 c2 hS hn sv lv bs fl).flatten H9 := P_keep hP hk1 (fun _ _ h => h.elim)
    have hDx : va_D A (CBL G X ad c0 c1 c2 hS hn sv lv bs fl).flatten := hD
    exact vx_out (fun x hx => (hxt x hx).elim) hlocks hce hcv hcl (fun t8 ht8 hv8 => ⟨(), hq_1, ⟨hBX, by rw [ht8]; exact hPx, hDx⟩, hS9.F ht8⟩) hS9.2.2 (Nat.le_of_ble_eq_true rfl) (Nat.le_of_ble_eq_true rfl)
  · intro u t9 H9 locs9 ht hvm hq_1 hB hz1 hk1 hS9
    have hP : va_P D vwCl (CBL G X ad c0 c1 c2 hS hn sv lv bs fl).flatten H9 := P_keep hP hk1 (fun _ _ h => h.elim)
    clear hS0
    obtain ⟨H, rfl⟩ : ∃ z, z = H9 := ⟨_, rfl⟩
    have hS0 := hS9
    refine lv_aload_n hx hb dX7_autoPack_11 rfl (lv_at hl 0 rfl) ?_
    refine va_get (D := D) (ci := 8) (v := .ref (ad.1 3 1)) (C := RX7) (T := TX7) (N := 12) hx hb hts i_X7 hown hK (P_blk hP (i := 0) rfl) 0 rfl rfl 3 (by decide) (hts _ kw_231) (fun _ h9 => h9) rfl dX7_autoPack_12 ?_
    refine lv_aload_n hx hb dX7_autoPack_15 rfl (lv_at hl 0 rfl) ?_
    refine va_get (D := D) (ci := 8) (v := .ref (ad.1 0 0)) (C := RX7) (T := TX7) (N := 12) hx hb hts i_X7 hown hK (P_blk hP (i := 0) rfl) 0 rfl rfl 0 (by decide) (hts _ kw_228) (fun _ h9 => h9) rfl dX7_autoPack_16 ?_
    have hb4 : (CBL G X ad c0 c1 c2 hS hn sv lv bs fl)[4]? = some (HBL G (ad.1 3 1) (ad.1 3 2) (hR ad.2.1) (nI hn) ad.2.1 hS).flatten := rfl
    have hb1 : (CBL G X ad c0 c1 c2 hS hn sv lv bs fl)[1]? = some (cw G (ad.1 0) c0) := rfl
    have hFc := freeB hD hb4 hS0 hA0
    refine va_callv (va_runV (As := [.ref (ad.1 0 0)]) (rest := []) ⟨hx, hb, hml, hown, hts⟩ (c_X3_push l D G (ad.1 3 1) (ad.1 3 2) ad.2.1 hS hn hh (ad.1 0) c0 H.size) (cwV 1 hts gw_X7_68 rfl rfl rfl (by decide +kernel) ⟨Nat.le_of_ble_eq_true rfl, Nat.le_of_ble_eq_true rfl⟩) (pv_hp hK (P_blk hP hb4) (D_blk hD hb4) (P_blk hP hb1) (D_blk hD hb1) (dj_blk hD hb4 hb1 (by decide))) rfl rfl hl.1 rfl (lv_room (Nat.le_of_ble_eq_true rfl)) dX7_autoPack_19 ⟨Nat.le_of_ble_eq_true rfl, Nat.le_of_ble_eq_true rfl⟩) hS0 (fun q _ h => hFc q h) hFc (fun u t9 H1 locs ht hvm hw hB hz1 hk1 hS0 => ?_)
    have hB : va_P D vwCl (HBL G (ad.1 3 1) (ad.1 3 2) (hR (pA ad.2.1 hn)) (nI (pN hn)) (pA ad.2.1 hn) (pS hS hn c0)).flatten H1 := by have h9 := hB; rw [ht] at h9; exact h9
    have hD8 := D_rep2 (C1 := (HBL G (ad.1 3 1) (ad.1 3 2) (hR (pA ad.2.1 hn)) (nI (pN hn)) (pA ad.2.1 hn) (pS hS hn c0)).flatten) hP hD hb4 (pushD ((D_blk hD hb4).self (sz := H.size))) hFc
    have hP := P_rep hP hD hb4 hk1 hB
    have hD := hD8
    obtain ⟨H, rfl⟩ : ∃ z, z = H1 := ⟨_, rfl⟩
    have hP : va_P D vwCl (CBL G X (ad.1, pA ad.2.1 hn, ad.2.2) c0 c1 c2 (pS hS hn c0) (pN hn) sv lv bs fl).flatten H := hP
    have hD : va_D A (CBL G X (ad.1, pA ad.2.1 hn, ad.2.2) c0 c1 c2 (pS hS hn c0) (pN hn) sv lv bs fl).flatten := hD
    refine lv_aload_n hx hb dX7_autoPack_22 rfl (lv_at hl 0 rfl) ?_
    refine va_get (D := D) (ci := 8) (v := .ref (ad.1 0 0)) (C := RX7) (T := TX7) (N := 12) hx hb hts i_X7 hown hK (P_blk hP (i := 0) rfl) 0 rfl rfl 0 (by decide) (hts _ kw_228) (fun _ h9 => h9) rfl dX7_autoPack_23 ?_
    refine lv_iload_n hx hb dX7_autoPack_26 rfl (lv_at hl 1 rfl) ?_
    have hbi : (CBL G X (ad.1, pA ad.2.1 hn, ad.2.2) c0 c1 c2 (pS hS hn c0) (pN hn) sv lv bs fl)[1]? = some (cw G (ad.1 0) c0) := rfl
    have hFc := freeB hD hbi hS0 hA0
    refine va_calli (va_runV (As := [.int b]) (rest := []) ⟨hx, hb, hml, hown, hts⟩ (c_X1_fill l D G (ad.1 0) c0 b H.size) (cwV 1 hts gw_X7_125 rfl rfl rfl (by decide +kernel) ⟨Nat.le_of_ble_eq_true rfl, Nat.le_of_ble_eq_true rfl⟩) (pv_cm hK (P_blk hP hbi) (D_blk hD hbi)) rfl rfl hl.1 rfl (lv_room (Nat.le_of_ble_eq_true rfl)) dX7_autoPack_27 ⟨Nat.le_of_ble_eq_true rfl, Nat.le_of_ble_eq_true rfl⟩) hS0 (fun q _ h => hFc q h) hFc (fun r u t9 H1 locs ht hvm hw_2 hB hz1 hk1 hS0 => ?_)
    have hB : va_P D vwCl (cw G (ad.1 0) ((m_fill c0 b).2)) H1 := by have h9 := hB; rw [ht] at h9; exact h9
    have hP := P_rep hP hD hbi hk1 hB
    have hD := D_rep (C1 := cw G (ad.1 0) ((m_fill c0 b).2)) hD hbi (cw_addr G _ _ _)
    obtain ⟨H, rfl⟩ : ∃ z, z = H1 := ⟨_, rfl⟩
    have hP : va_P D vwCl (CBL G X (ad.1, pA ad.2.1 hn, ad.2.2) ((m_fill c0 b).2) c1 c2 (pS hS hn c0) (pN hn) sv lv bs fl).flatten H := hP
    have hD : va_D A (CBL G X (ad.1, pA ad.2.1 hn, ad.2.2) ((m_fill c0 b).2) c1 c2 (pS hS hn c0) (pN hn) sv lv bs fl).flatten := hD
    rw [hw_2]
    refine W.widen (k := 1) (n := 6) (Nat.le_of_ble_eq_true rfl) (Nat.le_of_ble_eq_true rfl) ?_
    have hP9 : va_P D vwCl (CBL G X (ad.1, pA ad.2.1 hn, ad.2.2) ((m_fill c0 b).2) c1 c2 (pS hS hn c0) (pN hn) sv lv bs fl).flatten H := hP
    have hD9 : va_D A (CBL G X (ad.1, pA ad.2.1 hn, ad.2.2) ((m_fill c0 b).2) c1 c2 (pS hS hn c0) (pN hn) sv lv bs fl).flatten := hD
    exact vx_ret (W.iret (v := (m_fill c0 b).1) hx hb hr (fun t ht hW => ⟨⟨(m_fill c0 b).1, (), rfl, ⟨hq_1, rfl⟩, by rw [ht]; exact hP9, hD9⟩, hS0.F ht⟩) hS0.2.2 dX7_autoPack_30)
set_option maxRecDepth 100000 in
set_option maxHeartbeats 4000000 in
theorem c_X7_deliver (l : Launch) (hfl : l.stackTraces = false) (D : va_G) (G : GA) (B0 : Nat) (X : Nat → Nat → Nat) (ad : AD) (c0 c1 c2 : CS) (hS : Nat → CS) (hn : Nat) (sv : SV) (lv : LV) (bs fl : Nat → Int32) (hh : hn ≤ 8) (sz : Nat) : vx_Met l yX7_deliver (wA yX7_deliver cX7_deliver 1 (some .int)) ({ frames := 7, cells := 1, slots := 6, locals := 110 } : Room) (va_Pc [.ref (ad.1 3 0)] (CBp D G B0 X ad c0 c1 c2 hS hn sv lv bs fl sz)) (va_Qi (fun (r : Int32) (u : Unit) => f_handOver c0 = 0 ∧ r = (m_handOver c0).1) (fun u t9 => va_P D vwCl (CBL G X (ad.1, pA ad.2.1 hn, ad.2.2) ((m_handOver c0).2) c1 c2 (pS hS hn c0) (pN hn) sv lv bs fl).flatten t9.heap ∧ va_D (va_A (CBL G X ad c0 c1 c2 hS hn sv lv bs fl).flatten sz) (CBL G X (ad.1, pA ad.2.1 hn, ad.2.2) ((m_handOver c0).2) c1 c2 (pS hS hn c0) (pN hn) sv lv bs fl).flatten) (va_A (CBL G X ad c0 c1 c2 hS hn sv lv bs fl).flatten sz)) (vx_X (fun _ : Unit => f_handOver c0 ≠ 0) (fun E _ t9 => E = exN (f_handOver c0) ∧ va_P D vwCl (CBL G X ad c0 c1 c2 hS hn sv lv bs fl).flatten t9.heap ∧ va_D (va_A (CBL G X ad c0 c1 c2 hS hn sv lv bs fl).flatten sz) (CBL G X ad c0 c1 c2 hS hn sv lv bs fl).flatten) (va_A (CBL G X ad c0 c1 c2 hS hn sv lv bs fl).flatten sz)) 1 6 (va_A (CBL G X ad c0 c1 c2 hS hn sv lv bs fl).flatten sz) := by
  refine vx_ofW (cc := cX7_deliver) (maxL := 1) (ret := (some .int)) (by decide) rfl ?_
  intro p9 e s m args below meth c9 s₁ B hml hxt hv
  obtain ⟨rfl, hsz, hP, hK, hDB, hE⟩ := hv
  have hx := B.exec
  have hb := B.bytes
  have hr := B.returns
  have hts : ∀ w9 ∈ tb, w9.before ([.ref (ad.1 3 0)] : List Value).toArray s = true := fun w9 h9 => atoms_spec (ws := (wA yX7_deliver cX7_deliver 1 (some .int))) B.pre w9 (List.mem_cons_of_mem _ h9)
  have hown : s.vm.findClass RX7 = some m.cls := findClass_of_methodNamed B.named
  have hlocks := B.notSynchronized
  subst hsz
  have hD := hDB.self (sz := s.heap.size)
  have hAB := A_sub hDB hE.1
  generalize hAe : va_A (CBL G X ad c0 c1 c2 hS hn sv lv bs fl).flatten s.heap.size = A at hD hAB ⊢
  have hA0 : ∀ q : Nat, s.heap.size ≤ q → A q := fun q h => by rw [← hAe]; exact Or.inr h
  have hS0 : va_S A s.heap s.heap [] := va_S.rf
  have hl := lv_entry ([.ref (ad.1 3 0)]) (n := 1) (Nat.le_of_ble_eq_true rfl)
  rw [lg_entry_eq]
  generalize (lg_sl ([.ref (ad.1 3 0)]) ++ List.replicate (1 - (lg_sl ([.ref (ad.1 3 0)])).length) Slot.unset).toArray = ls at hl ⊢
  have hl : lv_has ls 1 [(0, .ref (ad.1 3 0))] := hl
  refine lv_aload_n hx hb dX7_deliver_0 rfl (lv_at hl 0 rfl) ?_
  refine va_get (D := D) (ci := 8) (v := .ref (ad.1 0 0)) (C := RX7) (T := TX7) (N := 12) hx hb hts i_X7 hown hK (P_blk hP (i := 0) rfl) 0 rfl rfl 0 (by decide) (hts _ kw_228) (fun _ h9 => h9) rfl dX7_deliver_1 ?_
  have hPc : va_P D vwCl (cw G (ad.1 0) c0) s.heap := P_blk hP (i := 1) rfl
  refine va_csr (va_runV (As := []) (rest := []) ⟨hx, hb, hml, hown, hts⟩ (c_X1_handOverFault l D G B0 X (ad.1 0) c0) (cwV 0 hts gw_X7_128 rfl rfl rfl (by decide +kernel) ⟨Nat.le_of_ble_eq_true rfl, Nat.le_of_ble_eq_true rfl⟩) (pv_ce hK hPc (hE.at hS0 hAB)) rfl rfl hl.1 rfl (lv_room (Nat.le_of_ble_eq_true rfl)) dX7_deliver_4 ⟨Nat.le_of_ble_eq_true rfl, Nat.le_of_ble_eq_true rfl⟩).run (nm_e ?_)
  refine vx_callv (vx_runS (As := [.ref (X 0 (f_handOver c0))]) (rest := []) ⟨hx, hb, hml, hown, hts⟩ (c_X7_raise l hfl B0 X (f_handOver c0) (f_handOver_lt c0)) (va_cwS 1 hts gw_X7_64 rfl rfl rfl (by decide +kernel) ⟨Nat.le_of_ble_eq_true rfl, Nat.le_of_ble_eq_true rfl⟩) (ps_rz (hE.at hS0 hAB)) rfl rfl hl.1 rfl (lv_room (Nat.le_of_ble_eq_true rfl)) dX7_deliver_7 ⟨Nat.le_of_ble_eq_true rfl, Nat.le_of_ble_eq_true rfl⟩) hS0 (fun _ _ h => h.elim) (fun _ h => h.elim) (fun _ _ h => h.elim) ?_ ?_
  · intro E ce q9 u t9 H9 locs9 ht hvm hq_1 hBX hz1 hk1 hS9 hce hcv hcl
    have hPx : va_P D vwCl (CBL G X ad c0 c1 c2 hS hn sv lv bs fl).flatten H9 := P_keep hP hk1 (fun _ _ h => h.elim)
    have hDx : va_D A (CBL G X ad c0 c1 c2 hS hn sv lv bs fl).flatten := hD
    exact vx_out (fun x hx => (hxt x hx).elim) hlocks hce hcv hcl (fun t8 ht8 hv8 => ⟨(), hq_1, ⟨hBX, by rw [ht8]; exact hPx, hDx⟩, hS9.F ht8⟩) hS9.2.2 (Nat.le_of_ble_eq_true rfl) (Nat.le_of_ble_eq_true rfl)
  · intro u t9 H9 locs9 ht hvm hq_1 hB hz1 hk1 hS9
    have hP : va_P D vwCl (CBL G X ad c0 c1 c2 hS hn sv lv bs fl).flatten H9 := P_keep hP hk1 (fun _ _ h => h.elim)
    clear hS0
    obtain ⟨H, rfl⟩ : ∃ z, z = H9 := ⟨_, rfl⟩
    have hS0 := hS9
    refine lv_aload_n hx hb dX7_deliver_10 rfl (lv_at hl 0 rfl) ?_
    refine va_get (D := D) (ci := 8) (v := .ref (ad.1 3 1)) (C := RX7) (T := TX7) (N := 12) hx hb hts i_X7 hown hK (P_blk hP (i := 0) rfl) 0 rfl rfl 3 (by decide) (hts _ kw_231) (fun _ h9 => h9) rfl dX7_deliver_11 ?_
    refine lv_aload_n hx hb dX7_deliver_14 rfl (lv_at hl 0 rfl) ?_
    refine va_get (D := D) (ci := 8) (v := .ref (ad.1 0 0)) (C := RX7) (T := TX7) (N := 12) hx hb hts i_X7 hown hK (P_blk hP (i := 0) rfl) 0 rfl rfl 0 (by decide) (hts _ kw_228) (fun _ h9 => h9) rfl dX7_deliver_15 ?_
    have hb4 : (CBL G X ad c0 c1 c2 hS hn sv lv bs fl)[4]? = some (HBL G (ad.1 3 1) (ad.1 3 2) (hR ad.2.1) (nI hn) ad.2.1 hS).flatten := rfl
    have hb1 : (CBL G X ad c0 c1 c2 hS hn sv lv bs fl)[1]? = some (cw G (ad.1 0) c0) := rfl
    have hFc := freeB hD hb4 hS0 hA0
    refine va_callv (va_runV (As := [.ref (ad.1 0 0)]) (rest := []) ⟨hx, hb, hml, hown, hts⟩ (c_X3_push l D G (ad.1 3 1) (ad.1 3 2) ad.2.1 hS hn hh (ad.1 0) c0 H.size) (cwV 1 hts gw_X7_68 rfl rfl rfl (by decide +kernel) ⟨Nat.le_of_ble_eq_true rfl, Nat.le_of_ble_eq_true rfl⟩) (pv_hp hK (P_blk hP hb4) (D_blk hD hb4) (P_blk hP hb1) (D_blk hD hb1) (dj_blk hD hb4 hb1 (by decide))) rfl rfl hl.1 rfl (lv_room (Nat.le_of_ble_eq_true rfl)) dX7_deliver_18 ⟨Nat.le_of_ble_eq_true rfl, Nat.le_of_ble_eq_true rfl⟩) hS0 (fun q _ h => hFc q h) hFc (fun u t9 H1 locs ht hvm hw hB hz1 hk1 hS0 => ?_)
    have hB : va_P D vwCl (HBL G (ad.1 3 1) (ad.1 3 2) (hR (pA ad.2.1 hn)) (nI (pN hn)) (pA ad.2.1 hn) (pS hS hn c0)).flatten H1 := by have h9 := hB; rw [ht] at h9; exact h9
    have hD8 := D_rep2 (C1 := (HBL G (ad.1 3 1) (ad.1 3 2) (hR (pA ad.2.1 hn)) (nI (pN hn)) (pA ad.2.1 hn) (pS hS hn c0)).flatten) hP hD hb4 (pushD ((D_blk hD hb4).self (sz := H.size))) hFc
    have hP := P_rep hP hD hb4 hk1 hB
    have hD := hD8
    obtain ⟨H, rfl⟩ : ∃ z, z = H1 := ⟨_, rfl⟩
    have hP : va_P D vwCl (CBL G X (ad.1, pA ad.2.1 hn, ad.2.2) c0 c1 c2 (pS hS hn c0) (pN hn) sv lv bs fl).flatten H := hP
    have hD : va_D A (CBL G X (ad.1, pA ad.2.1 hn, ad.2.2) c0 c1 c2 (pS hS hn c0) (pN hn) sv lv bs fl).flatten := hD
    refine lv_aload_n hx hb dX7_deliver_21 rfl (lv_at hl 0 rfl) ?_
    refine va_get (D := D) (ci := 8) (v := .ref (ad.1 0 0)) (C := RX7) (T := TX7) (N := 12) hx hb hts i_X7 hown hK (P_blk hP (i := 0) rfl) 0 rfl rfl 0 (by decide) (hts _ kw_228) (fun _ h9 => h9) rfl dX7_deliver_22 ?_
    have hbi : (CBL G X (ad.1, pA ad.2.1 hn, ad.2.2) c0 c1 c2 (pS hS hn c0) (pN hn) sv lv bs fl)[1]? = some (cw G (ad.1 0) c0) := rfl
    have hFc := freeB hD hbi hS0 hA0
    refine va_calli (va_runV (As := []) (rest := []) ⟨hx, hb, hml, hown, hts⟩ (c_X1_handOver l D G (ad.1 0) c0 H.size) (cwV 0 hts gw_X7_132 rfl rfl rfl (by decide +kernel) ⟨Nat.le_of_ble_eq_true rfl, Nat.le_of_ble_eq_true rfl⟩) (pv_cm hK (P_blk hP hbi) (D_blk hD hbi)) rfl rfl hl.1 rfl (lv_room (Nat.le_of_ble_eq_true rfl)) dX7_deliver_25 ⟨Nat.le_of_ble_eq_true rfl, Nat.le_of_ble_eq_true rfl⟩) hS0 (fun q _ h => hFc q h) hFc (fun r u t9 H1 locs ht hvm hw_2 hB hz1 hk1 hS0 => ?_)
    have hB : va_P D vwCl (cw G (ad.1 0) ((m_handOver c0).2)) H1 := by have h9 := hB; rw [ht] at h9; exact h9
    have hP := P_rep hP hD hbi hk1 hB
    have hD := D_rep (C1 := cw G (ad.1 0) ((m_handOver c0).2)) hD hbi (cw_addr G _ _ _)
    obtain ⟨H, rfl⟩ : ∃ z, z = H1 := ⟨_, rfl⟩
    have hP : va_P D vwCl (CBL G X (ad.1, pA ad.2.1 hn, ad.2.2) ((m_handOver c0).2) c1 c2 (pS hS hn c0) (pN hn) sv lv bs fl).flatten H := hP
    have hD : va_D A (CBL G X (ad.1, pA ad.2.1 hn, ad.2.2) ((m_handOver c0).2) c1 c2 (pS hS hn c0) (pN hn) sv lv bs fl).flatten := hD
    rw [hw_2]
    refine W.widen (k := 1) (n := 6) (Nat.le_of_ble_eq_true rfl) (Nat.le_of_ble_eq_true rfl) ?_
    have hP9 : va_P D vwCl (CBL G X (ad.1, pA ad.2.1 hn, ad.2.2) ((m_handOver c0).2) c1 c2 (pS hS hn c0) (pN hn) sv lv bs fl).flatten H := hP
    have hD9 : va_D A (CBL G X (ad.1, pA ad.2.1 hn, ad.2.2) ((m_handOver c0).2) c1 c2 (pS hS hn c0) (pN hn) sv lv bs fl).flatten := hD
    exact vx_ret (W.iret (v := (m_handOver c0).1) hx hb hr (fun t ht hW => ⟨⟨(m_handOver c0).1, (), rfl, ⟨hq_1, rfl⟩, by rw [ht]; exact hP9, hD9⟩, hS0.F ht⟩) hS0.2.2 dX7_deliver_28)
