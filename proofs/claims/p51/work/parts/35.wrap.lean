theorem rg_x_bag (c0 : CS) (b : Int32) : x_bag c0 b = 0 ∨ x_bag c0 b = 3 := by unfold x_bag; split <;> omega
theorem rg_x_item (c0 : CS) (b : Int32) : x_item c0 b = 0 ∨ x_item c0 b = 2 := by unfold x_item; split <;> omega
theorem rg_x_packed (c0 : CS) (b : Int32) : x_packed c0 b = 0 ∨ x_packed c0 b = 2 := by unfold x_packed; split <;> omega
theorem rg_x_layer (c0 : CS) (b w : Int32) : x_layer c0 b w = 0 ∨ x_layer c0 b w = 3 := by
  unfold x_layer
  have := rg_x_bag c0 b
  repeat' split
  all_goals omega
theorem rg_x_rank (c0 : CS) (i : Int32) : x_rank c0 i = 0 ∨ x_rank c0 i = 3 := by unfold x_rank; split <;> omega
theorem rg_x_place (c0 : CS) (b w i : Int32) : x_place c0 b w i = 0 ∨ x_place c0 b w i = 2 ∨ x_place c0 b w i = 3 := by
  unfold x_place
  have := rg_x_layer c0 b w
  repeat' split
  all_goals omega
theorem rg_x_next (c0 : CS) : x_next c0 = 0 ∨ x_next c0 = 2 := by unfold x_next; split <;> omega
theorem rg_x_emp (c0 : CS) : x_emp c0 = 0 ∨ x_emp c0 = 2 := by unfold x_emp; split <;> omega
theorem rg_x_reason (fl : Nat → Int32) : x_reason fl = 0 ∨ x_reason fl = 2 := by unfold x_reason; split <;> omega
theorem rg_x_errp (fl : Nat → Int32) : x_errp fl = 0 ∨ x_errp fl = 2 := by unfold x_errp; split <;> omega
theorem rg_x_fail (fl : Nat → Int32) : x_fail fl = 0 ∨ x_fail fl = 2 := by unfold x_fail; split <;> omega
theorem rg_x_canPack (c0 : CS) (i b : Int32) : x_canPack c0 i b = 0 ∨ x_canPack c0 i b = 2 ∨ x_canPack c0 i b = 3 := by
  unfold x_canPack
  have := rg_x_bag c0 b
  have := rg_x_item c0 i
  repeat' split
  all_goals omega
theorem rg_x_share (c0 : CS) : x_share c0 = 0 ∨ x_share c0 = 6 := by unfold x_share; split <;> omega
theorem rg_f_open (c0 : CS) (b : Int32) : f_open c0 b = 0 ∨ f_open c0 b = 1 ∨ f_open c0 b = 4 := by
  unfold f_open
  repeat' split
  all_goals omega
theorem rg_f_takeIn (c0 : CS) (z w v : Int32) : f_takeIn c0 z w v = 0 ∨ f_takeIn c0 z w v = 1 ∨ f_takeIn c0 z w v = 4 := by
  unfold f_takeIn
  repeat' split
  all_goals omega
theorem rg_f_drop (c0 : CS) (b : Int32) : f_drop c0 b = 0 ∨ f_drop c0 b = 2 ∨ f_drop c0 b = 4 := by
  unfold f_drop
  repeat' split
  all_goals omega
theorem rg_f_load (c0 : CS) (i b : Int32) : f_load c0 i b = 0 ∨ f_load c0 i b = 2 ∨ f_load c0 i b = 3 ∨ f_load c0 i b = 4 ∨ f_load c0 i b = 5 := by
  unfold f_load
  repeat' split
  all_goals omega
theorem rg_f_unload (c0 : CS) (b : Int32) : f_unload c0 b = 0 ∨ f_unload c0 b = 2 ∨ f_unload c0 b = 4 := by
  unfold f_unload
  repeat' split
  all_goals omega
theorem rg_f_fill (c0 : CS) (b : Int32) : f_fill c0 b = 0 ∨ f_fill c0 b = 3 := by unfold f_fill; split <;> omega
theorem rg_f_handOver (c0 : CS) : f_handOver c0 = 0 ∨ f_handOver c0 = 4 := by unfold f_handOver; split <;> omega
theorem rg_x_type (sv : SV) (ch : Int32) : x_type sv ch = 0 ∨ x_type sv ch = 1 ∨ x_type sv ch = 4 := by
  unfold x_type
  repeat' split
  all_goals omega
theorem rg_x_exec (c0 : CS) (fl : Nat → Int32) (sv : SV) : x_exec c0 fl sv = 0 ∨ x_exec c0 fl sv = 1 ∨ x_exec c0 fl sv = 4 := by
  unfold x_exec
  repeat' split
  all_goals omega
theorem rg_x_undo (hn : Nat) : x_undo hn = 0 ∨ x_undo hn = 4 := by unfold x_undo; split <;> omega
theorem rg_x_restore (fl : Nat → Int32) : x_restore fl = 0 ∨ x_restore fl = 4 := by unfold x_restore; split <;> omega
theorem rg_x_lab (lab : List Int32) (i : Int32) : x_lab lab i = 0 ∨ x_lab lab i = 3 := by
  unfold x_lab
  repeat' split
  all_goals omega
theorem x_lab_eq {lv : LV} {lab : List Int32} (h : LVok lv lab) (i : Int32) : x_labelAt lv i = x_lab lab i := by unfold x_labelAt x_lab; rw [h.1]
theorem lab_at {lv : LV} {lab : List Int32} {i : Int32} (h : LVok lv lab) (hx : x_lab lab i = 0) : lv.2.1 i.toNatClampNeg &&& 255 = lab.getD i.toNatClampNeg 0 &&& 255 := by
  have hlt : i.toNatClampNeg < lab.length := by
    unfold x_lab at hx
    split at hx
    · exact absurd hx (by decide)
    · next h1 =>
      split at hx
      · next h2 =>
        obtain ⟨j, hj, rfl⟩ := nI_of h1
        have := h.2.2.2.2.2
        rw [nI_clamp hj]
        exact (nI_ltI hj (by omega)).mp h2
      · exact absurd hx (by decide)
  rw [h.2.2.2.2.1 _ hlt]
theorem LW_t {t : State} {H : Heap} {D : va_G} {G : GA} {X : Nat → Nat → Nat} {A : Nat → Prop} {h : Nat} {c0 c2 : CS} {hS : Nat → CS} {hn : Nat} {sv : SV} {lab : List Int32} {fl : Nat → Int32} (ht : t.heap = H) (hW : LW D G X A h c0 c2 hS hn sv lab fl H) : LW D G X A h c0 c2 hS hn sv lab fl t.heap := by rw [ht]; exact hW
def v_typ (sv : SV) (ch : Int32) : SV := (upd sv.1 sv.2.2.1 ch, sv.2.1, sv.2.2.1 + 1, sv.2.2.2.1, sv.2.2.2.2.1, sv.2.2.2.2.2.1, sv.2.2.2.2.2.2)
theorem gw_L_7 : GoodIn tb (wsV RL 7 RX7 yX7_addBag (wA yX7_addBag cX7_addBag 2 (some .int))) := gV kw_330 kw_331 kw_332 kw_24 kw_333
theorem gw_L_17 : GoodIn tb (wsV RL 17 RX7 yX7_addItem (wA yX7_addItem cX7_addItem 5 (some .int))) := gV kw_507 kw_508 kw_509 kw_24 kw_510
theorem gw_L_21 : GoodIn tb (wsV RL 21 RX7 yX7_removeItem (wA yX7_removeItem cX7_removeItem 2 (some .int))) := gV kw_528 kw_529 kw_530 kw_24 kw_531
theorem gw_L_26 : GoodIn tb (wsV RL 26 RX7 yX7_pack (wA yX7_pack cX7_pack 4 (some .int))) := gV kw_926 kw_927 kw_928 kw_24 kw_929
theorem gw_L_34 : GoodIn tb (wsV RL 34 RX7 yX7_canPack (wA yX7_canPack cX7_canPack 3 (some .boolean))) := gV kw_1374 kw_1375 kw_1376 kw_24 kw_1377
theorem gw_L_38 : GoodIn tb (wsV RL 38 RX7 yX7_unpack (wA yX7_unpack cX7_unpack 2 (some .int))) := gV kw_549 kw_550 kw_551 kw_24 kw_552
theorem gw_L_41 : GoodIn tb (wsV RL 41 RX7 yX7_autoPack (wA yX7_autoPack cX7_autoPack 2 (some .int))) := gV kw_600 kw_601 kw_602 kw_24 kw_603
theorem gw_L_44 : GoodIn tb (wsV RL 44 RX7 yX7_deliver (wA yX7_deliver cX7_deliver 1 (some .int))) := gV kw_672 kw_673 kw_674 kw_24 kw_675
theorem gw_L_48 : GoodIn tb (wsV RL 48 RX7 yX7_nextStop (wA yX7_nextStop cX7_nextStop 1 (some .int))) := gV kw_991 kw_992 kw_993 kw_24 kw_994
theorem gw_L_51 : GoodIn tb (wsV RL 51 RX7 yX7_sizeOf (wA yX7_sizeOf cX7_sizeOf 2 (some .int))) := gV kw_1315 kw_1316 kw_1317 kw_24 kw_1318
theorem gw_L_54 : GoodIn tb (wsV RL 54 RX7 yX7_weightOf (wA yX7_weightOf cX7_weightOf 2 (some .int))) := gV kw_1322 kw_1323 kw_1324 kw_24 kw_1325
theorem gw_L_57 : GoodIn tb (wsV RL 57 RX7 yX7_stopOf (wA yX7_stopOf cX7_stopOf 2 (some .int))) := gV kw_1329 kw_1330 kw_1331 kw_24 kw_1332
theorem gw_L_60 : GoodIn tb (wsV RL 60 RX7 yX7_isFragile (wA yX7_isFragile cX7_isFragile 2 (some .boolean))) := gV kw_1336 kw_1337 kw_1338 kw_24 kw_1339
theorem gw_L_64 : GoodIn tb (wsV RL 64 RX7 yX7_isPacked (wA yX7_isPacked cX7_isPacked 2 (some .boolean))) := gV kw_699 kw_700 kw_701 kw_24 kw_702
theorem gw_L_67 : GoodIn tb (wsV RL 67 RX7 yX7_bagOf (wA yX7_bagOf cX7_bagOf 2 (some .int))) := gV kw_1343 kw_1344 kw_1345 kw_24 kw_1346
theorem gw_L_70 : GoodIn tb (wsV RL 70 RX7 yX7_layerOf (wA yX7_layerOf cX7_layerOf 2 (some .int))) := gV kw_1381 kw_1382 kw_1383 kw_24 kw_1384
theorem gw_L_73 : GoodIn tb (wsV RL 73 RX7 yX7_itemAtRank (wA yX7_itemAtRank cX7_itemAtRank 3 (some .int))) := gV kw_1306 kw_1307 kw_1308 kw_24 kw_1309
theorem gw_L_76 : GoodIn tb (wsV RL 76 RX7 yX7_limitOf (wA yX7_limitOf cX7_limitOf 2 (some .int))) := gV kw_1001 kw_1002 kw_1003 kw_24 kw_1004
theorem gw_L_79 : GoodIn tb (wsV RL 79 RX7 yX7_weightIn (wA yX7_weightIn cX7_weightIn 2 (some .int))) := gV kw_711 kw_712 kw_713 kw_24 kw_714
theorem gw_L_82 : GoodIn tb (wsV RL 82 RX7 yX7_weightInByLayers (wA yX7_weightInByLayers cX7_weightInByLayers 2 (some .int))) := gV kw_1388 kw_1389 kw_1390 kw_24 kw_1391
theorem gw_L_85 : GoodIn tb (wsV RL 85 RX7 yX7_weightLeft (wA yX7_weightLeft cX7_weightLeft 2 (some .int))) := gV kw_1403 kw_1404 kw_1405 kw_24 kw_1406
theorem gw_L_88 : GoodIn tb (wsV RL 88 RX7 yX7_layerCount (wA yX7_layerCount cX7_layerCount 2 (some .int))) := gV kw_724 kw_725 kw_726 kw_24 kw_727
theorem gw_L_104 : GoodIn tb (wsV RL 104 RX7 yX7_bestLoad (wA yX7_bestLoad cX7_bestLoad 2 (some .int))) := gV kw_1009 kw_1010 kw_1011 kw_24 kw_1012
theorem gw_L_91 : GoodIn tb (wsV RL 91 RX7 yX7_itemsInLayer (wA yX7_itemsInLayer cX7_itemsInLayer 3 (some .int))) := gV kw_1411 kw_1412 kw_1413 kw_24 kw_1414
theorem gw_L_98 : GoodIn tb (wsV RL 98 RX7 yX7_sizeUsed (wA yX7_sizeUsed cX7_sizeUsed 3 (some .int))) := gV kw_1433 kw_1434 kw_1435 kw_24 kw_1436
theorem gw_L_101 : GoodIn tb (wsV RL 101 RX7 yX7_loadOf (wA yX7_loadOf cX7_loadOf 3 (some .int))) := gV kw_1441 kw_1442 kw_1443 kw_24 kw_1444
theorem gw_L_94 : GoodIn tb (wsV RL 94 RX7 yX7_itemAt (wA yX7_itemAt cX7_itemAt 5 (some .int))) := gV kw_1424 kw_1425 kw_1426 kw_24 kw_1427
theorem gw_L_107 : GoodIn tb (wsV RL 107 RX7 yX7_bestLoadByTable (wA yX7_bestLoadByTable cX7_bestLoadByTable 2 (some .int))) := gV kw_1449 kw_1450 kw_1451 kw_24 kw_1452
theorem gw_L_110 : GoodIn tb (wsV RL 110 RX7 yX7_emptiestBag (wA yX7_emptiestBag cX7_emptiestBag 1 (some .int))) := gV kw_980 kw_981 kw_982 kw_24 kw_983
theorem gw_L_113 : GoodIn tb (wsV RL 113 RX7 yX7_shareUsed (wA yX7_shareUsed cX7_shareUsed 2 (some .double))) := gV kw_951 kw_952 kw_953 kw_24 kw_954
theorem gw_L_121 : GoodIn tb (wsV RL 121 RX7 yX7_refusalReason (wA yX7_refusalReason cX7_refusalReason 1 (some .int))) := gV kw_1471 kw_1472 kw_1473 kw_24 kw_1474
theorem gw_L_124 : GoodIn tb (wsV RL 124 RX7 yX7_refusedItem (wA yX7_refusedItem cX7_refusedItem 1 (some .int))) := gV kw_1463 kw_1464 kw_1465 kw_24 kw_1466
theorem gw_L_127 : GoodIn tb (wsV RL 127 RX7 yX7_writeLabel (wA yX7_writeLabel cX7_writeLabel 2 (some .int))) := gV kw_1023 kw_1024 kw_1025 kw_24 kw_1026
theorem gw_L_130 : GoodIn tb (wsV RL 130 RX7 yX7_labelAt (wA yX7_labelAt cX7_labelAt 2 (some .char))) := gV kw_1288 kw_1289 kw_1290 kw_24 kw_1291
theorem gw_L_134 : GoodIn tb (wsV RL 134 RX7 yX7_type (wA yX7_type cX7_type 2 (some .int))) := gV kw_732 kw_733 kw_734 kw_24 kw_735
theorem gw_L_138 : GoodIn tb (wsV RL 138 RX7 yX7_execute (wA yX7_execute cX7_execute 3 (some .int))) := gV kw_750 kw_751 kw_752 kw_24 kw_753
theorem gw_L_141 : GoodIn tb (wsV RL 141 RX7 yX7_errorPosition (wA yX7_errorPosition cX7_errorPosition 1 (some .int))) := gV kw_887 kw_888 kw_889 kw_24 kw_890
theorem gw_L_144 : GoodIn tb (wsV RL 144 RX7 yX7_failedCommand (wA yX7_failedCommand cX7_failedCommand 1 (some .int))) := gV kw_1480 kw_1481 kw_1482 kw_24 kw_1483
theorem gw_L_147 : GoodIn tb (wsV RL 147 RX7 yX7_undo (wA yX7_undo cX7_undo 1 (some .int))) := gV kw_895 kw_896 kw_897 kw_24 kw_898
theorem gw_L_150 : GoodIn tb (wsV RL 150 RX7 yX7_restore (wA yX7_restore cX7_restore 1 (some .int))) := gV kw_907 kw_908 kw_909 kw_24 kw_910
set_option maxRecDepth 100000 in
set_option maxHeartbeats 4000000 in
theorem cl_L_addBag (l : Launch) (hfl : l.stackTraces = false) (D : va_G) (G : GA) (B0 : Nat) (X : Nat → Nat → Nat) (A : Nat → Prop) (h : Nat) (c0 c2 : CS) (hS : Nat → CS) (hn : Nat) (sv : SV) (lab : List Int32) (fl : Nat → Int32) (b : Int32) (hh : hn ≤ 8) (hBG : BG c0) (sz : Nat) : Met l yL_addBag (wH yL_addBag cL_addBag 3 (some .int) [(0, 5, 6, 13), (0, 5, 11, 15)]) ({ frames := 8, cells := 1, slots := 6, locals := 131 } : Room) (va_Pc [.ref h, .int b] (LWp D G B0 X A h c0 c2 hS hn sv lab fl sz)) (va_Qi (fun (r : Int32) (_ : Unit) => r = sel (f_open c0 b) ((m_open c0 b).1) (if f_open c0 b = 1 then (-1001) else (-1002))) (fun _ t9 => LW D G X A h (sel (f_open c0 b) ((m_open c0 b).2) c0) c2 (sel (f_open c0 b) (pS hS hn c0) hS) (sel (f_open c0 b) (pN hn) hn) sv lab fl t9.heap) A) 1 6 A := by
  refine bx_ofWH (cc := cL_addBag) (maxL := 3) (ret := (some .int)) (hh := [(0, 5, 6, 13), (0, 5, 11, 15)]) (by decide) rfl ?_
  intro p9 e s m args below meth c9 s₁ B hml hv
  obtain ⟨rfl, hsz, ⟨ad, c1, lv, bs, rfl, hLV, hP, hD⟩, hK, hE, hA0, hAB⟩ := hv
  subst hsz
  have hx := B.exec
  have hb := B.bytes
  have hr := B.returns
  have hts : ∀ w9 ∈ tb, w9.before ([.ref (ad.1 3 0), .int b] : List Value).toArray s = true := fun w9 h9 => atoms_spec (ws := (wH yL_addBag cL_addBag 3 (some .int) [(0, 5, 6, 13), (0, 5, 11, 15)])) B.pre w9 (List.mem_cons_of_mem _ h9)
  have hown : s.vm.findClass RL = some m.cls := findClass_of_methodNamed B.named
  have hlocks := B.notSynchronized
  have hxt := vx_table (x := yL_addBag) B (hts _ kw_327)
  have hS0 : va_S A s.heap s.heap [] := va_S.rf
  have hFc := freeC hD hS0 hA0
  have hl := lv_entry ([.ref (ad.1 3 0), .int b]) (n := 3) (Nat.le_of_ble_eq_true rfl)
  rw [lg_entry_eq]
  generalize (lg_sl ([.ref (ad.1 3 0), .int b]) ++ List.replicate (3 - (lg_sl ([.ref (ad.1 3 0), .int b])).length) Slot.unset).toArray = ls at hl ⊢
  have hl : lv_has ls 3 [(0, .ref (ad.1 3 0)), (1, .int b)] := hl
  refine lv_aload_n hx hb dL_addBag_0 rfl (lv_at hl 0 rfl) ?_
  refine lv_iload_n hx hb dL_addBag_1 rfl (lv_at hl 1 rfl) ?_
  refine vx_calli (vx_runV (As := [.int b]) (rest := []) ⟨hx, hb, hml, hown, hts⟩ (c_X7_addBag l hfl D G B0 X ad c0 c1 c2 hS hn sv lv bs fl b hh hBG.1 hBG.2 s.heap.size) (cwV 1 hts gw_L_7 rfl rfl rfl (by decide +kernel) ⟨Nat.le_of_ble_eq_true rfl, Nat.le_of_ble_eq_true rfl⟩) (pv_cb hK hP hD hAB hE) rfl rfl hl.1 rfl (lv_room (Nat.le_of_ble_eq_true rfl)) dL_addBag_2 ⟨Nat.le_of_ble_eq_true rfl, Nat.le_of_ble_eq_true rfl⟩) hS0 (fun q _ h => hFc q h) hFc (fun q _ h => hFc q h) ?_ ?_
  · intro E ce q9 u t9 H9 locs9 ht hvm hq hBX hz1 hk1 hS9 hce hcv hcl
    obtain ⟨hBX, hPx, hDx⟩ := hBX
    rw [ht] at hPx
    have hDx := hDx.weaken (fun _ _ _ h9 => hFc _ h9)
    have hW9 : LW D G X A (ad.1 3 0) (sel (f_open c0 b) ((m_open c0 b).2) c0) c2 (sel (f_open c0 b) (pS hS hn c0) hS) (sel (f_open c0 b) (pN hn) hn) sv lab fl H9 := by
      simp only [sel_n hq]
      refine ⟨_, _, _, _, ?_, ?_, hPx, hDx⟩
      · exact rfl
      · exact hLV
    rcases rg_f_open c0 b with h0 | hk | hk
    · exact absurd h0 hq
    · skip
      obtain rfl : E = "java/lang/IllegalArgumentException" := hBX.trans (by rw [hk]; rfl)
      refine vx_catch (own := RL) (name := "java/lang/IllegalArgumentException") hown [] ⟨0, 5, 6, 13⟩ [⟨0, 5, 11, 15⟩] hxt (fun _ h => absurd h List.not_mem_nil) (by decide) (by decide) (hts _ kw_328) (va_Nw.use rfl (nw_350 hE.nw)) hce hcv hcl ?_
      have hS0 := hS9
      refine lv_astore_n (x := q9) (lv' := [(2, .ref q9), (0, .ref (ad.1 3 0)), (1, .int b)]) hx hb dL_addBag_6 rfl hl (by decide) rfl (fun ls hl => ?_)
      refine lv_sipush (v := -1001) hx hb dL_addBag_7 (by decide) ?_
      refine W.widen (k := 1) (n := 6) (Nat.le_of_ble_eq_true rfl) (Nat.le_of_ble_eq_true rfl) ?_
      exact W.iret (v := (-1001)) hx hb hr (fun t ht hWm => ⟨⟨_, (), rfl, by first | (rw [sel_n hq]; done) | (rw [sel_n hq]; rfl) | (rw [sel_n hq, hk]; rfl), LW_t ht hW9⟩, hS0.F ht⟩) hS0.2.2 dL_addBag_10
    · skip
      obtain rfl : E = "java/lang/IllegalStateException" := hBX.trans (by rw [hk]; rfl)
      refine vx_catch (own := RL) (name := "java/lang/IllegalStateException") hown [⟨0, 5, 6, 13⟩] ⟨0, 5, 11, 15⟩ [] hxt (List.forall_mem_cons.mpr ⟨Or.inr ⟨by decide, "java/lang/IllegalArgumentException", hts _ kw_328, hE.n.1⟩, (fun _ h => absurd h List.not_mem_nil)⟩) (by decide) (by decide) (hts _ kw_329) (va_Nw.use rfl (nw_459 hE.nw)) hce hcv hcl ?_
      have hS0 := hS9
      refine lv_astore_n (x := q9) (lv' := [(2, .ref q9), (0, .ref (ad.1 3 0)), (1, .int b)]) hx hb dL_addBag_11 rfl hl (by decide) rfl (fun ls hl => ?_)
      refine lv_sipush (v := -1002) hx hb dL_addBag_12 (by decide) ?_
      refine W.widen (k := 1) (n := 6) (Nat.le_of_ble_eq_true rfl) (Nat.le_of_ble_eq_true rfl) ?_
      exact W.iret (v := (-1002)) hx hb hr (fun t ht hWm => ⟨⟨_, (), rfl, by first | (rw [sel_n hq]; done) | (rw [sel_n hq]; rfl) | (rw [sel_n hq, hk]; rfl), LW_t ht hW9⟩, hS0.F ht⟩) hS0.2.2 dL_addBag_15
  · intro r u t9 H9 locs9 ht hvm hq hB hz1 hk1 hS9
    obtain ⟨hq, hr9⟩ := hq
    obtain ⟨hPx, hDx⟩ := hB
    rw [ht] at hPx
    have hDx := hDx.weaken (fun _ _ _ h9 => hFc _ h9)
    have hW9 : LW D G X A (ad.1 3 0) (sel (f_open c0 b) ((m_open c0 b).2) c0) c2 (sel (f_open c0 b) (pS hS hn c0) hS) (sel (f_open c0 b) (pN hn) hn) sv lab fl H9 := by
      simp only [sel_0 hq]
      refine ⟨_, _, _, _, ?_, ?_, hPx, hDx⟩
      · exact rfl
      · exact hLV
    rw [hr9]
    have hS0 := hS9
    refine W.widen (k := 1) (n := 6) (Nat.le_of_ble_eq_true rfl) (Nat.le_of_ble_eq_true rfl) ?_
    exact W.iret (v := (m_open c0 b).1) hx hb hr (fun t ht hWm => ⟨⟨_, (), rfl, by first | (rw [sel_0 hq]; done) | (rw [sel_0 hq]; rfl), LW_t ht hW9⟩, hS0.F ht⟩) hS0.2.2 dL_addBag_5
set_option maxRecDepth 100000 in
set_option maxHeartbeats 4000000 in
theorem cl_L_addItem (l : Launch) (hfl : l.stackTraces = false) (D : va_G) (G : GA) (B0 : Nat) (X : Nat → Nat → Nat) (A : Nat → Prop) (h : Nat) (c0 c2 : CS) (hS : Nat → CS) (hn : Nat) (sv : SV) (lab : List Int32) (fl : Nat → Int32) (z : Int32) (w : Int32) (v : Int32) (b : Bool) (hh : hn ≤ 8) (sz : Nat) : Met l yL_addItem (wH yL_addItem cL_addItem 6 (some .int) [(0, 9, 10, 13), (0, 9, 16, 15)]) ({ frames := 8, cells := 1, slots := 6, locals := 134 } : Room) (va_Pc [.ref h, .int z, .int w, .int v, .int (bi b)] (LWp D G B0 X A h c0 c2 hS hn sv lab fl sz)) (va_Qi (fun (r : Int32) (_ : Unit) => r = sel (f_takeIn c0 z w v) ((m_takeIn c0 z w v b).1) (if f_takeIn c0 z w v = 1 then (-1001) else (-1002))) (fun _ t9 => LW D G X A h (sel (f_takeIn c0 z w v) ((m_takeIn c0 z w v b).2) c0) c2 (sel (f_takeIn c0 z w v) (pS hS hn c0) hS) (sel (f_takeIn c0 z w v) (pN hn) hn) sv lab fl t9.heap) A) 1 6 A := by
  refine bx_ofWH (cc := cL_addItem) (maxL := 6) (ret := (some .int)) (hh := [(0, 9, 10, 13), (0, 9, 16, 15)]) (by decide) rfl ?_
  intro p9 e s m args below meth c9 s₁ B hml hv
  obtain ⟨rfl, hsz, ⟨ad, c1, lv, bs, rfl, hLV, hP, hD⟩, hK, hE, hA0, hAB⟩ := hv
  subst hsz
  have hx := B.exec
  have hb := B.bytes
  have hr := B.returns
  have hts : ∀ w9 ∈ tb, w9.before ([.ref (ad.1 3 0), .int z, .int w, .int v, .int (bi b)] : List Value).toArray s = true := fun w9 h9 => atoms_spec (ws := (wH yL_addItem cL_addItem 6 (some .int) [(0, 9, 10, 13), (0, 9, 16, 15)])) B.pre w9 (List.mem_cons_of_mem _ h9)
  have hown : s.vm.findClass RL = some m.cls := findClass_of_methodNamed B.named
  have hlocks := B.notSynchronized
  have hxt := vx_table (x := yL_addItem) B (hts _ kw_506)
  have hS0 : va_S A s.heap s.heap [] := va_S.rf
  have hFc := freeC hD hS0 hA0
  have hl := lv_entry ([.ref (ad.1 3 0), .int z, .int w, .int v, .int (bi b)]) (n := 6) (Nat.le_of_ble_eq_true rfl)
  rw [lg_entry_eq]
  generalize (lg_sl ([.ref (ad.1 3 0), .int z, .int w, .int v, .int (bi b)]) ++ List.replicate (6 - (lg_sl ([.ref (ad.1 3 0), .int z, .int w, .int v, .int (bi b)])).length) Slot.unset).toArray = ls at hl ⊢
  have hl : lv_has ls 6 [(0, .ref (ad.1 3 0)), (1, .int z), (2, .int w), (3, .int v), (4, .int (bi b))] := hl
  refine lv_aload_n hx hb dL_addItem_0 rfl (lv_at hl 0 rfl) ?_
  refine lv_iload_n hx hb dL_addItem_1 rfl (lv_at hl 1 rfl) ?_
  refine lv_iload_n hx hb dL_addItem_2 rfl (lv_at hl 2 rfl) ?_
  refine lv_iload_n hx hb dL_addItem_3 rfl (lv_at hl 3 rfl) ?_
  refine lv_iload hx hb dL_addItem_4 (lv_at hl 4 rfl) ?_
  refine vx_calli (vx_runV (As := [.int z, .int w, .int v, .int (bi b)]) (rest := []) ⟨hx, hb, hml, hown, hts⟩ (c_X7_addItem l hfl D G B0 X ad c0 c1 c2 hS hn sv lv bs fl z w v b hh (fun h9 => fr_takeIn h9) s.heap.size) (cwV 4 hts gw_L_17 rfl rfl rfl (by decide +kernel) ⟨Nat.le_of_ble_eq_true rfl, Nat.le_of_ble_eq_true rfl⟩) (pv_cb hK hP hD hAB hE) rfl rfl hl.1 rfl (lv_room (Nat.le_of_ble_eq_true rfl)) dL_addItem_6 ⟨Nat.le_of_ble_eq_true rfl, Nat.le_of_ble_eq_true rfl⟩) hS0 (fun q _ h => hFc q h) hFc (fun q _ h => hFc q h) ?_ ?_
  · intro E ce q9 u t9 H9 locs9 ht hvm hq hBX hz1 hk1 hS9 hce hcv hcl
    obtain ⟨hBX, hPx, hDx⟩ := hBX
    rw [ht] at hPx
    have hDx := hDx.weaken (fun _ _ _ h9 => hFc _ h9)
    have hW9 : LW D G X A (ad.1 3 0) (sel (f_takeIn c0 z w v) ((m_takeIn c0 z w v b).2) c0) c2 (sel (f_takeIn c0 z w v) (pS hS hn c0) hS) (sel (f_takeIn c0 z w v) (pN hn) hn) sv lab fl H9 := by
      simp only [sel_n hq]
      refine ⟨_, _, _, _, ?_, ?_, hPx, hDx⟩
      · exact rfl
      · exact hLV
    rcases rg_f_takeIn c0 z w v with h0 | hk | hk
    · exact absurd h0 hq
    · skip
      obtain rfl : E = "java/lang/IllegalArgumentException" := hBX.trans (by rw [hk]; rfl)
      refine vx_catch (own := RL) (name := "java/lang/IllegalArgumentException") hown [] ⟨0, 9, 10, 13⟩ [⟨0, 9, 16, 15⟩] hxt (fun _ h => absurd h List.not_mem_nil) (by decide) (by decide) (hts _ kw_328) (va_Nw.use rfl (nw_350 hE.nw)) hce hcv hcl ?_
      have hS0 := hS9
      refine lv_astore (x := q9) (lv' := [(5, .ref q9), (0, .ref (ad.1 3 0)), (1, .int z), (2, .int w), (3, .int v), (4, .int (bi b))]) hx hb dL_addItem_10 hl (by decide) rfl (fun ls hl => ?_)
      refine lv_sipush (v := -1001) hx hb dL_addItem_12 (by decide) ?_
      refine W.widen (k := 1) (n := 6) (Nat.le_of_ble_eq_true rfl) (Nat.le_of_ble_eq_true rfl) ?_
      exact W.iret (v := (-1001)) hx hb hr (fun t ht hWm => ⟨⟨_, (), rfl, by first | (rw [sel_n hq]; done) | (rw [sel_n hq]; rfl) | (rw [sel_n hq, hk]; rfl), LW_t ht hW9⟩, hS0.F ht⟩) hS0.2.2 dL_addItem_15
    · skip
      obtain rfl : E = "java/lang/IllegalStateException" := hBX.trans (by rw [hk]; rfl)
      refine vx_catch (own := RL) (name := "java/lang/IllegalStateException") hown [⟨0, 9, 10, 13⟩] ⟨0, 9, 16, 15⟩ [] hxt (List.forall_mem_cons.mpr ⟨Or.inr ⟨by decide, "java/lang/IllegalArgumentException", hts _ kw_328, hE.n.1⟩, (fun _ h => absurd h List.not_mem_nil)⟩) (by decide) (by decide) (hts _ kw_329) (va_Nw.use rfl (nw_459 hE.nw)) hce hcv hcl ?_
      have hS0 := hS9
      refine lv_astore (x := q9) (lv' := [(5, .ref q9), (0, .ref (ad.1 3 0)), (1, .int z), (2, .int w), (3, .int v), (4, .int (bi b))]) hx hb dL_addItem_16 hl (by decide) rfl (fun ls hl => ?_)
      refine lv_sipush (v := -1002) hx hb dL_addItem_18 (by decide) ?_
      refine W.widen (k := 1) (n := 6) (Nat.le_of_ble_eq_true rfl) (Nat.le_of_ble_eq_true rfl) ?_
      exact W.iret (v := (-1002)) hx hb hr (fun t ht hWm => ⟨⟨_, (), rfl, by first | (rw [sel_n hq]; done) | (rw [sel_n hq]; rfl) | (rw [sel_n hq, hk]; rfl), LW_t ht hW9⟩, hS0.F ht⟩) hS0.2.2 dL_addItem_21
  · intro r u t9 H9 locs9 ht hvm hq hB hz1 hk1 hS9
    obtain ⟨hq, hr9⟩ := hq
    obtain ⟨hPx, hDx⟩ := hB
    rw [ht] at hPx
    have hDx := hDx.weaken (fun _ _ _ h9 => hFc _ h9)
    have hW9 : LW D G X A (ad.1 3 0) (sel (f_takeIn c0 z w v) ((m_takeIn c0 z w v b).2) c0) c2 (sel (f_takeIn c0 z w v) (pS hS hn c0) hS) (sel (f_takeIn c0 z w v) (pN hn) hn) sv lab fl H9 := by
      simp only [sel_0 hq]
      refine ⟨_, _, _, _, ?_, ?_, hPx, hDx⟩
      · exact rfl
      · exact hLV
    rw [hr9]
    have hS0 := hS9
    refine W.widen (k := 1) (n := 6) (Nat.le_of_ble_eq_true rfl) (Nat.le_of_ble_eq_true rfl) ?_
    exact W.iret (v := (m_takeIn c0 z w v b).1) hx hb hr (fun t ht hWm => ⟨⟨_, (), rfl, by first | (rw [sel_0 hq]; done) | (rw [sel_0 hq]; rfl), LW_t ht hW9⟩, hS0.F ht⟩) hS0.2.2 dL_addItem_9
set_option maxRecDepth 100000 in
set_option maxHeartbeats 4000000 in
theorem cl_L_removeItem (l : Launch) (hfl : l.stackTraces = false) (D : va_G) (G : GA) (B0 : Nat) (X : Nat → Nat → Nat) (A : Nat → Prop) (h : Nat) (c0 c2 : CS) (hS : Nat → CS) (hn : Nat) (sv : SV) (lab : List Int32) (fl : Nat → Int32) (b : Int32) (hh : hn ≤ 8) (sz : Nat) : Met l yL_removeItem (wH yL_removeItem cL_removeItem 3 (some .int) [(0, 5, 6, 24), (0, 5, 11, 15)]) ({ frames := 8, cells := 1, slots := 6, locals := 131 } : Room) (va_Pc [.ref h, .int b] (LWp D G B0 X A h c0 c2 hS hn sv lab fl sz)) (va_Qi (fun (r : Int32) (_ : Unit) => r = sel (f_drop c0 b) ((m_drop c0 b).1) (if f_drop c0 b = 2 then (-1001) else (-1002))) (fun _ t9 => LW D G X A h (sel (f_drop c0 b) ((m_drop c0 b).2) c0) c2 (sel (f_drop c0 b) (pS hS hn c0) hS) (sel (f_drop c0 b) (pN hn) hn) sv lab fl t9.heap) A) 1 6 A := by
  refine bx_ofWH (cc := cL_removeItem) (maxL := 3) (ret := (some .int)) (hh := [(0, 5, 6, 24), (0, 5, 11, 15)]) (by decide) rfl ?_
  intro p9 e s m args below meth c9 s₁ B hml hv
  obtain ⟨rfl, hsz, ⟨ad, c1, lv, bs, rfl, hLV, hP, hD⟩, hK, hE, hA0, hAB⟩ := hv
  subst hsz
  have hx := B.exec
  have hb := B.bytes
  have hr := B.returns
  have hts : ∀ w9 ∈ tb, w9.before ([.ref (ad.1 3 0), .int b] : List Value).toArray s = true := fun w9 h9 => atoms_spec (ws := (wH yL_removeItem cL_removeItem 3 (some .int) [(0, 5, 6, 24), (0, 5, 11, 15)])) B.pre w9 (List.mem_cons_of_mem _ h9)
  have hown : s.vm.findClass RL = some m.cls := findClass_of_methodNamed B.named
  have hlocks := B.notSynchronized
  have hxt := vx_table (x := yL_removeItem) B (hts _ kw_526)
  have hS0 : va_S A s.heap s.heap [] := va_S.rf
  have hFc := freeC hD hS0 hA0
  have hl := lv_entry ([.ref (ad.1 3 0), .int b]) (n := 3) (Nat.le_of_ble_eq_true rfl)
  rw [lg_entry_eq]
  generalize (lg_sl ([.ref (ad.1 3 0), .int b]) ++ List.replicate (3 - (lg_sl ([.ref (ad.1 3 0), .int b])).length) Slot.unset).toArray = ls at hl ⊢
  have hl : lv_has ls 3 [(0, .ref (ad.1 3 0)), (1, .int b)] := hl
  refine lv_aload_n hx hb dL_removeItem_0 rfl (lv_at hl 0 rfl) ?_
  refine lv_iload_n hx hb dL_removeItem_1 rfl (lv_at hl 1 rfl) ?_
  refine vx_calli (vx_runV (As := [.int b]) (rest := []) ⟨hx, hb, hml, hown, hts⟩ (c_X7_removeItem l hfl D G B0 X ad c0 c1 c2 hS hn sv lv bs fl b hh (fun h9 => fr_drop h9) s.heap.size) (cwV 1 hts gw_L_21 rfl rfl rfl (by decide +kernel) ⟨Nat.le_of_ble_eq_true rfl, Nat.le_of_ble_eq_true rfl⟩) (pv_cb hK hP hD hAB hE) rfl rfl hl.1 rfl (lv_room (Nat.le_of_ble_eq_true rfl)) dL_removeItem_2 ⟨Nat.le_of_ble_eq_true rfl, Nat.le_of_ble_eq_true rfl⟩) hS0 (fun q _ h => hFc q h) hFc (fun q _ h => hFc q h) ?_ ?_
  · intro E ce q9 u t9 H9 locs9 ht hvm hq hBX hz1 hk1 hS9 hce hcv hcl
    obtain ⟨hBX, hPx, hDx⟩ := hBX
    rw [ht] at hPx
    have hDx := hDx.weaken (fun _ _ _ h9 => hFc _ h9)
    have hW9 : LW D G X A (ad.1 3 0) (sel (f_drop c0 b) ((m_drop c0 b).2) c0) c2 (sel (f_drop c0 b) (pS hS hn c0) hS) (sel (f_drop c0 b) (pN hn) hn) sv lab fl H9 := by
      simp only [sel_n hq]
      refine ⟨_, _, _, _, ?_, ?_, hPx, hDx⟩
      · exact rfl
      · exact hLV
    rcases rg_f_drop c0 b with h0 | hk | hk
    · exact absurd h0 hq
    · skip
      obtain rfl : E = "java/util/NoSuchElementException" := hBX.trans (by rw [hk]; rfl)
      refine vx_catch (own := RL) (name := "java/util/NoSuchElementException") hown [] ⟨0, 5, 6, 24⟩ [⟨0, 5, 11, 15⟩] hxt (fun _ h => absurd h List.not_mem_nil) (by decide) (by decide) (hts _ kw_527) (va_Nw.use rfl (nw_424 hE.nw)) hce hcv hcl ?_
      have hS0 := hS9
      refine lv_astore_n (x := q9) (lv' := [(2, .ref q9), (0, .ref (ad.1 3 0)), (1, .int b)]) hx hb dL_removeItem_6 rfl hl (by decide) rfl (fun ls hl => ?_)
      refine lv_sipush (v := -1001) hx hb dL_removeItem_7 (by decide) ?_
      refine W.widen (k := 1) (n := 6) (Nat.le_of_ble_eq_true rfl) (Nat.le_of_ble_eq_true rfl) ?_
      exact W.iret (v := (-1001)) hx hb hr (fun t ht hWm => ⟨⟨_, (), rfl, by first | (rw [sel_n hq]; done) | (rw [sel_n hq]; rfl) | (rw [sel_n hq, hk]; rfl), LW_t ht hW9⟩, hS0.F ht⟩) hS0.2.2 dL_removeItem_10
    · skip
      obtain rfl : E = "java/lang/IllegalStateException" := hBX.trans (by rw [hk]; rfl)
      refine vx_catch (own := RL) (name := "java/lang/IllegalStateException") hown [⟨0, 5, 6, 24⟩] ⟨0, 5, 11, 15⟩ [] hxt (List.forall_mem_cons.mpr ⟨Or.inr ⟨by decide, "java/util/NoSuchElementException", hts _ kw_527, hE.n.2.1⟩, (fun _ h => absurd h List.not_mem_nil)⟩) (by decide) (by decide) (hts _ kw_329) (va_Nw.use rfl (nw_459 hE.nw)) hce hcv hcl ?_
      have hS0 := hS9
      refine lv_astore_n (x := q9) (lv' := [(2, .ref q9), (0, .ref (ad.1 3 0)), (1, .int b)]) hx hb dL_removeItem_11 rfl hl (by decide) rfl (fun ls hl => ?_)
      refine lv_sipush (v := -1002) hx hb dL_removeItem_12 (by decide) ?_
      refine W.widen (k := 1) (n := 6) (Nat.le_of_ble_eq_true rfl) (Nat.le_of_ble_eq_true rfl) ?_
      exact W.iret (v := (-1002)) hx hb hr (fun t ht hWm => ⟨⟨_, (), rfl, by first | (rw [sel_n hq]; done) | (rw [sel_n hq]; rfl) | (rw [sel_n hq, hk]; rfl), LW_t ht hW9⟩, hS0.F ht⟩) hS0.2.2 dL_removeItem_15
  · intro r u t9 H9 locs9 ht hvm hq hB hz1 hk1 hS9
    obtain ⟨hq, hr9⟩ := hq
    obtain ⟨hPx, hDx⟩ := hB
    rw [ht] at hPx
    have hDx := hDx.weaken (fun _ _ _ h9 => hFc _ h9)
    have hW9 : LW D G X A (ad.1 3 0) (sel (f_drop c0 b) ((m_drop c0 b).2) c0) c2 (sel (f_drop c0 b) (pS hS hn c0) hS) (sel (f_drop c0 b) (pN hn) hn) sv lab fl H9 := by
      simp only [sel_0 hq]
      refine ⟨_, _, _, _, ?_, ?_, hPx, hDx⟩
      · exact rfl
      · exact hLV
    rw [hr9]
    have hS0 := hS9
    refine W.widen (k := 1) (n := 6) (Nat.le_of_ble_eq_true rfl) (Nat.le_of_ble_eq_true rfl) ?_
    exact W.iret (v := (m_drop c0 b).1) hx hb hr (fun t ht hWm => ⟨⟨_, (), rfl, by first | (rw [sel_0 hq]; done) | (rw [sel_0 hq]; rfl), LW_t ht hW9⟩, hS0.F ht⟩) hS0.2.2 dL_removeItem_5
set_option maxRecDepth 100000 in
set_option maxHeartbeats 4000000 in
theorem cl_L_pack (l : Launch) (hfl : l.stackTraces = false) (D : va_G) (G : GA) (B0 : Nat) (X : Nat → Nat → Nat) (A : Nat → Prop) (h : Nat) (c0 c2 : CS) (hS : Nat → CS) (hn : Nat) (sv : SV) (lab : List Int32) (fl : Nat → Int32) (i : Int32) (b : Int32) (hh : hn ≤ 8) (sz : Nat) : Met l yL_pack (wH yL_pack cL_pack 4 (some .int) [(0, 6, 7, 24), (0, 6, 12, 30), (0, 6, 17, 15), (0, 6, 22, 32)]) ({ frames := 8, cells := 1, slots := 6, locals := 140 } : Room) (va_Pc [.ref h, .int i, .int b] (LWp D G B0 X A h c0 c2 hS hn sv lab fl sz)) (va_Qi (fun (r : Int32) (_ : Unit) => r = sel (f_load c0 i b) ((m_load c0 i b).1) (if f_load c0 i b = 2 then (-1001) else (if f_load c0 i b = 3 then (-1002) else (if f_load c0 i b = 4 then (-1003) else (-1004))))) (fun _ t9 => LW D G X A h (sel (f_load c0 i b) ((m_load c0 i b).2) c0) c2 (sel (f_load c0 i b) (pS hS hn c0) hS) (sel (f_load c0 i b) (pN hn) hn) sv lab (m_keep c0 fl (f_load c0 i b) i b) t9.heap) A) 1 6 A := by
  refine bx_ofWH (cc := cL_pack) (maxL := 4) (ret := (some .int)) (hh := [(0, 6, 7, 24), (0, 6, 12, 30), (0, 6, 17, 15), (0, 6, 22, 32)]) (by decide) rfl ?_
  intro p9 e s m args below meth c9 s₁ B hml hv
  obtain ⟨rfl, hsz, ⟨ad, c1, lv, bs, rfl, hLV, hP, hD⟩, hK, hE, hA0, hAB⟩ := hv
  subst hsz
  have hx := B.exec
  have hb := B.bytes
  have hr := B.returns
  have hts : ∀ w9 ∈ tb, w9.before ([.ref (ad.1 3 0), .int i, .int b] : List Value).toArray s = true := fun w9 h9 => atoms_spec (ws := (wH yL_pack cL_pack 4 (some .int) [(0, 6, 7, 24), (0, 6, 12, 30), (0, 6, 17, 15), (0, 6, 22, 32)])) B.pre w9 (List.mem_cons_of_mem _ h9)
  have hown : s.vm.findClass RL = some m.cls := findClass_of_methodNamed B.named
  have hlocks := B.notSynchronized
  have hxt := vx_table (x := yL_pack) B (hts _ kw_924)
  have hS0 : va_S A s.heap s.heap [] := va_S.rf
  have hFc := freeC hD hS0 hA0
  have hl := lv_entry ([.ref (ad.1 3 0), .int i, .int b]) (n := 4) (Nat.le_of_ble_eq_true rfl)
  rw [lg_entry_eq]
  generalize (lg_sl ([.ref (ad.1 3 0), .int i, .int b]) ++ List.replicate (4 - (lg_sl ([.ref (ad.1 3 0), .int i, .int b])).length) Slot.unset).toArray = ls at hl ⊢
  have hl : lv_has ls 4 [(0, .ref (ad.1 3 0)), (1, .int i), (2, .int b)] := hl
  refine lv_aload_n hx hb dL_pack_0 rfl (lv_at hl 0 rfl) ?_
  refine lv_iload_n hx hb dL_pack_1 rfl (lv_at hl 1 rfl) ?_
  refine lv_iload_n hx hb dL_pack_2 rfl (lv_at hl 2 rfl) ?_
  refine vx_calli (vx_runV (As := [.int i, .int b]) (rest := []) ⟨hx, hb, hml, hown, hts⟩ (c_X7_pack l hfl D G B0 X ad c0 c1 c2 hS hn sv lv bs fl i b hh (fun h9 => fr_load h9) s.heap.size) (cwV 2 hts gw_L_26 rfl rfl rfl (by decide +kernel) ⟨Nat.le_of_ble_eq_true rfl, Nat.le_of_ble_eq_true rfl⟩) (pv_cb hK hP hD hAB hE) rfl rfl hl.1 rfl (lv_room (Nat.le_of_ble_eq_true rfl)) dL_pack_3 ⟨Nat.le_of_ble_eq_true rfl, Nat.le_of_ble_eq_true rfl⟩) hS0 (fun q _ h => hFc q h) hFc (fun q _ h => hFc q h) ?_ ?_
  · intro E ce q9 u t9 H9 locs9 ht hvm hq hBX hz1 hk1 hS9 hce hcv hcl
    obtain ⟨hBX, hPx, hDx⟩ := hBX
    rw [ht] at hPx
    have hDx := hDx.weaken (fun _ _ _ h9 => hFc _ h9)
    have hW9 : LW D G X A (ad.1 3 0) (sel (f_load c0 i b) ((m_load c0 i b).2) c0) c2 (sel (f_load c0 i b) (pS hS hn c0) hS) (sel (f_load c0 i b) (pN hn) hn) sv lab (m_keep c0 fl (f_load c0 i b) i b) H9 := by
      simp only [sel_n hq]
      refine ⟨_, _, _, _, ?_, ?_, hPx, hDx⟩
      · exact rfl
      · exact hLV
    rcases rg_f_load c0 i b with h0 | hk | hk | hk | hk
    · exact absurd h0 hq
    · skip
      obtain rfl : E = "java/util/NoSuchElementException" := hBX.trans (by rw [hk]; rfl)
      refine vx_catch (own := RL) (name := "java/util/NoSuchElementException") hown [] ⟨0, 6, 7, 24⟩ [⟨0, 6, 12, 30⟩, ⟨0, 6, 17, 15⟩, ⟨0, 6, 22, 32⟩] hxt (fun _ h => absurd h List.not_mem_nil) (by decide) (by decide) (hts _ kw_527) (va_Nw.use rfl (nw_424 hE.nw)) hce hcv hcl ?_
      have hS0 := hS9
      refine lv_astore_n (x := q9) (lv' := [(3, .ref q9), (0, .ref (ad.1 3 0)), (1, .int i), (2, .int b)]) hx hb dL_pack_7 rfl hl (by decide) rfl (fun ls hl => ?_)
      refine lv_sipush (v := -1001) hx hb dL_pack_8 (by decide) ?_
      refine W.widen (k := 1) (n := 6) (Nat.le_of_ble_eq_true rfl) (Nat.le_of_ble_eq_true rfl) ?_
      exact W.iret (v := (-1001)) hx hb hr (fun t ht hWm => ⟨⟨_, (), rfl, by first | (rw [sel_n hq]; done) | (rw [sel_n hq]; rfl) | (rw [sel_n hq, hk]; rfl), LW_t ht hW9⟩, hS0.F ht⟩) hS0.2.2 dL_pack_11
    · skip
      obtain rfl : E = "java/lang/IndexOutOfBoundsException" := hBX.trans (by rw [hk]; rfl)
      refine vx_catch (own := RL) (name := "java/lang/IndexOutOfBoundsException") hown [⟨0, 6, 7, 24⟩] ⟨0, 6, 12, 30⟩ [⟨0, 6, 17, 15⟩, ⟨0, 6, 22, 32⟩] hxt (List.forall_mem_cons.mpr ⟨Or.inr ⟨by decide, "java/util/NoSuchElementException", hts _ kw_527, hE.n.2.2.1⟩, (fun _ h => absurd h List.not_mem_nil)⟩) (by decide) (by decide) (hts _ kw_579) (va_Nw.use rfl (nw_442 hE.nw)) hce hcv hcl ?_
      have hS0 := hS9
      refine lv_astore_n (x := q9) (lv' := [(3, .ref q9), (0, .ref (ad.1 3 0)), (1, .int i), (2, .int b)]) hx hb dL_pack_12 rfl hl (by decide) rfl (fun ls hl => ?_)
      refine lv_sipush (v := -1002) hx hb dL_pack_13 (by decide) ?_
      refine W.widen (k := 1) (n := 6) (Nat.le_of_ble_eq_true rfl) (Nat.le_of_ble_eq_true rfl) ?_
      exact W.iret (v := (-1002)) hx hb hr (fun t ht hWm => ⟨⟨_, (), rfl, by first | (rw [sel_n hq]; done) | (rw [sel_n hq]; rfl) | (rw [sel_n hq, hk]; rfl), LW_t ht hW9⟩, hS0.F ht⟩) hS0.2.2 dL_pack_16
    · skip
      obtain rfl : E = "java/lang/IllegalStateException" := hBX.trans (by rw [hk]; rfl)
      refine vx_catch (own := RL) (name := "java/lang/IllegalStateException") hown [⟨0, 6, 7, 24⟩, ⟨0, 6, 12, 30⟩] ⟨0, 6, 17, 15⟩ [⟨0, 6, 22, 32⟩] hxt (List.forall_mem_cons.mpr ⟨Or.inr ⟨by decide, "java/util/NoSuchElementException", hts _ kw_527, hE.n.2.1⟩, (List.forall_mem_cons.mpr ⟨Or.inr ⟨by decide, "java/lang/IndexOutOfBoundsException", hts _ kw_579, hE.n.2.2.2.1⟩, (fun _ h => absurd h List.not_mem_nil)⟩)⟩) (by decide) (by decide) (hts _ kw_329) (va_Nw.use rfl (nw_459 hE.nw)) hce hcv hcl ?_
      have hS0 := hS9
      refine lv_astore_n (x := q9) (lv' := [(3, .ref q9), (0, .ref (ad.1 3 0)), (1, .int i), (2, .int b)]) hx hb dL_pack_17 rfl hl (by decide) rfl (fun ls hl => ?_)
      refine lv_sipush (v := -1003) hx hb dL_pack_18 (by decide) ?_
      refine W.widen (k := 1) (n := 6) (Nat.le_of_ble_eq_true rfl) (Nat.le_of_ble_eq_true rfl) ?_
      exact W.iret (v := (-1003)) hx hb hr (fun t ht hWm => ⟨⟨_, (), rfl, by first | (rw [sel_n hq]; done) | (rw [sel_n hq]; rfl) | (rw [sel_n hq, hk]; rfl), LW_t ht hW9⟩, hS0.F ht⟩) hS0.2.2 dL_pack_21
    · skip
      obtain rfl : E = "java/lang/UnsupportedOperationException" := hBX.trans (by rw [hk]; rfl)
      refine vx_catch (own := RL) (name := "java/lang/UnsupportedOperationException") hown [⟨0, 6, 7, 24⟩, ⟨0, 6, 12, 30⟩, ⟨0, 6, 17, 15⟩] ⟨0, 6, 22, 32⟩ [] hxt (List.forall_mem_cons.mpr ⟨Or.inr ⟨by decide, "java/util/NoSuchElementException", hts _ kw_527, hE.n.2.2.2.2.1⟩, (List.forall_mem_cons.mpr ⟨Or.inr ⟨by decide, "java/lang/IndexOutOfBoundsException", hts _ kw_579, hE.n.2.2.2.2.2.1⟩, (List.forall_mem_cons.mpr ⟨Or.inr ⟨by decide, "java/lang/IllegalStateException", hts _ kw_329, hE.n.2.2.2.2.2.2.1⟩, (fun _ h => absurd h List.not_mem_nil)⟩)⟩)⟩) (by decide) (by decide) (hts _ kw_925) (va_Nw.use rfl (nw_477 hE.nw)) hce hcv hcl ?_
      have hS0 := hS9
      refine lv_astore_n (x := q9) (lv' := [(3, .ref q9), (0, .ref (ad.1 3 0)), (1, .int i), (2, .int b)]) hx hb dL_pack_22 rfl hl (by decide) rfl (fun ls hl => ?_)
      refine lv_sipush (v := -1004) hx hb dL_pack_23 (by decide) ?_
      refine W.widen (k := 1) (n := 6) (Nat.le_of_ble_eq_true rfl) (Nat.le_of_ble_eq_true rfl) ?_
      exact W.iret (v := (-1004)) hx hb hr (fun t ht hWm => ⟨⟨_, (), rfl, by first | (rw [sel_n hq]; done) | (rw [sel_n hq]; rfl) | (rw [sel_n hq, hk]; rfl), LW_t ht hW9⟩, hS0.F ht⟩) hS0.2.2 dL_pack_26
  · intro r u t9 H9 locs9 ht hvm hq hB hz1 hk1 hS9
    obtain ⟨hq, hr9⟩ := hq
    obtain ⟨hPx, hDx⟩ := hB
    rw [ht] at hPx
    have hDx := hDx.weaken (fun _ _ _ h9 => hFc _ h9)
    have hW9 : LW D G X A (ad.1 3 0) (sel (f_load c0 i b) ((m_load c0 i b).2) c0) c2 (sel (f_load c0 i b) (pS hS hn c0) hS) (sel (f_load c0 i b) (pN hn) hn) sv lab (m_keep c0 fl (f_load c0 i b) i b) H9 := by
      simp only [sel_0 hq]
      refine ⟨_, _, _, _, ?_, ?_, hPx, hDx⟩
      · exact rfl
      · exact hLV
    rw [hr9]
    have hS0 := hS9
    refine W.widen (k := 1) (n := 6) (Nat.le_of_ble_eq_true rfl) (Nat.le_of_ble_eq_true rfl) ?_
    exact W.iret (v := (m_load c0 i b).1) hx hb hr (fun t ht hWm => ⟨⟨_, (), rfl, by first | (rw [sel_0 hq]; done) | (rw [sel_0 hq]; rfl), LW_t ht hW9⟩, hS0.F ht⟩) hS0.2.2 dL_pack_6
set_option maxRecDepth 100000 in
set_option maxHeartbeats 4000000 in
theorem cl_L_canPack (l : Launch) (hfl : l.stackTraces = false) (D : va_G) (G : GA) (B0 : Nat) (X : Nat → Nat → Nat) (A : Nat → Prop) (h : Nat) (c0 c2 : CS) (hS : Nat → CS) (hn : Nat) (sv : SV) (lab : List Int32) (fl : Nat → Int32) (i : Int32) (b : Int32) (sz : Nat) : Met l yL_canPack (wH yL_canPack cL_canPack 4 (some .int) [(0, 14, 15, 24), (0, 14, 20, 30)]) ({ frames := 8, cells := 2, slots := 12, locals := 139 } : Room) (va_Pc [.ref h, .int i, .int b] (LWp D G B0 X A h c0 c2 hS hn sv lab fl sz)) (va_Qi (fun (r : Int32) (_ : Unit) => r = sel (x_canPack c0 i b) (bi (s_canPack c0 i b)) (if x_canPack c0 i b = 2 then (-1001) else (-1002))) (fun _ t9 => LW D G X A h c0 c2 hS hn sv lab fl t9.heap) A) 2 12 A := by
  refine bx_ofWH (cc := cL_canPack) (maxL := 4) (ret := (some .int)) (hh := [(0, 14, 15, 24), (0, 14, 20, 30)]) (by decide) rfl ?_
  intro p9 e s m args below meth c9 s₁ B hml hv
  obtain ⟨rfl, hsz, ⟨ad, c1, lv, bs, rfl, hLV, hP, hD⟩, hK, hE, hA0, hAB⟩ := hv
  subst hsz
  have hx := B.exec
  have hb := B.bytes
  have hr := B.returns
  have hts : ∀ w9 ∈ tb, w9.before ([.ref (ad.1 3 0), .int i, .int b] : List Value).toArray s = true := fun w9 h9 => atoms_spec (ws := (wH yL_canPack cL_canPack 4 (some .int) [(0, 14, 15, 24), (0, 14, 20, 30)])) B.pre w9 (List.mem_cons_of_mem _ h9)
  have hown : s.vm.findClass RL = some m.cls := findClass_of_methodNamed B.named
  have hlocks := B.notSynchronized
  have hxt := vx_table (x := yL_canPack) B (hts _ kw_1373)
  have hS0 : va_S A s.heap s.heap [] := va_S.rf
  have hFc := freeC hD hS0 hA0
  have hl := lv_entry ([.ref (ad.1 3 0), .int i, .int b]) (n := 4) (Nat.le_of_ble_eq_true rfl)
  rw [lg_entry_eq]
  generalize (lg_sl ([.ref (ad.1 3 0), .int i, .int b]) ++ List.replicate (4 - (lg_sl ([.ref (ad.1 3 0), .int i, .int b])).length) Slot.unset).toArray = ls at hl ⊢
  have hl : lv_has ls 4 [(0, .ref (ad.1 3 0)), (1, .int i), (2, .int b)] := hl
  refine lv_aload_n hx hb dL_canPack_0 rfl (lv_at hl 0 rfl) ?_
  refine lv_iload_n hx hb dL_canPack_1 rfl (lv_at hl 1 rfl) ?_
  refine lv_iload_n hx hb dL_canPack_2 rfl (lv_at hl 2 rfl) ?_
  refine vx_calli (vx_runV (As := [.int i, .int b]) (rest := []) ⟨hx, hb, hml, hown, hts⟩ (c_X7_canPack l hfl D G B0 X ad c0 c1 c2 hS hn sv lv bs fl i b) (cwV 2 hts gw_L_34 rfl rfl rfl (by decide +kernel) ⟨Nat.le_of_ble_eq_true rfl, Nat.le_of_ble_eq_true rfl⟩) (pv_cq hK hP hE) rfl rfl hl.1 rfl (lv_room (Nat.le_of_ble_eq_true rfl)) dL_canPack_3 ⟨Nat.le_of_ble_eq_true rfl, Nat.le_of_ble_eq_true rfl⟩) hS0 (fun _ _ h => h.elim) (fun _ h => h.elim) (fun _ _ h => h.elim) ?_ ?_
  · intro E ce q9 u t9 H9 locs9 ht hvm hq hBX hz1 hk1 hS9 hce hcv hcl
    have hPx := P_keep hP hk1 (fun _ _ h => h.elim)
    have hDx := hD
    have hW9 : LW D G X A (ad.1 3 0) c0 c2 hS hn sv lab fl H9 := by
      refine ⟨_, _, _, _, ?_, ?_, hPx, hDx⟩
      · exact rfl
      · exact hLV
    rcases rg_x_canPack c0 i b with h0 | hk | hk
    · exact absurd h0 hq
    · skip
      obtain rfl : E = "java/util/NoSuchElementException" := hBX.trans (by rw [hk]; rfl)
      refine vx_catch (own := RL) (name := "java/util/NoSuchElementException") hown [] ⟨0, 14, 15, 24⟩ [⟨0, 14, 20, 30⟩] hxt (fun _ h => absurd h List.not_mem_nil) (by decide) (by decide) (hts _ kw_527) (va_Nw.use rfl (nw_424 hE.nw)) hce hcv hcl ?_
      have hS0 := hS9
      refine lv_astore_n (x := q9) (lv' := [(3, .ref q9), (0, .ref (ad.1 3 0)), (1, .int i), (2, .int b)]) hx hb dL_canPack_15 rfl hl (by decide) rfl (fun ls hl => ?_)
      refine lv_sipush (v := -1001) hx hb dL_canPack_16 (by decide) ?_
      refine W.widen (k := 2) (n := 12) (Nat.le_of_ble_eq_true rfl) (Nat.le_of_ble_eq_true rfl) ?_
      exact W.iret (v := (-1001)) hx hb hr (fun t ht hWm => ⟨⟨_, (), rfl, by first | (rw [sel_n hq]; done) | (rw [sel_n hq]; rfl) | (rw [sel_n hq, hk]; rfl), LW_t ht hW9⟩, hS0.F ht⟩) hS0.2.2 dL_canPack_19
    · skip
      obtain rfl : E = "java/lang/IndexOutOfBoundsException" := hBX.trans (by rw [hk]; rfl)
      refine vx_catch (own := RL) (name := "java/lang/IndexOutOfBoundsException") hown [⟨0, 14, 15, 24⟩] ⟨0, 14, 20, 30⟩ [] hxt (List.forall_mem_cons.mpr ⟨Or.inr ⟨by decide, "java/util/NoSuchElementException", hts _ kw_527, hE.n.2.2.1⟩, (fun _ h => absurd h List.not_mem_nil)⟩) (by decide) (by decide) (hts _ kw_579) (va_Nw.use rfl (nw_442 hE.nw)) hce hcv hcl ?_
      have hS0 := hS9
      refine lv_astore_n (x := q9) (lv' := [(3, .ref q9), (0, .ref (ad.1 3 0)), (1, .int i), (2, .int b)]) hx hb dL_canPack_20 rfl hl (by decide) rfl (fun ls hl => ?_)
      refine lv_sipush (v := -1002) hx hb dL_canPack_21 (by decide) ?_
      refine W.widen (k := 2) (n := 12) (Nat.le_of_ble_eq_true rfl) (Nat.le_of_ble_eq_true rfl) ?_
      exact W.iret (v := (-1002)) hx hb hr (fun t ht hWm => ⟨⟨_, (), rfl, by first | (rw [sel_n hq]; done) | (rw [sel_n hq]; rfl) | (rw [sel_n hq, hk]; rfl), LW_t ht hW9⟩, hS0.F ht⟩) hS0.2.2 dL_canPack_24
  · intro r u t9 H9 locs9 ht hvm hq hB hz1 hk1 hS9
    obtain ⟨hq, hr9⟩ := hq
    have hPx := P_keep hP hk1 (fun _ _ h => h.elim)
    have hDx := hD
    have hW9 : LW D G X A (ad.1 3 0) c0 c2 hS hn sv lab fl H9 := by
      refine ⟨_, _, _, _, ?_, ?_, hPx, hDx⟩
      · exact rfl
      · exact hLV
    rw [hr9]
    have hS0 := hS9
    cases hb_1 : s_canPack c0 i b
    case true =>
      refine lv_if_eq (tgt := 13) hx hb dL_canPack_6 (by decide) (fun c_2 => absurd c_2 (by decide)) (fun _ => ?_)
      refine lv_iconst (v := 1) hx hb dL_canPack_9 (by decide) ?_
      refine lv_goto (tgt := 14) hx hb dL_canPack_10 (by decide) ?_
      refine W.widen (k := 2) (n := 12) (Nat.le_of_ble_eq_true rfl) (Nat.le_of_ble_eq_true rfl) ?_
      exact W.iret (v := 1) hx hb hr (fun t ht hWm => ⟨⟨_, (), rfl, by first | (rw [sel_0 hq]; done) | (rw [sel_0 hq]; rfl), LW_t ht hW9⟩, hS0.F ht⟩) hS0.2.2 dL_canPack_14
    case false =>
      refine lv_if_eq (tgt := 13) hx hb dL_canPack_6 (by decide) (fun _ => ?_) (fun c_3 => absurd (by decide) c_3)
      refine lv_iconst (v := 0) hx hb dL_canPack_13 (by decide) ?_
      refine W.widen (k := 2) (n := 12) (Nat.le_of_ble_eq_true rfl) (Nat.le_of_ble_eq_true rfl) ?_
      exact W.iret (v := 0) hx hb hr (fun t ht hWm => ⟨⟨_, (), rfl, by first | (rw [sel_0 hq]; done) | (rw [sel_0 hq]; rfl), LW_t ht hW9⟩, hS0.F ht⟩) hS0.2.2 dL_canPack_14
set_option maxRecDepth 100000 in
set_option maxHeartbeats 4000000 in
theorem cl_L_unpack (l : Launch) (hfl : l.stackTraces = false) (D : va_G) (G : GA) (B0 : Nat) (X : Nat → Nat → Nat) (A : Nat → Prop) (h : Nat) (c0 c2 : CS) (hS : Nat → CS) (hn : Nat) (sv : SV) (lab : List Int32) (fl : Nat → Int32) (b : Int32) (hh : hn ≤ 8) (sz : Nat) : Met l yL_unpack (wH yL_unpack cL_unpack 3 (some .int) [(0, 5, 6, 24), (0, 5, 11, 15)]) ({ frames := 8, cells := 1, slots := 6, locals := 131 } : Room) (va_Pc [.ref h, .int b] (LWp D G B0 X A h c0 c2 hS hn sv lab fl sz)) (va_Qi (fun (r : Int32) (_ : Unit) => r = sel (f_unload c0 b) ((m_unload c0 b).1) (if f_unload c0 b = 2 then (-1001) else (-1002))) (fun _ t9 => LW D G X A h (sel (f_unload c0 b) ((m_unload c0 b).2) c0) c2 (sel (f_unload c0 b) (pS hS hn c0) hS) (sel (f_unload c0 b) (pN hn) hn) sv lab fl t9.heap) A) 1 6 A := by
  refine bx_ofWH (cc := cL_unpack) (maxL := 3) (ret := (some .int)) (hh := [(0, 5, 6, 24), (0, 5, 11, 15)]) (by decide) rfl ?_
  intro p9 e s m args below meth c9 s₁ B hml hv
  obtain ⟨rfl, hsz, ⟨ad, c1, lv, bs, rfl, hLV, hP, hD⟩, hK, hE, hA0, hAB⟩ := hv
  subst hsz
  have hx := B.exec
  have hb := B.bytes
  have hr := B.returns
  have hts : ∀ w9 ∈ tb, w9.before ([.ref (ad.1 3 0), .int b] : List Value).toArray s = true := fun w9 h9 => atoms_spec (ws := (wH yL_unpack cL_unpack 3 (some .int) [(0, 5, 6, 24), (0, 5, 11, 15)])) B.pre w9 (List.mem_cons_of_mem _ h9)
  have hown : s.vm.findClass RL = some m.cls := findClass_of_methodNamed B.named
  have hlocks := B.notSynchronized
  have hxt := vx_table (x := yL_unpack) B (hts _ kw_548)
  have hS0 : va_S A s.heap s.heap [] := va_S.rf
  have hFc := freeC hD hS0 hA0
  have hl := lv_entry ([.ref (ad.1 3 0), .int b]) (n := 3) (Nat.le_of_ble_eq_true rfl)
  rw [lg_entry_eq]
  generalize (lg_sl ([.ref (ad.1 3 0), .int b]) ++ List.replicate (3 - (lg_sl ([.ref (ad.1 3 0), .int b])).length) Slot.unset).toArray = ls at hl ⊢
  have hl : lv_has ls 3 [(0, .ref (ad.1 3 0)), (1, .int b)] := hl
  refine lv_aload_n hx hb dL_unpack_0 rfl (lv_at hl 0 rfl) ?_
  refine lv_iload_n hx hb dL_unpack_1 rfl (lv_at hl 1 rfl) ?_
  refine vx_calli (vx_runV (As := [.int b]) (rest := []) ⟨hx, hb, hml, hown, hts⟩ (c_X7_unpack l hfl D G B0 X ad c0 c1 c2 hS hn sv lv bs fl b hh (fun h9 => fr_unload h9) s.heap.size) (cwV 1 hts gw_L_38 rfl rfl rfl (by decide +kernel) ⟨Nat.le_of_ble_eq_true rfl, Nat.le_of_ble_eq_true rfl⟩) (pv_cb hK hP hD hAB hE) rfl rfl hl.1 rfl (lv_room (Nat.le_of_ble_eq_true rfl)) dL_unpack_2 ⟨Nat.le_of_ble_eq_true rfl, Nat.le_of_ble_eq_true rfl⟩) hS0 (fun q _ h => hFc q h) hFc (fun q _ h => hFc q h) ?_ ?_
  · intro E ce q9 u t9 H9 locs9 ht hvm hq hBX hz1 hk1 hS9 hce hcv hcl
    obtain ⟨hBX, hPx, hDx⟩ := hBX
    rw [ht] at hPx
    have hDx := hDx.weaken (fun _ _ _ h9 => hFc _ h9)
    have hW9 : LW D G X A (ad.1 3 0) (sel (f_unload c0 b) ((m_unload c0 b).2) c0) c2 (sel (f_unload c0 b) (pS hS hn c0) hS) (sel (f_unload c0 b) (pN hn) hn) sv lab fl H9 := by
      simp only [sel_n hq]
      refine ⟨_, _, _, _, ?_, ?_, hPx, hDx⟩
      · exact rfl
      · exact hLV
    rcases rg_f_unload c0 b with h0 | hk | hk
    · exact absurd h0 hq
    · skip
      obtain rfl : E = "java/util/NoSuchElementException" := hBX.trans (by rw [hk]; rfl)
      refine vx_catch (own := RL) (name := "java/util/NoSuchElementException") hown [] ⟨0, 5, 6, 24⟩ [⟨0, 5, 11, 15⟩] hxt (fun _ h => absurd h List.not_mem_nil) (by decide) (by decide) (hts _ kw_527) (va_Nw.use rfl (nw_424 hE.nw)) hce hcv hcl ?_
      have hS0 := hS9
      refine lv_astore_n (x := q9) (lv' := [(2, .ref q9), (0, .ref (ad.1 3 0)), (1, .int b)]) hx hb dL_unpack_6 rfl hl (by decide) rfl (fun ls hl => ?_)
      refine lv_sipush (v := -1001) hx hb dL_unpack_7 (by decide) ?_
      refine W.widen (k := 1) (n := 6) (Nat.le_of_ble_eq_true rfl) (Nat.le_of_ble_eq_true rfl) ?_
      exact W.iret (v := (-1001)) hx hb hr (fun t ht hWm => ⟨⟨_, (), rfl, by first | (rw [sel_n hq]; done) | (rw [sel_n hq]; rfl) | (rw [sel_n hq, hk]; rfl), LW_t ht hW9⟩, hS0.F ht⟩) hS0.2.2 dL_unpack_10
    · skip
      obtain rfl : E = "java/lang/IllegalStateException" := hBX.trans (by rw [hk]; rfl)
      refine vx_catch (own := RL) (name := "java/lang/IllegalStateException") hown [⟨0, 5, 6, 24⟩] ⟨0, 5, 11, 15⟩ [] hxt (List.forall_mem_cons.mpr ⟨Or.inr ⟨by decide, "java/util/NoSuchElementException", hts _ kw_527, hE.n.2.1⟩, (fun _ h => absurd h List.not_mem_nil)⟩) (by decide) (by decide) (hts _ kw_329) (va_Nw.use rfl (nw_459 hE.nw)) hce hcv hcl ?_
      have hS0 := hS9
      refine lv_astore_n (x := q9) (lv' := [(2, .ref q9), (0, .ref (ad.1 3 0)), (1, .int b)]) hx hb dL_unpack_11 rfl hl (by decide) rfl (fun ls hl => ?_)
      refine lv_sipush (v := -1002) hx hb dL_unpack_12 (by decide) ?_
      refine W.widen (k := 1) (n := 6) (Nat.le_of_ble_eq_true rfl) (Nat.le_of_ble_eq_true rfl) ?_
      exact W.iret (v := (-1002)) hx hb hr (fun t ht hWm => ⟨⟨_, (), rfl, by first | (rw [sel_n hq]; done) | (rw [sel_n hq]; rfl) | (rw [sel_n hq, hk]; rfl), LW_t ht hW9⟩, hS0.F ht⟩) hS0.2.2 dL_unpack_15
  · intro r u t9 H9 locs9 ht hvm hq hB hz1 hk1 hS9
    obtain ⟨hq, hr9⟩ := hq
    obtain ⟨hPx, hDx⟩ := hB
    rw [ht] at hPx
    have hDx := hDx.weaken (fun _ _ _ h9 => hFc _ h9)
    have hW9 : LW D G X A (ad.1 3 0) (sel (f_unload c0 b) ((m_unload c0 b).2) c0) c2 (sel (f_unload c0 b) (pS hS hn c0) hS) (sel (f_unload c0 b) (pN hn) hn) sv lab fl H9 := by
      simp only [sel_0 hq]
      refine ⟨_, _, _, _, ?_, ?_, hPx, hDx⟩
      · exact rfl
      · exact hLV
    rw [hr9]
    have hS0 := hS9
    refine W.widen (k := 1) (n := 6) (Nat.le_of_ble_eq_true rfl) (Nat.le_of_ble_eq_true rfl) ?_
    exact W.iret (v := (m_unload c0 b).1) hx hb hr (fun t ht hWm => ⟨⟨_, (), rfl, by first | (rw [sel_0 hq]; done) | (rw [sel_0 hq]; rfl), LW_t ht hW9⟩, hS0.F ht⟩) hS0.2.2 dL_unpack_5
set_option maxRecDepth 100000 in
set_option maxHeartbeats 4000000 in
theorem cl_L_autoPack (l : Launch) (hfl : l.stackTraces = false) (D : va_G) (G : GA) (B0 : Nat) (X : Nat → Nat → Nat) (A : Nat → Prop) (h : Nat) (c0 c2 : CS) (hS : Nat → CS) (hn : Nat) (sv : SV) (lab : List Int32) (fl : Nat → Int32) (b : Int32) (hh : hn ≤ 8) (sz : Nat) : Met l yL_autoPack (wH yL_autoPack cL_autoPack 3 (some .int) [(0, 5, 6, 30)]) ({ frames := 8, cells := 1, slots := 6, locals := 140 } : Room) (va_Pc [.ref h, .int b] (LWp D G B0 X A h c0 c2 hS hn sv lab fl sz)) (va_Qi (fun (r : Int32) (_ : Unit) => r = sel (f_fill c0 b) ((m_fill c0 b).1) (-1001)) (fun _ t9 => LW D G X A h (sel (f_fill c0 b) ((m_fill c0 b).2) c0) c2 (sel (f_fill c0 b) (pS hS hn c0) hS) (sel (f_fill c0 b) (pN hn) hn) sv lab fl t9.heap) A) 1 6 A := by
  refine bx_ofWH (cc := cL_autoPack) (maxL := 3) (ret := (some .int)) (hh := [(0, 5, 6, 30)]) (by decide) rfl ?_
  intro p9 e s m args below meth c9 s₁ B hml hv
  obtain ⟨rfl, hsz, ⟨ad, c1, lv, bs, rfl, hLV, hP, hD⟩, hK, hE, hA0, hAB⟩ := hv
  subst hsz
  have hx := B.exec
  have hb := B.bytes
  have hr := B.returns
  have hts : ∀ w9 ∈ tb, w9.before ([.ref (ad.1 3 0), .int b] : List Value).toArray s = true := fun w9 h9 => atoms_spec (ws := (wH yL_autoPack cL_autoPack 3 (some .int) [(0, 5, 6, 30)])) B.pre w9 (List.mem_cons_of_mem _ h9)
  have hown : s.vm.findClass RL = some m.cls := findClass_of_methodNamed B.named
  have hlocks := B.notSynchronized
  have hxt := vx_table (x := yL_autoPack) B (hts _ kw_578)
  have hS0 : va_S A s.heap s.heap [] := va_S.rf
  have hFc := freeC hD hS0 hA0
  have hl := lv_entry ([.ref (ad.1 3 0), .int b]) (n := 3) (Nat.le_of_ble_eq_true rfl)
  rw [lg_entry_eq]
  generalize (lg_sl ([.ref (ad.1 3 0), .int b]) ++ List.replicate (3 - (lg_sl ([.ref (ad.1 3 0), .int b])).length) Slot.unset).toArray = ls at hl ⊢
  have hl : lv_has ls 3 [(0, .ref (ad.1 3 0)), (1, .int b)] := hl
  refine lv_aload_n hx hb dL_autoPack_0 rfl (lv_at hl 0 rfl) ?_
  refine lv_iload_n hx hb dL_autoPack_1 rfl (lv_at hl 1 rfl) ?_
  refine vx_calli (vx_runV (As := [.int b]) (rest := []) ⟨hx, hb, hml, hown, hts⟩ (c_X7_autoPack l hfl D G B0 X ad c0 c1 c2 hS hn sv lv bs fl b hh s.heap.size) (cwV 1 hts gw_L_41 rfl rfl rfl (by decide +kernel) ⟨Nat.le_of_ble_eq_true rfl, Nat.le_of_ble_eq_true rfl⟩) (pv_cb hK hP hD hAB hE) rfl rfl hl.1 rfl (lv_room (Nat.le_of_ble_eq_true rfl)) dL_autoPack_2 ⟨Nat.le_of_ble_eq_true rfl, Nat.le_of_ble_eq_true rfl⟩) hS0 (fun q _ h => hFc q h) hFc (fun q _ h => hFc q h) ?_ ?_
  · intro E ce q9 u t9 H9 locs9 ht hvm hq hBX hz1 hk1 hS9 hce hcv hcl
    obtain ⟨hBX, hPx, hDx⟩ := hBX
    rw [ht] at hPx
    have hDx := hDx.weaken (fun _ _ _ h9 => hFc _ h9)
    have hW9 : LW D G X A (ad.1 3 0) (sel (f_fill c0 b) ((m_fill c0 b).2) c0) c2 (sel (f_fill c0 b) (pS hS hn c0) hS) (sel (f_fill c0 b) (pN hn) hn) sv lab fl H9 := by
      simp only [sel_n hq]
      refine ⟨_, _, _, _, ?_, ?_, hPx, hDx⟩
      · exact rfl
      · exact hLV
    rcases rg_f_fill c0 b with h0 | hk
    · exact absurd h0 hq
    · skip
      obtain rfl : E = "java/lang/IndexOutOfBoundsException" := hBX.trans (by rw [hk]; rfl)
      refine vx_catch (own := RL) (name := "java/lang/IndexOutOfBoundsException") hown [] ⟨0, 5, 6, 30⟩ [] hxt (fun _ h => absurd h List.not_mem_nil) (by decide) (by decide) (hts _ kw_579) (va_Nw.use rfl (nw_442 hE.nw)) hce hcv hcl ?_
      have hS0 := hS9
      refine lv_astore_n (x := q9) (lv' := [(2, .ref q9), (0, .ref (ad.1 3 0)), (1, .int b)]) hx hb dL_autoPack_6 rfl hl (by decide) rfl (fun ls hl => ?_)
      refine lv_sipush (v := -1001) hx hb dL_autoPack_7 (by decide) ?_
      refine W.widen (k := 1) (n := 6) (Nat.le_of_ble_eq_true rfl) (Nat.le_of_ble_eq_true rfl) ?_
      exact W.iret (v := (-1001)) hx hb hr (fun t ht hWm => ⟨⟨_, (), rfl, by first | (rw [sel_n hq]; done) | (rw [sel_n hq]; rfl) | (rw [sel_n hq, hk]; rfl), LW_t ht hW9⟩, hS0.F ht⟩) hS0.2.2 dL_autoPack_10
  · intro r u t9 H9 locs9 ht hvm hq hB hz1 hk1 hS9
    obtain ⟨hq, hr9⟩ := hq
    obtain ⟨hPx, hDx⟩ := hB
    rw [ht] at hPx
    have hDx := hDx.weaken (fun _ _ _ h9 => hFc _ h9)
    have hW9 : LW D G X A (ad.1 3 0) (sel (f_fill c0 b) ((m_fill c0 b).2) c0) c2 (sel (f_fill c0 b) (pS hS hn c0) hS) (sel (f_fill c0 b) (pN hn) hn) sv lab fl H9 := by
      simp only [sel_0 hq]
      refine ⟨_, _, _, _, ?_, ?_, hPx, hDx⟩
      · exact rfl
      · exact hLV
    rw [hr9]
    have hS0 := hS9
    refine W.widen (k := 1) (n := 6) (Nat.le_of_ble_eq_true rfl) (Nat.le_of_ble_eq_true rfl) ?_
    exact W.iret (v := (m_fill c0 b).1) hx hb hr (fun t ht hWm => ⟨⟨_, (), rfl, by first | (rw [sel_0 hq]; done) | (rw [sel_0 hq]; rfl), LW_t ht hW9⟩, hS0.F ht⟩) hS0.2.2 dL_autoPack_5
set_option maxRecDepth 100000 in
set_option maxHeartbeats 4000000 in
theorem cl_L_deliver (l : Launch) (hfl : l.stackTraces = false) (D : va_G) (G : GA) (B0 : Nat) (X : Nat → Nat → Nat) (A : Nat → Prop) (h : Nat) (c0 c2 : CS) (hS : Nat → CS) (hn : Nat) (sv : SV) (lab : List Int32) (fl : Nat → Int32) (hh : hn ≤ 8) (sz : Nat) : Met l yL_deliver (wH yL_deliver cL_deliver 2 (some .int) [(0, 4, 5, 15)]) ({ frames := 8, cells := 1, slots := 6, locals := 130 } : Room) (va_Pc [.ref h] (LWp D G B0 X A h c0 c2 hS hn sv lab fl sz)) (va_Qi (fun (r : Int32) (_ : Unit) => r = sel (f_handOver c0) ((m_handOver c0).1) (-1001)) (fun _ t9 => LW D G X A h (sel (f_handOver c0) ((m_handOver c0).2) c0) c2 (sel (f_handOver c0) (pS hS hn c0) hS) (sel (f_handOver c0) (pN hn) hn) sv lab fl t9.heap) A) 1 6 A := by
  refine bx_ofWH (cc := cL_deliver) (maxL := 2) (ret := (some .int)) (hh := [(0, 4, 5, 15)]) (by decide) rfl ?_
  intro p9 e s m args below meth c9 s₁ B hml hv
  obtain ⟨rfl, hsz, ⟨ad, c1, lv, bs, rfl, hLV, hP, hD⟩, hK, hE, hA0, hAB⟩ := hv
  subst hsz
  have hx := B.exec
  have hb := B.bytes
  have hr := B.returns
  have hts : ∀ w9 ∈ tb, w9.before ([.ref (ad.1 3 0)] : List Value).toArray s = true := fun w9 h9 => atoms_spec (ws := (wH yL_deliver cL_deliver 2 (some .int) [(0, 4, 5, 15)])) B.pre w9 (List.mem_cons_of_mem _ h9)
  have hown : s.vm.findClass RL = some m.cls := findClass_of_methodNamed B.named
  have hlocks := B.notSynchronized
  have hxt := vx_table (x := yL_deliver) B (hts _ kw_671)
  have hS0 : va_S A s.heap s.heap [] := va_S.rf
  have hFc := freeC hD hS0 hA0
  have hl := lv_entry ([.ref (ad.1 3 0)]) (n := 2) (Nat.le_of_ble_eq_true rfl)
  rw [lg_entry_eq]
  generalize (lg_sl ([.ref (ad.1 3 0)]) ++ List.replicate (2 - (lg_sl ([.ref (ad.1 3 0)])).length) Slot.unset).toArray = ls at hl ⊢
  have hl : lv_has ls 2 [(0, .ref (ad.1 3 0))] := hl
  refine lv_aload_n hx hb dL_deliver_0 rfl (lv_at hl 0 rfl) ?_
  refine vx_calli (vx_runV (As := []) (rest := []) ⟨hx, hb, hml, hown, hts⟩ (c_X7_deliver l hfl D G B0 X ad c0 c1 c2 hS hn sv lv bs fl hh s.heap.size) (cwV 0 hts gw_L_44 rfl rfl rfl (by decide +kernel) ⟨Nat.le_of_ble_eq_true rfl, Nat.le_of_ble_eq_true rfl⟩) (pv_cb hK hP hD hAB hE) rfl rfl hl.1 rfl (lv_room (Nat.le_of_ble_eq_true rfl)) dL_deliver_1 ⟨Nat.le_of_ble_eq_true rfl, Nat.le_of_ble_eq_true rfl⟩) hS0 (fun q _ h => hFc q h) hFc (fun q _ h => hFc q h) ?_ ?_
  · intro E ce q9 u t9 H9 locs9 ht hvm hq hBX hz1 hk1 hS9 hce hcv hcl
    obtain ⟨hBX, hPx, hDx⟩ := hBX
    rw [ht] at hPx
    have hDx := hDx.weaken (fun _ _ _ h9 => hFc _ h9)
    have hW9 : LW D G X A (ad.1 3 0) (sel (f_handOver c0) ((m_handOver c0).2) c0) c2 (sel (f_handOver c0) (pS hS hn c0) hS) (sel (f_handOver c0) (pN hn) hn) sv lab fl H9 := by
      simp only [sel_n hq]
      refine ⟨_, _, _, _, ?_, ?_, hPx, hDx⟩
      · exact rfl
      · exact hLV
    rcases rg_f_handOver c0 with h0 | hk
    · exact absurd h0 hq
    · skip
      obtain rfl : E = "java/lang/IllegalStateException" := hBX.trans (by rw [hk]; rfl)
      refine vx_catch (own := RL) (name := "java/lang/IllegalStateException") hown [] ⟨0, 4, 5, 15⟩ [] hxt (fun _ h => absurd h List.not_mem_nil) (by decide) (by decide) (hts _ kw_329) (va_Nw.use rfl (nw_459 hE.nw)) hce hcv hcl ?_
      have hS0 := hS9
      refine lv_astore_n (x := q9) (lv' := [(1, .ref q9), (0, .ref (ad.1 3 0))]) hx hb dL_deliver_5 rfl hl (by decide) rfl (fun ls hl => ?_)
      refine lv_sipush (v := -1001) hx hb dL_deliver_6 (by decide) ?_
      refine W.widen (k := 1) (n := 6) (Nat.le_of_ble_eq_true rfl) (Nat.le_of_ble_eq_true rfl) ?_
      exact W.iret (v := (-1001)) hx hb hr (fun t ht hWm => ⟨⟨_, (), rfl, by first | (rw [sel_n hq]; done) | (rw [sel_n hq]; rfl) | (rw [sel_n hq, hk]; rfl), LW_t ht hW9⟩, hS0.F ht⟩) hS0.2.2 dL_deliver_9
  · intro r u t9 H9 locs9 ht hvm hq hB hz1 hk1 hS9
    obtain ⟨hq, hr9⟩ := hq
    obtain ⟨hPx, hDx⟩ := hB
    rw [ht] at hPx
    have hDx := hDx.weaken (fun _ _ _ h9 => hFc _ h9)
    have hW9 : LW D G X A (ad.1 3 0) (sel (f_handOver c0) ((m_handOver c0).2) c0) c2 (sel (f_handOver c0) (pS hS hn c0) hS) (sel (f_handOver c0) (pN hn) hn) sv lab fl H9 := by
      simp only [sel_0 hq]
      refine ⟨_, _, _, _, ?_, ?_, hPx, hDx⟩
      · exact rfl
      · exact hLV
    rw [hr9]
    have hS0 := hS9
    refine W.widen (k := 1) (n := 6) (Nat.le_of_ble_eq_true rfl) (Nat.le_of_ble_eq_true rfl) ?_
    exact W.iret (v := (m_handOver c0).1) hx hb hr (fun t ht hWm => ⟨⟨_, (), rfl, by first | (rw [sel_0 hq]; done) | (rw [sel_0 hq]; rfl), LW_t ht hW9⟩, hS0.F ht⟩) hS0.2.2 dL_deliver_4
set_option maxRecDepth 100000 in
set_option maxHeartbeats 4000000 in
theorem cl_L_nextStop (l : Launch) (hfl : l.stackTraces = false) (D : va_G) (G : GA) (B0 : Nat) (X : Nat → Nat → Nat) (A : Nat → Prop) (h : Nat) (c0 c2 : CS) (hS : Nat → CS) (hn : Nat) (sv : SV) (lab : List Int32) (fl : Nat → Int32) (sz : Nat) : Met l yL_nextStop (wH yL_nextStop cL_nextStop 2 (some .int) [(0, 4, 5, 24)]) ({ frames := 7, cells := 1, slots := 6, locals := 110 } : Room) (va_Pc [.ref h] (LWp D G B0 X A h c0 c2 hS hn sv lab fl sz)) (va_Qi (fun (r : Int32) (_ : Unit) => r = sel (x_next c0) (s_lowest c0) (-1001)) (fun _ t9 => LW D G X A h c0 c2 hS hn sv lab fl t9.heap) A) 1 6 A := by
  refine bx_ofWH (cc := cL_nextStop) (maxL := 2) (ret := (some .int)) (hh := [(0, 4, 5, 24)]) (by decide) rfl ?_
  intro p9 e s m args below meth c9 s₁ B hml hv
  obtain ⟨rfl, hsz, ⟨ad, c1, lv, bs, rfl, hLV, hP, hD⟩, hK, hE, hA0, hAB⟩ := hv
  subst hsz
  have hx := B.exec
  have hb := B.bytes
  have hr := B.returns
  have hts : ∀ w9 ∈ tb, w9.before ([.ref (ad.1 3 0)] : List Value).toArray s = true := fun w9 h9 => atoms_spec (ws := (wH yL_nextStop cL_nextStop 2 (some .int) [(0, 4, 5, 24)])) B.pre w9 (List.mem_cons_of_mem _ h9)
  have hown : s.vm.findClass RL = some m.cls := findClass_of_methodNamed B.named
  have hlocks := B.notSynchronized
  have hxt := vx_table (x := yL_nextStop) B (hts _ kw_990)
  have hS0 : va_S A s.heap s.heap [] := va_S.rf
  have hFc := freeC hD hS0 hA0
  have hl := lv_entry ([.ref (ad.1 3 0)]) (n := 2) (Nat.le_of_ble_eq_true rfl)
  rw [lg_entry_eq]
  generalize (lg_sl ([.ref (ad.1 3 0)]) ++ List.replicate (2 - (lg_sl ([.ref (ad.1 3 0)])).length) Slot.unset).toArray = ls at hl ⊢
  have hl : lv_has ls 2 [(0, .ref (ad.1 3 0))] := hl
  refine lv_aload_n hx hb dL_nextStop_0 rfl (lv_at hl 0 rfl) ?_
  refine vx_calli (vx_runV (As := []) (rest := []) ⟨hx, hb, hml, hown, hts⟩ (c_X7_nextStop l hfl D G B0 X ad c0 c1 c2 hS hn sv lv bs fl) (cwV 0 hts gw_L_48 rfl rfl rfl (by decide +kernel) ⟨Nat.le_of_ble_eq_true rfl, Nat.le_of_ble_eq_true rfl⟩) (pv_cq hK hP hE) rfl rfl hl.1 rfl (lv_room (Nat.le_of_ble_eq_true rfl)) dL_nextStop_1 ⟨Nat.le_of_ble_eq_true rfl, Nat.le_of_ble_eq_true rfl⟩) hS0 (fun _ _ h => h.elim) (fun _ h => h.elim) (fun _ _ h => h.elim) ?_ ?_
  · intro E ce q9 u t9 H9 locs9 ht hvm hq hBX hz1 hk1 hS9 hce hcv hcl
    have hPx := P_keep hP hk1 (fun _ _ h => h.elim)
    have hDx := hD
    have hW9 : LW D G X A (ad.1 3 0) c0 c2 hS hn sv lab fl H9 := by
      refine ⟨_, _, _, _, ?_, ?_, hPx, hDx⟩
      · exact rfl
      · exact hLV
    rcases rg_x_next c0 with h0 | hk
    · exact absurd h0 hq
    · skip
      obtain rfl : E = "java/util/NoSuchElementException" := hBX.trans (by rw [hk]; rfl)
      refine vx_catch (own := RL) (name := "java/util/NoSuchElementException") hown [] ⟨0, 4, 5, 24⟩ [] hxt (fun _ h => absurd h List.not_mem_nil) (by decide) (by decide) (hts _ kw_527) (va_Nw.use rfl (nw_424 hE.nw)) hce hcv hcl ?_
      have hS0 := hS9
      refine lv_astore_n (x := q9) (lv' := [(1, .ref q9), (0, .ref (ad.1 3 0))]) hx hb dL_nextStop_5 rfl hl (by decide) rfl (fun ls hl => ?_)
      refine lv_sipush (v := -1001) hx hb dL_nextStop_6 (by decide) ?_
      refine W.widen (k := 1) (n := 6) (Nat.le_of_ble_eq_true rfl) (Nat.le_of_ble_eq_true rfl) ?_
      exact W.iret (v := (-1001)) hx hb hr (fun t ht hWm => ⟨⟨_, (), rfl, by first | (rw [sel_n hq]; done) | (rw [sel_n hq]; rfl) | (rw [sel_n hq, hk]; rfl), LW_t ht hW9⟩, hS0.F ht⟩) hS0.2.2 dL_nextStop_9
  · intro r u t9 H9 locs9 ht hvm hq hB hz1 hk1 hS9
    obtain ⟨hq, hr9⟩ := hq
    have hPx := P_keep hP hk1 (fun _ _ h => h.elim)
    have hDx := hD
    have hW9 : LW D G X A (ad.1 3 0) c0 c2 hS hn sv lab fl H9 := by
      refine ⟨_, _, _, _, ?_, ?_, hPx, hDx⟩
      · exact rfl
      · exact hLV
    rw [hr9]
    have hS0 := hS9
    refine W.widen (k := 1) (n := 6) (Nat.le_of_ble_eq_true rfl) (Nat.le_of_ble_eq_true rfl) ?_
    exact W.iret (v := s_lowest c0) hx hb hr (fun t ht hWm => ⟨⟨_, (), rfl, by first | (rw [sel_0 hq]; done) | (rw [sel_0 hq]; rfl), LW_t ht hW9⟩, hS0.F ht⟩) hS0.2.2 dL_nextStop_4
set_option maxRecDepth 100000 in
set_option maxHeartbeats 4000000 in
theorem cl_L_sizeOf (l : Launch) (hfl : l.stackTraces = false) (D : va_G) (G : GA) (B0 : Nat) (X : Nat → Nat → Nat) (A : Nat → Prop) (h : Nat) (c0 c2 : CS) (hS : Nat → CS) (hn : Nat) (sv : SV) (lab : List Int32) (fl : Nat → Int32) (b : Int32) (sz : Nat) : Met l yL_sizeOf (wH yL_sizeOf cL_sizeOf 3 (some .int) [(0, 5, 6, 24)]) ({ frames := 8, cells := 1, slots := 6, locals := 133 } : Room) (va_Pc [.ref h, .int b] (LWp D G B0 X A h c0 c2 hS hn sv lab fl sz)) (va_Qi (fun (r : Int32) (_ : Unit) => r = sel (x_item c0 b) (itm c0 (s_find c0 b) 1) (-1001)) (fun _ t9 => LW D G X A h c0 c2 hS hn sv lab fl t9.heap) A) 1 6 A := by
  refine bx_ofWH (cc := cL_sizeOf) (maxL := 3) (ret := (some .int)) (hh := [(0, 5, 6, 24)]) (by decide) rfl ?_
  intro p9 e s m args below meth c9 s₁ B hml hv
  obtain ⟨rfl, hsz, ⟨ad, c1, lv, bs, rfl, hLV, hP, hD⟩, hK, hE, hA0, hAB⟩ := hv
  subst hsz
  have hx := B.exec
  have hb := B.bytes
  have hr := B.returns
  have hts : ∀ w9 ∈ tb, w9.before ([.ref (ad.1 3 0), .int b] : List Value).toArray s = true := fun w9 h9 => atoms_spec (ws := (wH yL_sizeOf cL_sizeOf 3 (some .int) [(0, 5, 6, 24)])) B.pre w9 (List.mem_cons_of_mem _ h9)
  have hown : s.vm.findClass RL = some m.cls := findClass_of_methodNamed B.named
  have hlocks := B.notSynchronized
  have hxt := vx_table (x := yL_sizeOf) B (hts _ kw_1314)
  have hS0 : va_S A s.heap s.heap [] := va_S.rf
  have hFc := freeC hD hS0 hA0
  have hl := lv_entry ([.ref (ad.1 3 0), .int b]) (n := 3) (Nat.le_of_ble_eq_true rfl)
  rw [lg_entry_eq]
  generalize (lg_sl ([.ref (ad.1 3 0), .int b]) ++ List.replicate (3 - (lg_sl ([.ref (ad.1 3 0), .int b])).length) Slot.unset).toArray = ls at hl ⊢
  have hl : lv_has ls 3 [(0, .ref (ad.1 3 0)), (1, .int b)] := hl
  refine lv_aload_n hx hb dL_sizeOf_0 rfl (lv_at hl 0 rfl) ?_
  refine lv_iload_n hx hb dL_sizeOf_1 rfl (lv_at hl 1 rfl) ?_
  refine vx_calli (vx_runV (As := [.int b]) (rest := []) ⟨hx, hb, hml, hown, hts⟩ (c_X7_sizeOf l hfl D G B0 X ad c0 c1 c2 hS hn sv lv bs fl b) (cwV 1 hts gw_L_51 rfl rfl rfl (by decide +kernel) ⟨Nat.le_of_ble_eq_true rfl, Nat.le_of_ble_eq_true rfl⟩) (pv_cq hK hP hE) rfl rfl hl.1 rfl (lv_room (Nat.le_of_ble_eq_true rfl)) dL_sizeOf_2 ⟨Nat.le_of_ble_eq_true rfl, Nat.le_of_ble_eq_true rfl⟩) hS0 (fun _ _ h => h.elim) (fun _ h => h.elim) (fun _ _ h => h.elim) ?_ ?_
  · intro E ce q9 u t9 H9 locs9 ht hvm hq hBX hz1 hk1 hS9 hce hcv hcl
    have hPx := P_keep hP hk1 (fun _ _ h => h.elim)
    have hDx := hD
    have hW9 : LW D G X A (ad.1 3 0) c0 c2 hS hn sv lab fl H9 := by
      refine ⟨_, _, _, _, ?_, ?_, hPx, hDx⟩
      · exact rfl
      · exact hLV
    rcases rg_x_item c0 b with h0 | hk
    · exact absurd h0 hq
    · skip
      obtain rfl : E = "java/util/NoSuchElementException" := hBX.trans (by rw [hk]; rfl)
      refine vx_catch (own := RL) (name := "java/util/NoSuchElementException") hown [] ⟨0, 5, 6, 24⟩ [] hxt (fun _ h => absurd h List.not_mem_nil) (by decide) (by decide) (hts _ kw_527) (va_Nw.use rfl (nw_424 hE.nw)) hce hcv hcl ?_
      have hS0 := hS9
      refine lv_astore_n (x := q9) (lv' := [(2, .ref q9), (0, .ref (ad.1 3 0)), (1, .int b)]) hx hb dL_sizeOf_6 rfl hl (by decide) rfl (fun ls hl => ?_)
      refine lv_sipush (v := -1001) hx hb dL_sizeOf_7 (by decide) ?_
      refine W.widen (k := 1) (n := 6) (Nat.le_of_ble_eq_true rfl) (Nat.le_of_ble_eq_true rfl) ?_
      exact W.iret (v := (-1001)) hx hb hr (fun t ht hWm => ⟨⟨_, (), rfl, by first | (rw [sel_n hq]; done) | (rw [sel_n hq]; rfl) | (rw [sel_n hq, hk]; rfl), LW_t ht hW9⟩, hS0.F ht⟩) hS0.2.2 dL_sizeOf_10
  · intro r u t9 H9 locs9 ht hvm hq hB hz1 hk1 hS9
    obtain ⟨hq, hr9⟩ := hq
    have hPx := P_keep hP hk1 (fun _ _ h => h.elim)
    have hDx := hD
    have hW9 : LW D G X A (ad.1 3 0) c0 c2 hS hn sv lab fl H9 := by
      refine ⟨_, _, _, _, ?_, ?_, hPx, hDx⟩
      · exact rfl
      · exact hLV
    rw [hr9]
    have hS0 := hS9
    refine W.widen (k := 1) (n := 6) (Nat.le_of_ble_eq_true rfl) (Nat.le_of_ble_eq_true rfl) ?_
    exact W.iret (v := itm c0 (s_find c0 b) 1) hx hb hr (fun t ht hWm => ⟨⟨_, (), rfl, by first | (rw [sel_0 hq]; done) | (rw [sel_0 hq]; rfl), LW_t ht hW9⟩, hS0.F ht⟩) hS0.2.2 dL_sizeOf_5
set_option maxRecDepth 100000 in
set_option maxHeartbeats 4000000 in
theorem cl_L_weightOf (l : Launch) (hfl : l.stackTraces = false) (D : va_G) (G : GA) (B0 : Nat) (X : Nat → Nat → Nat) (A : Nat → Prop) (h : Nat) (c0 c2 : CS) (hS : Nat → CS) (hn : Nat) (sv : SV) (lab : List Int32) (fl : Nat → Int32) (b : Int32) (sz : Nat) : Met l yL_weightOf (wH yL_weightOf cL_weightOf 3 (some .int) [(0, 5, 6, 24)]) ({ frames := 8, cells := 1, slots := 6, locals := 133 } : Room) (va_Pc [.ref h, .int b] (LWp D G B0 X A h c0 c2 hS hn sv lab fl sz)) (va_Qi (fun (r : Int32) (_ : Unit) => r = sel (x_item c0 b) (itm c0 (s_find c0 b) 2) (-1001)) (fun _ t9 => LW D G X A h c0 c2 hS hn sv lab fl t9.heap) A) 1 6 A := by
  refine bx_ofWH (cc := cL_weightOf) (maxL := 3) (ret := (some .int)) (hh := [(0, 5, 6, 24)]) (by decide) rfl ?_
  intro p9 e s m args below meth c9 s₁ B hml hv
  obtain ⟨rfl, hsz, ⟨ad, c1, lv, bs, rfl, hLV, hP, hD⟩, hK, hE, hA0, hAB⟩ := hv
  subst hsz
  have hx := B.exec
  have hb := B.bytes
  have hr := B.returns
  have hts : ∀ w9 ∈ tb, w9.before ([.ref (ad.1 3 0), .int b] : List Value).toArray s = true := fun w9 h9 => atoms_spec (ws := (wH yL_weightOf cL_weightOf 3 (some .int) [(0, 5, 6, 24)])) B.pre w9 (List.mem_cons_of_mem _ h9)
  have hown : s.vm.findClass RL = some m.cls := findClass_of_methodNamed B.named
  have hlocks := B.notSynchronized
  have hxt := vx_table (x := yL_weightOf) B (hts _ kw_1321)
  have hS0 : va_S A s.heap s.heap [] := va_S.rf
  have hFc := freeC hD hS0 hA0
  have hl := lv_entry ([.ref (ad.1 3 0), .int b]) (n := 3) (Nat.le_of_ble_eq_true rfl)
  rw [lg_entry_eq]
  generalize (lg_sl ([.ref (ad.1 3 0), .int b]) ++ List.replicate (3 - (lg_sl ([.ref (ad.1 3 0), .int b])).length) Slot.unset).toArray = ls at hl ⊢
  have hl : lv_has ls 3 [(0, .ref (ad.1 3 0)), (1, .int b)] := hl
  refine lv_aload_n hx hb dL_weightOf_0 rfl (lv_at hl 0 rfl) ?_
  refine lv_iload_n hx hb dL_weightOf_1 rfl (lv_at hl 1 rfl) ?_
  refine vx_calli (vx_runV (As := [.int b]) (rest := []) ⟨hx, hb, hml, hown, hts⟩ (c_X7_weightOf l hfl D G B0 X ad c0 c1 c2 hS hn sv lv bs fl b) (cwV 1 hts gw_L_54 rfl rfl rfl (by decide +kernel) ⟨Nat.le_of_ble_eq_true rfl, Nat.le_of_ble_eq_true rfl⟩) (pv_cq hK hP hE) rfl rfl hl.1 rfl (lv_room (Nat.le_of_ble_eq_true rfl)) dL_weightOf_2 ⟨Nat.le_of_ble_eq_true rfl, Nat.le_of_ble_eq_true rfl⟩) hS0 (fun _ _ h => h.elim) (fun _ h => h.elim) (fun _ _ h => h.elim) ?_ ?_
  · intro E ce q9 u t9 H9 locs9 ht hvm hq hBX hz1 hk1 hS9 hce hcv hcl
    have hPx := P_keep hP hk1 (fun _ _ h => h.elim)
    have hDx := hD
    have hW9 : LW D G X A (ad.1 3 0) c0 c2 hS hn sv lab fl H9 := by
      refine ⟨_, _, _, _, ?_, ?_, hPx, hDx⟩
      · exact rfl
      · exact hLV
    rcases rg_x_item c0 b with h0 | hk
    · exact absurd h0 hq
    · skip
      obtain rfl : E = "java/util/NoSuchElementException" := hBX.trans (by rw [hk]; rfl)
      refine vx_catch (own := RL) (name := "java/util/NoSuchElementException") hown [] ⟨0, 5, 6, 24⟩ [] hxt (fun _ h => absurd h List.not_mem_nil) (by decide) (by decide) (hts _ kw_527) (va_Nw.use rfl (nw_424 hE.nw)) hce hcv hcl ?_
      have hS0 := hS9
      refine lv_astore_n (x := q9) (lv' := [(2, .ref q9), (0, .ref (ad.1 3 0)), (1, .int b)]) hx hb dL_weightOf_6 rfl hl (by decide) rfl (fun ls hl => ?_)
      refine lv_sipush (v := -1001) hx hb dL_weightOf_7 (by decide) ?_
      refine W.widen (k := 1) (n := 6) (Nat.le_of_ble_eq_true rfl) (Nat.le_of_ble_eq_true rfl) ?_
      exact W.iret (v := (-1001)) hx hb hr (fun t ht hWm => ⟨⟨_, (), rfl, by first | (rw [sel_n hq]; done) | (rw [sel_n hq]; rfl) | (rw [sel_n hq, hk]; rfl), LW_t ht hW9⟩, hS0.F ht⟩) hS0.2.2 dL_weightOf_10
  · intro r u t9 H9 locs9 ht hvm hq hB hz1 hk1 hS9
    obtain ⟨hq, hr9⟩ := hq
    have hPx := P_keep hP hk1 (fun _ _ h => h.elim)
    have hDx := hD
    have hW9 : LW D G X A (ad.1 3 0) c0 c2 hS hn sv lab fl H9 := by
      refine ⟨_, _, _, _, ?_, ?_, hPx, hDx⟩
      · exact rfl
      · exact hLV
    rw [hr9]
    have hS0 := hS9
    refine W.widen (k := 1) (n := 6) (Nat.le_of_ble_eq_true rfl) (Nat.le_of_ble_eq_true rfl) ?_
    exact W.iret (v := itm c0 (s_find c0 b) 2) hx hb hr (fun t ht hWm => ⟨⟨_, (), rfl, by first | (rw [sel_0 hq]; done) | (rw [sel_0 hq]; rfl), LW_t ht hW9⟩, hS0.F ht⟩) hS0.2.2 dL_weightOf_5
set_option maxRecDepth 100000 in
set_option maxHeartbeats 4000000 in
theorem cl_L_stopOf (l : Launch) (hfl : l.stackTraces = false) (D : va_G) (G : GA) (B0 : Nat) (X : Nat → Nat → Nat) (A : Nat → Prop) (h : Nat) (c0 c2 : CS) (hS : Nat → CS) (hn : Nat) (sv : SV) (lab : List Int32) (fl : Nat → Int32) (b : Int32) (sz : Nat) : Met l yL_stopOf (wH yL_stopOf cL_stopOf 3 (some .int) [(0, 5, 6, 24)]) ({ frames := 8, cells := 1, slots := 6, locals := 133 } : Room) (va_Pc [.ref h, .int b] (LWp D G B0 X A h c0 c2 hS hn sv lab fl sz)) (va_Qi (fun (r : Int32) (_ : Unit) => r = sel (x_item c0 b) (itm c0 (s_find c0 b) 3) (-1001)) (fun _ t9 => LW D G X A h c0 c2 hS hn sv lab fl t9.heap) A) 1 6 A := by
  refine bx_ofWH (cc := cL_stopOf) (maxL := 3) (ret := (some .int)) (hh := [(0, 5, 6, 24)]) (by decide) rfl ?_
  intro p9 e s m args below meth c9 s₁ B hml hv
  obtain ⟨rfl, hsz, ⟨ad, c1, lv, bs, rfl, hLV, hP, hD⟩, hK, hE, hA0, hAB⟩ := hv
  subst hsz
  have hx := B.exec
  have hb := B.bytes
  have hr := B.returns
  have hts : ∀ w9 ∈ tb, w9.before ([.ref (ad.1 3 0), .int b] : List Value).toArray s = true := fun w9 h9 => atoms_spec (ws := (wH yL_stopOf cL_stopOf 3 (some .int) [(0, 5, 6, 24)])) B.pre w9 (List.mem_cons_of_mem _ h9)
  have hown : s.vm.findClass RL = some m.cls := findClass_of_methodNamed B.named
  have hlocks := B.notSynchronized
  have hxt := vx_table (x := yL_stopOf) B (hts _ kw_1328)
  have hS0 : va_S A s.heap s.heap [] := va_S.rf
  have hFc := freeC hD hS0 hA0
  have hl := lv_entry ([.ref (ad.1 3 0), .int b]) (n := 3) (Nat.le_of_ble_eq_true rfl)
  rw [lg_entry_eq]
  generalize (lg_sl ([.ref (ad.1 3 0), .int b]) ++ List.replicate (3 - (lg_sl ([.ref (ad.1 3 0), .int b])).length) Slot.unset).toArray = ls at hl ⊢
  have hl : lv_has ls 3 [(0, .ref (ad.1 3 0)), (1, .int b)] := hl
  refine lv_aload_n hx hb dL_stopOf_0 rfl (lv_at hl 0 rfl) ?_
  refine lv_iload_n hx hb dL_stopOf_1 rfl (lv_at hl 1 rfl) ?_
  refine vx_calli (vx_runV (As := [.int b]) (rest := []) ⟨hx, hb, hml, hown, hts⟩ (c_X7_stopOf l hfl D G B0 X ad c0 c1 c2 hS hn sv lv bs fl b) (cwV 1 hts gw_L_57 rfl rfl rfl (by decide +kernel) ⟨Nat.le_of_ble_eq_true rfl, Nat.le_of_ble_eq_true rfl⟩) (pv_cq hK hP hE) rfl rfl hl.1 rfl (lv_room (Nat.le_of_ble_eq_true rfl)) dL_stopOf_2 ⟨Nat.le_of_ble_eq_true rfl, Nat.le_of_ble_eq_true rfl⟩) hS0 (fun _ _ h => h.elim) (fun _ h => h.elim) (fun _ _ h => h.elim) ?_ ?_
  · intro E ce q9 u t9 H9 locs9 ht hvm hq hBX hz1 hk1 hS9 hce hcv hcl
    have hPx := P_keep hP hk1 (fun _ _ h => h.elim)
    have hDx := hD
    have hW9 : LW D G X A (ad.1 3 0) c0 c2 hS hn sv lab fl H9 := by
      refine ⟨_, _, _, _, ?_, ?_, hPx, hDx⟩
      · exact rfl
      · exact hLV
    rcases rg_x_item c0 b with h0 | hk
    · exact absurd h0 hq
    · skip
      obtain rfl : E = "java/util/NoSuchElementException" := hBX.trans (by rw [hk]; rfl)
      refine vx_catch (own := RL) (name := "java/util/NoSuchElementException") hown [] ⟨0, 5, 6, 24⟩ [] hxt (fun _ h => absurd h List.not_mem_nil) (by decide) (by decide) (hts _ kw_527) (va_Nw.use rfl (nw_424 hE.nw)) hce hcv hcl ?_
      have hS0 := hS9
      refine lv_astore_n (x := q9) (lv' := [(2, .ref q9), (0, .ref (ad.1 3 0)), (1, .int b)]) hx hb dL_stopOf_6 rfl hl (by decide) rfl (fun ls hl => ?_)
      refine lv_sipush (v := -1001) hx hb dL_stopOf_7 (by decide) ?_
      refine W.widen (k := 1) (n := 6) (Nat.le_of_ble_eq_true rfl) (Nat.le_of_ble_eq_true rfl) ?_
      exact W.iret (v := (-1001)) hx hb hr (fun t ht hWm => ⟨⟨_, (), rfl, by first | (rw [sel_n hq]; done) | (rw [sel_n hq]; rfl) | (rw [sel_n hq, hk]; rfl), LW_t ht hW9⟩, hS0.F ht⟩) hS0.2.2 dL_stopOf_10
  · intro r u t9 H9 locs9 ht hvm hq hB hz1 hk1 hS9
    obtain ⟨hq, hr9⟩ := hq
    have hPx := P_keep hP hk1 (fun _ _ h => h.elim)
    have hDx := hD
    have hW9 : LW D G X A (ad.1 3 0) c0 c2 hS hn sv lab fl H9 := by
      refine ⟨_, _, _, _, ?_, ?_, hPx, hDx⟩
      · exact rfl
      · exact hLV
    rw [hr9]
    have hS0 := hS9
    refine W.widen (k := 1) (n := 6) (Nat.le_of_ble_eq_true rfl) (Nat.le_of_ble_eq_true rfl) ?_
    exact W.iret (v := itm c0 (s_find c0 b) 3) hx hb hr (fun t ht hWm => ⟨⟨_, (), rfl, by first | (rw [sel_0 hq]; done) | (rw [sel_0 hq]; rfl), LW_t ht hW9⟩, hS0.F ht⟩) hS0.2.2 dL_stopOf_5
set_option maxRecDepth 100000 in
set_option maxHeartbeats 4000000 in
theorem cl_L_isFragile (l : Launch) (hfl : l.stackTraces = false) (D : va_G) (G : GA) (B0 : Nat) (X : Nat → Nat → Nat) (A : Nat → Prop) (h : Nat) (c0 c2 : CS) (hS : Nat → CS) (hn : Nat) (sv : SV) (lab : List Int32) (fl : Nat → Int32) (b : Int32) (sz : Nat) : Met l yL_isFragile (wH yL_isFragile cL_isFragile 3 (some .int) [(0, 13, 14, 24)]) ({ frames := 8, cells := 1, slots := 6, locals := 133 } : Room) (va_Pc [.ref h, .int b] (LWp D G B0 X A h c0 c2 hS hn sv lab fl sz)) (va_Qi (fun (r : Int32) (_ : Unit) => r = sel (x_item c0 b) (z01 (itm c0 (s_find c0 b) 4)) (-1001)) (fun _ t9 => LW D G X A h c0 c2 hS hn sv lab fl t9.heap) A) 1 6 A := by
  refine bx_ofWH (cc := cL_isFragile) (maxL := 3) (ret := (some .int)) (hh := [(0, 13, 14, 24)]) (by decide) rfl ?_
  intro p9 e s m args below meth c9 s₁ B hml hv
  obtain ⟨rfl, hsz, ⟨ad, c1, lv, bs, rfl, hLV, hP, hD⟩, hK, hE, hA0, hAB⟩ := hv
  subst hsz
  have hx := B.exec
  have hb := B.bytes
  have hr := B.returns
  have hts : ∀ w9 ∈ tb, w9.before ([.ref (ad.1 3 0), .int b] : List Value).toArray s = true := fun w9 h9 => atoms_spec (ws := (wH yL_isFragile cL_isFragile 3 (some .int) [(0, 13, 14, 24)])) B.pre w9 (List.mem_cons_of_mem _ h9)
  have hown : s.vm.findClass RL = some m.cls := findClass_of_methodNamed B.named
  have hlocks := B.notSynchronized
  have hxt := vx_table (x := yL_isFragile) B (hts _ kw_1335)
  have hS0 : va_S A s.heap s.heap [] := va_S.rf
  have hFc := freeC hD hS0 hA0
  have hl := lv_entry ([.ref (ad.1 3 0), .int b]) (n := 3) (Nat.le_of_ble_eq_true rfl)
  rw [lg_entry_eq]
  generalize (lg_sl ([.ref (ad.1 3 0), .int b]) ++ List.replicate (3 - (lg_sl ([.ref (ad.1 3 0), .int b])).length) Slot.unset).toArray = ls at hl ⊢
  have hl : lv_has ls 3 [(0, .ref (ad.1 3 0)), (1, .int b)] := hl
  refine lv_aload_n hx hb dL_isFragile_0 rfl (lv_at hl 0 rfl) ?_
  refine lv_iload_n hx hb dL_isFragile_1 rfl (lv_at hl 1 rfl) ?_
  refine vx_calli (vx_runV (As := [.int b]) (rest := []) ⟨hx, hb, hml, hown, hts⟩ (c_X7_isFragile l hfl D G B0 X ad c0 c1 c2 hS hn sv lv bs fl b) (cwV 1 hts gw_L_60 rfl rfl rfl (by decide +kernel) ⟨Nat.le_of_ble_eq_true rfl, Nat.le_of_ble_eq_true rfl⟩) (pv_cq hK hP hE) rfl rfl hl.1 rfl (lv_room (Nat.le_of_ble_eq_true rfl)) dL_isFragile_2 ⟨Nat.le_of_ble_eq_true rfl, Nat.le_of_ble_eq_true rfl⟩) hS0 (fun _ _ h => h.elim) (fun _ h => h.elim) (fun _ _ h => h.elim) ?_ ?_
  · intro E ce q9 u t9 H9 locs9 ht hvm hq hBX hz1 hk1 hS9 hce hcv hcl
    have hPx := P_keep hP hk1 (fun _ _ h => h.elim)
    have hDx := hD
    have hW9 : LW D G X A (ad.1 3 0) c0 c2 hS hn sv lab fl H9 := by
      refine ⟨_, _, _, _, ?_, ?_, hPx, hDx⟩
      · exact rfl
      · exact hLV
    rcases rg_x_item c0 b with h0 | hk
    · exact absurd h0 hq
    · skip
      obtain rfl : E = "java/util/NoSuchElementException" := hBX.trans (by rw [hk]; rfl)
      refine vx_catch (own := RL) (name := "java/util/NoSuchElementException") hown [] ⟨0, 13, 14, 24⟩ [] hxt (fun _ h => absurd h List.not_mem_nil) (by decide) (by decide) (hts _ kw_527) (va_Nw.use rfl (nw_424 hE.nw)) hce hcv hcl ?_
      have hS0 := hS9
      refine lv_astore_n (x := q9) (lv' := [(2, .ref q9), (0, .ref (ad.1 3 0)), (1, .int b)]) hx hb dL_isFragile_14 rfl hl (by decide) rfl (fun ls hl => ?_)
      refine lv_sipush (v := -1001) hx hb dL_isFragile_15 (by decide) ?_
      refine W.widen (k := 1) (n := 6) (Nat.le_of_ble_eq_true rfl) (Nat.le_of_ble_eq_true rfl) ?_
      exact W.iret (v := (-1001)) hx hb hr (fun t ht hWm => ⟨⟨_, (), rfl, by first | (rw [sel_n hq]; done) | (rw [sel_n hq]; rfl) | (rw [sel_n hq, hk]; rfl), LW_t ht hW9⟩, hS0.F ht⟩) hS0.2.2 dL_isFragile_18
  · intro r u t9 H9 locs9 ht hvm hq hB hz1 hk1 hS9
    obtain ⟨hq, hr9⟩ := hq
    have hPx := P_keep hP hk1 (fun _ _ h => h.elim)
    have hDx := hD
    have hW9 : LW D G X A (ad.1 3 0) c0 c2 hS hn sv lab fl H9 := by
      refine ⟨_, _, _, _, ?_, ?_, hPx, hDx⟩
      · exact rfl
      · exact hLV
    rw [hr9]
    have hS0 := hS9
    refine lv_if_eq (tgt := 12) hx hb dL_isFragile_5 (by decide) (fun c_z => ?_) (fun c_z => ?_)
    · skip
      refine lv_iconst (v := 0) hx hb dL_isFragile_12 (by decide) ?_
      refine W.widen (k := 1) (n := 6) (Nat.le_of_ble_eq_true rfl) (Nat.le_of_ble_eq_true rfl) ?_
      exact W.iret (v := 0) hx hb hr (fun t ht hWm => ⟨⟨_, (), rfl, by rw [sel_0 hq]; exact c_z.symm, LW_t ht hW9⟩, hS0.F ht⟩) hS0.2.2 dL_isFragile_13
    · skip
      refine lv_iconst (v := 1) hx hb dL_isFragile_8 (by decide) ?_
      refine lv_goto (tgt := 13) hx hb dL_isFragile_9 (by decide) ?_
      refine W.widen (k := 1) (n := 6) (Nat.le_of_ble_eq_true rfl) (Nat.le_of_ble_eq_true rfl) ?_
      exact W.iret (v := 1) hx hb hr (fun t ht hWm => ⟨⟨_, (), rfl, by rw [sel_0 hq]; exact (z01_1 c_z).symm, LW_t ht hW9⟩, hS0.F ht⟩) hS0.2.2 dL_isFragile_13
set_option maxRecDepth 100000 in
set_option maxHeartbeats 4000000 in
theorem cl_L_isPacked (l : Launch) (hfl : l.stackTraces = false) (D : va_G) (G : GA) (B0 : Nat) (X : Nat → Nat → Nat) (A : Nat → Prop) (h : Nat) (c0 c2 : CS) (hS : Nat → CS) (hn : Nat) (sv : SV) (lab : List Int32) (fl : Nat → Int32) (b : Int32) (sz : Nat) : Met l yL_isPacked (wH yL_isPacked cL_isPacked 3 (some .int) [(0, 13, 14, 24)]) ({ frames := 8, cells := 1, slots := 6, locals := 133 } : Room) (va_Pc [.ref h, .int b] (LWp D G B0 X A h c0 c2 hS hn sv lab fl sz)) (va_Qi (fun (r : Int32) (_ : Unit) => r = sel (x_item c0 b) (bi (p_inbag (itm c0 (s_find c0 b)))) (-1001)) (fun _ t9 => LW D G X A h c0 c2 hS hn sv lab fl t9.heap) A) 1 6 A := by
  refine bx_ofWH (cc := cL_isPacked) (maxL := 3) (ret := (some .int)) (hh := [(0, 13, 14, 24)]) (by decide) rfl ?_
  intro p9 e s m args below meth c9 s₁ B hml hv
  obtain ⟨rfl, hsz, ⟨ad, c1, lv, bs, rfl, hLV, hP, hD⟩, hK, hE, hA0, hAB⟩ := hv
  subst hsz
  have hx := B.exec
  have hb := B.bytes
  have hr := B.returns
  have hts : ∀ w9 ∈ tb, w9.before ([.ref (ad.1 3 0), .int b] : List Value).toArray s = true := fun w9 h9 => atoms_spec (ws := (wH yL_isPacked cL_isPacked 3 (some .int) [(0, 13, 14, 24)])) B.pre w9 (List.mem_cons_of_mem _ h9)
  have hown : s.vm.findClass RL = some m.cls := findClass_of_methodNamed B.named
  have hlocks := B.notSynchronized
  have hxt := vx_table (x := yL_isPacked) B (hts _ kw_698)
  have hS0 : va_S A s.heap s.heap [] := va_S.rf
  have hFc := freeC hD hS0 hA0
  have hl := lv_entry ([.ref (ad.1 3 0), .int b]) (n := 3) (Nat.le_of_ble_eq_true rfl)
  rw [lg_entry_eq]
  generalize (lg_sl ([.ref (ad.1 3 0), .int b]) ++ List.replicate (3 - (lg_sl ([.ref (ad.1 3 0), .int b])).length) Slot.unset).toArray = ls at hl ⊢
  have hl : lv_has ls 3 [(0, .ref (ad.1 3 0)), (1, .int b)] := hl
  refine lv_aload_n hx hb dL_isPacked_0 rfl (lv_at hl 0 rfl) ?_
  refine lv_iload_n hx hb dL_isPacked_1 rfl (lv_at hl 1 rfl) ?_
  refine vx_calli (vx_runV (As := [.int b]) (rest := []) ⟨hx, hb, hml, hown, hts⟩ (c_X7_isPacked l hfl D G B0 X ad c0 c1 c2 hS hn sv lv bs fl b) (cwV 1 hts gw_L_64 rfl rfl rfl (by decide +kernel) ⟨Nat.le_of_ble_eq_true rfl, Nat.le_of_ble_eq_true rfl⟩) (pv_cq hK hP hE) rfl rfl hl.1 rfl (lv_room (Nat.le_of_ble_eq_true rfl)) dL_isPacked_2 ⟨Nat.le_of_ble_eq_true rfl, Nat.le_of_ble_eq_true rfl⟩) hS0 (fun _ _ h => h.elim) (fun _ h => h.elim) (fun _ _ h => h.elim) ?_ ?_
  · intro E ce q9 u t9 H9 locs9 ht hvm hq hBX hz1 hk1 hS9 hce hcv hcl
    have hPx := P_keep hP hk1 (fun _ _ h => h.elim)
    have hDx := hD
    have hW9 : LW D G X A (ad.1 3 0) c0 c2 hS hn sv lab fl H9 := by
      refine ⟨_, _, _, _, ?_, ?_, hPx, hDx⟩
      · exact rfl
      · exact hLV
    rcases rg_x_item c0 b with h0 | hk
    · exact absurd h0 hq
    · skip
      obtain rfl : E = "java/util/NoSuchElementException" := hBX.trans (by rw [hk]; rfl)
      refine vx_catch (own := RL) (name := "java/util/NoSuchElementException") hown [] ⟨0, 13, 14, 24⟩ [] hxt (fun _ h => absurd h List.not_mem_nil) (by decide) (by decide) (hts _ kw_527) (va_Nw.use rfl (nw_424 hE.nw)) hce hcv hcl ?_
      have hS0 := hS9
      refine lv_astore_n (x := q9) (lv' := [(2, .ref q9), (0, .ref (ad.1 3 0)), (1, .int b)]) hx hb dL_isPacked_14 rfl hl (by decide) rfl (fun ls hl => ?_)
      refine lv_sipush (v := -1001) hx hb dL_isPacked_15 (by decide) ?_
      refine W.widen (k := 1) (n := 6) (Nat.le_of_ble_eq_true rfl) (Nat.le_of_ble_eq_true rfl) ?_
      exact W.iret (v := (-1001)) hx hb hr (fun t ht hWm => ⟨⟨_, (), rfl, by first | (rw [sel_n hq]; done) | (rw [sel_n hq]; rfl) | (rw [sel_n hq, hk]; rfl), LW_t ht hW9⟩, hS0.F ht⟩) hS0.2.2 dL_isPacked_18
  · intro r u t9 H9 locs9 ht hvm hq hB hz1 hk1 hS9
    obtain ⟨hq, hr9⟩ := hq
    have hPx := P_keep hP hk1 (fun _ _ h => h.elim)
    have hDx := hD
    have hW9 : LW D G X A (ad.1 3 0) c0 c2 hS hn sv lab fl H9 := by
      refine ⟨_, _, _, _, ?_, ?_, hPx, hDx⟩
      · exact rfl
      · exact hLV
    rw [hr9]
    have hS0 := hS9
    cases hb_1 : p_inbag (itm c0 (s_find c0 b))
    case true =>
      refine lv_if_eq (tgt := 12) hx hb dL_isPacked_5 (by decide) (fun c_2 => absurd c_2 (by decide)) (fun _ => ?_)
      refine lv_iconst (v := 1) hx hb dL_isPacked_8 (by decide) ?_
      refine lv_goto (tgt := 13) hx hb dL_isPacked_9 (by decide) ?_
      refine W.widen (k := 1) (n := 6) (Nat.le_of_ble_eq_true rfl) (Nat.le_of_ble_eq_true rfl) ?_
      exact W.iret (v := 1) hx hb hr (fun t ht hWm => ⟨⟨_, (), rfl, by first | (rw [sel_0 hq]; done) | (rw [sel_0 hq]; rfl), LW_t ht hW9⟩, hS0.F ht⟩) hS0.2.2 dL_isPacked_13
    case false =>
      refine lv_if_eq (tgt := 12) hx hb dL_isPacked_5 (by decide) (fun _ => ?_) (fun c_3 => absurd (by decide) c_3)
      refine lv_iconst (v := 0) hx hb dL_isPacked_12 (by decide) ?_
      refine W.widen (k := 1) (n := 6) (Nat.le_of_ble_eq_true rfl) (Nat.le_of_ble_eq_true rfl) ?_
      exact W.iret (v := 0) hx hb hr (fun t ht hWm => ⟨⟨_, (), rfl, by first | (rw [sel_0 hq]; done) | (rw [sel_0 hq]; rfl), LW_t ht hW9⟩, hS0.F ht⟩) hS0.2.2 dL_isPacked_13
set_option maxRecDepth 100000 in
set_option maxHeartbeats 4000000 in
theorem cl_L_bagOf (l : Launch) (hfl : l.stackTraces = false) (D : va_G) (G : GA) (B0 : Nat) (X : Nat → Nat → Nat) (A : Nat → Prop) (h : Nat) (c0 c2 : CS) (hS : Nat → CS) (hn : Nat) (sv : SV) (lab : List Int32) (fl : Nat → Int32) (b : Int32) (sz : Nat) : Met l yL_bagOf (wH yL_bagOf cL_bagOf 3 (some .int) [(0, 5, 6, 24)]) ({ frames := 8, cells := 1, slots := 6, locals := 133 } : Room) (va_Pc [.ref h, .int b] (LWp D G B0 X A h c0 c2 hS hn sv lab fl sz)) (va_Qi (fun (r : Int32) (_ : Unit) => r = sel (x_packed c0 b) (itm c0 (s_find c0 b) 5) (-1001)) (fun _ t9 => LW D G X A h c0 c2 hS hn sv lab fl t9.heap) A) 1 6 A := by
  refine bx_ofWH (cc := cL_bagOf) (maxL := 3) (ret := (some .int)) (hh := [(0, 5, 6, 24)]) (by decide) rfl ?_
  intro p9 e s m args below meth c9 s₁ B hml hv
  obtain ⟨rfl, hsz, ⟨ad, c1, lv, bs, rfl, hLV, hP, hD⟩, hK, hE, hA0, hAB⟩ := hv
  subst hsz
  have hx := B.exec
  have hb := B.bytes
  have hr := B.returns
  have hts : ∀ w9 ∈ tb, w9.before ([.ref (ad.1 3 0), .int b] : List Value).toArray s = true := fun w9 h9 => atoms_spec (ws := (wH yL_bagOf cL_bagOf 3 (some .int) [(0, 5, 6, 24)])) B.pre w9 (List.mem_cons_of_mem _ h9)
  have hown : s.vm.findClass RL = some m.cls := findClass_of_methodNamed B.named
  have hlocks := B.notSynchronized
  have hxt := vx_table (x := yL_bagOf) B (hts _ kw_1342)
  have hS0 : va_S A s.heap s.heap [] := va_S.rf
  have hFc := freeC hD hS0 hA0
  have hl := lv_entry ([.ref (ad.1 3 0), .int b]) (n := 3) (Nat.le_of_ble_eq_true rfl)
  rw [lg_entry_eq]
  generalize (lg_sl ([.ref (ad.1 3 0), .int b]) ++ List.replicate (3 - (lg_sl ([.ref (ad.1 3 0), .int b])).length) Slot.unset).toArray = ls at hl ⊢
  have hl : lv_has ls 3 [(0, .ref (ad.1 3 0)), (1, .int b)] := hl
  refine lv_aload_n hx hb dL_bagOf_0 rfl (lv_at hl 0 rfl) ?_
  refine lv_iload_n hx hb dL_bagOf_1 rfl (lv_at hl 1 rfl) ?_
  refine vx_calli (vx_runV (As := [.int b]) (rest := []) ⟨hx, hb, hml, hown, hts⟩ (c_X7_bagOf l hfl D G B0 X ad c0 c1 c2 hS hn sv lv bs fl b) (cwV 1 hts gw_L_67 rfl rfl rfl (by decide +kernel) ⟨Nat.le_of_ble_eq_true rfl, Nat.le_of_ble_eq_true rfl⟩) (pv_cq hK hP hE) rfl rfl hl.1 rfl (lv_room (Nat.le_of_ble_eq_true rfl)) dL_bagOf_2 ⟨Nat.le_of_ble_eq_true rfl, Nat.le_of_ble_eq_true rfl⟩) hS0 (fun _ _ h => h.elim) (fun _ h => h.elim) (fun _ _ h => h.elim) ?_ ?_
  · intro E ce q9 u t9 H9 locs9 ht hvm hq hBX hz1 hk1 hS9 hce hcv hcl
    have hPx := P_keep hP hk1 (fun _ _ h => h.elim)
    have hDx := hD
    have hW9 : LW D G X A (ad.1 3 0) c0 c2 hS hn sv lab fl H9 := by
      refine ⟨_, _, _, _, ?_, ?_, hPx, hDx⟩
      · exact rfl
      · exact hLV
    rcases rg_x_packed c0 b with h0 | hk
    · exact absurd h0 hq
    · skip
      obtain rfl : E = "java/util/NoSuchElementException" := hBX.trans (by rw [hk]; rfl)
      refine vx_catch (own := RL) (name := "java/util/NoSuchElementException") hown [] ⟨0, 5, 6, 24⟩ [] hxt (fun _ h => absurd h List.not_mem_nil) (by decide) (by decide) (hts _ kw_527) (va_Nw.use rfl (nw_424 hE.nw)) hce hcv hcl ?_
      have hS0 := hS9
      refine lv_astore_n (x := q9) (lv' := [(2, .ref q9), (0, .ref (ad.1 3 0)), (1, .int b)]) hx hb dL_bagOf_6 rfl hl (by decide) rfl (fun ls hl => ?_)
      refine lv_sipush (v := -1001) hx hb dL_bagOf_7 (by decide) ?_
      refine W.widen (k := 1) (n := 6) (Nat.le_of_ble_eq_true rfl) (Nat.le_of_ble_eq_true rfl) ?_
      exact W.iret (v := (-1001)) hx hb hr (fun t ht hWm => ⟨⟨_, (), rfl, by first | (rw [sel_n hq]; done) | (rw [sel_n hq]; rfl) | (rw [sel_n hq, hk]; rfl), LW_t ht hW9⟩, hS0.F ht⟩) hS0.2.2 dL_bagOf_10
  · intro r u t9 H9 locs9 ht hvm hq hB hz1 hk1 hS9
    obtain ⟨hq, hr9⟩ := hq
    have hPx := P_keep hP hk1 (fun _ _ h => h.elim)
    have hDx := hD
    have hW9 : LW D G X A (ad.1 3 0) c0 c2 hS hn sv lab fl H9 := by
      refine ⟨_, _, _, _, ?_, ?_, hPx, hDx⟩
      · exact rfl
      · exact hLV
    rw [hr9]
    have hS0 := hS9
    refine W.widen (k := 1) (n := 6) (Nat.le_of_ble_eq_true rfl) (Nat.le_of_ble_eq_true rfl) ?_
    exact W.iret (v := itm c0 (s_find c0 b) 5) hx hb hr (fun t ht hWm => ⟨⟨_, (), rfl, by first | (rw [sel_0 hq]; done) | (rw [sel_0 hq]; rfl), LW_t ht hW9⟩, hS0.F ht⟩) hS0.2.2 dL_bagOf_5
set_option maxRecDepth 100000 in
set_option maxHeartbeats 4000000 in
theorem cl_L_layerOf (l : Launch) (hfl : l.stackTraces = false) (D : va_G) (G : GA) (B0 : Nat) (X : Nat → Nat → Nat) (A : Nat → Prop) (h : Nat) (c0 c2 : CS) (hS : Nat → CS) (hn : Nat) (sv : SV) (lab : List Int32) (fl : Nat → Int32) (b : Int32) (sz : Nat) : Met l yL_layerOf (wH yL_layerOf cL_layerOf 3 (some .int) [(0, 5, 6, 24)]) ({ frames := 8, cells := 1, slots := 6, locals := 133 } : Room) (va_Pc [.ref h, .int b] (LWp D G B0 X A h c0 c2 hS hn sv lab fl sz)) (va_Qi (fun (r : Int32) (_ : Unit) => r = sel (x_packed c0 b) (itm c0 (s_find c0 b) 6) (-1001)) (fun _ t9 => LW D G X A h c0 c2 hS hn sv lab fl t9.heap) A) 1 6 A := by
  refine bx_ofWH (cc := cL_layerOf) (maxL := 3) (ret := (some .int)) (hh := [(0, 5, 6, 24)]) (by decide) rfl ?_
  intro p9 e s m args below meth c9 s₁ B hml hv
  obtain ⟨rfl, hsz, ⟨ad, c1, lv, bs, rfl, hLV, hP, hD⟩, hK, hE, hA0, hAB⟩ := hv
  subst hsz
  have hx := B.exec
  have hb := B.bytes
  have hr := B.returns
  have hts : ∀ w9 ∈ tb, w9.before ([.ref (ad.1 3 0), .int b] : List Value).toArray s = true := fun w9 h9 => atoms_spec (ws := (wH yL_layerOf cL_layerOf 3 (some .int) [(0, 5, 6, 24)])) B.pre w9 (List.mem_cons_of_mem _ h9)
  have hown : s.vm.findClass RL = some m.cls := findClass_of_methodNamed B.named
  have hlocks := B.notSynchronized
  have hxt := vx_table (x := yL_layerOf) B (hts _ kw_1380)
  have hS0 : va_S A s.heap s.heap [] := va_S.rf
  have hFc := freeC hD hS0 hA0
  have hl := lv_entry ([.ref (ad.1 3 0), .int b]) (n := 3) (Nat.le_of_ble_eq_true rfl)
  rw [lg_entry_eq]
  generalize (lg_sl ([.ref (ad.1 3 0), .int b]) ++ List.replicate (3 - (lg_sl ([.ref (ad.1 3 0), .int b])).length) Slot.unset).toArray = ls at hl ⊢
  have hl : lv_has ls 3 [(0, .ref (ad.1 3 0)), (1, .int b)] := hl
  refine lv_aload_n hx hb dL_layerOf_0 rfl (lv_at hl 0 rfl) ?_
  refine lv_iload_n hx hb dL_layerOf_1 rfl (lv_at hl 1 rfl) ?_
  refine vx_calli (vx_runV (As := [.int b]) (rest := []) ⟨hx, hb, hml, hown, hts⟩ (c_X7_layerOf l hfl D G B0 X ad c0 c1 c2 hS hn sv lv bs fl b) (cwV 1 hts gw_L_70 rfl rfl rfl (by decide +kernel) ⟨Nat.le_of_ble_eq_true rfl, Nat.le_of_ble_eq_true rfl⟩) (pv_cq hK hP hE) rfl rfl hl.1 rfl (lv_room (Nat.le_of_ble_eq_true rfl)) dL_layerOf_2 ⟨Nat.le_of_ble_eq_true rfl, Nat.le_of_ble_eq_true rfl⟩) hS0 (fun _ _ h => h.elim) (fun _ h => h.elim) (fun _ _ h => h.elim) ?_ ?_
  · intro E ce q9 u t9 H9 locs9 ht hvm hq hBX hz1 hk1 hS9 hce hcv hcl
    have hPx := P_keep hP hk1 (fun _ _ h => h.elim)
    have hDx := hD
    have hW9 : LW D G X A (ad.1 3 0) c0 c2 hS hn sv lab fl H9 := by
      refine ⟨_, _, _, _, ?_, ?_, hPx, hDx⟩
      · exact rfl
      · exact hLV
    rcases rg_x_packed c0 b with h0 | hk
    · exact absurd h0 hq
    · skip
      obtain rfl : E = "java/util/NoSuchElementException" := hBX.trans (by rw [hk]; rfl)
      refine vx_catch (own := RL) (name := "java/util/NoSuchElementException") hown [] ⟨0, 5, 6, 24⟩ [] hxt (fun _ h => absurd h List.not_mem_nil) (by decide) (by decide) (hts _ kw_527) (va_Nw.use rfl (nw_424 hE.nw)) hce hcv hcl ?_
      have hS0 := hS9
      refine lv_astore_n (x := q9) (lv' := [(2, .ref q9), (0, .ref (ad.1 3 0)), (1, .int b)]) hx hb dL_layerOf_6 rfl hl (by decide) rfl (fun ls hl => ?_)
      refine lv_sipush (v := -1001) hx hb dL_layerOf_7 (by decide) ?_
      refine W.widen (k := 1) (n := 6) (Nat.le_of_ble_eq_true rfl) (Nat.le_of_ble_eq_true rfl) ?_
      exact W.iret (v := (-1001)) hx hb hr (fun t ht hWm => ⟨⟨_, (), rfl, by first | (rw [sel_n hq]; done) | (rw [sel_n hq]; rfl) | (rw [sel_n hq, hk]; rfl), LW_t ht hW9⟩, hS0.F ht⟩) hS0.2.2 dL_layerOf_10
  · intro r u t9 H9 locs9 ht hvm hq hB hz1 hk1 hS9
    obtain ⟨hq, hr9⟩ := hq
    have hPx := P_keep hP hk1 (fun _ _ h => h.elim)
    have hDx := hD
    have hW9 : LW D G X A (ad.1 3 0) c0 c2 hS hn sv lab fl H9 := by
      refine ⟨_, _, _, _, ?_, ?_, hPx, hDx⟩
      · exact rfl
      · exact hLV
    rw [hr9]
    have hS0 := hS9
    refine W.widen (k := 1) (n := 6) (Nat.le_of_ble_eq_true rfl) (Nat.le_of_ble_eq_true rfl) ?_
    exact W.iret (v := itm c0 (s_find c0 b) 6) hx hb hr (fun t ht hWm => ⟨⟨_, (), rfl, by first | (rw [sel_0 hq]; done) | (rw [sel_0 hq]; rfl), LW_t ht hW9⟩, hS0.F ht⟩) hS0.2.2 dL_layerOf_5
set_option maxRecDepth 100000 in
set_option maxHeartbeats 4000000 in
theorem cl_L_itemAtRank (l : Launch) (hfl : l.stackTraces = false) (D : va_G) (G : GA) (B0 : Nat) (X : Nat → Nat → Nat) (A : Nat → Prop) (h : Nat) (c0 c2 : CS) (hS : Nat → CS) (hn : Nat) (sv : SV) (lab : List Int32) (fl : Nat → Int32) (i : Int32) (sz : Nat) : Met l yL_itemAtRank (wH yL_itemAtRank cL_itemAtRank 3 (some .int) [(0, 5, 6, 30)]) ({ frames := 7, cells := 1, slots := 6, locals := 112 } : Room) (va_Pc [.ref h, .int i] (LWp D G B0 X A h c0 c2 hS hn sv lab fl sz)) (va_Qi (fun (r : Int32) (_ : Unit) => r = sel (x_rank c0 i) (itm c0 (s_findRank c0 i) 0) (-1001)) (fun _ t9 => LW D G X A h c0 c2 hS hn sv lab fl t9.heap) A) 1 6 A := by
  refine bx_ofWH (cc := cL_itemAtRank) (maxL := 3) (ret := (some .int)) (hh := [(0, 5, 6, 30)]) (by decide) rfl ?_
  intro p9 e s m args below meth c9 s₁ B hml hv
  obtain ⟨rfl, hsz, ⟨ad, c1, lv, bs, rfl, hLV, hP, hD⟩, hK, hE, hA0, hAB⟩ := hv
  subst hsz
  have hx := B.exec
  have hb := B.bytes
  have hr := B.returns
  have hts : ∀ w9 ∈ tb, w9.before ([.ref (ad.1 3 0), .int i] : List Value).toArray s = true := fun w9 h9 => atoms_spec (ws := (wH yL_itemAtRank cL_itemAtRank 3 (some .int) [(0, 5, 6, 30)])) B.pre w9 (List.mem_cons_of_mem _ h9)
  have hown : s.vm.findClass RL = some m.cls := findClass_of_methodNamed B.named
  have hlocks := B.notSynchronized
  have hxt := vx_table (x := yL_itemAtRank) B (hts _ kw_1305)
  have hS0 : va_S A s.heap s.heap [] := va_S.rf
  have hFc := freeC hD hS0 hA0
  have hl := lv_entry ([.ref (ad.1 3 0), .int i]) (n := 3) (Nat.le_of_ble_eq_true rfl)
  rw [lg_entry_eq]
  generalize (lg_sl ([.ref (ad.1 3 0), .int i]) ++ List.replicate (3 - (lg_sl ([.ref (ad.1 3 0), .int i])).length) Slot.unset).toArray = ls at hl ⊢
  have hl : lv_has ls 3 [(0, .ref (ad.1 3 0)), (1, .int i)] := hl
  refine lv_aload_n hx hb dL_itemAtRank_0 rfl (lv_at hl 0 rfl) ?_
  refine lv_iload_n hx hb dL_itemAtRank_1 rfl (lv_at hl 1 rfl) ?_
  refine vx_calli (vx_runV (As := [.int i]) (rest := []) ⟨hx, hb, hml, hown, hts⟩ (c_X7_itemAtRank l hfl D G B0 X ad c0 c1 c2 hS hn sv lv bs fl i) (cwV 1 hts gw_L_73 rfl rfl rfl (by decide +kernel) ⟨Nat.le_of_ble_eq_true rfl, Nat.le_of_ble_eq_true rfl⟩) (pv_cq hK hP hE) rfl rfl hl.1 rfl (lv_room (Nat.le_of_ble_eq_true rfl)) dL_itemAtRank_2 ⟨Nat.le_of_ble_eq_true rfl, Nat.le_of_ble_eq_true rfl⟩) hS0 (fun _ _ h => h.elim) (fun _ h => h.elim) (fun _ _ h => h.elim) ?_ ?_
  · intro E ce q9 u t9 H9 locs9 ht hvm hq hBX hz1 hk1 hS9 hce hcv hcl
    have hPx := P_keep hP hk1 (fun _ _ h => h.elim)
    have hDx := hD
    have hW9 : LW D G X A (ad.1 3 0) c0 c2 hS hn sv lab fl H9 := by
      refine ⟨_, _, _, _, ?_, ?_, hPx, hDx⟩
      · exact rfl
      · exact hLV
    rcases rg_x_rank c0 i with h0 | hk
    · exact absurd h0 hq
    · skip
      obtain rfl : E = "java/lang/IndexOutOfBoundsException" := hBX.trans (by rw [hk]; rfl)
      refine vx_catch (own := RL) (name := "java/lang/IndexOutOfBoundsException") hown [] ⟨0, 5, 6, 30⟩ [] hxt (fun _ h => absurd h List.not_mem_nil) (by decide) (by decide) (hts _ kw_579) (va_Nw.use rfl (nw_442 hE.nw)) hce hcv hcl ?_
      have hS0 := hS9
      refine lv_astore_n (x := q9) (lv' := [(2, .ref q9), (0, .ref (ad.1 3 0)), (1, .int i)]) hx hb dL_itemAtRank_6 rfl hl (by decide) rfl (fun ls hl => ?_)
      refine lv_sipush (v := -1001) hx hb dL_itemAtRank_7 (by decide) ?_
      refine W.widen (k := 1) (n := 6) (Nat.le_of_ble_eq_true rfl) (Nat.le_of_ble_eq_true rfl) ?_
      exact W.iret (v := (-1001)) hx hb hr (fun t ht hWm => ⟨⟨_, (), rfl, by first | (rw [sel_n hq]; done) | (rw [sel_n hq]; rfl) | (rw [sel_n hq, hk]; rfl), LW_t ht hW9⟩, hS0.F ht⟩) hS0.2.2 dL_itemAtRank_10
  · intro r u t9 H9 locs9 ht hvm hq hB hz1 hk1 hS9
    obtain ⟨hq, hr9⟩ := hq
    have hPx := P_keep hP hk1 (fun _ _ h => h.elim)
    have hDx := hD
    have hW9 : LW D G X A (ad.1 3 0) c0 c2 hS hn sv lab fl H9 := by
      refine ⟨_, _, _, _, ?_, ?_, hPx, hDx⟩
      · exact rfl
      · exact hLV
    rw [hr9]
    have hS0 := hS9
    refine W.widen (k := 1) (n := 6) (Nat.le_of_ble_eq_true rfl) (Nat.le_of_ble_eq_true rfl) ?_
    exact W.iret (v := itm c0 (s_findRank c0 i) 0) hx hb hr (fun t ht hWm => ⟨⟨_, (), rfl, by first | (rw [sel_0 hq]; done) | (rw [sel_0 hq]; rfl), LW_t ht hW9⟩, hS0.F ht⟩) hS0.2.2 dL_itemAtRank_5
set_option maxRecDepth 100000 in
set_option maxHeartbeats 4000000 in
theorem cl_L_limitOf (l : Launch) (hfl : l.stackTraces = false) (D : va_G) (G : GA) (B0 : Nat) (X : Nat → Nat → Nat) (A : Nat → Prop) (h : Nat) (c0 c2 : CS) (hS : Nat → CS) (hn : Nat) (sv : SV) (lab : List Int32) (fl : Nat → Int32) (b : Int32) (sz : Nat) : Met l yL_limitOf (wH yL_limitOf cL_limitOf 3 (some .int) [(0, 5, 6, 30)]) ({ frames := 8, cells := 1, slots := 6, locals := 132 } : Room) (va_Pc [.ref h, .int b] (LWp D G B0 X A h c0 c2 hS hn sv lab fl sz)) (va_Qi (fun (r : Int32) (_ : Unit) => r = sel (x_bag c0 b) (s_limit c0 b) (-1001)) (fun _ t9 => LW D G X A h c0 c2 hS hn sv lab fl t9.heap) A) 1 6 A := by
  refine bx_ofWH (cc := cL_limitOf) (maxL := 3) (ret := (some .int)) (hh := [(0, 5, 6, 30)]) (by decide) rfl ?_
  intro p9 e s m args below meth c9 s₁ B hml hv
  obtain ⟨rfl, hsz, ⟨ad, c1, lv, bs, rfl, hLV, hP, hD⟩, hK, hE, hA0, hAB⟩ := hv
  subst hsz
  have hx := B.exec
  have hb := B.bytes
  have hr := B.returns
  have hts : ∀ w9 ∈ tb, w9.before ([.ref (ad.1 3 0), .int b] : List Value).toArray s = true := fun w9 h9 => atoms_spec (ws := (wH yL_limitOf cL_limitOf 3 (some .int) [(0, 5, 6, 30)])) B.pre w9 (List.mem_cons_of_mem _ h9)
  have hown : s.vm.findClass RL = some m.cls := findClass_of_methodNamed B.named
  have hlocks := B.notSynchronized
  have hxt := vx_table (x := yL_limitOf) B (hts _ kw_1000)
  have hS0 : va_S A s.heap s.heap [] := va_S.rf
  have hFc := freeC hD hS0 hA0
  have hl := lv_entry ([.ref (ad.1 3 0), .int b]) (n := 3) (Nat.le_of_ble_eq_true rfl)
  rw [lg_entry_eq]
  generalize (lg_sl ([.ref (ad.1 3 0), .int b]) ++ List.replicate (3 - (lg_sl ([.ref (ad.1 3 0), .int b])).length) Slot.unset).toArray = ls at hl ⊢
  have hl : lv_has ls 3 [(0, .ref (ad.1 3 0)), (1, .int b)] := hl
  refine lv_aload_n hx hb dL_limitOf_0 rfl (lv_at hl 0 rfl) ?_
  refine lv_iload_n hx hb dL_limitOf_1 rfl (lv_at hl 1 rfl) ?_
  refine vx_calli (vx_runV (As := [.int b]) (rest := []) ⟨hx, hb, hml, hown, hts⟩ (c_X7_limitOf l hfl D G B0 X ad c0 c1 c2 hS hn sv lv bs fl b) (cwV 1 hts gw_L_76 rfl rfl rfl (by decide +kernel) ⟨Nat.le_of_ble_eq_true rfl, Nat.le_of_ble_eq_true rfl⟩) (pv_cq hK hP hE) rfl rfl hl.1 rfl (lv_room (Nat.le_of_ble_eq_true rfl)) dL_limitOf_2 ⟨Nat.le_of_ble_eq_true rfl, Nat.le_of_ble_eq_true rfl⟩) hS0 (fun _ _ h => h.elim) (fun _ h => h.elim) (fun _ _ h => h.elim) ?_ ?_
  · intro E ce q9 u t9 H9 locs9 ht hvm hq hBX hz1 hk1 hS9 hce hcv hcl
    have hPx := P_keep hP hk1 (fun _ _ h => h.elim)
    have hDx := hD
    have hW9 : LW D G X A (ad.1 3 0) c0 c2 hS hn sv lab fl H9 := by
      refine ⟨_, _, _, _, ?_, ?_, hPx, hDx⟩
      · exact rfl
      · exact hLV
    rcases rg_x_bag c0 b with h0 | hk
    · exact absurd h0 hq
    · skip
      obtain rfl : E = "java/lang/IndexOutOfBoundsException" := hBX.trans (by rw [hk]; rfl)
      refine vx_catch (own := RL) (name := "java/lang/IndexOutOfBoundsException") hown [] ⟨0, 5, 6, 30⟩ [] hxt (fun _ h => absurd h List.not_mem_nil) (by decide) (by decide) (hts _ kw_579) (va_Nw.use rfl (nw_442 hE.nw)) hce hcv hcl ?_
      have hS0 := hS9
      refine lv_astore_n (x := q9) (lv' := [(2, .ref q9), (0, .ref (ad.1 3 0)), (1, .int b)]) hx hb dL_limitOf_6 rfl hl (by decide) rfl (fun ls hl => ?_)
      refine lv_sipush (v := -1001) hx hb dL_limitOf_7 (by decide) ?_
      refine W.widen (k := 1) (n := 6) (Nat.le_of_ble_eq_true rfl) (Nat.le_of_ble_eq_true rfl) ?_
      exact W.iret (v := (-1001)) hx hb hr (fun t ht hWm => ⟨⟨_, (), rfl, by first | (rw [sel_n hq]; done) | (rw [sel_n hq]; rfl) | (rw [sel_n hq, hk]; rfl), LW_t ht hW9⟩, hS0.F ht⟩) hS0.2.2 dL_limitOf_10
  · intro r u t9 H9 locs9 ht hvm hq hB hz1 hk1 hS9
    obtain ⟨hq, hr9⟩ := hq
    have hPx := P_keep hP hk1 (fun _ _ h => h.elim)
    have hDx := hD
    have hW9 : LW D G X A (ad.1 3 0) c0 c2 hS hn sv lab fl H9 := by
      refine ⟨_, _, _, _, ?_, ?_, hPx, hDx⟩
      · exact rfl
      · exact hLV
    rw [hr9]
    have hS0 := hS9
    refine W.widen (k := 1) (n := 6) (Nat.le_of_ble_eq_true rfl) (Nat.le_of_ble_eq_true rfl) ?_
    exact W.iret (v := s_limit c0 b) hx hb hr (fun t ht hWm => ⟨⟨_, (), rfl, by first | (rw [sel_0 hq]; done) | (rw [sel_0 hq]; rfl), LW_t ht hW9⟩, hS0.F ht⟩) hS0.2.2 dL_limitOf_5
set_option maxRecDepth 100000 in
set_option maxHeartbeats 4000000 in
theorem cl_L_weightIn (l : Launch) (hfl : l.stackTraces = false) (D : va_G) (G : GA) (B0 : Nat) (X : Nat → Nat → Nat) (A : Nat → Prop) (h : Nat) (c0 c2 : CS) (hS : Nat → CS) (hn : Nat) (sv : SV) (lab : List Int32) (fl : Nat → Int32) (b : Int32) (sz : Nat) : Met l yL_weightIn (wH yL_weightIn cL_weightIn 3 (some .int) [(0, 5, 6, 30)]) ({ frames := 8, cells := 1, slots := 6, locals := 132 } : Room) (va_Pc [.ref h, .int b] (LWp D G B0 X A h c0 c2 hS hn sv lab fl sz)) (va_Qi (fun (r : Int32) (_ : Unit) => r = sel (x_bag c0 b) (s_weightByItems c0 b) (-1001)) (fun _ t9 => LW D G X A h c0 c2 hS hn sv lab fl t9.heap) A) 1 6 A := by
  refine bx_ofWH (cc := cL_weightIn) (maxL := 3) (ret := (some .int)) (hh := [(0, 5, 6, 30)]) (by decide) rfl ?_
  intro p9 e s m args below meth c9 s₁ B hml hv
  obtain ⟨rfl, hsz, ⟨ad, c1, lv, bs, rfl, hLV, hP, hD⟩, hK, hE, hA0, hAB⟩ := hv
  subst hsz
  have hx := B.exec
  have hb := B.bytes
  have hr := B.returns
  have hts : ∀ w9 ∈ tb, w9.before ([.ref (ad.1 3 0), .int b] : List Value).toArray s = true := fun w9 h9 => atoms_spec (ws := (wH yL_weightIn cL_weightIn 3 (some .int) [(0, 5, 6, 30)])) B.pre w9 (List.mem_cons_of_mem _ h9)
  have hown : s.vm.findClass RL = some m.cls := findClass_of_methodNamed B.named
  have hlocks := B.notSynchronized
  have hxt := vx_table (x := yL_weightIn) B (hts _ kw_710)
  have hS0 : va_S A s.heap s.heap [] := va_S.rf
  have hFc := freeC hD hS0 hA0
  have hl := lv_entry ([.ref (ad.1 3 0), .int b]) (n := 3) (Nat.le_of_ble_eq_true rfl)
  rw [lg_entry_eq]
  generalize (lg_sl ([.ref (ad.1 3 0), .int b]) ++ List.replicate (3 - (lg_sl ([.ref (ad.1 3 0), .int b])).length) Slot.unset).toArray = ls at hl ⊢
  have hl : lv_has ls 3 [(0, .ref (ad.1 3 0)), (1, .int b)] := hl
  refine lv_aload_n hx hb dL_weightIn_0 rfl (lv_at hl 0 rfl) ?_
  refine lv_iload_n hx hb dL_weightIn_1 rfl (lv_at hl 1 rfl) ?_
  refine vx_calli (vx_runV (As := [.int b]) (rest := []) ⟨hx, hb, hml, hown, hts⟩ (c_X7_weightIn l hfl D G B0 X ad c0 c1 c2 hS hn sv lv bs fl b) (cwV 1 hts gw_L_79 rfl rfl rfl (by decide +kernel) ⟨Nat.le_of_ble_eq_true rfl, Nat.le_of_ble_eq_true rfl⟩) (pv_cq hK hP hE) rfl rfl hl.1 rfl (lv_room (Nat.le_of_ble_eq_true rfl)) dL_weightIn_2 ⟨Nat.le_of_ble_eq_true rfl, Nat.le_of_ble_eq_true rfl⟩) hS0 (fun _ _ h => h.elim) (fun _ h => h.elim) (fun _ _ h => h.elim) ?_ ?_
  · intro E ce q9 u t9 H9 locs9 ht hvm hq hBX hz1 hk1 hS9 hce hcv hcl
    have hPx := P_keep hP hk1 (fun _ _ h => h.elim)
    have hDx := hD
    have hW9 : LW D G X A (ad.1 3 0) c0 c2 hS hn sv lab fl H9 := by
      refine ⟨_, _, _, _, ?_, ?_, hPx, hDx⟩
      · exact rfl
      · exact hLV
    rcases rg_x_bag c0 b with h0 | hk
    · exact absurd h0 hq
    · skip
      obtain rfl : E = "java/lang/IndexOutOfBoundsException" := hBX.trans (by rw [hk]; rfl)
      refine vx_catch (own := RL) (name := "java/lang/IndexOutOfBoundsException") hown [] ⟨0, 5, 6, 30⟩ [] hxt (fun _ h => absurd h List.not_mem_nil) (by decide) (by decide) (hts _ kw_579) (va_Nw.use rfl (nw_442 hE.nw)) hce hcv hcl ?_
      have hS0 := hS9
      refine lv_astore_n (x := q9) (lv' := [(2, .ref q9), (0, .ref (ad.1 3 0)), (1, .int b)]) hx hb dL_weightIn_6 rfl hl (by decide) rfl (fun ls hl => ?_)
      refine lv_sipush (v := -1001) hx hb dL_weightIn_7 (by decide) ?_
      refine W.widen (k := 1) (n := 6) (Nat.le_of_ble_eq_true rfl) (Nat.le_of_ble_eq_true rfl) ?_
      exact W.iret (v := (-1001)) hx hb hr (fun t ht hWm => ⟨⟨_, (), rfl, by first | (rw [sel_n hq]; done) | (rw [sel_n hq]; rfl) | (rw [sel_n hq, hk]; rfl), LW_t ht hW9⟩, hS0.F ht⟩) hS0.2.2 dL_weightIn_10
  · intro r u t9 H9 locs9 ht hvm hq hB hz1 hk1 hS9
    obtain ⟨hq, hr9⟩ := hq
    have hPx := P_keep hP hk1 (fun _ _ h => h.elim)
    have hDx := hD
    have hW9 : LW D G X A (ad.1 3 0) c0 c2 hS hn sv lab fl H9 := by
      refine ⟨_, _, _, _, ?_, ?_, hPx, hDx⟩
      · exact rfl
      · exact hLV
    rw [hr9]
    have hS0 := hS9
    refine W.widen (k := 1) (n := 6) (Nat.le_of_ble_eq_true rfl) (Nat.le_of_ble_eq_true rfl) ?_
    exact W.iret (v := s_weightByItems c0 b) hx hb hr (fun t ht hWm => ⟨⟨_, (), rfl, by first | (rw [sel_0 hq]; done) | (rw [sel_0 hq]; rfl), LW_t ht hW9⟩, hS0.F ht⟩) hS0.2.2 dL_weightIn_5
set_option maxRecDepth 100000 in
set_option maxHeartbeats 4000000 in
theorem cl_L_weightByLayers (l : Launch) (hfl : l.stackTraces = false) (D : va_G) (G : GA) (B0 : Nat) (X : Nat → Nat → Nat) (A : Nat → Prop) (h : Nat) (c0 c2 : CS) (hS : Nat → CS) (hn : Nat) (sv : SV) (lab : List Int32) (fl : Nat → Int32) (b : Int32) (sz : Nat) : Met l yL_weightByLayers (wH yL_weightByLayers cL_weightByLayers 3 (some .int) [(0, 5, 6, 30)]) ({ frames := 8, cells := 1, slots := 6, locals := 132 } : Room) (va_Pc [.ref h, .int b] (LWp D G B0 X A h c0 c2 hS hn sv lab fl sz)) (va_Qi (fun (r : Int32) (_ : Unit) => r = sel (x_bag c0 b) (s_weightByLayers c0 b) (-1001)) (fun _ t9 => LW D G X A h c0 c2 hS hn sv lab fl t9.heap) A) 1 6 A := by
  refine bx_ofWH (cc := cL_weightByLayers) (maxL := 3) (ret := (some .int)) (hh := [(0, 5, 6, 30)]) (by decide) rfl ?_
  intro p9 e s m args below meth c9 s₁ B hml hv
  obtain ⟨rfl, hsz, ⟨ad, c1, lv, bs, rfl, hLV, hP, hD⟩, hK, hE, hA0, hAB⟩ := hv
  subst hsz
  have hx := B.exec
  have hb := B.bytes
  have hr := B.returns
  have hts : ∀ w9 ∈ tb, w9.before ([.ref (ad.1 3 0), .int b] : List Value).toArray s = true := fun w9 h9 => atoms_spec (ws := (wH yL_weightByLayers cL_weightByLayers 3 (some .int) [(0, 5, 6, 30)])) B.pre w9 (List.mem_cons_of_mem _ h9)
  have hown : s.vm.findClass RL = some m.cls := findClass_of_methodNamed B.named
  have hlocks := B.notSynchronized
  have hxt := vx_table (x := yL_weightByLayers) B (hts _ kw_1387)
  have hS0 : va_S A s.heap s.heap [] := va_S.rf
  have hFc := freeC hD hS0 hA0
  have hl := lv_entry ([.ref (ad.1 3 0), .int b]) (n := 3) (Nat.le_of_ble_eq_true rfl)
  rw [lg_entry_eq]
  generalize (lg_sl ([.ref (ad.1 3 0), .int b]) ++ List.replicate (3 - (lg_sl ([.ref (ad.1 3 0), .int b])).length) Slot.unset).toArray = ls at hl ⊢
  have hl : lv_has ls 3 [(0, .ref (ad.1 3 0)), (1, .int b)] := hl
  refine lv_aload_n hx hb dL_weightByLayers_0 rfl (lv_at hl 0 rfl) ?_
  refine lv_iload_n hx hb dL_weightByLayers_1 rfl (lv_at hl 1 rfl) ?_
  refine vx_calli (vx_runV (As := [.int b]) (rest := []) ⟨hx, hb, hml, hown, hts⟩ (c_X7_weightInByLayers l hfl D G B0 X ad c0 c1 c2 hS hn sv lv bs fl b) (cwV 1 hts gw_L_82 rfl rfl rfl (by decide +kernel) ⟨Nat.le_of_ble_eq_true rfl, Nat.le_of_ble_eq_true rfl⟩) (pv_cq hK hP hE) rfl rfl hl.1 rfl (lv_room (Nat.le_of_ble_eq_true rfl)) dL_weightByLayers_2 ⟨Nat.le_of_ble_eq_true rfl, Nat.le_of_ble_eq_true rfl⟩) hS0 (fun _ _ h => h.elim) (fun _ h => h.elim) (fun _ _ h => h.elim) ?_ ?_
  · intro E ce q9 u t9 H9 locs9 ht hvm hq hBX hz1 hk1 hS9 hce hcv hcl
    have hPx := P_keep hP hk1 (fun _ _ h => h.elim)
    have hDx := hD
    have hW9 : LW D G X A (ad.1 3 0) c0 c2 hS hn sv lab fl H9 := by
      refine ⟨_, _, _, _, ?_, ?_, hPx, hDx⟩
      · exact rfl
      · exact hLV
    rcases rg_x_bag c0 b with h0 | hk
    · exact absurd h0 hq
    · skip
      obtain rfl : E = "java/lang/IndexOutOfBoundsException" := hBX.trans (by rw [hk]; rfl)
      refine vx_catch (own := RL) (name := "java/lang/IndexOutOfBoundsException") hown [] ⟨0, 5, 6, 30⟩ [] hxt (fun _ h => absurd h List.not_mem_nil) (by decide) (by decide) (hts _ kw_579) (va_Nw.use rfl (nw_442 hE.nw)) hce hcv hcl ?_
      have hS0 := hS9
      refine lv_astore_n (x := q9) (lv' := [(2, .ref q9), (0, .ref (ad.1 3 0)), (1, .int b)]) hx hb dL_weightByLayers_6 rfl hl (by decide) rfl (fun ls hl => ?_)
      refine lv_sipush (v := -1001) hx hb dL_weightByLayers_7 (by decide) ?_
      refine W.widen (k := 1) (n := 6) (Nat.le_of_ble_eq_true rfl) (Nat.le_of_ble_eq_true rfl) ?_
      exact W.iret (v := (-1001)) hx hb hr (fun t ht hWm => ⟨⟨_, (), rfl, by first | (rw [sel_n hq]; done) | (rw [sel_n hq]; rfl) | (rw [sel_n hq, hk]; rfl), LW_t ht hW9⟩, hS0.F ht⟩) hS0.2.2 dL_weightByLayers_10
  · intro r u t9 H9 locs9 ht hvm hq hB hz1 hk1 hS9
    obtain ⟨hq, hr9⟩ := hq
    have hPx := P_keep hP hk1 (fun _ _ h => h.elim)
    have hDx := hD
    have hW9 : LW D G X A (ad.1 3 0) c0 c2 hS hn sv lab fl H9 := by
      refine ⟨_, _, _, _, ?_, ?_, hPx, hDx⟩
      · exact rfl
      · exact hLV
    rw [hr9]
    have hS0 := hS9
    refine W.widen (k := 1) (n := 6) (Nat.le_of_ble_eq_true rfl) (Nat.le_of_ble_eq_true rfl) ?_
    exact W.iret (v := s_weightByLayers c0 b) hx hb hr (fun t ht hWm => ⟨⟨_, (), rfl, by first | (rw [sel_0 hq]; done) | (rw [sel_0 hq]; rfl), LW_t ht hW9⟩, hS0.F ht⟩) hS0.2.2 dL_weightByLayers_5
set_option maxRecDepth 100000 in
set_option maxHeartbeats 4000000 in
theorem cl_L_weightLeft (l : Launch) (hfl : l.stackTraces = false) (D : va_G) (G : GA) (B0 : Nat) (X : Nat → Nat → Nat) (A : Nat → Prop) (h : Nat) (c0 c2 : CS) (hS : Nat → CS) (hn : Nat) (sv : SV) (lab : List Int32) (fl : Nat → Int32) (b : Int32) (sz : Nat) : Met l yL_weightLeft (wH yL_weightLeft cL_weightLeft 3 (some .int) [(0, 5, 6, 30)]) ({ frames := 8, cells := 1, slots := 6, locals := 132 } : Room) (va_Pc [.ref h, .int b] (LWp D G B0 X A h c0 c2 hS hn sv lab fl sz)) (va_Qi (fun (r : Int32) (_ : Unit) => r = sel (x_bag c0 b) (s_roomIn c0 b) (-1001)) (fun _ t9 => LW D G X A h c0 c2 hS hn sv lab fl t9.heap) A) 1 6 A := by
  refine bx_ofWH (cc := cL_weightLeft) (maxL := 3) (ret := (some .int)) (hh := [(0, 5, 6, 30)]) (by decide) rfl ?_
  intro p9 e s m args below meth c9 s₁ B hml hv
  obtain ⟨rfl, hsz, ⟨ad, c1, lv, bs, rfl, hLV, hP, hD⟩, hK, hE, hA0, hAB⟩ := hv
  subst hsz
  have hx := B.exec
  have hb := B.bytes
  have hr := B.returns
  have hts : ∀ w9 ∈ tb, w9.before ([.ref (ad.1 3 0), .int b] : List Value).toArray s = true := fun w9 h9 => atoms_spec (ws := (wH yL_weightLeft cL_weightLeft 3 (some .int) [(0, 5, 6, 30)])) B.pre w9 (List.mem_cons_of_mem _ h9)
  have hown : s.vm.findClass RL = some m.cls := findClass_of_methodNamed B.named
  have hlocks := B.notSynchronized
  have hxt := vx_table (x := yL_weightLeft) B (hts _ kw_1402)
  have hS0 : va_S A s.heap s.heap [] := va_S.rf
  have hFc := freeC hD hS0 hA0
  have hl := lv_entry ([.ref (ad.1 3 0), .int b]) (n := 3) (Nat.le_of_ble_eq_true rfl)
  rw [lg_entry_eq]
  generalize (lg_sl ([.ref (ad.1 3 0), .int b]) ++ List.replicate (3 - (lg_sl ([.ref (ad.1 3 0), .int b])).length) Slot.unset).toArray = ls at hl ⊢
  have hl : lv_has ls 3 [(0, .ref (ad.1 3 0)), (1, .int b)] := hl
  refine lv_aload_n hx hb dL_weightLeft_0 rfl (lv_at hl 0 rfl) ?_
  refine lv_iload_n hx hb dL_weightLeft_1 rfl (lv_at hl 1 rfl) ?_
  refine vx_calli (vx_runV (As := [.int b]) (rest := []) ⟨hx, hb, hml, hown, hts⟩ (c_X7_weightLeft l hfl D G B0 X ad c0 c1 c2 hS hn sv lv bs fl b) (cwV 1 hts gw_L_85 rfl rfl rfl (by decide +kernel) ⟨Nat.le_of_ble_eq_true rfl, Nat.le_of_ble_eq_true rfl⟩) (pv_cq hK hP hE) rfl rfl hl.1 rfl (lv_room (Nat.le_of_ble_eq_true rfl)) dL_weightLeft_2 ⟨Nat.le_of_ble_eq_true rfl, Nat.le_of_ble_eq_true rfl⟩) hS0 (fun _ _ h => h.elim) (fun _ h => h.elim) (fun _ _ h => h.elim) ?_ ?_
  · intro E ce q9 u t9 H9 locs9 ht hvm hq hBX hz1 hk1 hS9 hce hcv hcl
    have hPx := P_keep hP hk1 (fun _ _ h => h.elim)
    have hDx := hD
    have hW9 : LW D G X A (ad.1 3 0) c0 c2 hS hn sv lab fl H9 := by
      refine ⟨_, _, _, _, ?_, ?_, hPx, hDx⟩
      · exact rfl
      · exact hLV
    rcases rg_x_bag c0 b with h0 | hk
    · exact absurd h0 hq
    · skip
      obtain rfl : E = "java/lang/IndexOutOfBoundsException" := hBX.trans (by rw [hk]; rfl)
      refine vx_catch (own := RL) (name := "java/lang/IndexOutOfBoundsException") hown [] ⟨0, 5, 6, 30⟩ [] hxt (fun _ h => absurd h List.not_mem_nil) (by decide) (by decide) (hts _ kw_579) (va_Nw.use rfl (nw_442 hE.nw)) hce hcv hcl ?_
      have hS0 := hS9
      refine lv_astore_n (x := q9) (lv' := [(2, .ref q9), (0, .ref (ad.1 3 0)), (1, .int b)]) hx hb dL_weightLeft_6 rfl hl (by decide) rfl (fun ls hl => ?_)
      refine lv_sipush (v := -1001) hx hb dL_weightLeft_7 (by decide) ?_
      refine W.widen (k := 1) (n := 6) (Nat.le_of_ble_eq_true rfl) (Nat.le_of_ble_eq_true rfl) ?_
      exact W.iret (v := (-1001)) hx hb hr (fun t ht hWm => ⟨⟨_, (), rfl, by first | (rw [sel_n hq]; done) | (rw [sel_n hq]; rfl) | (rw [sel_n hq, hk]; rfl), LW_t ht hW9⟩, hS0.F ht⟩) hS0.2.2 dL_weightLeft_10
  · intro r u t9 H9 locs9 ht hvm hq hB hz1 hk1 hS9
    obtain ⟨hq, hr9⟩ := hq
    have hPx := P_keep hP hk1 (fun _ _ h => h.elim)
    have hDx := hD
    have hW9 : LW D G X A (ad.1 3 0) c0 c2 hS hn sv lab fl H9 := by
      refine ⟨_, _, _, _, ?_, ?_, hPx, hDx⟩
      · exact rfl
      · exact hLV
    rw [hr9]
    have hS0 := hS9
    refine W.widen (k := 1) (n := 6) (Nat.le_of_ble_eq_true rfl) (Nat.le_of_ble_eq_true rfl) ?_
    exact W.iret (v := s_roomIn c0 b) hx hb hr (fun t ht hWm => ⟨⟨_, (), rfl, by first | (rw [sel_0 hq]; done) | (rw [sel_0 hq]; rfl), LW_t ht hW9⟩, hS0.F ht⟩) hS0.2.2 dL_weightLeft_5
set_option maxRecDepth 100000 in
set_option maxHeartbeats 4000000 in
theorem cl_L_layerCount (l : Launch) (hfl : l.stackTraces = false) (D : va_G) (G : GA) (B0 : Nat) (X : Nat → Nat → Nat) (A : Nat → Prop) (h : Nat) (c0 c2 : CS) (hS : Nat → CS) (hn : Nat) (sv : SV) (lab : List Int32) (fl : Nat → Int32) (b : Int32) (sz : Nat) : Met l yL_layerCount (wH yL_layerCount cL_layerCount 3 (some .int) [(0, 5, 6, 30)]) ({ frames := 8, cells := 1, slots := 6, locals := 132 } : Room) (va_Pc [.ref h, .int b] (LWp D G B0 X A h c0 c2 hS hn sv lab fl sz)) (va_Qi (fun (r : Int32) (_ : Unit) => r = sel (x_bag c0 b) (s_countLayers c0 b) (-1001)) (fun _ t9 => LW D G X A h c0 c2 hS hn sv lab fl t9.heap) A) 1 6 A := by
  refine bx_ofWH (cc := cL_layerCount) (maxL := 3) (ret := (some .int)) (hh := [(0, 5, 6, 30)]) (by decide) rfl ?_
  intro p9 e s m args below meth c9 s₁ B hml hv
  obtain ⟨rfl, hsz, ⟨ad, c1, lv, bs, rfl, hLV, hP, hD⟩, hK, hE, hA0, hAB⟩ := hv
  subst hsz
  have hx := B.exec
  have hb := B.bytes
  have hr := B.returns
  have hts : ∀ w9 ∈ tb, w9.before ([.ref (ad.1 3 0), .int b] : List Value).toArray s = true := fun w9 h9 => atoms_spec (ws := (wH yL_layerCount cL_layerCount 3 (some .int) [(0, 5, 6, 30)])) B.pre w9 (List.mem_cons_of_mem _ h9)
  have hown : s.vm.findClass RL = some m.cls := findClass_of_methodNamed B.named
  have hlocks := B.notSynchronized
  have hxt := vx_table (x := yL_layerCount) B (hts _ kw_723)
  have hS0 : va_S A s.heap s.heap [] := va_S.rf
  have hFc := freeC hD hS0 hA0
  have hl := lv_entry ([.ref (ad.1 3 0), .int b]) (n := 3) (Nat.le_of_ble_eq_true rfl)
  rw [lg_entry_eq]
  generalize (lg_sl ([.ref (ad.1 3 0), .int b]) ++ List.replicate (3 - (lg_sl ([.ref (ad.1 3 0), .int b])).length) Slot.unset).toArray = ls at hl ⊢
  have hl : lv_has ls 3 [(0, .ref (ad.1 3 0)), (1, .int b)] := hl
  refine lv_aload_n hx hb dL_layerCount_0 rfl (lv_at hl 0 rfl) ?_
  refine lv_iload_n hx hb dL_layerCount_1 rfl (lv_at hl 1 rfl) ?_
  refine vx_calli (vx_runV (As := [.int b]) (rest := []) ⟨hx, hb, hml, hown, hts⟩ (c_X7_layerCount l hfl D G B0 X ad c0 c1 c2 hS hn sv lv bs fl b) (cwV 1 hts gw_L_88 rfl rfl rfl (by decide +kernel) ⟨Nat.le_of_ble_eq_true rfl, Nat.le_of_ble_eq_true rfl⟩) (pv_cq hK hP hE) rfl rfl hl.1 rfl (lv_room (Nat.le_of_ble_eq_true rfl)) dL_layerCount_2 ⟨Nat.le_of_ble_eq_true rfl, Nat.le_of_ble_eq_true rfl⟩) hS0 (fun _ _ h => h.elim) (fun _ h => h.elim) (fun _ _ h => h.elim) ?_ ?_
  · intro E ce q9 u t9 H9 locs9 ht hvm hq hBX hz1 hk1 hS9 hce hcv hcl
    have hPx := P_keep hP hk1 (fun _ _ h => h.elim)
    have hDx := hD
    have hW9 : LW D G X A (ad.1 3 0) c0 c2 hS hn sv lab fl H9 := by
      refine ⟨_, _, _, _, ?_, ?_, hPx, hDx⟩
      · exact rfl
      · exact hLV
    rcases rg_x_bag c0 b with h0 | hk
    · exact absurd h0 hq
    · skip
      obtain rfl : E = "java/lang/IndexOutOfBoundsException" := hBX.trans (by rw [hk]; rfl)
      refine vx_catch (own := RL) (name := "java/lang/IndexOutOfBoundsException") hown [] ⟨0, 5, 6, 30⟩ [] hxt (fun _ h => absurd h List.not_mem_nil) (by decide) (by decide) (hts _ kw_579) (va_Nw.use rfl (nw_442 hE.nw)) hce hcv hcl ?_
      have hS0 := hS9
      refine lv_astore_n (x := q9) (lv' := [(2, .ref q9), (0, .ref (ad.1 3 0)), (1, .int b)]) hx hb dL_layerCount_6 rfl hl (by decide) rfl (fun ls hl => ?_)
      refine lv_sipush (v := -1001) hx hb dL_layerCount_7 (by decide) ?_
      refine W.widen (k := 1) (n := 6) (Nat.le_of_ble_eq_true rfl) (Nat.le_of_ble_eq_true rfl) ?_
      exact W.iret (v := (-1001)) hx hb hr (fun t ht hWm => ⟨⟨_, (), rfl, by first | (rw [sel_n hq]; done) | (rw [sel_n hq]; rfl) | (rw [sel_n hq, hk]; rfl), LW_t ht hW9⟩, hS0.F ht⟩) hS0.2.2 dL_layerCount_10
  · intro r u t9 H9 locs9 ht hvm hq hB hz1 hk1 hS9
    obtain ⟨hq, hr9⟩ := hq
    have hPx := P_keep hP hk1 (fun _ _ h => h.elim)
    have hDx := hD
    have hW9 : LW D G X A (ad.1 3 0) c0 c2 hS hn sv lab fl H9 := by
      refine ⟨_, _, _, _, ?_, ?_, hPx, hDx⟩
      · exact rfl
      · exact hLV
    rw [hr9]
    have hS0 := hS9
    refine W.widen (k := 1) (n := 6) (Nat.le_of_ble_eq_true rfl) (Nat.le_of_ble_eq_true rfl) ?_
    exact W.iret (v := s_countLayers c0 b) hx hb hr (fun t ht hWm => ⟨⟨_, (), rfl, by first | (rw [sel_0 hq]; done) | (rw [sel_0 hq]; rfl), LW_t ht hW9⟩, hS0.F ht⟩) hS0.2.2 dL_layerCount_5
set_option maxRecDepth 100000 in
set_option maxHeartbeats 4000000 in
theorem cl_L_bestLoad (l : Launch) (hfl : l.stackTraces = false) (D : va_G) (G : GA) (B0 : Nat) (X : Nat → Nat → Nat) (A : Nat → Prop) (h : Nat) (c0 c2 : CS) (hS : Nat → CS) (hn : Nat) (sv : SV) (lab : List Int32) (fl : Nat → Int32) (b : Int32) (sz : Nat) : Met l yL_bestLoad (wH yL_bestLoad cL_bestLoad 3 (some .int) [(0, 5, 6, 30)]) ({ frames := 16, cells := 1, slots := 6, locals := 402 } : Room) (va_Pc [.ref h, .int b] (LWp D G B0 X A h c0 c2 hS hn sv lab fl sz)) (va_Qi (fun (r : Int32) (_ : Unit) => r = sel (x_bag c0 b) (s_bests c0 b) (-1001)) (fun _ t9 => LW D G X A h c0 c2 hS hn sv lab fl t9.heap) A) 1 6 A := by
  refine bx_ofWH (cc := cL_bestLoad) (maxL := 3) (ret := (some .int)) (hh := [(0, 5, 6, 30)]) (by decide) rfl ?_
  intro p9 e s m args below meth c9 s₁ B hml hv
  obtain ⟨rfl, hsz, ⟨ad, c1, lv, bs, rfl, hLV, hP, hD⟩, hK, hE, hA0, hAB⟩ := hv
  subst hsz
  have hx := B.exec
  have hb := B.bytes
  have hr := B.returns
  have hts : ∀ w9 ∈ tb, w9.before ([.ref (ad.1 3 0), .int b] : List Value).toArray s = true := fun w9 h9 => atoms_spec (ws := (wH yL_bestLoad cL_bestLoad 3 (some .int) [(0, 5, 6, 30)])) B.pre w9 (List.mem_cons_of_mem _ h9)
  have hown : s.vm.findClass RL = some m.cls := findClass_of_methodNamed B.named
  have hlocks := B.notSynchronized
  have hxt := vx_table (x := yL_bestLoad) B (hts _ kw_1008)
  have hS0 : va_S A s.heap s.heap [] := va_S.rf
  have hFc := freeC hD hS0 hA0
  have hl := lv_entry ([.ref (ad.1 3 0), .int b]) (n := 3) (Nat.le_of_ble_eq_true rfl)
  rw [lg_entry_eq]
  generalize (lg_sl ([.ref (ad.1 3 0), .int b]) ++ List.replicate (3 - (lg_sl ([.ref (ad.1 3 0), .int b])).length) Slot.unset).toArray = ls at hl ⊢
  have hl : lv_has ls 3 [(0, .ref (ad.1 3 0)), (1, .int b)] := hl
  refine lv_aload_n hx hb dL_bestLoad_0 rfl (lv_at hl 0 rfl) ?_
  refine lv_iload_n hx hb dL_bestLoad_1 rfl (lv_at hl 1 rfl) ?_
  refine vx_calli (vx_runV (As := [.int b]) (rest := []) ⟨hx, hb, hml, hown, hts⟩ (c_X7_bestLoad l hfl D G B0 X ad c0 c1 c2 hS hn sv lv bs fl b) (cwV 1 hts gw_L_104 rfl rfl rfl (by decide +kernel) ⟨Nat.le_of_ble_eq_true rfl, Nat.le_of_ble_eq_true rfl⟩) (pv_cq hK hP hE) rfl rfl hl.1 rfl (lv_room (Nat.le_of_ble_eq_true rfl)) dL_bestLoad_2 ⟨Nat.le_of_ble_eq_true rfl, Nat.le_of_ble_eq_true rfl⟩) hS0 (fun _ _ h => h.elim) (fun _ h => h.elim) (fun _ _ h => h.elim) ?_ ?_
  · intro E ce q9 u t9 H9 locs9 ht hvm hq hBX hz1 hk1 hS9 hce hcv hcl
    have hPx := P_keep hP hk1 (fun _ _ h => h.elim)
    have hDx := hD
    have hW9 : LW D G X A (ad.1 3 0) c0 c2 hS hn sv lab fl H9 := by
      refine ⟨_, _, _, _, ?_, ?_, hPx, hDx⟩
      · exact rfl
      · exact hLV
    rcases rg_x_bag c0 b with h0 | hk
    · exact absurd h0 hq
    · skip
      obtain rfl : E = "java/lang/IndexOutOfBoundsException" := hBX.trans (by rw [hk]; rfl)
      refine vx_catch (own := RL) (name := "java/lang/IndexOutOfBoundsException") hown [] ⟨0, 5, 6, 30⟩ [] hxt (fun _ h => absurd h List.not_mem_nil) (by decide) (by decide) (hts _ kw_579) (va_Nw.use rfl (nw_442 hE.nw)) hce hcv hcl ?_
      have hS0 := hS9
      refine lv_astore_n (x := q9) (lv' := [(2, .ref q9), (0, .ref (ad.1 3 0)), (1, .int b)]) hx hb dL_bestLoad_6 rfl hl (by decide) rfl (fun ls hl => ?_)
      refine lv_sipush (v := -1001) hx hb dL_bestLoad_7 (by decide) ?_
      refine W.widen (k := 1) (n := 6) (Nat.le_of_ble_eq_true rfl) (Nat.le_of_ble_eq_true rfl) ?_
      exact W.iret (v := (-1001)) hx hb hr (fun t ht hWm => ⟨⟨_, (), rfl, by first | (rw [sel_n hq]; done) | (rw [sel_n hq]; rfl) | (rw [sel_n hq, hk]; rfl), LW_t ht hW9⟩, hS0.F ht⟩) hS0.2.2 dL_bestLoad_10
  · intro r u t9 H9 locs9 ht hvm hq hB hz1 hk1 hS9
    obtain ⟨hq, hr9⟩ := hq
    have hPx := P_keep hP hk1 (fun _ _ h => h.elim)
    have hDx := hD
    have hW9 : LW D G X A (ad.1 3 0) c0 c2 hS hn sv lab fl H9 := by
      refine ⟨_, _, _, _, ?_, ?_, hPx, hDx⟩
      · exact rfl
      · exact hLV
    rw [hr9]
    have hS0 := hS9
    refine W.widen (k := 1) (n := 6) (Nat.le_of_ble_eq_true rfl) (Nat.le_of_ble_eq_true rfl) ?_
    exact W.iret (v := s_bests c0 b) hx hb hr (fun t ht hWm => ⟨⟨_, (), rfl, by first | (rw [sel_0 hq]; done) | (rw [sel_0 hq]; rfl), LW_t ht hW9⟩, hS0.F ht⟩) hS0.2.2 dL_bestLoad_5
set_option maxRecDepth 100000 in
set_option maxHeartbeats 4000000 in
theorem cl_L_itemsInLayer (l : Launch) (hfl : l.stackTraces = false) (D : va_G) (G : GA) (B0 : Nat) (X : Nat → Nat → Nat) (A : Nat → Prop) (h : Nat) (c0 c2 : CS) (hS : Nat → CS) (hn : Nat) (sv : SV) (lab : List Int32) (fl : Nat → Int32) (b : Int32) (w : Int32) (sz : Nat) : Met l yL_itemsInLayer (wH yL_itemsInLayer cL_itemsInLayer 4 (some .int) [(0, 6, 7, 30)]) ({ frames := 9, cells := 2, slots := 12, locals := 155 } : Room) (va_Pc [.ref h, .int b, .int w] (LWp D G B0 X A h c0 c2 hS hn sv lab fl sz)) (va_Qi (fun (r : Int32) (_ : Unit) => r = sel (x_layer c0 b w) (s_countInLayer c0 b w) (-1001)) (fun _ t9 => LW D G X A h c0 c2 hS hn sv lab fl t9.heap) A) 2 12 A := by
  refine bx_ofWH (cc := cL_itemsInLayer) (maxL := 4) (ret := (some .int)) (hh := [(0, 6, 7, 30)]) (by decide) rfl ?_
  intro p9 e s m args below meth c9 s₁ B hml hv
  obtain ⟨rfl, hsz, ⟨ad, c1, lv, bs, rfl, hLV, hP, hD⟩, hK, hE, hA0, hAB⟩ := hv
  subst hsz
  have hx := B.exec
  have hb := B.bytes
  have hr := B.returns
  have hts : ∀ w9 ∈ tb, w9.before ([.ref (ad.1 3 0), .int b, .int w] : List Value).toArray s = true := fun w9 h9 => atoms_spec (ws := (wH yL_itemsInLayer cL_itemsInLayer 4 (some .int) [(0, 6, 7, 30)])) B.pre w9 (List.mem_cons_of_mem _ h9)
  have hown : s.vm.findClass RL = some m.cls := findClass_of_methodNamed B.named
  have hlocks := B.notSynchronized
  have hxt := vx_table (x := yL_itemsInLayer) B (hts _ kw_1410)
  have hS0 : va_S A s.heap s.heap [] := va_S.rf
  have hFc := freeC hD hS0 hA0
  have hl := lv_entry ([.ref (ad.1 3 0), .int b, .int w]) (n := 4) (Nat.le_of_ble_eq_true rfl)
  rw [lg_entry_eq]
  generalize (lg_sl ([.ref (ad.1 3 0), .int b, .int w]) ++ List.replicate (4 - (lg_sl ([.ref (ad.1 3 0), .int b, .int w])).length) Slot.unset).toArray = ls at hl ⊢
  have hl : lv_has ls 4 [(0, .ref (ad.1 3 0)), (1, .int b), (2, .int w)] := hl
  refine lv_aload_n hx hb dL_itemsInLayer_0 rfl (lv_at hl 0 rfl) ?_
  refine lv_iload_n hx hb dL_itemsInLayer_1 rfl (lv_at hl 1 rfl) ?_
  refine lv_iload_n hx hb dL_itemsInLayer_2 rfl (lv_at hl 2 rfl) ?_
  refine vx_calli (vx_runV (As := [.int b, .int w]) (rest := []) ⟨hx, hb, hml, hown, hts⟩ (c_X7_itemsInLayer l hfl D G B0 X ad c0 c1 c2 hS hn sv lv bs fl b w) (cwV 2 hts gw_L_91 rfl rfl rfl (by decide +kernel) ⟨Nat.le_of_ble_eq_true rfl, Nat.le_of_ble_eq_true rfl⟩) (pv_cq hK hP hE) rfl rfl hl.1 rfl (lv_room (Nat.le_of_ble_eq_true rfl)) dL_itemsInLayer_3 ⟨Nat.le_of_ble_eq_true rfl, Nat.le_of_ble_eq_true rfl⟩) hS0 (fun _ _ h => h.elim) (fun _ h => h.elim) (fun _ _ h => h.elim) ?_ ?_
  · intro E ce q9 u t9 H9 locs9 ht hvm hq hBX hz1 hk1 hS9 hce hcv hcl
    have hPx := P_keep hP hk1 (fun _ _ h => h.elim)
    have hDx := hD
    have hW9 : LW D G X A (ad.1 3 0) c0 c2 hS hn sv lab fl H9 := by
      refine ⟨_, _, _, _, ?_, ?_, hPx, hDx⟩
      · exact rfl
      · exact hLV
    rcases rg_x_layer c0 b w with h0 | hk
    · exact absurd h0 hq
    · skip
      obtain rfl : E = "java/lang/IndexOutOfBoundsException" := hBX.trans (by rw [hk]; rfl)
      refine vx_catch (own := RL) (name := "java/lang/IndexOutOfBoundsException") hown [] ⟨0, 6, 7, 30⟩ [] hxt (fun _ h => absurd h List.not_mem_nil) (by decide) (by decide) (hts _ kw_579) (va_Nw.use rfl (nw_442 hE.nw)) hce hcv hcl ?_
      have hS0 := hS9
      refine lv_astore_n (x := q9) (lv' := [(3, .ref q9), (0, .ref (ad.1 3 0)), (1, .int b), (2, .int w)]) hx hb dL_itemsInLayer_7 rfl hl (by decide) rfl (fun ls hl => ?_)
      refine lv_sipush (v := -1001) hx hb dL_itemsInLayer_8 (by decide) ?_
      refine W.widen (k := 2) (n := 12) (Nat.le_of_ble_eq_true rfl) (Nat.le_of_ble_eq_true rfl) ?_
      exact W.iret (v := (-1001)) hx hb hr (fun t ht hWm => ⟨⟨_, (), rfl, by first | (rw [sel_n hq]; done) | (rw [sel_n hq]; rfl) | (rw [sel_n hq, hk]; rfl), LW_t ht hW9⟩, hS0.F ht⟩) hS0.2.2 dL_itemsInLayer_11
  · intro r u t9 H9 locs9 ht hvm hq hB hz1 hk1 hS9
    obtain ⟨hq, hr9⟩ := hq
    have hPx := P_keep hP hk1 (fun _ _ h => h.elim)
    have hDx := hD
    have hW9 : LW D G X A (ad.1 3 0) c0 c2 hS hn sv lab fl H9 := by
      refine ⟨_, _, _, _, ?_, ?_, hPx, hDx⟩
      · exact rfl
      · exact hLV
    rw [hr9]
    have hS0 := hS9
    refine W.widen (k := 2) (n := 12) (Nat.le_of_ble_eq_true rfl) (Nat.le_of_ble_eq_true rfl) ?_
    exact W.iret (v := s_countInLayer c0 b w) hx hb hr (fun t ht hWm => ⟨⟨_, (), rfl, by first | (rw [sel_0 hq]; done) | (rw [sel_0 hq]; rfl), LW_t ht hW9⟩, hS0.F ht⟩) hS0.2.2 dL_itemsInLayer_6
set_option maxRecDepth 100000 in
set_option maxHeartbeats 4000000 in
theorem cl_L_sizeUsed (l : Launch) (hfl : l.stackTraces = false) (D : va_G) (G : GA) (B0 : Nat) (X : Nat → Nat → Nat) (A : Nat → Prop) (h : Nat) (c0 c2 : CS) (hS : Nat → CS) (hn : Nat) (sv : SV) (lab : List Int32) (fl : Nat → Int32) (b : Int32) (w : Int32) (sz : Nat) : Met l yL_sizeUsed (wH yL_sizeUsed cL_sizeUsed 4 (some .int) [(0, 6, 7, 30)]) ({ frames := 9, cells := 2, slots := 12, locals := 155 } : Room) (va_Pc [.ref h, .int b, .int w] (LWp D G B0 X A h c0 c2 hS hn sv lab fl sz)) (va_Qi (fun (r : Int32) (_ : Unit) => r = sel (x_layer c0 b w) (s_sizeOfLayer c0 b w) (-1001)) (fun _ t9 => LW D G X A h c0 c2 hS hn sv lab fl t9.heap) A) 2 12 A := by
  refine bx_ofWH (cc := cL_sizeUsed) (maxL := 4) (ret := (some .int)) (hh := [(0, 6, 7, 30)]) (by decide) rfl ?_
  intro p9 e s m args below meth c9 s₁ B hml hv
  obtain ⟨rfl, hsz, ⟨ad, c1, lv, bs, rfl, hLV, hP, hD⟩, hK, hE, hA0, hAB⟩ := hv
  subst hsz
  have hx := B.exec
  have hb := B.bytes
  have hr := B.returns
  have hts : ∀ w9 ∈ tb, w9.before ([.ref (ad.1 3 0), .int b, .int w] : List Value).toArray s = true := fun w9 h9 => atoms_spec (ws := (wH yL_sizeUsed cL_sizeUsed 4 (some .int) [(0, 6, 7, 30)])) B.pre w9 (List.mem_cons_of_mem _ h9)
  have hown : s.vm.findClass RL = some m.cls := findClass_of_methodNamed B.named
  have hlocks := B.notSynchronized
  have hxt := vx_table (x := yL_sizeUsed) B (hts _ kw_1432)
  have hS0 : va_S A s.heap s.heap [] := va_S.rf
  have hFc := freeC hD hS0 hA0
  have hl := lv_entry ([.ref (ad.1 3 0), .int b, .int w]) (n := 4) (Nat.le_of_ble_eq_true rfl)
  rw [lg_entry_eq]
  generalize (lg_sl ([.ref (ad.1 3 0), .int b, .int w]) ++ List.replicate (4 - (lg_sl ([.ref (ad.1 3 0), .int b, .int w])).length) Slot.unset).toArray = ls at hl ⊢
  have hl : lv_has ls 4 [(0, .ref (ad.1 3 0)), (1, .int b), (2, .int w)] := hl
  refine lv_aload_n hx hb dL_sizeUsed_0 rfl (lv_at hl 0 rfl) ?_
  refine lv_iload_n hx hb dL_sizeUsed_1 rfl (lv_at hl 1 rfl) ?_
  refine lv_iload_n hx hb dL_sizeUsed_2 rfl (lv_at hl 2 rfl) ?_
  refine vx_calli (vx_runV (As := [.int b, .int w]) (rest := []) ⟨hx, hb, hml, hown, hts⟩ (c_X7_sizeUsed l hfl D G B0 X ad c0 c1 c2 hS hn sv lv bs fl b w) (cwV 2 hts gw_L_98 rfl rfl rfl (by decide +kernel) ⟨Nat.le_of_ble_eq_true rfl, Nat.le_of_ble_eq_true rfl⟩) (pv_cq hK hP hE) rfl rfl hl.1 rfl (lv_room (Nat.le_of_ble_eq_true rfl)) dL_sizeUsed_3 ⟨Nat.le_of_ble_eq_true rfl, Nat.le_of_ble_eq_true rfl⟩) hS0 (fun _ _ h => h.elim) (fun _ h => h.elim) (fun _ _ h => h.elim) ?_ ?_
  · intro E ce q9 u t9 H9 locs9 ht hvm hq hBX hz1 hk1 hS9 hce hcv hcl
    have hPx := P_keep hP hk1 (fun _ _ h => h.elim)
    have hDx := hD
    have hW9 : LW D G X A (ad.1 3 0) c0 c2 hS hn sv lab fl H9 := by
      refine ⟨_, _, _, _, ?_, ?_, hPx, hDx⟩
      · exact rfl
      · exact hLV
    rcases rg_x_layer c0 b w with h0 | hk
    · exact absurd h0 hq
    · skip
      obtain rfl : E = "java/lang/IndexOutOfBoundsException" := hBX.trans (by rw [hk]; rfl)
      refine vx_catch (own := RL) (name := "java/lang/IndexOutOfBoundsException") hown [] ⟨0, 6, 7, 30⟩ [] hxt (fun _ h => absurd h List.not_mem_nil) (by decide) (by decide) (hts _ kw_579) (va_Nw.use rfl (nw_442 hE.nw)) hce hcv hcl ?_
      have hS0 := hS9
      refine lv_astore_n (x := q9) (lv' := [(3, .ref q9), (0, .ref (ad.1 3 0)), (1, .int b), (2, .int w)]) hx hb dL_sizeUsed_7 rfl hl (by decide) rfl (fun ls hl => ?_)
      refine lv_sipush (v := -1001) hx hb dL_sizeUsed_8 (by decide) ?_
      refine W.widen (k := 2) (n := 12) (Nat.le_of_ble_eq_true rfl) (Nat.le_of_ble_eq_true rfl) ?_
      exact W.iret (v := (-1001)) hx hb hr (fun t ht hWm => ⟨⟨_, (), rfl, by first | (rw [sel_n hq]; done) | (rw [sel_n hq]; rfl) | (rw [sel_n hq, hk]; rfl), LW_t ht hW9⟩, hS0.F ht⟩) hS0.2.2 dL_sizeUsed_11
  · intro r u t9 H9 locs9 ht hvm hq hB hz1 hk1 hS9
    obtain ⟨hq, hr9⟩ := hq
    have hPx := P_keep hP hk1 (fun _ _ h => h.elim)
    have hDx := hD
    have hW9 : LW D G X A (ad.1 3 0) c0 c2 hS hn sv lab fl H9 := by
      refine ⟨_, _, _, _, ?_, ?_, hPx, hDx⟩
      · exact rfl
      · exact hLV
    rw [hr9]
    have hS0 := hS9
    refine W.widen (k := 2) (n := 12) (Nat.le_of_ble_eq_true rfl) (Nat.le_of_ble_eq_true rfl) ?_
    exact W.iret (v := s_sizeOfLayer c0 b w) hx hb hr (fun t ht hWm => ⟨⟨_, (), rfl, by first | (rw [sel_0 hq]; done) | (rw [sel_0 hq]; rfl), LW_t ht hW9⟩, hS0.F ht⟩) hS0.2.2 dL_sizeUsed_6
set_option maxRecDepth 100000 in
set_option maxHeartbeats 4000000 in
theorem cl_L_loadOf (l : Launch) (hfl : l.stackTraces = false) (D : va_G) (G : GA) (B0 : Nat) (X : Nat → Nat → Nat) (A : Nat → Prop) (h : Nat) (c0 c2 : CS) (hS : Nat → CS) (hn : Nat) (sv : SV) (lab : List Int32) (fl : Nat → Int32) (b : Int32) (w : Int32) (sz : Nat) : Met l yL_loadOf (wH yL_loadOf cL_loadOf 4 (some .int) [(0, 6, 7, 30)]) ({ frames := 9, cells := 2, slots := 12, locals := 155 } : Room) (va_Pc [.ref h, .int b, .int w] (LWp D G B0 X A h c0 c2 hS hn sv lab fl sz)) (va_Qi (fun (r : Int32) (_ : Unit) => r = sel (x_layer c0 b w) (s_loadOn c0 b w) (-1001)) (fun _ t9 => LW D G X A h c0 c2 hS hn sv lab fl t9.heap) A) 2 12 A := by
  refine bx_ofWH (cc := cL_loadOf) (maxL := 4) (ret := (some .int)) (hh := [(0, 6, 7, 30)]) (by decide) rfl ?_
  intro p9 e s m args below meth c9 s₁ B hml hv
  obtain ⟨rfl, hsz, ⟨ad, c1, lv, bs, rfl, hLV, hP, hD⟩, hK, hE, hA0, hAB⟩ := hv
  subst hsz
  have hx := B.exec
  have hb := B.bytes
  have hr := B.returns
  have hts : ∀ w9 ∈ tb, w9.before ([.ref (ad.1 3 0), .int b, .int w] : List Value).toArray s = true := fun w9 h9 => atoms_spec (ws := (wH yL_loadOf cL_loadOf 4 (some .int) [(0, 6, 7, 30)])) B.pre w9 (List.mem_cons_of_mem _ h9)
  have hown : s.vm.findClass RL = some m.cls := findClass_of_methodNamed B.named
  have hlocks := B.notSynchronized
  have hxt := vx_table (x := yL_loadOf) B (hts _ kw_1440)
  have hS0 : va_S A s.heap s.heap [] := va_S.rf
  have hFc := freeC hD hS0 hA0
  have hl := lv_entry ([.ref (ad.1 3 0), .int b, .int w]) (n := 4) (Nat.le_of_ble_eq_true rfl)
  rw [lg_entry_eq]
  generalize (lg_sl ([.ref (ad.1 3 0), .int b, .int w]) ++ List.replicate (4 - (lg_sl ([.ref (ad.1 3 0), .int b, .int w])).length) Slot.unset).toArray = ls at hl ⊢
  have hl : lv_has ls 4 [(0, .ref (ad.1 3 0)), (1, .int b), (2, .int w)] := hl
  refine lv_aload_n hx hb dL_loadOf_0 rfl (lv_at hl 0 rfl) ?_
  refine lv_iload_n hx hb dL_loadOf_1 rfl (lv_at hl 1 rfl) ?_
  refine lv_iload_n hx hb dL_loadOf_2 rfl (lv_at hl 2 rfl) ?_
  refine vx_calli (vx_runV (As := [.int b, .int w]) (rest := []) ⟨hx, hb, hml, hown, hts⟩ (c_X7_loadOf l hfl D G B0 X ad c0 c1 c2 hS hn sv lv bs fl b w) (cwV 2 hts gw_L_101 rfl rfl rfl (by decide +kernel) ⟨Nat.le_of_ble_eq_true rfl, Nat.le_of_ble_eq_true rfl⟩) (pv_cq hK hP hE) rfl rfl hl.1 rfl (lv_room (Nat.le_of_ble_eq_true rfl)) dL_loadOf_3 ⟨Nat.le_of_ble_eq_true rfl, Nat.le_of_ble_eq_true rfl⟩) hS0 (fun _ _ h => h.elim) (fun _ h => h.elim) (fun _ _ h => h.elim) ?_ ?_
  · intro E ce q9 u t9 H9 locs9 ht hvm hq hBX hz1 hk1 hS9 hce hcv hcl
    have hPx := P_keep hP hk1 (fun _ _ h => h.elim)
    have hDx := hD
    have hW9 : LW D G X A (ad.1 3 0) c0 c2 hS hn sv lab fl H9 := by
      refine ⟨_, _, _, _, ?_, ?_, hPx, hDx⟩
      · exact rfl
      · exact hLV
    rcases rg_x_layer c0 b w with h0 | hk
    · exact absurd h0 hq
    · skip
      obtain rfl : E = "java/lang/IndexOutOfBoundsException" := hBX.trans (by rw [hk]; rfl)
      refine vx_catch (own := RL) (name := "java/lang/IndexOutOfBoundsException") hown [] ⟨0, 6, 7, 30⟩ [] hxt (fun _ h => absurd h List.not_mem_nil) (by decide) (by decide) (hts _ kw_579) (va_Nw.use rfl (nw_442 hE.nw)) hce hcv hcl ?_
      have hS0 := hS9
      refine lv_astore_n (x := q9) (lv' := [(3, .ref q9), (0, .ref (ad.1 3 0)), (1, .int b), (2, .int w)]) hx hb dL_loadOf_7 rfl hl (by decide) rfl (fun ls hl => ?_)
      refine lv_sipush (v := -1001) hx hb dL_loadOf_8 (by decide) ?_
      refine W.widen (k := 2) (n := 12) (Nat.le_of_ble_eq_true rfl) (Nat.le_of_ble_eq_true rfl) ?_
      exact W.iret (v := (-1001)) hx hb hr (fun t ht hWm => ⟨⟨_, (), rfl, by first | (rw [sel_n hq]; done) | (rw [sel_n hq]; rfl) | (rw [sel_n hq, hk]; rfl), LW_t ht hW9⟩, hS0.F ht⟩) hS0.2.2 dL_loadOf_11
  · intro r u t9 H9 locs9 ht hvm hq hB hz1 hk1 hS9
    obtain ⟨hq, hr9⟩ := hq
    have hPx := P_keep hP hk1 (fun _ _ h => h.elim)
    have hDx := hD
    have hW9 : LW D G X A (ad.1 3 0) c0 c2 hS hn sv lab fl H9 := by
      refine ⟨_, _, _, _, ?_, ?_, hPx, hDx⟩
      · exact rfl
      · exact hLV
    rw [hr9]
    have hS0 := hS9
    refine W.widen (k := 2) (n := 12) (Nat.le_of_ble_eq_true rfl) (Nat.le_of_ble_eq_true rfl) ?_
    exact W.iret (v := s_loadOn c0 b w) hx hb hr (fun t ht hWm => ⟨⟨_, (), rfl, by first | (rw [sel_0 hq]; done) | (rw [sel_0 hq]; rfl), LW_t ht hW9⟩, hS0.F ht⟩) hS0.2.2 dL_loadOf_6
set_option maxRecDepth 100000 in
set_option maxHeartbeats 4000000 in
theorem cl_L_itemAt (l : Launch) (hfl : l.stackTraces = false) (D : va_G) (G : GA) (B0 : Nat) (X : Nat → Nat → Nat) (A : Nat → Prop) (h : Nat) (c0 c2 : CS) (hS : Nat → CS) (hn : Nat) (sv : SV) (lab : List Int32) (fl : Nat → Int32) (b : Int32) (w : Int32) (i : Int32) (sz : Nat) : Met l yL_itemAt (wH yL_itemAt cL_itemAt 5 (some .int) [(0, 7, 8, 30), (0, 7, 14, 24)]) ({ frames := 9, cells := 3, slots := 18, locals := 157 } : Room) (va_Pc [.ref h, .int b, .int w, .int i] (LWp D G B0 X A h c0 c2 hS hn sv lab fl sz)) (va_Qi (fun (r : Int32) (_ : Unit) => r = sel (x_place c0 b w i) (itm c0 (s_findPlace c0 b w i) 0) (if x_place c0 b w i = 2 then (-1002) else (-1001))) (fun _ t9 => LW D G X A h c0 c2 hS hn sv lab fl t9.heap) A) 3 18 A := by
  refine bx_ofWH (cc := cL_itemAt) (maxL := 5) (ret := (some .int)) (hh := [(0, 7, 8, 30), (0, 7, 14, 24)]) (by decide) rfl ?_
  intro p9 e s m args below meth c9 s₁ B hml hv
  obtain ⟨rfl, hsz, ⟨ad, c1, lv, bs, rfl, hLV, hP, hD⟩, hK, hE, hA0, hAB⟩ := hv
  subst hsz
  have hx := B.exec
  have hb := B.bytes
  have hr := B.returns
  have hts : ∀ w9 ∈ tb, w9.before ([.ref (ad.1 3 0), .int b, .int w, .int i] : List Value).toArray s = true := fun w9 h9 => atoms_spec (ws := (wH yL_itemAt cL_itemAt 5 (some .int) [(0, 7, 8, 30), (0, 7, 14, 24)])) B.pre w9 (List.mem_cons_of_mem _ h9)
  have hown : s.vm.findClass RL = some m.cls := findClass_of_methodNamed B.named
  have hlocks := B.notSynchronized
  have hxt := vx_table (x := yL_itemAt) B (hts _ kw_1423)
  have hS0 : va_S A s.heap s.heap [] := va_S.rf
  have hFc := freeC hD hS0 hA0
  have hl := lv_entry ([.ref (ad.1 3 0), .int b, .int w, .int i]) (n := 5) (Nat.le_of_ble_eq_true rfl)
  rw [lg_entry_eq]
  generalize (lg_sl ([.ref (ad.1 3 0), .int b, .int w, .int i]) ++ List.replicate (5 - (lg_sl ([.ref (ad.1 3 0), .int b, .int w, .int i])).length) Slot.unset).toArray = ls at hl ⊢
  have hl : lv_has ls 5 [(0, .ref (ad.1 3 0)), (1, .int b), (2, .int w), (3, .int i)] := hl
  refine lv_aload_n hx hb dL_itemAt_0 rfl (lv_at hl 0 rfl) ?_
  refine lv_iload_n hx hb dL_itemAt_1 rfl (lv_at hl 1 rfl) ?_
  refine lv_iload_n hx hb dL_itemAt_2 rfl (lv_at hl 2 rfl) ?_
  refine lv_iload_n hx hb dL_itemAt_3 rfl (lv_at hl 3 rfl) ?_
  refine vx_calli (vx_runV (As := [.int b, .int w, .int i]) (rest := []) ⟨hx, hb, hml, hown, hts⟩ (c_X7_itemAt l hfl D G B0 X ad c0 c1 c2 hS hn sv lv bs fl b w i) (cwV 3 hts gw_L_94 rfl rfl rfl (by decide +kernel) ⟨Nat.le_of_ble_eq_true rfl, Nat.le_of_ble_eq_true rfl⟩) (pv_cq hK hP hE) rfl rfl hl.1 rfl (lv_room (Nat.le_of_ble_eq_true rfl)) dL_itemAt_4 ⟨Nat.le_of_ble_eq_true rfl, Nat.le_of_ble_eq_true rfl⟩) hS0 (fun _ _ h => h.elim) (fun _ h => h.elim) (fun _ _ h => h.elim) ?_ ?_
  · intro E ce q9 u t9 H9 locs9 ht hvm hq hBX hz1 hk1 hS9 hce hcv hcl
    have hPx := P_keep hP hk1 (fun _ _ h => h.elim)
    have hDx := hD
    have hW9 : LW D G X A (ad.1 3 0) c0 c2 hS hn sv lab fl H9 := by
      refine ⟨_, _, _, _, ?_, ?_, hPx, hDx⟩
      · exact rfl
      · exact hLV
    rcases rg_x_place c0 b w i with h0 | hk | hk
    · exact absurd h0 hq
    · skip
      obtain rfl : E = "java/util/NoSuchElementException" := hBX.trans (by rw [hk]; rfl)
      refine vx_catch (own := RL) (name := "java/util/NoSuchElementException") hown [⟨0, 7, 8, 30⟩] ⟨0, 7, 14, 24⟩ [] hxt (List.forall_mem_cons.mpr ⟨Or.inr ⟨by decide, "java/lang/IndexOutOfBoundsException", hts _ kw_579, hE.n.2.2.2.2.2.2.2⟩, (fun _ h => absurd h List.not_mem_nil)⟩) (by decide) (by decide) (hts _ kw_527) (va_Nw.use rfl (nw_424 hE.nw)) hce hcv hcl ?_
      have hS0 := hS9
      refine lv_astore (x := q9) (lv' := [(4, .ref q9), (0, .ref (ad.1 3 0)), (1, .int b), (2, .int w), (3, .int i)]) hx hb dL_itemAt_14 hl (by decide) rfl (fun ls hl => ?_)
      refine lv_sipush (v := -1002) hx hb dL_itemAt_16 (by decide) ?_
      refine W.widen (k := 3) (n := 18) (Nat.le_of_ble_eq_true rfl) (Nat.le_of_ble_eq_true rfl) ?_
      exact W.iret (v := (-1002)) hx hb hr (fun t ht hWm => ⟨⟨_, (), rfl, by first | (rw [sel_n hq]; done) | (rw [sel_n hq]; rfl) | (rw [sel_n hq, hk]; rfl), LW_t ht hW9⟩, hS0.F ht⟩) hS0.2.2 dL_itemAt_19
    · skip
      obtain rfl : E = "java/lang/IndexOutOfBoundsException" := hBX.trans (by rw [hk]; rfl)
      refine vx_catch (own := RL) (name := "java/lang/IndexOutOfBoundsException") hown [] ⟨0, 7, 8, 30⟩ [⟨0, 7, 14, 24⟩] hxt (fun _ h => absurd h List.not_mem_nil) (by decide) (by decide) (hts _ kw_579) (va_Nw.use rfl (nw_442 hE.nw)) hce hcv hcl ?_
      have hS0 := hS9
      refine lv_astore (x := q9) (lv' := [(4, .ref q9), (0, .ref (ad.1 3 0)), (1, .int b), (2, .int w), (3, .int i)]) hx hb dL_itemAt_8 hl (by decide) rfl (fun ls hl => ?_)
      refine lv_sipush (v := -1001) hx hb dL_itemAt_10 (by decide) ?_
      refine W.widen (k := 3) (n := 18) (Nat.le_of_ble_eq_true rfl) (Nat.le_of_ble_eq_true rfl) ?_
      exact W.iret (v := (-1001)) hx hb hr (fun t ht hWm => ⟨⟨_, (), rfl, by first | (rw [sel_n hq]; done) | (rw [sel_n hq]; rfl) | (rw [sel_n hq, hk]; rfl), LW_t ht hW9⟩, hS0.F ht⟩) hS0.2.2 dL_itemAt_13
  · intro r u t9 H9 locs9 ht hvm hq hB hz1 hk1 hS9
    obtain ⟨hq, hr9⟩ := hq
    have hPx := P_keep hP hk1 (fun _ _ h => h.elim)
    have hDx := hD
    have hW9 : LW D G X A (ad.1 3 0) c0 c2 hS hn sv lab fl H9 := by
      refine ⟨_, _, _, _, ?_, ?_, hPx, hDx⟩
      · exact rfl
      · exact hLV
    rw [hr9]
    have hS0 := hS9
    refine W.widen (k := 3) (n := 18) (Nat.le_of_ble_eq_true rfl) (Nat.le_of_ble_eq_true rfl) ?_
    exact W.iret (v := itm c0 (s_findPlace c0 b w i) 0) hx hb hr (fun t ht hWm => ⟨⟨_, (), rfl, by first | (rw [sel_0 hq]; done) | (rw [sel_0 hq]; rfl), LW_t ht hW9⟩, hS0.F ht⟩) hS0.2.2 dL_itemAt_7
set_option maxRecDepth 100000 in
set_option maxHeartbeats 4000000 in
theorem cl_L_bestByTable (l : Launch) (hfl : l.stackTraces = false) (D : va_G) (G : GA) (B0 : Nat) (X : Nat → Nat → Nat) (A : Nat → Prop) (h : Nat) (c0 c2 : CS) (hS : Nat → CS) (hn : Nat) (sv : SV) (lab : List Int32) (fl : Nat → Int32) (b : Int32) (hNB : x_bag c0 b ≠ 0) (sz : Nat) : Met l yL_bestByTable (wH yL_bestByTable cL_bestByTable 3 (some .int) [(0, 5, 6, 30)]) ({ frames := 8, cells := 1, slots := 6, locals := 132 } : Room) (va_Pc [.ref h, .int b] (LWp D G B0 X A h c0 c2 hS hn sv lab fl sz)) (va_Qi (fun (r : Int32) (_ : Unit) => r = sel (x_bag c0 b) (0) (-1001)) (fun _ t9 => LW D G X A h c0 c2 hS hn sv lab fl t9.heap) A) 1 6 A := by
  refine bx_ofWH (cc := cL_bestByTable) (maxL := 3) (ret := (some .int)) (hh := [(0, 5, 6, 30)]) (by decide) rfl ?_
  intro p9 e s m args below meth c9 s₁ B hml hv
  obtain ⟨rfl, hsz, ⟨ad, c1, lv, bs, rfl, hLV, hP, hD⟩, hK, hE, hA0, hAB⟩ := hv
  subst hsz
  have hx := B.exec
  have hb := B.bytes
  have hr := B.returns
  have hts : ∀ w9 ∈ tb, w9.before ([.ref (ad.1 3 0), .int b] : List Value).toArray s = true := fun w9 h9 => atoms_spec (ws := (wH yL_bestByTable cL_bestByTable 3 (some .int) [(0, 5, 6, 30)])) B.pre w9 (List.mem_cons_of_mem _ h9)
  have hown : s.vm.findClass RL = some m.cls := findClass_of_methodNamed B.named
  have hlocks := B.notSynchronized
  have hxt := vx_table (x := yL_bestByTable) B (hts _ kw_1448)
  have hS0 : va_S A s.heap s.heap [] := va_S.rf
  have hFc := freeC hD hS0 hA0
  have hl := lv_entry ([.ref (ad.1 3 0), .int b]) (n := 3) (Nat.le_of_ble_eq_true rfl)
  rw [lg_entry_eq]
  generalize (lg_sl ([.ref (ad.1 3 0), .int b]) ++ List.replicate (3 - (lg_sl ([.ref (ad.1 3 0), .int b])).length) Slot.unset).toArray = ls at hl ⊢
  have hl : lv_has ls 3 [(0, .ref (ad.1 3 0)), (1, .int b)] := hl
  refine lv_aload_n hx hb dL_bestByTable_0 rfl (lv_at hl 0 rfl) ?_
  refine lv_iload_n hx hb dL_bestByTable_1 rfl (lv_at hl 1 rfl) ?_
  refine vx_calli (vx_runV (As := [.int b]) (rest := []) ⟨hx, hb, hml, hown, hts⟩ (c_X7_bestLoadByTable l hfl D G B0 X ad c0 c1 c2 hS hn sv lv bs fl b hNB) (cwV 1 hts gw_L_107 rfl rfl rfl (by decide +kernel) ⟨Nat.le_of_ble_eq_true rfl, Nat.le_of_ble_eq_true rfl⟩) (pv_cq hK hP hE) rfl rfl hl.1 rfl (lv_room (Nat.le_of_ble_eq_true rfl)) dL_bestByTable_2 ⟨Nat.le_of_ble_eq_true rfl, Nat.le_of_ble_eq_true rfl⟩) hS0 (fun _ _ h => h.elim) (fun _ h => h.elim) (fun _ _ h => h.elim) ?_ ?_
  · intro E ce q9 u t9 H9 locs9 ht hvm hq hBX hz1 hk1 hS9 hce hcv hcl
    have hPx := P_keep hP hk1 (fun _ _ h => h.elim)
    have hDx := hD
    have hW9 : LW D G X A (ad.1 3 0) c0 c2 hS hn sv lab fl H9 := by
      refine ⟨_, _, _, _, ?_, ?_, hPx, hDx⟩
      · exact rfl
      · exact hLV
    rcases rg_x_bag c0 b with h0 | hk
    · exact absurd h0 hq
    · skip
      obtain rfl : E = "java/lang/IndexOutOfBoundsException" := hBX.trans (by rw [hk]; rfl)
      refine vx_catch (own := RL) (name := "java/lang/IndexOutOfBoundsException") hown [] ⟨0, 5, 6, 30⟩ [] hxt (fun _ h => absurd h List.not_mem_nil) (by decide) (by decide) (hts _ kw_579) (va_Nw.use rfl (nw_442 hE.nw)) hce hcv hcl ?_
      have hS0 := hS9
      refine lv_astore_n (x := q9) (lv' := [(2, .ref q9), (0, .ref (ad.1 3 0)), (1, .int b)]) hx hb dL_bestByTable_6 rfl hl (by decide) rfl (fun ls hl => ?_)
      refine lv_sipush (v := -1001) hx hb dL_bestByTable_7 (by decide) ?_
      refine W.widen (k := 1) (n := 6) (Nat.le_of_ble_eq_true rfl) (Nat.le_of_ble_eq_true rfl) ?_
      exact W.iret (v := (-1001)) hx hb hr (fun t ht hWm => ⟨⟨_, (), rfl, by first | (rw [sel_n hq]; done) | (rw [sel_n hq]; rfl) | (rw [sel_n hq, hk]; rfl), LW_t ht hW9⟩, hS0.F ht⟩) hS0.2.2 dL_bestByTable_10
  · intro r u t9 H9 locs9 ht hvm hq hB hz1 hk1 hS9
    obtain ⟨hq, hr9⟩ := hq
    have hPx := P_keep hP hk1 (fun _ _ h => h.elim)
    have hDx := hD
    have hW9 : LW D G X A (ad.1 3 0) c0 c2 hS hn sv lab fl H9 := by
      refine ⟨_, _, _, _, ?_, ?_, hPx, hDx⟩
      · exact rfl
      · exact hLV
    rw [hr9]
    have hS0 := hS9
    refine W.widen (k := 1) (n := 6) (Nat.le_of_ble_eq_true rfl) (Nat.le_of_ble_eq_true rfl) ?_
    exact W.iret (v := 0) hx hb hr (fun t ht hWm => ⟨⟨_, (), rfl, by first | (rw [sel_0 hq]; done) | (rw [sel_0 hq]; rfl), LW_t ht hW9⟩, hS0.F ht⟩) hS0.2.2 dL_bestByTable_5
set_option maxRecDepth 100000 in
set_option maxHeartbeats 4000000 in
theorem cl_L_emptiest (l : Launch) (hfl : l.stackTraces = false) (D : va_G) (G : GA) (B0 : Nat) (X : Nat → Nat → Nat) (A : Nat → Prop) (h : Nat) (c0 c2 : CS) (hS : Nat → CS) (hn : Nat) (sv : SV) (lab : List Int32) (fl : Nat → Int32) (hBG : BG c0) (sz : Nat) : Met l yL_emptiest (wH yL_emptiest cL_emptiest 2 (some .int) [(0, 4, 5, 24)]) ({ frames := 7, cells := 1, slots := 6, locals := 110 } : Room) (va_Pc [.ref h] (LWp D G B0 X A h c0 c2 hS hn sv lab fl sz)) (va_Qi (fun (r : Int32) (_ : Unit) => r = sel (x_emp c0) (s_emptiest c0) (-1001)) (fun _ t9 => LW D G X A h c0 c2 hS hn sv lab fl t9.heap) A) 1 6 A := by
  refine bx_ofWH (cc := cL_emptiest) (maxL := 2) (ret := (some .int)) (hh := [(0, 4, 5, 24)]) (by decide) rfl ?_
  intro p9 e s m args below meth c9 s₁ B hml hv
  obtain ⟨rfl, hsz, ⟨ad, c1, lv, bs, rfl, hLV, hP, hD⟩, hK, hE, hA0, hAB⟩ := hv
  subst hsz
  have hx := B.exec
  have hb := B.bytes
  have hr := B.returns
  have hts : ∀ w9 ∈ tb, w9.before ([.ref (ad.1 3 0)] : List Value).toArray s = true := fun w9 h9 => atoms_spec (ws := (wH yL_emptiest cL_emptiest 2 (some .int) [(0, 4, 5, 24)])) B.pre w9 (List.mem_cons_of_mem _ h9)
  have hown : s.vm.findClass RL = some m.cls := findClass_of_methodNamed B.named
  have hlocks := B.notSynchronized
  have hxt := vx_table (x := yL_emptiest) B (hts _ kw_979)
  have hS0 : va_S A s.heap s.heap [] := va_S.rf
  have hFc := freeC hD hS0 hA0
  have hl := lv_entry ([.ref (ad.1 3 0)]) (n := 2) (Nat.le_of_ble_eq_true rfl)
  rw [lg_entry_eq]
  generalize (lg_sl ([.ref (ad.1 3 0)]) ++ List.replicate (2 - (lg_sl ([.ref (ad.1 3 0)])).length) Slot.unset).toArray = ls at hl ⊢
  have hl : lv_has ls 2 [(0, .ref (ad.1 3 0))] := hl
  refine lv_aload_n hx hb dL_emptiest_0 rfl (lv_at hl 0 rfl) ?_
  refine vx_calli (vx_runV (As := []) (rest := []) ⟨hx, hb, hml, hown, hts⟩ (c_X7_emptiestBag l hfl D G B0 X ad c0 c1 c2 hS hn sv lv bs fl hBG.1 hBG.2) (cwV 0 hts gw_L_110 rfl rfl rfl (by decide +kernel) ⟨Nat.le_of_ble_eq_true rfl, Nat.le_of_ble_eq_true rfl⟩) (pv_cq hK hP hE) rfl rfl hl.1 rfl (lv_room (Nat.le_of_ble_eq_true rfl)) dL_emptiest_1 ⟨Nat.le_of_ble_eq_true rfl, Nat.le_of_ble_eq_true rfl⟩) hS0 (fun _ _ h => h.elim) (fun _ h => h.elim) (fun _ _ h => h.elim) ?_ ?_
  · intro E ce q9 u t9 H9 locs9 ht hvm hq hBX hz1 hk1 hS9 hce hcv hcl
    have hPx := P_keep hP hk1 (fun _ _ h => h.elim)
    have hDx := hD
    have hW9 : LW D G X A (ad.1 3 0) c0 c2 hS hn sv lab fl H9 := by
      refine ⟨_, _, _, _, ?_, ?_, hPx, hDx⟩
      · exact rfl
      · exact hLV
    rcases rg_x_emp c0 with h0 | hk
    · exact absurd h0 hq
    · skip
      obtain rfl : E = "java/util/NoSuchElementException" := hBX.trans (by rw [hk]; rfl)
      refine vx_catch (own := RL) (name := "java/util/NoSuchElementException") hown [] ⟨0, 4, 5, 24⟩ [] hxt (fun _ h => absurd h List.not_mem_nil) (by decide) (by decide) (hts _ kw_527) (va_Nw.use rfl (nw_424 hE.nw)) hce hcv hcl ?_
      have hS0 := hS9
      refine lv_astore_n (x := q9) (lv' := [(1, .ref q9), (0, .ref (ad.1 3 0))]) hx hb dL_emptiest_5 rfl hl (by decide) rfl (fun ls hl => ?_)
      refine lv_sipush (v := -1001) hx hb dL_emptiest_6 (by decide) ?_
      refine W.widen (k := 1) (n := 6) (Nat.le_of_ble_eq_true rfl) (Nat.le_of_ble_eq_true rfl) ?_
      exact W.iret (v := (-1001)) hx hb hr (fun t ht hWm => ⟨⟨_, (), rfl, by first | (rw [sel_n hq]; done) | (rw [sel_n hq]; rfl) | (rw [sel_n hq, hk]; rfl), LW_t ht hW9⟩, hS0.F ht⟩) hS0.2.2 dL_emptiest_9
  · intro r u t9 H9 locs9 ht hvm hq hB hz1 hk1 hS9
    obtain ⟨hq, hr9⟩ := hq
    have hPx := P_keep hP hk1 (fun _ _ h => h.elim)
    have hDx := hD
    have hW9 : LW D G X A (ad.1 3 0) c0 c2 hS hn sv lab fl H9 := by
      refine ⟨_, _, _, _, ?_, ?_, hPx, hDx⟩
      · exact rfl
      · exact hLV
    rw [hr9]
    have hS0 := hS9
    refine W.widen (k := 1) (n := 6) (Nat.le_of_ble_eq_true rfl) (Nat.le_of_ble_eq_true rfl) ?_
    exact W.iret (v := s_emptiest c0) hx hb hr (fun t ht hWm => ⟨⟨_, (), rfl, by first | (rw [sel_0 hq]; done) | (rw [sel_0 hq]; rfl), LW_t ht hW9⟩, hS0.F ht⟩) hS0.2.2 dL_emptiest_4
set_option maxRecDepth 100000 in
set_option maxHeartbeats 4000000 in
theorem cl_L_shareUsed (l : Launch) (hfl : l.stackTraces = false) (D : va_G) (G : GA) (B0 : Nat) (X : Nat → Nat → Nat) (A : Nat → Prop) (h : Nat) (c0 c2 : CS) (hS : Nat → CS) (hn : Nat) (sv : SV) (lab : List Int32) (fl : Nat → Int32) (hBG : BG c0) (sz : Nat) : Met l yL_shareUsed (wH yL_shareUsed cL_shareUsed 2 (some .double) [(0, 4, 5, 117)]) ({ frames := 7, cells := 1, slots := 6, locals := 111 } : Room) (va_Pc [.ref h] (LWp D G B0 X A h c0 c2 hS hn sv lab fl sz)) (va_Qd (fun (r : UInt64) (_ : Unit) => r = sel (x_share c0) (FP.ddiv (FP.i2d (s_packedWeight c0)) (FP.i2d (s_sumLimits c0))) 13875388141788987392) (fun _ t9 => LW D G X A h c0 c2 hS hn sv lab fl t9.heap) A) 1 6 A := by
  refine bx_ofWH (cc := cL_shareUsed) (maxL := 2) (ret := (some .double)) (hh := [(0, 4, 5, 117)]) (by decide) rfl ?_
  intro p9 e s m args below meth c9 s₁ B hml hv
  obtain ⟨rfl, hsz, ⟨ad, c1, lv, bs, rfl, hLV, hP, hD⟩, hK, hE, hA0, hAB⟩ := hv
  subst hsz
  have hx := B.exec
  have hb := B.bytes
  have hr := B.returns
  have hts : ∀ w9 ∈ tb, w9.before ([.ref (ad.1 3 0)] : List Value).toArray s = true := fun w9 h9 => atoms_spec (ws := (wH yL_shareUsed cL_shareUsed 2 (some .double) [(0, 4, 5, 117)])) B.pre w9 (List.mem_cons_of_mem _ h9)
  have hown : s.vm.findClass RL = some m.cls := findClass_of_methodNamed B.named
  have hlocks := B.notSynchronized
  have hxt := vx_table (x := yL_shareUsed) B (hts _ kw_936)
  have hS0 : va_S A s.heap s.heap [] := va_S.rf
  have hFc := freeC hD hS0 hA0
  have hl := lv_entry ([.ref (ad.1 3 0)]) (n := 2) (Nat.le_of_ble_eq_true rfl)
  rw [lg_entry_eq]
  generalize (lg_sl ([.ref (ad.1 3 0)]) ++ List.replicate (2 - (lg_sl ([.ref (ad.1 3 0)])).length) Slot.unset).toArray = ls at hl ⊢
  have hl : lv_has ls 2 [(0, .ref (ad.1 3 0))] := hl
  refine lv_aload_n hx hb dL_shareUsed_0 rfl (lv_at hl 0 rfl) ?_
  refine vx_calld (vx_runV (As := []) (rest := []) ⟨hx, hb, hml, hown, hts⟩ (c_X7_shareUsed l hfl D G B0 X ad c0 c1 c2 hS hn sv lv bs fl hBG.1 hBG.2) (cwV 0 hts gw_L_113 rfl rfl rfl (by decide +kernel) ⟨Nat.le_of_ble_eq_true rfl, Nat.le_of_ble_eq_true rfl⟩) (pv_cq hK hP hE) rfl rfl hl.1 rfl (lv_room (Nat.le_of_ble_eq_true rfl)) dL_shareUsed_1 ⟨Nat.le_of_ble_eq_true rfl, Nat.le_of_ble_eq_true rfl⟩) hS0 (fun _ _ h => h.elim) (fun _ h => h.elim) (fun _ _ h => h.elim) ?_ ?_
  · intro E ce q9 u t9 H9 locs9 ht hvm hq hBX hz1 hk1 hS9 hce hcv hcl
    have hPx := P_keep hP hk1 (fun _ _ h => h.elim)
    have hDx := hD
    have hW9 : LW D G X A (ad.1 3 0) c0 c2 hS hn sv lab fl H9 := by
      refine ⟨_, _, _, _, ?_, ?_, hPx, hDx⟩
      · exact rfl
      · exact hLV
    rcases rg_x_share c0 with h0 | hk
    · exact absurd h0 hq
    · skip
      obtain rfl : E = "java/lang/ArithmeticException" := hBX.trans (by rw [hk]; rfl)
      refine vx_catch (own := RL) (name := "java/lang/ArithmeticException") hown [] ⟨0, 4, 5, 117⟩ [] hxt (fun _ h => absurd h List.not_mem_nil) (by decide) (by decide) (hts _ kw_937) (va_Nw.use rfl (nw_949 hE.nw)) hce hcv hcl ?_
      have hS0 := hS9
      refine lv_astore_n (x := q9) (lv' := [(1, .ref q9), (0, .ref (ad.1 3 0))]) hx hb dL_shareUsed_5 rfl hl (by decide) rfl (fun ls hl => ?_)
      refine lv_ldc2d hx hb hown (hts _ kw_966) dL_shareUsed_6 ?_
      refine W.widen (k := 1) (n := 6) (Nat.le_of_ble_eq_true rfl) (Nat.le_of_ble_eq_true rfl) ?_
      exact W.dret (v := 13875388141788987392) hx hb hr (fun t ht hWm => ⟨⟨_, (), rfl, by first | (rw [sel_n hq]; done) | (rw [sel_n hq]; rfl) | (rw [sel_n hq, hk]; rfl), LW_t ht hW9⟩, hS0.F ht⟩) hS0.2.2 dL_shareUsed_9
  · intro r u t9 H9 locs9 ht hvm hq hB hz1 hk1 hS9
    obtain ⟨hq, hr9⟩ := hq
    have hPx := P_keep hP hk1 (fun _ _ h => h.elim)
    have hDx := hD
    have hW9 : LW D G X A (ad.1 3 0) c0 c2 hS hn sv lab fl H9 := by
      refine ⟨_, _, _, _, ?_, ?_, hPx, hDx⟩
      · exact rfl
      · exact hLV
    rw [hr9]
    have hS0 := hS9
    refine W.widen (k := 1) (n := 6) (Nat.le_of_ble_eq_true rfl) (Nat.le_of_ble_eq_true rfl) ?_
    exact W.dret (v := FP.ddiv (FP.i2d (s_packedWeight c0)) (FP.i2d (s_sumLimits c0))) hx hb hr (fun t ht hWm => ⟨⟨_, (), rfl, by first | (rw [sel_0 hq]; done) | (rw [sel_0 hq]; rfl), LW_t ht hW9⟩, hS0.F ht⟩) hS0.2.2 dL_shareUsed_4
set_option maxRecDepth 100000 in
set_option maxHeartbeats 4000000 in
theorem cl_L_reason (l : Launch) (hfl : l.stackTraces = false) (D : va_G) (G : GA) (B0 : Nat) (X : Nat → Nat → Nat) (A : Nat → Prop) (h : Nat) (c0 c2 : CS) (hS : Nat → CS) (hn : Nat) (sv : SV) (lab : List Int32) (fl : Nat → Int32) (sz : Nat) : Met l yL_reason (wH yL_reason cL_reason 2 (some .int) [(0, 4, 5, 24)]) ({ frames := 7, cells := 1, slots := 6, locals := 110 } : Room) (va_Pc [.ref h] (LWp D G B0 X A h c0 c2 hS hn sv lab fl sz)) (va_Qi (fun (r : Int32) (_ : Unit) => r = sel (x_reason fl) (fl 1) (-1001)) (fun _ t9 => LW D G X A h c0 c2 hS hn sv lab fl t9.heap) A) 1 6 A := by
  refine bx_ofWH (cc := cL_reason) (maxL := 2) (ret := (some .int)) (hh := [(0, 4, 5, 24)]) (by decide) rfl ?_
  intro p9 e s m args below meth c9 s₁ B hml hv
  obtain ⟨rfl, hsz, ⟨ad, c1, lv, bs, rfl, hLV, hP, hD⟩, hK, hE, hA0, hAB⟩ := hv
  subst hsz
  have hx := B.exec
  have hb := B.bytes
  have hr := B.returns
  have hts : ∀ w9 ∈ tb, w9.before ([.ref (ad.1 3 0)] : List Value).toArray s = true := fun w9 h9 => atoms_spec (ws := (wH yL_reason cL_reason 2 (some .int) [(0, 4, 5, 24)])) B.pre w9 (List.mem_cons_of_mem _ h9)
  have hown : s.vm.findClass RL = some m.cls := findClass_of_methodNamed B.named
  have hlocks := B.notSynchronized
  have hxt := vx_table (x := yL_reason) B (hts _ kw_1470)
  have hS0 : va_S A s.heap s.heap [] := va_S.rf
  have hFc := freeC hD hS0 hA0
  have hl := lv_entry ([.ref (ad.1 3 0)]) (n := 2) (Nat.le_of_ble_eq_true rfl)
  rw [lg_entry_eq]
  generalize (lg_sl ([.ref (ad.1 3 0)]) ++ List.replicate (2 - (lg_sl ([.ref (ad.1 3 0)])).length) Slot.unset).toArray = ls at hl ⊢
  have hl : lv_has ls 2 [(0, .ref (ad.1 3 0))] := hl
  refine lv_aload_n hx hb dL_reason_0 rfl (lv_at hl 0 rfl) ?_
  refine vx_calli (vx_runV (As := []) (rest := []) ⟨hx, hb, hml, hown, hts⟩ (c_X7_refusalReason l hfl D G B0 X ad c0 c1 c2 hS hn sv lv bs fl) (cwV 0 hts gw_L_121 rfl rfl rfl (by decide +kernel) ⟨Nat.le_of_ble_eq_true rfl, Nat.le_of_ble_eq_true rfl⟩) (pv_cq hK hP hE) rfl rfl hl.1 rfl (lv_room (Nat.le_of_ble_eq_true rfl)) dL_reason_1 ⟨Nat.le_of_ble_eq_true rfl, Nat.le_of_ble_eq_true rfl⟩) hS0 (fun _ _ h => h.elim) (fun _ h => h.elim) (fun _ _ h => h.elim) ?_ ?_
  · intro E ce q9 u t9 H9 locs9 ht hvm hq hBX hz1 hk1 hS9 hce hcv hcl
    have hPx := P_keep hP hk1 (fun _ _ h => h.elim)
    have hDx := hD
    have hW9 : LW D G X A (ad.1 3 0) c0 c2 hS hn sv lab fl H9 := by
      refine ⟨_, _, _, _, ?_, ?_, hPx, hDx⟩
      · exact rfl
      · exact hLV
    rcases rg_x_reason fl with h0 | hk
    · exact absurd h0 hq
    · skip
      obtain rfl : E = "java/util/NoSuchElementException" := hBX.trans (by rw [hk]; rfl)
      refine vx_catch (own := RL) (name := "java/util/NoSuchElementException") hown [] ⟨0, 4, 5, 24⟩ [] hxt (fun _ h => absurd h List.not_mem_nil) (by decide) (by decide) (hts _ kw_527) (va_Nw.use rfl (nw_424 hE.nw)) hce hcv hcl ?_
      have hS0 := hS9
      refine lv_astore_n (x := q9) (lv' := [(1, .ref q9), (0, .ref (ad.1 3 0))]) hx hb dL_reason_5 rfl hl (by decide) rfl (fun ls hl => ?_)
      refine lv_sipush (v := -1001) hx hb dL_reason_6 (by decide) ?_
      refine W.widen (k := 1) (n := 6) (Nat.le_of_ble_eq_true rfl) (Nat.le_of_ble_eq_true rfl) ?_
      exact W.iret (v := (-1001)) hx hb hr (fun t ht hWm => ⟨⟨_, (), rfl, by first | (rw [sel_n hq]; done) | (rw [sel_n hq]; rfl) | (rw [sel_n hq, hk]; rfl), LW_t ht hW9⟩, hS0.F ht⟩) hS0.2.2 dL_reason_9
  · intro r u t9 H9 locs9 ht hvm hq hB hz1 hk1 hS9
    obtain ⟨hq, hr9⟩ := hq
    have hPx := P_keep hP hk1 (fun _ _ h => h.elim)
    have hDx := hD
    have hW9 : LW D G X A (ad.1 3 0) c0 c2 hS hn sv lab fl H9 := by
      refine ⟨_, _, _, _, ?_, ?_, hPx, hDx⟩
      · exact rfl
      · exact hLV
    rw [hr9]
    have hS0 := hS9
    refine W.widen (k := 1) (n := 6) (Nat.le_of_ble_eq_true rfl) (Nat.le_of_ble_eq_true rfl) ?_
    exact W.iret (v := fl 1) hx hb hr (fun t ht hWm => ⟨⟨_, (), rfl, by first | (rw [sel_0 hq]; done) | (rw [sel_0 hq]; rfl), LW_t ht hW9⟩, hS0.F ht⟩) hS0.2.2 dL_reason_4
set_option maxRecDepth 100000 in
set_option maxHeartbeats 4000000 in
theorem cl_L_refused (l : Launch) (hfl : l.stackTraces = false) (D : va_G) (G : GA) (B0 : Nat) (X : Nat → Nat → Nat) (A : Nat → Prop) (h : Nat) (c0 c2 : CS) (hS : Nat → CS) (hn : Nat) (sv : SV) (lab : List Int32) (fl : Nat → Int32) (sz : Nat) : Met l yL_refused (wH yL_refused cL_refused 2 (some .int) [(0, 4, 5, 24)]) ({ frames := 7, cells := 1, slots := 6, locals := 110 } : Room) (va_Pc [.ref h] (LWp D G B0 X A h c0 c2 hS hn sv lab fl sz)) (va_Qi (fun (r : Int32) (_ : Unit) => r = sel (x_reason fl) (fl 2) (-1001)) (fun _ t9 => LW D G X A h c0 c2 hS hn sv lab fl t9.heap) A) 1 6 A := by
  refine bx_ofWH (cc := cL_refused) (maxL := 2) (ret := (some .int)) (hh := [(0, 4, 5, 24)]) (by decide) rfl ?_
  intro p9 e s m args below meth c9 s₁ B hml hv
  obtain ⟨rfl, hsz, ⟨ad, c1, lv, bs, rfl, hLV, hP, hD⟩, hK, hE, hA0, hAB⟩ := hv
  subst hsz
  have hx := B.exec
  have hb := B.bytes
  have hr := B.returns
  have hts : ∀ w9 ∈ tb, w9.before ([.ref (ad.1 3 0)] : List Value).toArray s = true := fun w9 h9 => atoms_spec (ws := (wH yL_refused cL_refused 2 (some .int) [(0, 4, 5, 24)])) B.pre w9 (List.mem_cons_of_mem _ h9)
  have hown : s.vm.findClass RL = some m.cls := findClass_of_methodNamed B.named
  have hlocks := B.notSynchronized
  have hxt := vx_table (x := yL_refused) B (hts _ kw_1462)
  have hS0 : va_S A s.heap s.heap [] := va_S.rf
  have hFc := freeC hD hS0 hA0
  have hl := lv_entry ([.ref (ad.1 3 0)]) (n := 2) (Nat.le_of_ble_eq_true rfl)
  rw [lg_entry_eq]
  generalize (lg_sl ([.ref (ad.1 3 0)]) ++ List.replicate (2 - (lg_sl ([.ref (ad.1 3 0)])).length) Slot.unset).toArray = ls at hl ⊢
  have hl : lv_has ls 2 [(0, .ref (ad.1 3 0))] := hl
  refine lv_aload_n hx hb dL_refused_0 rfl (lv_at hl 0 rfl) ?_
  refine vx_calli (vx_runV (As := []) (rest := []) ⟨hx, hb, hml, hown, hts⟩ (c_X7_refusedItem l hfl D G B0 X ad c0 c1 c2 hS hn sv lv bs fl) (cwV 0 hts gw_L_124 rfl rfl rfl (by decide +kernel) ⟨Nat.le_of_ble_eq_true rfl, Nat.le_of_ble_eq_true rfl⟩) (pv_cq hK hP hE) rfl rfl hl.1 rfl (lv_room (Nat.le_of_ble_eq_true rfl)) dL_refused_1 ⟨Nat.le_of_ble_eq_true rfl, Nat.le_of_ble_eq_true rfl⟩) hS0 (fun _ _ h => h.elim) (fun _ h => h.elim) (fun _ _ h => h.elim) ?_ ?_
  · intro E ce q9 u t9 H9 locs9 ht hvm hq hBX hz1 hk1 hS9 hce hcv hcl
    have hPx := P_keep hP hk1 (fun _ _ h => h.elim)
    have hDx := hD
    have hW9 : LW D G X A (ad.1 3 0) c0 c2 hS hn sv lab fl H9 := by
      refine ⟨_, _, _, _, ?_, ?_, hPx, hDx⟩
      · exact rfl
      · exact hLV
    rcases rg_x_reason fl with h0 | hk
    · exact absurd h0 hq
    · skip
      obtain rfl : E = "java/util/NoSuchElementException" := hBX.trans (by rw [hk]; rfl)
      refine vx_catch (own := RL) (name := "java/util/NoSuchElementException") hown [] ⟨0, 4, 5, 24⟩ [] hxt (fun _ h => absurd h List.not_mem_nil) (by decide) (by decide) (hts _ kw_527) (va_Nw.use rfl (nw_424 hE.nw)) hce hcv hcl ?_
      have hS0 := hS9
      refine lv_astore_n (x := q9) (lv' := [(1, .ref q9), (0, .ref (ad.1 3 0))]) hx hb dL_refused_5 rfl hl (by decide) rfl (fun ls hl => ?_)
      refine lv_sipush (v := -1001) hx hb dL_refused_6 (by decide) ?_
      refine W.widen (k := 1) (n := 6) (Nat.le_of_ble_eq_true rfl) (Nat.le_of_ble_eq_true rfl) ?_
      exact W.iret (v := (-1001)) hx hb hr (fun t ht hWm => ⟨⟨_, (), rfl, by first | (rw [sel_n hq]; done) | (rw [sel_n hq]; rfl) | (rw [sel_n hq, hk]; rfl), LW_t ht hW9⟩, hS0.F ht⟩) hS0.2.2 dL_refused_9
  · intro r u t9 H9 locs9 ht hvm hq hB hz1 hk1 hS9
    obtain ⟨hq, hr9⟩ := hq
    have hPx := P_keep hP hk1 (fun _ _ h => h.elim)
    have hDx := hD
    have hW9 : LW D G X A (ad.1 3 0) c0 c2 hS hn sv lab fl H9 := by
      refine ⟨_, _, _, _, ?_, ?_, hPx, hDx⟩
      · exact rfl
      · exact hLV
    rw [hr9]
    have hS0 := hS9
    refine W.widen (k := 1) (n := 6) (Nat.le_of_ble_eq_true rfl) (Nat.le_of_ble_eq_true rfl) ?_
    exact W.iret (v := fl 2) hx hb hr (fun t ht hWm => ⟨⟨_, (), rfl, by first | (rw [sel_0 hq]; done) | (rw [sel_0 hq]; rfl), LW_t ht hW9⟩, hS0.F ht⟩) hS0.2.2 dL_refused_4
set_option maxRecDepth 100000 in
set_option maxHeartbeats 4000000 in
theorem cl_L_writeLabel (l : Launch) (hfl : l.stackTraces = false) (D : va_G) (G : GA) (B0 : Nat) (X : Nat → Nat → Nat) (A : Nat → Prop) (h : Nat) (c0 c2 : CS) (hS : Nat → CS) (hn : Nat) (sv : SV) (lab : List Int32) (fl : Nat → Int32) (b : Int32) (hid : IDok c0) (hLY : LYok c0) (sz : Nat) : Met l yL_writeLabel (wH yL_writeLabel cL_writeLabel 3 (some .int) [(0, 5, 6, 30)]) ({ frames := 9, cells := 192, slots := 38588, locals := 205 } : Room) (va_Pc [.ref h, .int b] (LWp D G B0 X A h c0 c2 hS hn sv lab fl sz)) (va_Qi (fun (r : Int32) (_ : Unit) => r = sel (x_bag c0 b) (nI (s_desc c0 b (cLy c0 b)).length) (-1001)) (fun _ t9 => LW D G X A h c0 c2 hS hn sv (sel (x_bag c0 b) (s_desc c0 b (cLy c0 b)) lab) fl t9.heap) A) 192 38588 A := by
  refine bx_ofWH (cc := cL_writeLabel) (maxL := 3) (ret := (some .int)) (hh := [(0, 5, 6, 30)]) (by decide) rfl ?_
  intro p9 e s m args below meth c9 s₁ B hml hv
  obtain ⟨rfl, hsz, ⟨ad, c1, lv, bs, rfl, hLV, hP, hD⟩, hK, hE, hA0, hAB⟩ := hv
  subst hsz
  have hx := B.exec
  have hb := B.bytes
  have hr := B.returns
  have hts : ∀ w9 ∈ tb, w9.before ([.ref (ad.1 3 0), .int b] : List Value).toArray s = true := fun w9 h9 => atoms_spec (ws := (wH yL_writeLabel cL_writeLabel 3 (some .int) [(0, 5, 6, 30)])) B.pre w9 (List.mem_cons_of_mem _ h9)
  have hown : s.vm.findClass RL = some m.cls := findClass_of_methodNamed B.named
  have hlocks := B.notSynchronized
  have hxt := vx_table (x := yL_writeLabel) B (hts _ kw_1022)
  have hS0 : va_S A s.heap s.heap [] := va_S.rf
  have hFc := freeC hD hS0 hA0
  have hl := lv_entry ([.ref (ad.1 3 0), .int b]) (n := 3) (Nat.le_of_ble_eq_true rfl)
  rw [lg_entry_eq]
  generalize (lg_sl ([.ref (ad.1 3 0), .int b]) ++ List.replicate (3 - (lg_sl ([.ref (ad.1 3 0), .int b])).length) Slot.unset).toArray = ls at hl ⊢
  have hl : lv_has ls 3 [(0, .ref (ad.1 3 0)), (1, .int b)] := hl
  refine lv_aload_n hx hb dL_writeLabel_0 rfl (lv_at hl 0 rfl) ?_
  refine lv_iload_n hx hb dL_writeLabel_1 rfl (lv_at hl 1 rfl) ?_
  refine vx_calli (vx_runV (As := [.int b]) (rest := []) ⟨hx, hb, hml, hown, hts⟩ (c_X7_writeLabel l hfl D G B0 X ad c0 c1 c2 hS hn sv lv bs fl b (by rw [hLV.1]; exact hLV.2.1) hLV.2.2.1 hLV.2.2.2.1 hid (cLy_ok hLY b).1 (cLy_ok hLY b).2 (Nat.le_trans (desc_len c0 b _ (cLy_ok hLY b).2) (by decide)) s.heap.size) (cwV 1 hts gw_L_127 rfl rfl rfl (by decide +kernel) ⟨Nat.le_of_ble_eq_true rfl, Nat.le_of_ble_eq_true rfl⟩) (pv_cb hK hP hD hAB hE) rfl rfl hl.1 rfl (lv_room (Nat.le_of_ble_eq_true rfl)) dL_writeLabel_2 ⟨Nat.le_of_ble_eq_true rfl, Nat.le_of_ble_eq_true rfl⟩) hS0 (fun q _ h => hFc q h) hFc (fun q _ h => hFc q h) ?_ ?_
  · intro E ce q9 u t9 H9 locs9 ht hvm hq hBX hz1 hk1 hS9 hce hcv hcl
    obtain ⟨hBX, hPx, hDx⟩ := hBX
    rw [ht] at hPx
    have hDx := hDx.weaken (fun _ _ _ h9 => hFc _ h9)
    have hW9 : LW D G X A (ad.1 3 0) c0 c2 hS hn sv (sel (x_bag c0 b) (s_desc c0 b (cLy c0 b)) lab) fl H9 := by
      simp only [sel_n hq]
      refine ⟨_, _, _, _, ?_, ?_, hPx, hDx⟩
      · exact rfl
      · exact hLV
    rcases rg_x_bag c0 b with h0 | hk
    · exact absurd h0 hq
    · skip
      obtain rfl : E = "java/lang/IndexOutOfBoundsException" := hBX.trans (by rw [hk]; rfl)
      refine vx_catch (own := RL) (name := "java/lang/IndexOutOfBoundsException") hown [] ⟨0, 5, 6, 30⟩ [] hxt (fun _ h => absurd h List.not_mem_nil) (by decide) (by decide) (hts _ kw_579) (va_Nw.use rfl (nw_442 hE.nw)) hce hcv hcl ?_
      have hS0 := hS9
      refine lv_astore_n (x := q9) (lv' := [(2, .ref q9), (0, .ref (ad.1 3 0)), (1, .int b)]) hx hb dL_writeLabel_6 rfl hl (by decide) rfl (fun ls hl => ?_)
      refine lv_sipush (v := -1001) hx hb dL_writeLabel_7 (by decide) ?_
      refine W.widen (k := 192) (n := 38588) (Nat.le_of_ble_eq_true rfl) (Nat.le_of_ble_eq_true rfl) ?_
      exact W.iret (v := (-1001)) hx hb hr (fun t ht hWm => ⟨⟨_, (), rfl, by first | (rw [sel_n hq]; done) | (rw [sel_n hq]; rfl) | (rw [sel_n hq, hk]; rfl), LW_t ht hW9⟩, hS0.F ht⟩) hS0.2.2 dL_writeLabel_10
  · intro r u t9 H9 locs9 ht hvm hq hB hz1 hk1 hS9
    obtain ⟨hq, hv1, hv2, hv3, hv4, hr9⟩ := hq
    obtain ⟨hPx, hDx⟩ := hB
    rw [ht] at hPx
    have hDx := hDx.weaken (fun _ _ _ h9 => hFc _ h9)
    have hW9 : LW D G X A (ad.1 3 0) c0 c2 hS hn sv (sel (x_bag c0 b) (s_desc c0 b (cLy c0 b)) lab) fl H9 := by
      simp only [sel_0 hq]
      refine ⟨_, _, _, _, ?_, ?_, hPx, hDx⟩
      · exact rfl
      · exact ⟨rfl, hv3, hv4, hv2, hv1, Nat.le_trans (desc_len c0 b _ (cLy_ok hLY b).2) (by decide)⟩
    rw [hr9]
    have hS0 := hS9
    refine W.widen (k := 192) (n := 38588) (Nat.le_of_ble_eq_true rfl) (Nat.le_of_ble_eq_true rfl) ?_
    exact W.iret (v := nI (s_desc c0 b (cLy c0 b)).length) hx hb hr (fun t ht hWm => ⟨⟨_, (), rfl, by first | (rw [sel_0 hq]; done) | (rw [sel_0 hq]; rfl), LW_t ht hW9⟩, hS0.F ht⟩) hS0.2.2 dL_writeLabel_5
set_option maxRecDepth 100000 in
set_option maxHeartbeats 4000000 in
theorem cl_L_labelAt (l : Launch) (hfl : l.stackTraces = false) (D : va_G) (G : GA) (B0 : Nat) (X : Nat → Nat → Nat) (A : Nat → Prop) (h : Nat) (c0 c2 : CS) (hS : Nat → CS) (hn : Nat) (sv : SV) (lab : List Int32) (fl : Nat → Int32) (i : Int32) (sz : Nat) : Met l yL_labelAt (wH yL_labelAt cL_labelAt 3 (some .int) [(0, 5, 6, 30)]) ({ frames := 7, cells := 1, slots := 6, locals := 111 } : Room) (va_Pc [.ref h, .int i] (LWp D G B0 X A h c0 c2 hS hn sv lab fl sz)) (va_Qi (fun (r : Int32) (_ : Unit) => r = sel (x_lab lab i) (lab.getD i.toNatClampNeg 0 &&& 255) (-1001)) (fun _ t9 => LW D G X A h c0 c2 hS hn sv lab fl t9.heap) A) 1 6 A := by
  refine bx_ofWH (cc := cL_labelAt) (maxL := 3) (ret := (some .int)) (hh := [(0, 5, 6, 30)]) (by decide) rfl ?_
  intro p9 e s m args below meth c9 s₁ B hml hv
  obtain ⟨rfl, hsz, ⟨ad, c1, lv, bs, rfl, hLV, hP, hD⟩, hK, hE, hA0, hAB⟩ := hv
  subst hsz
  have hx := B.exec
  have hb := B.bytes
  have hr := B.returns
  have hts : ∀ w9 ∈ tb, w9.before ([.ref (ad.1 3 0), .int i] : List Value).toArray s = true := fun w9 h9 => atoms_spec (ws := (wH yL_labelAt cL_labelAt 3 (some .int) [(0, 5, 6, 30)])) B.pre w9 (List.mem_cons_of_mem _ h9)
  have hown : s.vm.findClass RL = some m.cls := findClass_of_methodNamed B.named
  have hlocks := B.notSynchronized
  have hxt := vx_table (x := yL_labelAt) B (hts _ kw_1287)
  have hS0 : va_S A s.heap s.heap [] := va_S.rf
  have hFc := freeC hD hS0 hA0
  have hl := lv_entry ([.ref (ad.1 3 0), .int i]) (n := 3) (Nat.le_of_ble_eq_true rfl)
  rw [lg_entry_eq]
  generalize (lg_sl ([.ref (ad.1 3 0), .int i]) ++ List.replicate (3 - (lg_sl ([.ref (ad.1 3 0), .int i])).length) Slot.unset).toArray = ls at hl ⊢
  have hl : lv_has ls 3 [(0, .ref (ad.1 3 0)), (1, .int i)] := hl
  refine lv_aload_n hx hb dL_labelAt_0 rfl (lv_at hl 0 rfl) ?_
  refine lv_iload_n hx hb dL_labelAt_1 rfl (lv_at hl 1 rfl) ?_
  refine vx_calli (vx_runV (As := [.int i]) (rest := []) ⟨hx, hb, hml, hown, hts⟩ (c_X7_labelAt l hfl D G B0 X ad c0 c1 c2 hS hn sv lv bs fl i (by rw [hLV.1]; exact hLV.2.1) hLV.2.2.1 hLV.2.2.2.1) (cwV 1 hts gw_L_130 rfl rfl rfl (by decide +kernel) ⟨Nat.le_of_ble_eq_true rfl, Nat.le_of_ble_eq_true rfl⟩) (pv_cq hK hP hE) rfl rfl hl.1 rfl (lv_room (Nat.le_of_ble_eq_true rfl)) dL_labelAt_2 ⟨Nat.le_of_ble_eq_true rfl, Nat.le_of_ble_eq_true rfl⟩) hS0 (fun _ _ h => h.elim) (fun _ h => h.elim) (fun _ _ h => h.elim) ?_ ?_
  · intro E ce q9 u t9 H9 locs9 ht hvm hq hBX hz1 hk1 hS9 hce hcv hcl
    rw [x_lab_eq hLV i] at hq hBX
    have hPx := P_keep hP hk1 (fun _ _ h => h.elim)
    have hDx := hD
    have hW9 : LW D G X A (ad.1 3 0) c0 c2 hS hn sv lab fl H9 := by
      refine ⟨_, _, _, _, ?_, ?_, hPx, hDx⟩
      · exact rfl
      · exact hLV
    rcases rg_x_lab lab i with h0 | hk
    · exact absurd h0 hq
    · skip
      obtain rfl : E = "java/lang/IndexOutOfBoundsException" := hBX.trans (by rw [hk]; rfl)
      refine vx_catch (own := RL) (name := "java/lang/IndexOutOfBoundsException") hown [] ⟨0, 5, 6, 30⟩ [] hxt (fun _ h => absurd h List.not_mem_nil) (by decide) (by decide) (hts _ kw_579) (va_Nw.use rfl (nw_442 hE.nw)) hce hcv hcl ?_
      have hS0 := hS9
      refine lv_astore_n (x := q9) (lv' := [(2, .ref q9), (0, .ref (ad.1 3 0)), (1, .int i)]) hx hb dL_labelAt_6 rfl hl (by decide) rfl (fun ls hl => ?_)
      refine lv_sipush (v := -1001) hx hb dL_labelAt_7 (by decide) ?_
      refine W.widen (k := 1) (n := 6) (Nat.le_of_ble_eq_true rfl) (Nat.le_of_ble_eq_true rfl) ?_
      exact W.iret (v := (-1001)) hx hb hr (fun t ht hWm => ⟨⟨_, (), rfl, by first | (rw [sel_n hq]; done) | (rw [sel_n hq]; rfl) | (rw [sel_n hq, hk]; rfl), LW_t ht hW9⟩, hS0.F ht⟩) hS0.2.2 dL_labelAt_10
  · intro r u t9 H9 locs9 ht hvm hq hB hz1 hk1 hS9
    obtain ⟨hq, hr9⟩ := hq
    rw [x_lab_eq hLV i] at hq
    have hPx := P_keep hP hk1 (fun _ _ h => h.elim)
    have hDx := hD
    have hW9 : LW D G X A (ad.1 3 0) c0 c2 hS hn sv lab fl H9 := by
      refine ⟨_, _, _, _, ?_, ?_, hPx, hDx⟩
      · exact rfl
      · exact hLV
    rw [hr9]
    rw [lab_at hLV hq]
    have hS0 := hS9
    refine W.widen (k := 1) (n := 6) (Nat.le_of_ble_eq_true rfl) (Nat.le_of_ble_eq_true rfl) ?_
    exact W.iret (v := lab.getD i.toNatClampNeg 0 &&& 255) hx hb hr (fun t ht hWm => ⟨⟨_, (), rfl, by first | (rw [sel_0 hq]; done) | (rw [sel_0 hq]; rfl), LW_t ht hW9⟩, hS0.F ht⟩) hS0.2.2 dL_labelAt_5
set_option maxRecDepth 100000 in
set_option maxHeartbeats 4000000 in
theorem cl_L_type (l : Launch) (hfl : l.stackTraces = false) (D : va_G) (G : GA) (B0 : Nat) (X : Nat → Nat → Nat) (A : Nat → Prop) (h : Nat) (c0 c2 : CS) (hS : Nat → CS) (hn : Nat) (sv : SV) (lab : List Int32) (fl : Nat → Int32) (ch : Int32) (hsv : SVok sv) (hch : vp_nar .char ch = ch) (sz : Nat) : Met l yL_type (wH yL_type cL_type 3 (some .int) [(0, 5, 6, 13), (0, 5, 11, 15)]) ({ frames := 7, cells := 1, slots := 6, locals := 111 } : Room) (va_Pc [.ref h, .int ch] (LWp D G B0 X A h c0 c2 hS hn sv lab fl sz)) (va_Qi (fun (r : Int32) (_ : Unit) => r = sel (x_type sv ch) (nI (sv.2.2.1 + 1)) (if x_type sv ch = 1 then (-1001) else (-1002))) (fun _ t9 => LW D G X A h c0 c2 hS hn (sel (x_type sv ch) (v_typ sv ch) sv) lab fl t9.heap) A) 1 6 A := by
  refine bx_ofWH (cc := cL_type) (maxL := 3) (ret := (some .int)) (hh := [(0, 5, 6, 13), (0, 5, 11, 15)]) (by decide) rfl ?_
  intro p9 e s m args below meth c9 s₁ B hml hv
  obtain ⟨rfl, hsz, ⟨ad, c1, lv, bs, rfl, hLV, hP, hD⟩, hK, hE, hA0, hAB⟩ := hv
  subst hsz
  have hx := B.exec
  have hb := B.bytes
  have hr := B.returns
  have hts : ∀ w9 ∈ tb, w9.before ([.ref (ad.1 3 0), .int ch] : List Value).toArray s = true := fun w9 h9 => atoms_spec (ws := (wH yL_type cL_type 3 (some .int) [(0, 5, 6, 13), (0, 5, 11, 15)])) B.pre w9 (List.mem_cons_of_mem _ h9)
  have hown : s.vm.findClass RL = some m.cls := findClass_of_methodNamed B.named
  have hlocks := B.notSynchronized
  have hxt := vx_table (x := yL_type) B (hts _ kw_731)
  have hS0 : va_S A s.heap s.heap [] := va_S.rf
  have hFc := freeC hD hS0 hA0
  have hl := lv_entry ([.ref (ad.1 3 0), .int ch]) (n := 3) (Nat.le_of_ble_eq_true rfl)
  rw [lg_entry_eq]
  generalize (lg_sl ([.ref (ad.1 3 0), .int ch]) ++ List.replicate (3 - (lg_sl ([.ref (ad.1 3 0), .int ch])).length) Slot.unset).toArray = ls at hl ⊢
  have hl : lv_has ls 3 [(0, .ref (ad.1 3 0)), (1, .int ch)] := hl
  refine lv_aload_n hx hb dL_type_0 rfl (lv_at hl 0 rfl) ?_
  refine lv_iload_n hx hb dL_type_1 rfl (lv_at hl 1 rfl) ?_
  refine vx_calli (vx_runV (As := [.int ch]) (rest := []) ⟨hx, hb, hml, hown, hts⟩ (c_X7_type l hfl D G B0 X ad c0 c1 c2 hS hn sv lv bs fl ch hsv.1 hsv.2.1 hsv.2.2.1 hch s.heap.size) (cwV 1 hts gw_L_134 rfl rfl rfl (by decide +kernel) ⟨Nat.le_of_ble_eq_true rfl, Nat.le_of_ble_eq_true rfl⟩) (pv_cb hK hP hD hAB hE) rfl rfl hl.1 rfl (lv_room (Nat.le_of_ble_eq_true rfl)) dL_type_2 ⟨Nat.le_of_ble_eq_true rfl, Nat.le_of_ble_eq_true rfl⟩) hS0 (fun q _ h => hFc q h) hFc (fun q _ h => hFc q h) ?_ ?_
  · intro E ce q9 u t9 H9 locs9 ht hvm hq hBX hz1 hk1 hS9 hce hcv hcl
    obtain ⟨hBX, hPx, hDx⟩ := hBX
    rw [ht] at hPx
    have hDx := hDx.weaken (fun _ _ _ h9 => hFc _ h9)
    have hW9 : LW D G X A (ad.1 3 0) c0 c2 hS hn (sel (x_type sv ch) (v_typ sv ch) sv) lab fl H9 := by
      simp only [sel_n hq]
      refine ⟨_, _, _, _, ?_, ?_, hPx, hDx⟩
      · exact rfl
      · exact hLV
    rcases rg_x_type sv ch with h0 | hk | hk
    · exact absurd h0 hq
    · skip
      obtain rfl : E = "java/lang/IllegalArgumentException" := hBX.trans (by rw [hk]; rfl)
      refine vx_catch (own := RL) (name := "java/lang/IllegalArgumentException") hown [] ⟨0, 5, 6, 13⟩ [⟨0, 5, 11, 15⟩] hxt (fun _ h => absurd h List.not_mem_nil) (by decide) (by decide) (hts _ kw_328) (va_Nw.use rfl (nw_350 hE.nw)) hce hcv hcl ?_
      have hS0 := hS9
      refine lv_astore_n (x := q9) (lv' := [(2, .ref q9), (0, .ref (ad.1 3 0)), (1, .int ch)]) hx hb dL_type_6 rfl hl (by decide) rfl (fun ls hl => ?_)
      refine lv_sipush (v := -1001) hx hb dL_type_7 (by decide) ?_
      refine W.widen (k := 1) (n := 6) (Nat.le_of_ble_eq_true rfl) (Nat.le_of_ble_eq_true rfl) ?_
      exact W.iret (v := (-1001)) hx hb hr (fun t ht hWm => ⟨⟨_, (), rfl, by first | (rw [sel_n hq]; done) | (rw [sel_n hq]; rfl) | (rw [sel_n hq, hk]; rfl), LW_t ht hW9⟩, hS0.F ht⟩) hS0.2.2 dL_type_10
    · skip
      obtain rfl : E = "java/lang/IllegalStateException" := hBX.trans (by rw [hk]; rfl)
      refine vx_catch (own := RL) (name := "java/lang/IllegalStateException") hown [⟨0, 5, 6, 13⟩] ⟨0, 5, 11, 15⟩ [] hxt (List.forall_mem_cons.mpr ⟨Or.inr ⟨by decide, "java/lang/IllegalArgumentException", hts _ kw_328, hE.n.1⟩, (fun _ h => absurd h List.not_mem_nil)⟩) (by decide) (by decide) (hts _ kw_329) (va_Nw.use rfl (nw_459 hE.nw)) hce hcv hcl ?_
      have hS0 := hS9
      refine lv_astore_n (x := q9) (lv' := [(2, .ref q9), (0, .ref (ad.1 3 0)), (1, .int ch)]) hx hb dL_type_11 rfl hl (by decide) rfl (fun ls hl => ?_)
      refine lv_sipush (v := -1002) hx hb dL_type_12 (by decide) ?_
      refine W.widen (k := 1) (n := 6) (Nat.le_of_ble_eq_true rfl) (Nat.le_of_ble_eq_true rfl) ?_
      exact W.iret (v := (-1002)) hx hb hr (fun t ht hWm => ⟨⟨_, (), rfl, by first | (rw [sel_n hq]; done) | (rw [sel_n hq]; rfl) | (rw [sel_n hq, hk]; rfl), LW_t ht hW9⟩, hS0.F ht⟩) hS0.2.2 dL_type_15
  · intro r u t9 H9 locs9 ht hvm hq hB hz1 hk1 hS9
    obtain ⟨hq, hr9⟩ := hq
    obtain ⟨hPx, hDx⟩ := hB
    rw [ht] at hPx
    have hDx := hDx.weaken (fun _ _ _ h9 => hFc _ h9)
    have hW9 : LW D G X A (ad.1 3 0) c0 c2 hS hn (sel (x_type sv ch) (v_typ sv ch) sv) lab fl H9 := by
      simp only [sel_0 hq]
      refine ⟨_, _, _, _, ?_, ?_, hPx, hDx⟩
      · exact rfl
      · exact hLV
    rw [hr9]
    have hS0 := hS9
    refine W.widen (k := 1) (n := 6) (Nat.le_of_ble_eq_true rfl) (Nat.le_of_ble_eq_true rfl) ?_
    exact W.iret (v := nI (sv.2.2.1 + 1)) hx hb hr (fun t ht hWm => ⟨⟨_, (), rfl, by first | (rw [sel_0 hq]; done) | (rw [sel_0 hq]; rfl), LW_t ht hW9⟩, hS0.F ht⟩) hS0.2.2 dL_type_5
set_option maxRecDepth 100000 in
set_option maxHeartbeats 4000000 in
theorem cl_L_execute (l : Launch) (hfl : l.stackTraces = false) (D : va_G) (G : GA) (B0 : Nat) (X : Nat → Nat → Nat) (A : Nat → Prop) (h : Nat) (c0 c2 : CS) (hS : Nat → CS) (hn : Nat) (sv : SV) (lab : List Int32) (fl : Nat → Int32) (hh : hn ≤ 8) (hsv : SVok sv) (hBG : BG c0) (sz : Nat) : Met l yL_execute (wH yL_execute cL_execute 2 (some .int) [(0, 4, 5, 13), (0, 4, 10, 15)]) ({ frames := 8, cells := 1, slots := 6, locals := 185 } : Room) (va_Pc [.ref h] (LWp D G B0 X A h c0 c2 hS hn sv lab fl sz)) (va_Qi (fun (r : Int32) (_ : Unit) => r = sel (x_exec c0 fl sv) ((v_ct sv).1) (if x_exec c0 fl sv = 1 then (-1001) else (-1002))) (fun _ t9 => LW D G X A h (sel (x_exec c0 fl sv) ((e_r c0 fl sv).2.1) c0) c2 (sel (x_exec c0 fl sv) (pS hS hn c0) hS) (sel (x_exec c0 fl sv) (pN hn) hn) (e_sv c0 fl sv) lab (e_fl c0 fl sv) t9.heap) A) 1 6 A := by
  refine bx_ofWH (cc := cL_execute) (maxL := 2) (ret := (some .int)) (hh := [(0, 4, 5, 13), (0, 4, 10, 15)]) (by decide) rfl ?_
  intro p9 e s m args below meth c9 s₁ B hml hv
  obtain ⟨rfl, hsz, ⟨ad, c1, lv, bs, rfl, hLV, hP, hD⟩, hK, hE, hA0, hAB⟩ := hv
  subst hsz
  have hx := B.exec
  have hb := B.bytes
  have hr := B.returns
  have hts : ∀ w9 ∈ tb, w9.before ([.ref (ad.1 3 0)] : List Value).toArray s = true := fun w9 h9 => atoms_spec (ws := (wH yL_execute cL_execute 2 (some .int) [(0, 4, 5, 13), (0, 4, 10, 15)])) B.pre w9 (List.mem_cons_of_mem _ h9)
  have hown : s.vm.findClass RL = some m.cls := findClass_of_methodNamed B.named
  have hlocks := B.notSynchronized
  have hxt := vx_table (x := yL_execute) B (hts _ kw_749)
  have hS0 : va_S A s.heap s.heap [] := va_S.rf
  have hFc := freeC hD hS0 hA0
  have hl := lv_entry ([.ref (ad.1 3 0)]) (n := 2) (Nat.le_of_ble_eq_true rfl)
  rw [lg_entry_eq]
  generalize (lg_sl ([.ref (ad.1 3 0)]) ++ List.replicate (2 - (lg_sl ([.ref (ad.1 3 0)])).length) Slot.unset).toArray = ls at hl ⊢
  have hl : lv_has ls 2 [(0, .ref (ad.1 3 0))] := hl
  refine lv_aload_n hx hb dL_execute_0 rfl (lv_at hl 0 rfl) ?_
  refine vx_calli (vx_runV (As := []) (rest := []) ⟨hx, hb, hml, hown, hts⟩ (c_X7_execute l hfl D G B0 X ad c0 c1 c2 hS hn sv lv bs fl hh hsv hBG s.heap.size) (cwV 0 hts gw_L_138 rfl rfl rfl (by decide +kernel) ⟨Nat.le_of_ble_eq_true rfl, Nat.le_of_ble_eq_true rfl⟩) (pv_cb hK hP hD hAB hE) rfl rfl hl.1 rfl (lv_room (Nat.le_of_ble_eq_true rfl)) dL_execute_1 ⟨Nat.le_of_ble_eq_true rfl, Nat.le_of_ble_eq_true rfl⟩) hS0 (fun q _ h => hFc q h) hFc (fun q _ h => hFc q h) ?_ ?_
  · intro E ce q9 u t9 H9 locs9 ht hvm hq hBX hz1 hk1 hS9 hce hcv hcl
    obtain ⟨hBX, hPx, hDx⟩ := hBX
    rw [ht] at hPx
    have hDx := hDx.weaken (fun _ _ _ h9 => hFc _ h9)
    have hW9 : LW D G X A (ad.1 3 0) (sel (x_exec c0 fl sv) ((e_r c0 fl sv).2.1) c0) c2 (sel (x_exec c0 fl sv) (pS hS hn c0) hS) (sel (x_exec c0 fl sv) (pN hn) hn) (e_sv c0 fl sv) lab (e_fl c0 fl sv) H9 := by
      simp only [sel_n hq]
      refine ⟨_, _, _, _, ?_, ?_, hPx, hDx⟩
      · exact rfl
      · exact hLV
    rcases rg_x_exec c0 fl sv with h0 | hk | hk
    · exact absurd h0 hq
    · skip
      obtain rfl : E = "java/lang/IllegalArgumentException" := hBX.trans (by rw [hk]; rfl)
      refine vx_catch (own := RL) (name := "java/lang/IllegalArgumentException") hown [] ⟨0, 4, 5, 13⟩ [⟨0, 4, 10, 15⟩] hxt (fun _ h => absurd h List.not_mem_nil) (by decide) (by decide) (hts _ kw_328) (va_Nw.use rfl (nw_350 hE.nw)) hce hcv hcl ?_
      have hS0 := hS9
      refine lv_astore_n (x := q9) (lv' := [(1, .ref q9), (0, .ref (ad.1 3 0))]) hx hb dL_execute_5 rfl hl (by decide) rfl (fun ls hl => ?_)
      refine lv_sipush (v := -1001) hx hb dL_execute_6 (by decide) ?_
      refine W.widen (k := 1) (n := 6) (Nat.le_of_ble_eq_true rfl) (Nat.le_of_ble_eq_true rfl) ?_
      exact W.iret (v := (-1001)) hx hb hr (fun t ht hWm => ⟨⟨_, (), rfl, by first | (rw [sel_n hq]; done) | (rw [sel_n hq]; rfl) | (rw [sel_n hq, hk]; rfl), LW_t ht hW9⟩, hS0.F ht⟩) hS0.2.2 dL_execute_9
    · skip
      obtain rfl : E = "java/lang/IllegalStateException" := hBX.trans (by rw [hk]; rfl)
      refine vx_catch (own := RL) (name := "java/lang/IllegalStateException") hown [⟨0, 4, 5, 13⟩] ⟨0, 4, 10, 15⟩ [] hxt (List.forall_mem_cons.mpr ⟨Or.inr ⟨by decide, "java/lang/IllegalArgumentException", hts _ kw_328, hE.n.1⟩, (fun _ h => absurd h List.not_mem_nil)⟩) (by decide) (by decide) (hts _ kw_329) (va_Nw.use rfl (nw_459 hE.nw)) hce hcv hcl ?_
      have hS0 := hS9
      refine lv_astore_n (x := q9) (lv' := [(1, .ref q9), (0, .ref (ad.1 3 0))]) hx hb dL_execute_10 rfl hl (by decide) rfl (fun ls hl => ?_)
      refine lv_sipush (v := -1002) hx hb dL_execute_11 (by decide) ?_
      refine W.widen (k := 1) (n := 6) (Nat.le_of_ble_eq_true rfl) (Nat.le_of_ble_eq_true rfl) ?_
      exact W.iret (v := (-1002)) hx hb hr (fun t ht hWm => ⟨⟨_, (), rfl, by first | (rw [sel_n hq]; done) | (rw [sel_n hq]; rfl) | (rw [sel_n hq, hk]; rfl), LW_t ht hW9⟩, hS0.F ht⟩) hS0.2.2 dL_execute_14
  · intro r u t9 H9 locs9 ht hvm hq hB hz1 hk1 hS9
    obtain ⟨hq, hr9⟩ := hq
    obtain ⟨hPx, hDx⟩ := hB
    rw [ht] at hPx
    have hDx := hDx.weaken (fun _ _ _ h9 => hFc _ h9)
    have hW9 : LW D G X A (ad.1 3 0) (sel (x_exec c0 fl sv) ((e_r c0 fl sv).2.1) c0) c2 (sel (x_exec c0 fl sv) (pS hS hn c0) hS) (sel (x_exec c0 fl sv) (pN hn) hn) (e_sv c0 fl sv) lab (e_fl c0 fl sv) H9 := by
      simp only [sel_0 hq]
      refine ⟨_, _, _, _, ?_, ?_, hPx, hDx⟩
      · exact rfl
      · exact hLV
    rw [hr9]
    have hS0 := hS9
    refine W.widen (k := 1) (n := 6) (Nat.le_of_ble_eq_true rfl) (Nat.le_of_ble_eq_true rfl) ?_
    exact W.iret (v := (v_ct sv).1) hx hb hr (fun t ht hWm => ⟨⟨_, (), rfl, by first | (rw [sel_0 hq]; done) | (rw [sel_0 hq]; rfl), LW_t ht hW9⟩, hS0.F ht⟩) hS0.2.2 dL_execute_4
set_option maxRecDepth 100000 in
set_option maxHeartbeats 4000000 in
theorem cl_L_errorPosition (l : Launch) (hfl : l.stackTraces = false) (D : va_G) (G : GA) (B0 : Nat) (X : Nat → Nat → Nat) (A : Nat → Prop) (h : Nat) (c0 c2 : CS) (hS : Nat → CS) (hn : Nat) (sv : SV) (lab : List Int32) (fl : Nat → Int32) (sz : Nat) : Met l yL_errorPosition (wH yL_errorPosition cL_errorPosition 2 (some .int) [(0, 4, 5, 24)]) ({ frames := 7, cells := 1, slots := 6, locals := 110 } : Room) (va_Pc [.ref h] (LWp D G B0 X A h c0 c2 hS hn sv lab fl sz)) (va_Qi (fun (r : Int32) (_ : Unit) => r = sel (x_errp fl) (fl 3) (-1001)) (fun _ t9 => LW D G X A h c0 c2 hS hn sv lab fl t9.heap) A) 1 6 A := by
  refine bx_ofWH (cc := cL_errorPosition) (maxL := 2) (ret := (some .int)) (hh := [(0, 4, 5, 24)]) (by decide) rfl ?_
  intro p9 e s m args below meth c9 s₁ B hml hv
  obtain ⟨rfl, hsz, ⟨ad, c1, lv, bs, rfl, hLV, hP, hD⟩, hK, hE, hA0, hAB⟩ := hv
  subst hsz
  have hx := B.exec
  have hb := B.bytes
  have hr := B.returns
  have hts : ∀ w9 ∈ tb, w9.before ([.ref (ad.1 3 0)] : List Value).toArray s = true := fun w9 h9 => atoms_spec (ws := (wH yL_errorPosition cL_errorPosition 2 (some .int) [(0, 4, 5, 24)])) B.pre w9 (List.mem_cons_of_mem _ h9)
  have hown : s.vm.findClass RL = some m.cls := findClass_of_methodNamed B.named
  have hlocks := B.notSynchronized
  have hxt := vx_table (x := yL_errorPosition) B (hts _ kw_886)
  have hS0 : va_S A s.heap s.heap [] := va_S.rf
  have hFc := freeC hD hS0 hA0
  have hl := lv_entry ([.ref (ad.1 3 0)]) (n := 2) (Nat.le_of_ble_eq_true rfl)
  rw [lg_entry_eq]
  generalize (lg_sl ([.ref (ad.1 3 0)]) ++ List.replicate (2 - (lg_sl ([.ref (ad.1 3 0)])).length) Slot.unset).toArray = ls at hl ⊢
  have hl : lv_has ls 2 [(0, .ref (ad.1 3 0))] := hl
  refine lv_aload_n hx hb dL_errorPosition_0 rfl (lv_at hl 0 rfl) ?_
  refine vx_calli (vx_runV (As := []) (rest := []) ⟨hx, hb, hml, hown, hts⟩ (c_X7_errorPosition l hfl D G B0 X ad c0 c1 c2 hS hn sv lv bs fl) (cwV 0 hts gw_L_141 rfl rfl rfl (by decide +kernel) ⟨Nat.le_of_ble_eq_true rfl, Nat.le_of_ble_eq_true rfl⟩) (pv_cq hK hP hE) rfl rfl hl.1 rfl (lv_room (Nat.le_of_ble_eq_true rfl)) dL_errorPosition_1 ⟨Nat.le_of_ble_eq_true rfl, Nat.le_of_ble_eq_true rfl⟩) hS0 (fun _ _ h => h.elim) (fun _ h => h.elim) (fun _ _ h => h.elim) ?_ ?_
  · intro E ce q9 u t9 H9 locs9 ht hvm hq hBX hz1 hk1 hS9 hce hcv hcl
    have hPx := P_keep hP hk1 (fun _ _ h => h.elim)
    have hDx := hD
    have hW9 : LW D G X A (ad.1 3 0) c0 c2 hS hn sv lab fl H9 := by
      refine ⟨_, _, _, _, ?_, ?_, hPx, hDx⟩
      · exact rfl
      · exact hLV
    rcases rg_x_errp fl with h0 | hk
    · exact absurd h0 hq
    · skip
      obtain rfl : E = "java/util/NoSuchElementException" := hBX.trans (by rw [hk]; rfl)
      refine vx_catch (own := RL) (name := "java/util/NoSuchElementException") hown [] ⟨0, 4, 5, 24⟩ [] hxt (fun _ h => absurd h List.not_mem_nil) (by decide) (by decide) (hts _ kw_527) (va_Nw.use rfl (nw_424 hE.nw)) hce hcv hcl ?_
      have hS0 := hS9
      refine lv_astore_n (x := q9) (lv' := [(1, .ref q9), (0, .ref (ad.1 3 0))]) hx hb dL_errorPosition_5 rfl hl (by decide) rfl (fun ls hl => ?_)
      refine lv_sipush (v := -1001) hx hb dL_errorPosition_6 (by decide) ?_
      refine W.widen (k := 1) (n := 6) (Nat.le_of_ble_eq_true rfl) (Nat.le_of_ble_eq_true rfl) ?_
      exact W.iret (v := (-1001)) hx hb hr (fun t ht hWm => ⟨⟨_, (), rfl, by first | (rw [sel_n hq]; done) | (rw [sel_n hq]; rfl) | (rw [sel_n hq, hk]; rfl), LW_t ht hW9⟩, hS0.F ht⟩) hS0.2.2 dL_errorPosition_9
  · intro r u t9 H9 locs9 ht hvm hq hB hz1 hk1 hS9
    obtain ⟨hq, hr9⟩ := hq
    have hPx := P_keep hP hk1 (fun _ _ h => h.elim)
    have hDx := hD
    have hW9 : LW D G X A (ad.1 3 0) c0 c2 hS hn sv lab fl H9 := by
      refine ⟨_, _, _, _, ?_, ?_, hPx, hDx⟩
      · exact rfl
      · exact hLV
    rw [hr9]
    have hS0 := hS9
    refine W.widen (k := 1) (n := 6) (Nat.le_of_ble_eq_true rfl) (Nat.le_of_ble_eq_true rfl) ?_
    exact W.iret (v := fl 3) hx hb hr (fun t ht hWm => ⟨⟨_, (), rfl, by first | (rw [sel_0 hq]; done) | (rw [sel_0 hq]; rfl), LW_t ht hW9⟩, hS0.F ht⟩) hS0.2.2 dL_errorPosition_4
set_option maxRecDepth 100000 in
set_option maxHeartbeats 4000000 in
theorem cl_L_failedCommand (l : Launch) (hfl : l.stackTraces = false) (D : va_G) (G : GA) (B0 : Nat) (X : Nat → Nat → Nat) (A : Nat → Prop) (h : Nat) (c0 c2 : CS) (hS : Nat → CS) (hn : Nat) (sv : SV) (lab : List Int32) (fl : Nat → Int32) (sz : Nat) : Met l yL_failedCommand (wH yL_failedCommand cL_failedCommand 2 (some .int) [(0, 4, 5, 24)]) ({ frames := 7, cells := 1, slots := 6, locals := 110 } : Room) (va_Pc [.ref h] (LWp D G B0 X A h c0 c2 hS hn sv lab fl sz)) (va_Qi (fun (r : Int32) (_ : Unit) => r = sel (x_fail fl) (fl 4) (-1001)) (fun _ t9 => LW D G X A h c0 c2 hS hn sv lab fl t9.heap) A) 1 6 A := by
  refine bx_ofWH (cc := cL_failedCommand) (maxL := 2) (ret := (some .int)) (hh := [(0, 4, 5, 24)]) (by decide) rfl ?_
  intro p9 e s m args below meth c9 s₁ B hml hv
  obtain ⟨rfl, hsz, ⟨ad, c1, lv, bs, rfl, hLV, hP, hD⟩, hK, hE, hA0, hAB⟩ := hv
  subst hsz
  have hx := B.exec
  have hb := B.bytes
  have hr := B.returns
  have hts : ∀ w9 ∈ tb, w9.before ([.ref (ad.1 3 0)] : List Value).toArray s = true := fun w9 h9 => atoms_spec (ws := (wH yL_failedCommand cL_failedCommand 2 (some .int) [(0, 4, 5, 24)])) B.pre w9 (List.mem_cons_of_mem _ h9)
  have hown : s.vm.findClass RL = some m.cls := findClass_of_methodNamed B.named
  have hlocks := B.notSynchronized
  have hxt := vx_table (x := yL_failedCommand) B (hts _ kw_1479)
  have hS0 : va_S A s.heap s.heap [] := va_S.rf
  have hFc := freeC hD hS0 hA0
  have hl := lv_entry ([.ref (ad.1 3 0)]) (n := 2) (Nat.le_of_ble_eq_true rfl)
  rw [lg_entry_eq]
  generalize (lg_sl ([.ref (ad.1 3 0)]) ++ List.replicate (2 - (lg_sl ([.ref (ad.1 3 0)])).length) Slot.unset).toArray = ls at hl ⊢
  have hl : lv_has ls 2 [(0, .ref (ad.1 3 0))] := hl
  refine lv_aload_n hx hb dL_failedCommand_0 rfl (lv_at hl 0 rfl) ?_
  refine vx_calli (vx_runV (As := []) (rest := []) ⟨hx, hb, hml, hown, hts⟩ (c_X7_failedCommand l hfl D G B0 X ad c0 c1 c2 hS hn sv lv bs fl) (cwV 0 hts gw_L_144 rfl rfl rfl (by decide +kernel) ⟨Nat.le_of_ble_eq_true rfl, Nat.le_of_ble_eq_true rfl⟩) (pv_cq hK hP hE) rfl rfl hl.1 rfl (lv_room (Nat.le_of_ble_eq_true rfl)) dL_failedCommand_1 ⟨Nat.le_of_ble_eq_true rfl, Nat.le_of_ble_eq_true rfl⟩) hS0 (fun _ _ h => h.elim) (fun _ h => h.elim) (fun _ _ h => h.elim) ?_ ?_
  · intro E ce q9 u t9 H9 locs9 ht hvm hq hBX hz1 hk1 hS9 hce hcv hcl
    have hPx := P_keep hP hk1 (fun _ _ h => h.elim)
    have hDx := hD
    have hW9 : LW D G X A (ad.1 3 0) c0 c2 hS hn sv lab fl H9 := by
      refine ⟨_, _, _, _, ?_, ?_, hPx, hDx⟩
      · exact rfl
      · exact hLV
    rcases rg_x_fail fl with h0 | hk
    · exact absurd h0 hq
    · skip
      obtain rfl : E = "java/util/NoSuchElementException" := hBX.trans (by rw [hk]; rfl)
      refine vx_catch (own := RL) (name := "java/util/NoSuchElementException") hown [] ⟨0, 4, 5, 24⟩ [] hxt (fun _ h => absurd h List.not_mem_nil) (by decide) (by decide) (hts _ kw_527) (va_Nw.use rfl (nw_424 hE.nw)) hce hcv hcl ?_
      have hS0 := hS9
      refine lv_astore_n (x := q9) (lv' := [(1, .ref q9), (0, .ref (ad.1 3 0))]) hx hb dL_failedCommand_5 rfl hl (by decide) rfl (fun ls hl => ?_)
      refine lv_sipush (v := -1001) hx hb dL_failedCommand_6 (by decide) ?_
      refine W.widen (k := 1) (n := 6) (Nat.le_of_ble_eq_true rfl) (Nat.le_of_ble_eq_true rfl) ?_
      exact W.iret (v := (-1001)) hx hb hr (fun t ht hWm => ⟨⟨_, (), rfl, by first | (rw [sel_n hq]; done) | (rw [sel_n hq]; rfl) | (rw [sel_n hq, hk]; rfl), LW_t ht hW9⟩, hS0.F ht⟩) hS0.2.2 dL_failedCommand_9
  · intro r u t9 H9 locs9 ht hvm hq hB hz1 hk1 hS9
    obtain ⟨hq, hr9⟩ := hq
    have hPx := P_keep hP hk1 (fun _ _ h => h.elim)
    have hDx := hD
    have hW9 : LW D G X A (ad.1 3 0) c0 c2 hS hn sv lab fl H9 := by
      refine ⟨_, _, _, _, ?_, ?_, hPx, hDx⟩
      · exact rfl
      · exact hLV
    rw [hr9]
    have hS0 := hS9
    refine W.widen (k := 1) (n := 6) (Nat.le_of_ble_eq_true rfl) (Nat.le_of_ble_eq_true rfl) ?_
    exact W.iret (v := fl 4) hx hb hr (fun t ht hWm => ⟨⟨_, (), rfl, by first | (rw [sel_0 hq]; done) | (rw [sel_0 hq]; rfl), LW_t ht hW9⟩, hS0.F ht⟩) hS0.2.2 dL_failedCommand_4
set_option maxRecDepth 100000 in
set_option maxHeartbeats 4000000 in
theorem cl_L_undo (l : Launch) (hfl : l.stackTraces = false) (D : va_G) (G : GA) (B0 : Nat) (X : Nat → Nat → Nat) (A : Nat → Prop) (h : Nat) (c0 c2 : CS) (hS : Nat → CS) (hn : Nat) (sv : SV) (lab : List Int32) (fl : Nat → Int32) (hh : hn ≤ 8) (sz : Nat) : Met l yL_undo (wH yL_undo cL_undo 2 (some .int) [(0, 4, 5, 15)]) ({ frames := 7, cells := 1, slots := 6, locals := 110 } : Room) (va_Pc [.ref h] (LWp D G B0 X A h c0 c2 hS hn sv lab fl sz)) (va_Qi (fun (r : Int32) (_ : Unit) => r = sel (x_undo hn) (nI (hn - 1)) (-1001)) (fun _ t9 => LW D G X A h (sel (x_undo hn) (hS (hn - 1)) c0) c2 hS (sel (x_undo hn) (hn - 1) hn) sv lab fl t9.heap) A) 1 6 A := by
  refine bx_ofWH (cc := cL_undo) (maxL := 2) (ret := (some .int)) (hh := [(0, 4, 5, 15)]) (by decide) rfl ?_
  intro p9 e s m args below meth c9 s₁ B hml hv
  obtain ⟨rfl, hsz, ⟨ad, c1, lv, bs, rfl, hLV, hP, hD⟩, hK, hE, hA0, hAB⟩ := hv
  subst hsz
  have hx := B.exec
  have hb := B.bytes
  have hr := B.returns
  have hts : ∀ w9 ∈ tb, w9.before ([.ref (ad.1 3 0)] : List Value).toArray s = true := fun w9 h9 => atoms_spec (ws := (wH yL_undo cL_undo 2 (some .int) [(0, 4, 5, 15)])) B.pre w9 (List.mem_cons_of_mem _ h9)
  have hown : s.vm.findClass RL = some m.cls := findClass_of_methodNamed B.named
  have hlocks := B.notSynchronized
  have hxt := vx_table (x := yL_undo) B (hts _ kw_894)
  have hS0 : va_S A s.heap s.heap [] := va_S.rf
  have hFc := freeC hD hS0 hA0
  have hl := lv_entry ([.ref (ad.1 3 0)]) (n := 2) (Nat.le_of_ble_eq_true rfl)
  rw [lg_entry_eq]
  generalize (lg_sl ([.ref (ad.1 3 0)]) ++ List.replicate (2 - (lg_sl ([.ref (ad.1 3 0)])).length) Slot.unset).toArray = ls at hl ⊢
  have hl : lv_has ls 2 [(0, .ref (ad.1 3 0))] := hl
  refine lv_aload_n hx hb dL_undo_0 rfl (lv_at hl 0 rfl) ?_
  refine vx_calli (vx_runV (As := []) (rest := []) ⟨hx, hb, hml, hown, hts⟩ (c_X7_undo l hfl D G B0 X ad c0 c1 c2 hS hn sv lv bs fl hh s.heap.size) (cwV 0 hts gw_L_147 rfl rfl rfl (by decide +kernel) ⟨Nat.le_of_ble_eq_true rfl, Nat.le_of_ble_eq_true rfl⟩) (pv_cb hK hP hD hAB hE) rfl rfl hl.1 rfl (lv_room (Nat.le_of_ble_eq_true rfl)) dL_undo_1 ⟨Nat.le_of_ble_eq_true rfl, Nat.le_of_ble_eq_true rfl⟩) hS0 (fun q _ h => hFc q h) hFc (fun q _ h => hFc q h) ?_ ?_
  · intro E ce q9 u t9 H9 locs9 ht hvm hq hBX hz1 hk1 hS9 hce hcv hcl
    obtain ⟨hBX, hPx, hDx⟩ := hBX
    rw [ht] at hPx
    have hDx := hDx.weaken (fun _ _ _ h9 => hFc _ h9)
    have hW9 : LW D G X A (ad.1 3 0) (sel (x_undo hn) (hS (hn - 1)) c0) c2 hS (sel (x_undo hn) (hn - 1) hn) sv lab fl H9 := by
      simp only [sel_n hq]
      refine ⟨_, _, _, _, ?_, ?_, hPx, hDx⟩
      · exact rfl
      · exact hLV
    rcases rg_x_undo hn with h0 | hk
    · exact absurd h0 hq
    · skip
      obtain rfl : E = "java/lang/IllegalStateException" := hBX.trans (by rw [hk]; rfl)
      refine vx_catch (own := RL) (name := "java/lang/IllegalStateException") hown [] ⟨0, 4, 5, 15⟩ [] hxt (fun _ h => absurd h List.not_mem_nil) (by decide) (by decide) (hts _ kw_329) (va_Nw.use rfl (nw_459 hE.nw)) hce hcv hcl ?_
      have hS0 := hS9
      refine lv_astore_n (x := q9) (lv' := [(1, .ref q9), (0, .ref (ad.1 3 0))]) hx hb dL_undo_5 rfl hl (by decide) rfl (fun ls hl => ?_)
      refine lv_sipush (v := -1001) hx hb dL_undo_6 (by decide) ?_
      refine W.widen (k := 1) (n := 6) (Nat.le_of_ble_eq_true rfl) (Nat.le_of_ble_eq_true rfl) ?_
      exact W.iret (v := (-1001)) hx hb hr (fun t ht hWm => ⟨⟨_, (), rfl, by first | (rw [sel_n hq]; done) | (rw [sel_n hq]; rfl) | (rw [sel_n hq, hk]; rfl), LW_t ht hW9⟩, hS0.F ht⟩) hS0.2.2 dL_undo_9
  · intro r u t9 H9 locs9 ht hvm hq hB hz1 hk1 hS9
    obtain ⟨hq, hr9⟩ := hq
    obtain ⟨hPx, hDx⟩ := hB
    rw [ht] at hPx
    have hDx := hDx.weaken (fun _ _ _ h9 => hFc _ h9)
    have hW9 : LW D G X A (ad.1 3 0) (sel (x_undo hn) (hS (hn - 1)) c0) c2 hS (sel (x_undo hn) (hn - 1) hn) sv lab fl H9 := by
      simp only [sel_0 hq]
      refine ⟨_, _, _, _, ?_, ?_, hPx, hDx⟩
      · exact rfl
      · exact hLV
    rw [hr9]
    have hS0 := hS9
    refine W.widen (k := 1) (n := 6) (Nat.le_of_ble_eq_true rfl) (Nat.le_of_ble_eq_true rfl) ?_
    exact W.iret (v := nI (hn - 1)) hx hb hr (fun t ht hWm => ⟨⟨_, (), rfl, by first | (rw [sel_0 hq]; done) | (rw [sel_0 hq]; rfl), LW_t ht hW9⟩, hS0.F ht⟩) hS0.2.2 dL_undo_4
set_option maxRecDepth 100000 in
set_option maxHeartbeats 4000000 in
theorem cl_L_restore (l : Launch) (hfl : l.stackTraces = false) (D : va_G) (G : GA) (B0 : Nat) (X : Nat → Nat → Nat) (A : Nat → Prop) (h : Nat) (c0 c2 : CS) (hS : Nat → CS) (hn : Nat) (sv : SV) (lab : List Int32) (fl : Nat → Int32) (hh : hn ≤ 8) (sz : Nat) : Met l yL_restore (wH yL_restore cL_restore 2 (some .int) [(0, 4, 5, 15)]) ({ frames := 7, cells := 1, slots := 6, locals := 110 } : Room) (va_Pc [.ref h] (LWp D G B0 X A h c0 c2 hS hn sv lab fl sz)) (va_Qi (fun (r : Int32) (_ : Unit) => r = sel (x_restore fl) (s_countItems c2) (-1001)) (fun _ t9 => LW D G X A h (sel (x_restore fl) (c2) c0) c2 hS (sel (x_restore fl) (0) hn) sv lab fl t9.heap) A) 1 6 A := by
  refine bx_ofWH (cc := cL_restore) (maxL := 2) (ret := (some .int)) (hh := [(0, 4, 5, 15)]) (by decide) rfl ?_
  intro p9 e s m args below meth c9 s₁ B hml hv
  obtain ⟨rfl, hsz, ⟨ad, c1, lv, bs, rfl, hLV, hP, hD⟩, hK, hE, hA0, hAB⟩ := hv
  subst hsz
  have hx := B.exec
  have hb := B.bytes
  have hr := B.returns
  have hts : ∀ w9 ∈ tb, w9.before ([.ref (ad.1 3 0)] : List Value).toArray s = true := fun w9 h9 => atoms_spec (ws := (wH yL_restore cL_restore 2 (some .int) [(0, 4, 5, 15)])) B.pre w9 (List.mem_cons_of_mem _ h9)
  have hown : s.vm.findClass RL = some m.cls := findClass_of_methodNamed B.named
  have hlocks := B.notSynchronized
  have hxt := vx_table (x := yL_restore) B (hts _ kw_906)
  have hS0 : va_S A s.heap s.heap [] := va_S.rf
  have hFc := freeC hD hS0 hA0
  have hl := lv_entry ([.ref (ad.1 3 0)]) (n := 2) (Nat.le_of_ble_eq_true rfl)
  rw [lg_entry_eq]
  generalize (lg_sl ([.ref (ad.1 3 0)]) ++ List.replicate (2 - (lg_sl ([.ref (ad.1 3 0)])).length) Slot.unset).toArray = ls at hl ⊢
  have hl : lv_has ls 2 [(0, .ref (ad.1 3 0))] := hl
  refine lv_aload_n hx hb dL_restore_0 rfl (lv_at hl 0 rfl) ?_
  refine vx_calli (vx_runV (As := []) (rest := []) ⟨hx, hb, hml, hown, hts⟩ (c_X7_restore l hfl D G B0 X ad c0 c1 c2 hS hn sv lv bs fl hh s.heap.size) (cwV 0 hts gw_L_150 rfl rfl rfl (by decide +kernel) ⟨Nat.le_of_ble_eq_true rfl, Nat.le_of_ble_eq_true rfl⟩) (pv_cb hK hP hD hAB hE) rfl rfl hl.1 rfl (lv_room (Nat.le_of_ble_eq_true rfl)) dL_restore_1 ⟨Nat.le_of_ble_eq_true rfl, Nat.le_of_ble_eq_true rfl⟩) hS0 (fun q _ h => hFc q h) hFc (fun q _ h => hFc q h) ?_ ?_
  · intro E ce q9 u t9 H9 locs9 ht hvm hq hBX hz1 hk1 hS9 hce hcv hcl
    obtain ⟨hBX, hPx, hDx⟩ := hBX
    rw [ht] at hPx
    have hDx := hDx.weaken (fun _ _ _ h9 => hFc _ h9)
    have hW9 : LW D G X A (ad.1 3 0) (sel (x_restore fl) (c2) c0) c2 hS (sel (x_restore fl) (0) hn) sv lab fl H9 := by
      simp only [sel_n hq]
      refine ⟨_, _, _, _, ?_, ?_, hPx, hDx⟩
      · exact rfl
      · exact hLV
    rcases rg_x_restore fl with h0 | hk
    · exact absurd h0 hq
    · skip
      obtain rfl : E = "java/lang/IllegalStateException" := hBX.trans (by rw [hk]; rfl)
      refine vx_catch (own := RL) (name := "java/lang/IllegalStateException") hown [] ⟨0, 4, 5, 15⟩ [] hxt (fun _ h => absurd h List.not_mem_nil) (by decide) (by decide) (hts _ kw_329) (va_Nw.use rfl (nw_459 hE.nw)) hce hcv hcl ?_
      have hS0 := hS9
      refine lv_astore_n (x := q9) (lv' := [(1, .ref q9), (0, .ref (ad.1 3 0))]) hx hb dL_restore_5 rfl hl (by decide) rfl (fun ls hl => ?_)
      refine lv_sipush (v := -1001) hx hb dL_restore_6 (by decide) ?_
      refine W.widen (k := 1) (n := 6) (Nat.le_of_ble_eq_true rfl) (Nat.le_of_ble_eq_true rfl) ?_
      exact W.iret (v := (-1001)) hx hb hr (fun t ht hWm => ⟨⟨_, (), rfl, by first | (rw [sel_n hq]; done) | (rw [sel_n hq]; rfl) | (rw [sel_n hq, hk]; rfl), LW_t ht hW9⟩, hS0.F ht⟩) hS0.2.2 dL_restore_9
  · intro r u t9 H9 locs9 ht hvm hq hB hz1 hk1 hS9
    obtain ⟨hq, hr9⟩ := hq
    obtain ⟨hPx, hDx⟩ := hB
    rw [ht] at hPx
    have hDx := hDx.weaken (fun _ _ _ h9 => hFc _ h9)
    have hW9 : LW D G X A (ad.1 3 0) (sel (x_restore fl) (c2) c0) c2 hS (sel (x_restore fl) (0) hn) sv lab fl H9 := by
      simp only [sel_0 hq]
      refine ⟨_, _, _, _, ?_, ?_, hPx, hDx⟩
      · exact rfl
      · exact hLV
    rw [hr9]
    have hS0 := hS9
    refine W.widen (k := 1) (n := 6) (Nat.le_of_ble_eq_true rfl) (Nat.le_of_ble_eq_true rfl) ?_
    exact W.iret (v := s_countItems c2) hx hb hr (fun t ht hWm => ⟨⟨_, (), rfl, by first | (rw [sel_0 hq]; done) | (rw [sel_0 hq]; rfl), LW_t ht hW9⟩, hS0.F ht⟩) hS0.2.2 dL_restore_4
theorem cq_X7_itemCount (l : Launch) (D : va_G) (G : GA) (B0 : Nat) (X : Nat → Nat → Nat) (A : Nat → Prop) (h : Nat) (c0 c2 : CS) (hS : Nat → CS) (hn : Nat) (sv : SV) (lab : List Int32) (fl : Nat → Int32) (sz : Nat) : Met l yX7_itemCount (wA yX7_itemCount cX7_itemCount 1 (some .int)) ({ frames := 2, cells := 0, slots := 0, locals := 45 } : Room) (va_Pc [.ref h] (LWp D G B0 X A h c0 c2 hS hn sv lab fl sz)) (vp_Si (fun r => r = s_countItems c0)) 0 0 (fun _ => False) := Met_pt (fun a s hp => by obtain ⟨rfl, hsz, ⟨ad, c1, lv, bs, rfl, hLV, hP, hD⟩, hK, hE, -⟩ := hp; exact ⟨_, _, _, c_X7_itemCount l D G B0 X ad c0 c1 c2 hS hn sv lv bs fl, ⟨rfl, hP, hK, hE⟩, fun _ _ h => h, fun _ h => h⟩)
theorem cq_X7_depotCount (l : Launch) (D : va_G) (G : GA) (B0 : Nat) (X : Nat → Nat → Nat) (A : Nat → Prop) (h : Nat) (c0 c2 : CS) (hS : Nat → CS) (hn : Nat) (sv : SV) (lab : List Int32) (fl : Nat → Int32) (sz : Nat) : Met l yX7_depotCount (wA yX7_depotCount cX7_depotCount 1 (some .int)) ({ frames := 2, cells := 0, slots := 0, locals := 45 } : Room) (va_Pc [.ref h] (LWp D G B0 X A h c0 c2 hS hn sv lab fl sz)) (vp_Si (fun r => r = s_countDepot c0)) 0 0 (fun _ => False) := Met_pt (fun a s hp => by obtain ⟨rfl, hsz, ⟨ad, c1, lv, bs, rfl, hLV, hP, hD⟩, hK, hE, -⟩ := hp; exact ⟨_, _, _, c_X7_depotCount l D G B0 X ad c0 c1 c2 hS hn sv lv bs fl, ⟨rfl, hP, hK, hE⟩, fun _ _ h => h, fun _ h => h⟩)
theorem cq_X7_bagCount (l : Launch) (D : va_G) (G : GA) (B0 : Nat) (X : Nat → Nat → Nat) (A : Nat → Prop) (h : Nat) (c0 c2 : CS) (hS : Nat → CS) (hn : Nat) (sv : SV) (lab : List Int32) (fl : Nat → Int32) (sz : Nat) : Met l yX7_bagCount (wA yX7_bagCount cX7_bagCount 1 (some .int)) ({ frames := 0, cells := 0, slots := 0, locals := 0 } : Room) (va_Pc [.ref h] (LWp D G B0 X A h c0 c2 hS hn sv lab fl sz)) (vp_Si (fun r => r = c0.2.2 1)) 0 0 (fun _ => False) := Met_pt (fun a s hp => by obtain ⟨rfl, hsz, ⟨ad, c1, lv, bs, rfl, hLV, hP, hD⟩, hK, hE, -⟩ := hp; exact ⟨_, _, _, c_X7_bagCount l D G B0 X ad c0 c1 c2 hS hn sv lv bs fl, ⟨rfl, hP, hK, hE⟩, fun _ _ h => h, fun _ h => h⟩)
theorem cq_X7_deliveredCount (l : Launch) (D : va_G) (G : GA) (B0 : Nat) (X : Nat → Nat → Nat) (A : Nat → Prop) (h : Nat) (c0 c2 : CS) (hS : Nat → CS) (hn : Nat) (sv : SV) (lab : List Int32) (fl : Nat → Int32) (sz : Nat) : Met l yX7_deliveredCount (wA yX7_deliveredCount cX7_deliveredCount 1 (some .int)) ({ frames := 0, cells := 0, slots := 0, locals := 0 } : Room) (va_Pc [.ref h] (LWp D G B0 X A h c0 c2 hS hn sv lab fl sz)) (vp_Si (fun r => r = c0.2.2 2)) 0 0 (fun _ => False) := Met_pt (fun a s hp => by obtain ⟨rfl, hsz, ⟨ad, c1, lv, bs, rfl, hLV, hP, hD⟩, hK, hE, -⟩ := hp; exact ⟨_, _, _, c_X7_deliveredCount l D G B0 X ad c0 c1 c2 hS hn sv lv bs fl, ⟨rfl, hP, hK, hE⟩, fun _ _ h => h, fun _ h => h⟩)
theorem cq_X7_deliveredWeight (l : Launch) (D : va_G) (G : GA) (B0 : Nat) (X : Nat → Nat → Nat) (A : Nat → Prop) (h : Nat) (c0 c2 : CS) (hS : Nat → CS) (hn : Nat) (sv : SV) (lab : List Int32) (fl : Nat → Int32) (sz : Nat) : Met l yX7_deliveredWeight (wA yX7_deliveredWeight cX7_deliveredWeight 1 (some .int)) ({ frames := 0, cells := 0, slots := 0, locals := 0 } : Room) (va_Pc [.ref h] (LWp D G B0 X A h c0 c2 hS hn sv lab fl sz)) (vp_Si (fun r => r = c0.2.2 3)) 0 0 (fun _ => False) := Met_pt (fun a s hp => by obtain ⟨rfl, hsz, ⟨ad, c1, lv, bs, rfl, hLV, hP, hD⟩, hK, hE, -⟩ := hp; exact ⟨_, _, _, c_X7_deliveredWeight l D G B0 X ad c0 c1 c2 hS hn sv lv bs fl, ⟨rfl, hP, hK, hE⟩, fun _ _ h => h, fun _ h => h⟩)
theorem cq_X7_exists (l : Launch) (D : va_G) (G : GA) (B0 : Nat) (X : Nat → Nat → Nat) (A : Nat → Prop) (h : Nat) (c0 c2 : CS) (hS : Nat → CS) (hn : Nat) (sv : SV) (lab : List Int32) (fl : Nat → Int32) (b : Int32) (sz : Nat) : Met l yX7_exists (wA yX7_exists cX7_exists 2 (some .boolean)) ({ frames := 2, cells := 0, slots := 0, locals := 45 } : Room) (va_Pc [.ref h, .int b] (LWp D G B0 X A h c0 c2 hS hn sv lab fl sz)) (vp_Si (fun r => r = bi (p_there (itm c0 (s_find c0 b))))) 0 0 (fun _ => False) := Met_pt (fun a s hp => by obtain ⟨rfl, hsz, ⟨ad, c1, lv, bs, rfl, hLV, hP, hD⟩, hK, hE, -⟩ := hp; exact ⟨_, _, _, c_X7_exists l D G B0 X ad c0 c1 c2 hS hn sv lv bs fl b, ⟨rfl, hP, hK, hE⟩, fun _ _ h => h, fun _ h => h⟩)
theorem cq_X7_save (l : Launch) (D : va_G) (G : GA) (B0 : Nat) (X : Nat → Nat → Nat) (A : Nat → Prop) (h : Nat) (c0 c2 : CS) (hS : Nat → CS) (hn : Nat) (sv : SV) (lab : List Int32) (fl : Nat → Int32) (sz : Nat) : Met l yX7_save (wA yX7_save cX7_save 1 (some .int)) ({ frames := 2, cells := 0, slots := 0, locals := 45 } : Room) (va_Pc [.ref h] (LWp D G B0 X A h c0 c2 hS hn sv lab fl sz)) (va_Qi (fun (r : Int32) (_ : Unit) => r = s_countItems c0) (fun _ t9 => LW D G X A h c0 c0 hS hn sv lab (upd fl 0 1) t9.heap) A) 0 0 A := Met_pt (fun a s hp => by
  obtain ⟨rfl, hsz, ⟨ad, c1, lv, bs, rfl, hLV, hP, hD⟩, hK, hE, hA0, hAB⟩ := hp
  have hFc := freeC hD (va_S.rf (A := A) (H0 := s.heap)) (fun q hq => hA0 q (by rw [← hsz]; exact hq))
  rw [hsz] at hFc
  refine ⟨_, _, _, c_X7_save l D G B0 X ad c0 c1 c2 hS hn sv lv bs fl sz, ⟨rfl, hsz, hP, hK, hD.weaken (fun _ q _ h => hAB _ h), hE⟩, ?_, hFc⟩
  rintro o t ⟨⟨r, u, h1, h2, h3, h4⟩, h5, h6⟩
  refine ⟨⟨r, (), h1, h2, ⟨_, _, _, _, ?_, hLV, h3, h4.weaken (fun _ _ _ h9 => hFc _ h9)⟩⟩, h5, fun q hq hn => h6 q hq (fun h => hn (hFc q h))⟩
  exact rfl)
