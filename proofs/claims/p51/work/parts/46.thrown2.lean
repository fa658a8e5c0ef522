abbrev w_reason (fl : Nat → Int32) : Int32 := sel (x_reason fl) (fl 1) (-1001)
abbrev w_refused (fl : Nat → Int32) : Int32 := sel (x_reason fl) (fl 2) (-1001)
theorem rs_x {fl : Nat → Int32} {i : Nat} {v : Int32} (h : 1 ≠ i) : x_reason (upd fl i v) = x_reason fl := by unfold x_reason; rw [pk_un h]
theorem rs_1 {fl : Nat → Int32} {i : Nat} {v : Int32} (h : 1 ≠ i) : w_reason (upd fl i v) = w_reason fl := by unfold w_reason; rw [rs_x h, pk_un h]
theorem rs_2 {fl : Nat → Int32} {i : Nat} {v : Int32} (h : 1 ≠ i) (h2 : 2 ≠ i) : w_refused (upd fl i v) = w_refused fl := by unfold w_refused; rw [rs_x h, pk_un h2]
theorem rf_ne {c : CS} {id b : Int32} (h : f_load c id b = 5) : s_refusal c (s_find c id) b ≠ 0 ∧ ¬ s_refusal c (s_find c id) b ≤ 0 ∧ ¬ 5 ≤ s_refusal c (s_find c id) b := by
  rcases rf_cases h with ⟨h1, -⟩ | ⟨h1 | h1 | h1, -⟩ <;> rw [h1] <;> decide
theorem ep_0 {fl : Nat → Int32} (h : fl 3 = 0) : x_errp fl = 0 := by unfold x_errp; rw [h, if_neg (by decide)]
theorem fc_0 {fl : Nat → Int32} {v : Int32} (h : fl 4 = v) (hv : v ≠ -1) : x_fail fl = 0 := by unfold x_fail; rw [h, if_neg hv]
theorem gw_L_278 : GoodIn tb (va_wsS RL 278 yL_asks (wA yL_asks cL_asks 8 (some .long))) := gS kw_930 kw_931 kw_23 kw_932
theorem gl_248 : GoodIn tb (va_wsS RL 248 yL_removeItem (wH yL_removeItem cL_removeItem 3 (some .int) [(0, 5, 6, 24), (0, 5, 11, 15)])) := gSW kw_524 kw_525 kw_23 kw_526
theorem gl_282 : GoodIn tb (va_wsS RL 282 yL_canPack (wH yL_canPack cL_canPack 4 (some .int) [(0, 14, 15, 24), (0, 14, 20, 30)])) := gSW kw_1371 kw_1372 kw_23 kw_1373
theorem gl_250 : GoodIn tb (va_wsS RL 250 yL_unpack (wH yL_unpack cL_unpack 3 (some .int) [(0, 5, 6, 24), (0, 5, 11, 15)])) := gSW kw_546 kw_547 kw_23 kw_548
theorem gl_284 : GoodIn tb (va_wsS RL 284 yL_isPacked (wH yL_isPacked cL_isPacked 3 (some .int) [(0, 13, 14, 24)])) := gSW kw_696 kw_697 kw_23 kw_698
theorem gl_286 : GoodIn tb (va_wsS RL 286 yL_layerOf (wH yL_layerOf cL_layerOf 3 (some .int) [(0, 5, 6, 24)])) := gSW kw_1378 kw_1379 kw_23 kw_1380
theorem gl_288 : GoodIn tb (va_wsS RL 288 yL_weightByLayers (wH yL_weightByLayers cL_weightByLayers 3 (some .int) [(0, 5, 6, 30)])) := gSW kw_1385 kw_1386 kw_23 kw_1387
theorem gl_291 : GoodIn tb (va_wsS RL 291 yL_weightLeft (wH yL_weightLeft cL_weightLeft 3 (some .int) [(0, 5, 6, 30)])) := gSW kw_1400 kw_1401 kw_23 kw_1402
theorem gl_293 : GoodIn tb (va_wsS RL 293 yL_itemsInLayer (wH yL_itemsInLayer cL_itemsInLayer 4 (some .int) [(0, 6, 7, 30)])) := gSW kw_1408 kw_1409 kw_23 kw_1410
theorem gl_295 : GoodIn tb (va_wsS RL 295 yL_itemAt (wH yL_itemAt cL_itemAt 5 (some .int) [(0, 7, 8, 30), (0, 7, 14, 24)])) := gSW kw_1421 kw_1422 kw_23 kw_1423
theorem gl_298 : GoodIn tb (va_wsS RL 298 yL_sizeUsed (wH yL_sizeUsed cL_sizeUsed 4 (some .int) [(0, 6, 7, 30)])) := gSW kw_1430 kw_1431 kw_23 kw_1432
theorem gl_300 : GoodIn tb (va_wsS RL 300 yL_loadOf (wH yL_loadOf cL_loadOf 4 (some .int) [(0, 6, 7, 30)])) := gSW kw_1438 kw_1439 kw_23 kw_1440
theorem gl_302 : GoodIn tb (va_wsS RL 302 yL_bestByTable (wH yL_bestByTable cL_bestByTable 3 (some .int) [(0, 5, 6, 30)])) := gSW kw_1446 kw_1447 kw_23 kw_1448
theorem gl_169 : GoodIn tb (va_wsS RL 169 yL_reason (wH yL_reason cL_reason 2 (some .int) [(0, 4, 5, 24)])) := gSW kw_1468 kw_1469 kw_23 kw_1470
theorem gl_172 : GoodIn tb (va_wsS RL 172 yL_refused (wH yL_refused cL_refused 2 (some .int) [(0, 4, 5, 24)])) := gSW kw_1460 kw_1461 kw_23 kw_1462
theorem gw_L_272 : GoodIn tb (va_wsS RL 272 yL_runs (wA yL_runs cL_runs 3 (some .int))) := gS kw_1363 kw_1364 kw_23 kw_1365
theorem gl_307 : GoodIn tb (va_wsS RL 307 yL_errorPosition (wH yL_errorPosition cL_errorPosition 2 (some .int) [(0, 4, 5, 24)])) := gSW kw_884 kw_885 kw_23 kw_886
theorem gl_311 : GoodIn tb (va_wsS RL 311 yL_failedCommand (wH yL_failedCommand cL_failedCommand 2 (some .int) [(0, 4, 5, 24)])) := gSW kw_1477 kw_1478 kw_23 kw_1479
theorem gl_276 : GoodIn tb (va_wsS RL 276 yL_deliver (wH yL_deliver cL_deliver 2 (some .int) [(0, 4, 5, 15)])) := gSW kw_669 kw_670 kw_23 kw_671
set_option maxRecDepth 100000 in
set_option maxHeartbeats 8000000 in
theorem cl_L_thrown (l : Launch) (hfl : l.stackTraces = false) (D : va_G) (G : GA) (B0 : Nat) (X : Nat → Nat → Nat) (A : Nat → Prop) (h : Nat) (c0 c2 : CS) (hS : Nat → CS) (hn : Nat) (sv : SV) (lab : List Int32) (fl : Nat → Int32) (hM : MKc 11 c0) (hn1 : 1 ≤ nbg c0) (hh : hn ≤ 8) (hs0 : sv = sv0) (sz : Nat) : Met l yL_thrown (wA yL_thrown cL_thrown 9 (some .boolean)) ({ frames := 18, cells := 5000, slots := 360000, locals := 451 } : Room) (va_Pc [.ref h] (LWp D G B0 X A h c0 c2 hS hn sv lab fl sz)) (va_Qi (fun (r : Int32) (_ : List Int32 × (Nat → Int32)) => r = 1) (fun u t9 => LW D G X A h c0 c2 hS hn svN u.1 u.2 t9.heap) A) 5000 360000 A := by
  refine Met.ofW (cc := cL_thrown) (maxL := 9) (ret := (some .boolean)) (by decide) rfl ?_
  intro p9 e s m args below meth c9 s₁ B hml hv
  obtain ⟨rfl, hsz, hW, hK, hE, hA0, hAB⟩ := hv
  subst hsz
  have hx := B.exec
  have hb := B.bytes
  have hr := B.returns
  have hts : ∀ w9 ∈ tb, w9.before ([.ref h] : List Value).toArray s = true := fun w9 h9 => atoms_spec (ws := (wA yL_thrown cL_thrown 9 (some .boolean))) B.pre w9 (List.mem_cons_of_mem _ h9)
  have hown : s.vm.findClass RL = some m.cls := findClass_of_methodNamed B.named
  have hlocks := B.notSynchronized
  have hS0 : va_S A s.heap s.heap [] := va_S.rf
  have hl := lv_entry ([.ref h]) (n := 9) (Nat.le_of_ble_eq_true rfl)
  rw [lg_entry_eq]
  generalize (lg_sl ([.ref h]) ++ List.replicate (9 - (lg_sl ([.ref h])).length) Slot.unset).toArray = ls at hl ⊢
  have hl : lv_has ls 9 [(0, .ref h)] := hl
  subst hs0
  have hB3 := hM.1.1.2
  have hN12 := cN_le c0
  refine lv_aload_n hx hb dL_thrown_0 rfl (lv_at hl 0 rfl) ?_
  refine va_calll (va_runS (As := [.ref h]) (rest := []) ⟨hx, hb, hml, hown, hts⟩ (cl_L_asks l hfl D G B0 X A h c0 c2 hS hn sv0 lab fl hM.1.1 (hM.1.id (by decide)) hM.1.ly s.heap.size) (va_cwS 1 hts gw_L_278 rfl rfl rfl (by decide +kernel) ⟨Nat.le_of_ble_eq_true rfl, Nat.le_of_ble_eq_true rfl⟩) (ps_lw hK hW (hE.at hS0 hAB) (AH hA0 hS0) hAB) rfl rfl hl.1 rfl (lv_room (Nat.le_of_ble_eq_true rfl)) dL_thrown_1 ⟨Nat.le_of_ble_eq_true rfl, Nat.le_of_ble_eq_true rfl⟩) hS0 (fun q _ h => h) (fun q h => h) (fun r u1 t9 H1 locs ht hvm hw hW hz1 hk1 hS0 => ?_)
  have hW : LW D G X A h c0 c2 hS hn sv0 u1 fl H1 := LW_h ht hW
  obtain ⟨H, rfl⟩ : ∃ z, z = H1 := ⟨_, rfl⟩
  rw [hw]
  refine W.widen (k := 1200) (n := 150000) (Nat.le_of_ble_eq_true rfl) (Nat.le_of_ble_eq_true rfl) ?_
  refine lv_lstore_n (lv' := [(1, .long (ask_v c0)), (0, .ref h)]) hx hb dL_thrown_4 rfl hl (by decide) rfl (fun ls hl => ?_)
  refine lv_aload_n hx hb dL_thrown_5 rfl (lv_at hl 1 rfl) ?_
  refine vp_callSi (va_runV (As := []) (rest := []) ⟨hx, hb, hml, hown, hts⟩ (cq_X7_itemCount l D G B0 X A h c0 c2 hS hn sv0 u1 fl H.size) (cwV 0 hts gw_L_197 rfl rfl rfl (by decide +kernel) ⟨Nat.le_of_ble_eq_true rfl, Nat.le_of_ble_eq_true rfl⟩) (pv_lw hK hW (hE.at hS0 hAB) (AH hA0 hS0) hAB) rfl rfl hl.1 rfl (lv_room (Nat.le_of_ble_eq_true rfl)) dL_thrown_6 ⟨Nat.le_of_ble_eq_true rfl, Nat.le_of_ble_eq_true rfl⟩).run (nm_e ?_)
  rw [show s_countItems c0 = nI (cN c0) from cN_eq c0]
  refine lv_istore_n (lv' := [(3, .int (nI (cN c0))), (1, .long (ask_v c0)), (0, .ref h)]) hx hb dL_thrown_9 rfl hl (by decide) rfl (fun ls hl => ?_)
  refine lv_aload_n hx hb dL_thrown_10 rfl (lv_at hl 2 rfl) ?_
  refine vp_callSi (va_runV (As := []) (rest := []) ⟨hx, hb, hml, hown, hts⟩ (cq_X7_bagCount l D G B0 X A h c0 c2 hS hn sv0 u1 fl H.size) (cwV 0 hts gw_L_200 rfl rfl rfl (by decide +kernel) ⟨Nat.le_of_ble_eq_true rfl, Nat.le_of_ble_eq_true rfl⟩) (pv_lw hK hW (hE.at hS0 hAB) (AH hA0 hS0) hAB) rfl rfl hl.1 rfl (lv_room (Nat.le_of_ble_eq_true rfl)) dL_thrown_11 ⟨Nat.le_of_ble_eq_true rfl, Nat.le_of_ble_eq_true rfl⟩).run (nm_e ?_)
  rw [show c0.2.2 1 = nI (nbg c0) from hM.1.1.1]
  refine lv_istore (lv' := [(4, .int (nI (nbg c0))), (3, .int (nI (cN c0))), (1, .long (ask_v c0)), (0, .ref h)]) hx hb dL_thrown_14 hl (by decide) rfl (fun ls hl => ?_)
  refine lv_aload_n hx hb dL_thrown_16 rfl (lv_at hl 3 rfl) ?_
  refine lv_iconst (v := 0) hx hb dL_thrown_17 (by decide) ?_
  refine va_calli (vx_runSW (As := [.ref h, .int 0]) (rest := []) ⟨hx, hb, hml, hown, hts⟩ (cl_L_addBag l hfl D G B0 X A h c0 c2 hS hn sv0 u1 fl 0 hh hM.1.1 H.size) (vx_cwSW (hh := [(0, 5, 6, 13), (0, 5, 11, 15)]) 2 hts gl_187 rfl rfl rfl (by decide +kernel) ⟨Nat.le_of_ble_eq_true rfl, Nat.le_of_ble_eq_true rfl⟩) (ps_lw hK hW (hE.at hS0 hAB) (AH hA0 hS0) hAB) rfl rfl hl.1 rfl (lv_room (Nat.le_of_ble_eq_true rfl)) dL_thrown_18 ⟨Nat.le_of_ble_eq_true rfl, Nat.le_of_ble_eq_true rfl⟩) hS0 (fun q _ h => h) (fun q h => h) (fun r u2 t9 H1 locs ht hvm hw hW hz1 hk1 hS0 => ?_)
  have hX : f_open c0 0 = 1 := by unfold f_open; rw [if_pos (by decide)]
  rw [hX] at hw hW
  have hw : r = (-1001) := hw
  have hW : LW D G X A h c0 c2 hS hn sv0 u1 fl H1 := LW_h ht hW
  obtain ⟨H, rfl⟩ : ∃ z, z = H1 := ⟨_, rfl⟩
  rw [hw]
  refine W.widen (k := 1201) (n := 150006) (Nat.le_of_ble_eq_true rfl) (Nat.le_of_ble_eq_true rfl) ?_
  refine lv_sipush (v := -1001) hx hb dL_thrown_21 (by decide) ?_
  refine lv_icmp_ne (tgt := 558) hx hb dL_thrown_24 (by decide) (fun c_3 => absurd (by decide) c_3) (fun _ => ?_)
  refine lv_aload_n hx hb dL_thrown_27 rfl (lv_at hl 3 rfl) ?_
  refine lv_bipush (v := 100) hx hb dL_thrown_28 (by decide) ?_
  refine va_calli (vx_runSW (As := [.ref h, .int 100]) (rest := []) ⟨hx, hb, hml, hown, hts⟩ (cl_L_addBag l hfl D G B0 X A h c0 c2 hS hn sv0 u1 fl 100 hh hM.1.1 H.size) (vx_cwSW (hh := [(0, 5, 6, 13), (0, 5, 11, 15)]) 2 hts gl_187 rfl rfl rfl (by decide +kernel) ⟨Nat.le_of_ble_eq_true rfl, Nat.le_of_ble_eq_true rfl⟩) (ps_lw hK hW (hE.at hS0 hAB) (AH hA0 hS0) hAB) rfl rfl hl.1 rfl (lv_room (Nat.le_of_ble_eq_true rfl)) dL_thrown_30 ⟨Nat.le_of_ble_eq_true rfl, Nat.le_of_ble_eq_true rfl⟩) hS0 (fun q _ h => h) (fun q h => h) (fun r u4 t9 H1 locs ht hvm hw hW hz1 hk1 hS0 => ?_)
  have hX : f_open c0 100 = 1 := by unfold f_open; rw [if_neg (by decide), if_neg (by decide)]
  rw [hX] at hw hW
  have hw : r = (-1001) := hw
  have hW : LW D G X A h c0 c2 hS hn sv0 u1 fl H1 := LW_h ht hW
  obtain ⟨H, rfl⟩ : ∃ z, z = H1 := ⟨_, rfl⟩
  rw [hw]
  refine W.widen (k := 1202) (n := 150012) (Nat.le_of_ble_eq_true rfl) (Nat.le_of_ble_eq_true rfl) ?_
  refine lv_sipush (v := -1001) hx hb dL_thrown_33 (by decide) ?_
  refine lv_icmp_ne (tgt := 558) hx hb dL_thrown_36 (by decide) (fun c_5 => absurd (by decide) c_5) (fun _ => ?_)
  have J57 : ∀ (H : Heap) (locs : List Loc), LW D G X A h c0 c2 hS hn sv0 u1 fl H → va_S A s.heap H locs → ∀ ls : Array Slot, lv_has ls 9 [(4, .int (nI (nbg c0))), (3, .int (nI (cN c0))), (1, .long (ask_v c0)), (0, .ref h)] → W p9 l e (headSpec (wA yL_thrown cL_thrown 9 (some .boolean)) ({ frames := 18, cells := 5000, slots := 360000, locals := 451 } : Room)).room s m ([.ref h] : List Value).toArray below meth c9 H locs (1203) (150018) (MQ below (va_Qi (fun (r : Int32) (_ : List Int32 × (Nat → Int32)) => r = 1) (fun u t9 => LW D G X A h c0 c2 hS hn svN u.1 u.2 t9.heap) A) ([.ref h] : List Value).toArray s 5000 360000 A) (F0 m 57 ls []) := by
    intro H locs hW hS0 ls hl
    refine lv_aload_n hx hb dL_thrown_57 rfl (lv_at hl 3 rfl) ?_
    refine lv_iconst (v := 0) hx hb dL_thrown_58 (by decide) ?_
    refine lv_iconst (v := 1) hx hb dL_thrown_59 (by decide) ?_
    refine lv_iconst (v := 1) hx hb dL_thrown_60 (by decide) ?_
    refine lv_iconst (v := 1) hx hb dL_thrown_61 (by decide) ?_
    refine va_calli (vx_runSW (As := [.ref h, .int 0, .int 1, .int 1, .int 1]) (rest := []) ⟨hx, hb, hml, hown, hts⟩ (cl_L_addItem l hfl D G B0 X A h c0 c2 hS hn sv0 u1 fl 0 1 1 true hh H.size) (vx_cwSW (hh := [(0, 9, 10, 13), (0, 9, 16, 15)]) 5 hts gl_189 rfl rfl rfl (by decide +kernel) ⟨Nat.le_of_ble_eq_true rfl, Nat.le_of_ble_eq_true rfl⟩) (ps_lw hK hW (hE.at hS0 hAB) (AH hA0 hS0) hAB) rfl rfl hl.1 rfl (lv_room (Nat.le_of_ble_eq_true rfl)) dL_thrown_62 ⟨Nat.le_of_ble_eq_true rfl, Nat.le_of_ble_eq_true rfl⟩) hS0 (fun q _ h => h) (fun q h => h) (fun r u6 t9 H1 locs ht hvm hw hW hz1 hk1 hS0 => ?_)
    have hX : f_takeIn c0 0 1 1 = 1 := by unfold f_takeIn; repeat (first | rw [if_pos (by decide)] | rw [if_neg (by decide)])
    rw [hX] at hw hW
    have hw : r = (-1001) := hw
    have hW : LW D G X A h c0 c2 hS hn sv0 u1 fl H1 := LW_h ht hW
    obtain ⟨H, rfl⟩ : ∃ z, z = H1 := ⟨_, rfl⟩
    rw [hw]
    refine W.widen (k := 1204) (n := 150024) (Nat.le_of_ble_eq_true rfl) (Nat.le_of_ble_eq_true rfl) ?_
    refine lv_sipush (v := -1001) hx hb dL_thrown_65 (by decide) ?_
    refine lv_icmp_ne (tgt := 558) hx hb dL_thrown_68 (by decide) (fun c_7 => absurd (by decide) c_7) (fun _ => ?_)
    refine lv_aload_n hx hb dL_thrown_71 rfl (lv_at hl 3 rfl) ?_
    refine lv_bipush (v := 11) hx hb dL_thrown_72 (by decide) ?_
    refine lv_iconst (v := 1) hx hb dL_thrown_74 (by decide) ?_
    refine lv_iconst (v := 1) hx hb dL_thrown_75 (by decide) ?_
    refine lv_iconst (v := 1) hx hb dL_thrown_76 (by decide) ?_
    refine va_calli (vx_runSW (As := [.ref h, .int 11, .int 1, .int 1, .int 1]) (rest := []) ⟨hx, hb, hml, hown, hts⟩ (cl_L_addItem l hfl D G B0 X A h c0 c2 hS hn sv0 u1 fl 11 1 1 true hh H.size) (vx_cwSW (hh := [(0, 9, 10, 13), (0, 9, 16, 15)]) 5 hts gl_189 rfl rfl rfl (by decide +kernel) ⟨Nat.le_of_ble_eq_true rfl, Nat.le_of_ble_eq_true rfl⟩) (ps_lw hK hW (hE.at hS0 hAB) (AH hA0 hS0) hAB) rfl rfl hl.1 rfl (lv_room (Nat.le_of_ble_eq_true rfl)) dL_thrown_77 ⟨Nat.le_of_ble_eq_true rfl, Nat.le_of_ble_eq_true rfl⟩) hS0 (fun q _ h => h) (fun q h => h) (fun r u8 t9 H1 locs ht hvm hw hW hz1 hk1 hS0 => ?_)
    have hX : f_takeIn c0 11 1 1 = 1 := by unfold f_takeIn; repeat (first | rw [if_pos (by decide)] | rw [if_neg (by decide)])
    rw [hX] at hw hW
    have hw : r = (-1001) := hw
    have hW : LW D G X A h c0 c2 hS hn sv0 u1 fl H1 := LW_h ht hW
    obtain ⟨H, rfl⟩ : ∃ z, z = H1 := ⟨_, rfl⟩
    rw [hw]
    refine W.widen (k := 1205) (n := 150030) (Nat.le_of_ble_eq_true rfl) (Nat.le_of_ble_eq_true rfl) ?_
    refine lv_sipush (v := -1001) hx hb dL_thrown_80 (by decide) ?_
    refine lv_icmp_ne (tgt := 558) hx hb dL_thrown_83 (by decide) (fun c_9 => absurd (by decide) c_9) (fun _ => ?_)
    refine lv_aload_n hx hb dL_thrown_86 rfl (lv_at hl 3 rfl) ?_
    refine lv_iconst (v := 1) hx hb dL_thrown_87 (by decide) ?_
    refine lv_iconst (v := 0) hx hb dL_thrown_88 (by decide) ?_
    refine lv_iconst (v := 1) hx hb dL_thrown_89 (by decide) ?_
    refine lv_iconst (v := 1) hx hb dL_thrown_90 (by decide) ?_
    refine va_calli (vx_runSW (As := [.ref h, .int 1, .int 0, .int 1, .int 1]) (rest := []) ⟨hx, hb, hml, hown, hts⟩ (cl_L_addItem l hfl D G B0 X A h c0 c2 hS hn sv0 u1 fl 1 0 1 true hh H.size) (vx_cwSW (hh := [(0, 9, 10, 13), (0, 9, 16, 15)]) 5 hts gl_189 rfl rfl rfl (by decide +kernel) ⟨Nat.le_of_ble_eq_true rfl, Nat.le_of_ble_eq_true rfl⟩) (ps_lw hK hW (hE.at hS0 hAB) (AH hA0 hS0) hAB) rfl rfl hl.1 rfl (lv_room (Nat.le_of_ble_eq_true rfl)) dL_thrown_91 ⟨Nat.le_of_ble_eq_true rfl, Nat.le_of_ble_eq_true rfl⟩) hS0 (fun q _ h => h) (fun q h => h) (fun r u10 t9 H1 locs ht hvm hw hW hz1 hk1 hS0 => ?_)
    have hX : f_takeIn c0 1 0 1 = 1 := by unfold f_takeIn; repeat (first | rw [if_pos (by decide)] | rw [if_neg (by decide)])
    rw [hX] at hw hW
    have hw : r = (-1001) := hw
    have hW : LW D G X A h c0 c2 hS hn sv0 u1 fl H1 := LW_h ht hW
    obtain ⟨H, rfl⟩ : ∃ z, z = H1 := ⟨_, rfl⟩
    rw [hw]
    refine W.widen (k := 1206) (n := 150036) (Nat.le_of_ble_eq_true rfl) (Nat.le_of_ble_eq_true rfl) ?_
    refine lv_sipush (v := -1001) hx hb dL_thrown_94 (by decide) ?_
    refine lv_icmp_ne (tgt := 558) hx hb dL_thrown_97 (by decide) (fun c_11 => absurd (by decide) c_11) (fun _ => ?_)
    refine lv_aload_n hx hb dL_thrown_100 rfl (lv_at hl 3 rfl) ?_
    refine lv_iconst (v := 1) hx hb dL_thrown_101 (by decide) ?_
    refine lv_bipush (v := 21) hx hb dL_thrown_102 (by decide) ?_
    refine lv_iconst (v := 1) hx hb dL_thrown_104 (by decide) ?_
    refine lv_iconst (v := 1) hx hb dL_thrown_105 (by decide) ?_
    refine va_calli (vx_runSW (As := [.ref h, .int 1, .int 21, .int 1, .int 1]) (rest := []) ⟨hx, hb, hml, hown, hts⟩ (cl_L_addItem l hfl D G B0 X A h c0 c2 hS hn sv0 u1 fl 1 21 1 true hh H.size) (vx_cwSW (hh := [(0, 9, 10, 13), (0, 9, 16, 15)]) 5 hts gl_189 rfl rfl rfl (by decide +kernel) ⟨Nat.le_of_ble_eq_true rfl, Nat.le_of_ble_eq_true rfl⟩) (ps_lw hK hW (hE.at hS0 hAB) (AH hA0 hS0) hAB) rfl rfl hl.1 rfl (lv_room (Nat.le_of_ble_eq_true rfl)) dL_thrown_106 ⟨Nat.le_of_ble_eq_true rfl, Nat.le_of_ble_eq_true rfl⟩) hS0 (fun q _ h => h) (fun q h => h) (fun r u12 t9 H1 locs ht hvm hw hW hz1 hk1 hS0 => ?_)
    have hX : f_takeIn c0 1 21 1 = 1 := by unfold f_takeIn; repeat (first | rw [if_pos (by decide)] | rw [if_neg (by decide)])
    rw [hX] at hw hW
    have hw : r = (-1001) := hw
    have hW : LW D G X A h c0 c2 hS hn sv0 u1 fl H1 := LW_h ht hW
    obtain ⟨H, rfl⟩ : ∃ z, z = H1 := ⟨_, rfl⟩
    rw [hw]
    refine W.widen (k := 1207) (n := 150042) (Nat.le_of_ble_eq_true rfl) (Nat.le_of_ble_eq_true rfl) ?_
    refine lv_sipush (v := -1001) hx hb dL_thrown_109 (by decide) ?_
    refine lv_icmp_ne (tgt := 558) hx hb dL_thrown_112 (by decide) (fun c_13 => absurd (by decide) c_13) (fun _ => ?_)
    refine lv_aload_n hx hb dL_thrown_115 rfl (lv_at hl 3 rfl) ?_
    refine lv_iconst (v := 1) hx hb dL_thrown_116 (by decide) ?_
    refine lv_iconst (v := 1) hx hb dL_thrown_117 (by decide) ?_
    refine lv_iconst (v := 0) hx hb dL_thrown_118 (by decide) ?_
    refine lv_iconst (v := 1) hx hb dL_thrown_119 (by decide) ?_
    refine va_calli (vx_runSW (As := [.ref h, .int 1, .int 1, .int 0, .int 1]) (rest := []) ⟨hx, hb, hml, hown, hts⟩ (cl_L_addItem l hfl D G B0 X A h c0 c2 hS hn sv0 u1 fl 1 1 0 true hh H.size) (vx_cwSW (hh := [(0, 9, 10, 13), (0, 9, 16, 15)]) 5 hts gl_189 rfl rfl rfl (by decide +kernel) ⟨Nat.le_of_ble_eq_true rfl, Nat.le_of_ble_eq_true rfl⟩) (ps_lw hK hW (hE.at hS0 hAB) (AH hA0 hS0) hAB) rfl rfl hl.1 rfl (lv_room (Nat.le_of_ble_eq_true rfl)) dL_thrown_120 ⟨Nat.le_of_ble_eq_true rfl, Nat.le_of_ble_eq_true rfl⟩) hS0 (fun q _ h => h) (fun q h => h) (fun r u14 t9 H1 locs ht hvm hw hW hz1 hk1 hS0 => ?_)
    have hX : f_takeIn c0 1 1 0 = 1 := by unfold f_takeIn; repeat (first | rw [if_pos (by decide)] | rw [if_neg (by decide)])
    rw [hX] at hw hW
    have hw : r = (-1001) := hw
    have hW : LW D G X A h c0 c2 hS hn sv0 u1 fl H1 := LW_h ht hW
    obtain ⟨H, rfl⟩ : ∃ z, z = H1 := ⟨_, rfl⟩
    rw [hw]
    refine W.widen (k := 1208) (n := 150048) (Nat.le_of_ble_eq_true rfl) (Nat.le_of_ble_eq_true rfl) ?_
    refine lv_sipush (v := -1001) hx hb dL_thrown_123 (by decide) ?_
    refine lv_icmp_ne (tgt := 558) hx hb dL_thrown_126 (by decide) (fun c_15 => absurd (by decide) c_15) (fun _ => ?_)
    refine lv_aload_n hx hb dL_thrown_129 rfl (lv_at hl 3 rfl) ?_
    refine lv_iconst (v := 1) hx hb dL_thrown_130 (by decide) ?_
    refine lv_iconst (v := 1) hx hb dL_thrown_131 (by decide) ?_
    refine lv_bipush (v := 31) hx hb dL_thrown_132 (by decide) ?_
    refine lv_iconst (v := 1) hx hb dL_thrown_134 (by decide) ?_
    refine va_calli (vx_runSW (As := [.ref h, .int 1, .int 1, .int 31, .int 1]) (rest := []) ⟨hx, hb, hml, hown, hts⟩ (cl_L_addItem l hfl D G B0 X A h c0 c2 hS hn sv0 u1 fl 1 1 31 true hh H.size) (vx_cwSW (hh := [(0, 9, 10, 13), (0, 9, 16, 15)]) 5 hts gl_189 rfl rfl rfl (by decide +kernel) ⟨Nat.le_of_ble_eq_true rfl, Nat.le_of_ble_eq_true rfl⟩) (ps_lw hK hW (hE.at hS0 hAB) (AH hA0 hS0) hAB) rfl rfl hl.1 rfl (lv_room (Nat.le_of_ble_eq_true rfl)) dL_thrown_135 ⟨Nat.le_of_ble_eq_true rfl, Nat.le_of_ble_eq_true rfl⟩) hS0 (fun q _ h => h) (fun q h => h) (fun r u16 t9 H1 locs ht hvm hw hW hz1 hk1 hS0 => ?_)
    have hX : f_takeIn c0 1 1 31 = 1 := by unfold f_takeIn; repeat (first | rw [if_pos (by decide)] | rw [if_neg (by decide)])
    rw [hX] at hw hW
    have hw : r = (-1001) := hw
    have hW : LW D G X A h c0 c2 hS hn sv0 u1 fl H1 := LW_h ht hW
    obtain ⟨H, rfl⟩ : ∃ z, z = H1 := ⟨_, rfl⟩
    rw [hw]
    refine W.widen (k := 1209) (n := 150054) (Nat.le_of_ble_eq_true rfl) (Nat.le_of_ble_eq_true rfl) ?_
    refine lv_sipush (v := -1001) hx hb dL_thrown_138 (by decide) ?_
    refine lv_icmp_ne (tgt := 558) hx hb dL_thrown_141 (by decide) (fun c_17 => absurd (by decide) c_17) (fun _ => ?_)
    refine lv_iload_n hx hb dL_thrown_144 rfl (lv_at hl 1 rfl) ?_
    refine lv_bipush (v := 12) hx hb dL_thrown_145 (by decide) ?_
    refine lv_icmp_lt (tgt := 164) hx hb dL_thrown_147 (by decide) (fun _ => ?_) (fun c_18 => absurd (show nI (cN c0) < 12 from nI_lt (b := 12) (by have := hM.2.2.2.2.2; omega) (by decide)) c_18)
    refine lv_aload_n hx hb dL_thrown_164 rfl (lv_at hl 3 rfl) ?_
    refine lv_bipush (v := 99) hx hb dL_thrown_165 (by decide) ?_
    refine va_calli (vx_runSW (As := [.ref h, .int 99]) (rest := []) ⟨hx, hb, hml, hown, hts⟩ (cl_L_removeItem l hfl D G B0 X A h c0 c2 hS hn sv0 u1 fl 99 hh H.size) (vx_cwSW (hh := [(0, 5, 6, 24), (0, 5, 11, 15)]) 2 hts gl_248 rfl rfl rfl (by decide +kernel) ⟨Nat.le_of_ble_eq_true rfl, Nat.le_of_ble_eq_true rfl⟩) (ps_lw hK hW (hE.at hS0 hAB) (AH hA0 hS0) hAB) rfl rfl hl.1 rfl (lv_room (Nat.le_of_ble_eq_true rfl)) dL_thrown_167 ⟨Nat.le_of_ble_eq_true rfl, Nat.le_of_ble_eq_true rfl⟩) hS0 (fun q _ h => h) (fun q h => h) (fun r u19 t9 H1 locs ht hvm hw hW hz1 hk1 hS0 => ?_)
    have hX : f_drop c0 99 = 2 := nf_drop (noid hM nf_99)
    rw [hX] at hw hW
    have hw : r = (-1001) := hw
    have hW : LW D G X A h c0 c2 hS hn sv0 u1 fl H1 := LW_h ht hW
    obtain ⟨H, rfl⟩ : ∃ z, z = H1 := ⟨_, rfl⟩
    rw [hw]
    refine W.widen (k := 1210) (n := 150060) (Nat.le_of_ble_eq_true rfl) (Nat.le_of_ble_eq_true rfl) ?_
    refine lv_sipush (v := -1001) hx hb dL_thrown_170 (by decide) ?_
    refine lv_icmp_ne (tgt := 558) hx hb dL_thrown_173 (by decide) (fun c_20 => absurd (by decide) c_20) (fun _ => ?_)
    refine lv_aload_n hx hb dL_thrown_176 rfl (lv_at hl 3 rfl) ?_
    refine lv_iconst (v := -1) hx hb dL_thrown_177 (by decide) ?_
    refine va_calli (vx_runSW (As := [.ref h, .int (-1)]) (rest := []) ⟨hx, hb, hml, hown, hts⟩ (cl_L_removeItem l hfl D G B0 X A h c0 c2 hS hn sv0 u1 fl (-1) hh H.size) (vx_cwSW (hh := [(0, 5, 6, 24), (0, 5, 11, 15)]) 2 hts gl_248 rfl rfl rfl (by decide +kernel) ⟨Nat.le_of_ble_eq_true rfl, Nat.le_of_ble_eq_true rfl⟩) (ps_lw hK hW (hE.at hS0 hAB) (AH hA0 hS0) hAB) rfl rfl hl.1 rfl (lv_room (Nat.le_of_ble_eq_true rfl)) dL_thrown_178 ⟨Nat.le_of_ble_eq_true rfl, Nat.le_of_ble_eq_true rfl⟩) hS0 (fun q _ h => h) (fun q h => h) (fun r u21 t9 H1 locs ht hvm hw hW hz1 hk1 hS0 => ?_)
    have hX : f_drop c0 (-1) = 2 := nf_drop (noid hM nf_m1)
    rw [hX] at hw hW
    have hw : r = (-1001) := hw
    have hW : LW D G X A h c0 c2 hS hn sv0 u1 fl H1 := LW_h ht hW
    obtain ⟨H, rfl⟩ : ∃ z, z = H1 := ⟨_, rfl⟩
    rw [hw]
    refine W.widen (k := 1211) (n := 150066) (Nat.le_of_ble_eq_true rfl) (Nat.le_of_ble_eq_true rfl) ?_
    refine lv_sipush (v := -1001) hx hb dL_thrown_181 (by decide) ?_
    refine lv_icmp_ne (tgt := 558) hx hb dL_thrown_184 (by decide) (fun c_22 => absurd (by decide) c_22) (fun _ => ?_)
    refine lv_aload_n hx hb dL_thrown_187 rfl (lv_at hl 3 rfl) ?_
    refine lv_bipush (v := 99) hx hb dL_thrown_188 (by decide) ?_
    refine lv_bipush (v := 9) hx hb dL_thrown_190 (by decide) ?_
    refine va_calli (vx_runSW (As := [.ref h, .int 99, .int 9]) (rest := []) ⟨hx, hb, hml, hown, hts⟩ (cl_L_pack l hfl D G B0 X A h c0 c2 hS hn sv0 u1 fl 99 9 hh H.size) (vx_cwSW (hh := [(0, 6, 7, 24), (0, 6, 12, 30), (0, 6, 17, 15), (0, 6, 22, 32)]) 3 hts gl_192 rfl rfl rfl (by decide +kernel) ⟨Nat.le_of_ble_eq_true rfl, Nat.le_of_ble_eq_true rfl⟩) (ps_lw hK hW (hE.at hS0 hAB) (AH hA0 hS0) hAB) rfl rfl hl.1 rfl (lv_room (Nat.le_of_ble_eq_true rfl)) dL_thrown_192 ⟨Nat.le_of_ble_eq_true rfl, Nat.le_of_ble_eq_true rfl⟩) hS0 (fun q _ h => h) (fun q h => h) (fun r u23 t9 H1 locs ht hvm hw hW hz1 hk1 hS0 => ?_)
    have hX : f_load c0 99 9 = 2 := nf_load (noid hM nf_99)
    rw [hX] at hw hW
    have hw : r = (-1001) := hw
    have hW : LW D G X A h c0 c2 hS hn sv0 u1 fl H1 := LW_h ht hW
    obtain ⟨H, rfl⟩ : ∃ z, z = H1 := ⟨_, rfl⟩
    rw [hw]
    refine W.widen (k := 1212) (n := 150072) (Nat.le_of_ble_eq_true rfl) (Nat.le_of_ble_eq_true rfl) ?_
    refine lv_sipush (v := -1001) hx hb dL_thrown_195 (by decide) ?_
    refine lv_icmp_ne (tgt := 558) hx hb dL_thrown_198 (by decide) (fun c_24 => absurd (by decide) c_24) (fun _ => ?_)
    refine lv_aload_n hx hb dL_thrown_201 rfl (lv_at hl 3 rfl) ?_
    refine lv_bipush (v := 99) hx hb dL_thrown_202 (by decide) ?_
    refine lv_bipush (v := 9) hx hb dL_thrown_204 (by decide) ?_
    refine va_calli (vx_runSW (As := [.ref h, .int 99, .int 9]) (rest := []) ⟨hx, hb, hml, hown, hts⟩ (cl_L_canPack l hfl D G B0 X A h c0 c2 hS hn sv0 u1 fl 99 9 H.size) (vx_cwSW (hh := [(0, 14, 15, 24), (0, 14, 20, 30)]) 3 hts gl_282 rfl rfl rfl (by decide +kernel) ⟨Nat.le_of_ble_eq_true rfl, Nat.le_of_ble_eq_true rfl⟩) (ps_lw hK hW (hE.at hS0 hAB) (AH hA0 hS0) hAB) rfl rfl hl.1 rfl (lv_room (Nat.le_of_ble_eq_true rfl)) dL_thrown_206 ⟨Nat.le_of_ble_eq_true rfl, Nat.le_of_ble_eq_true rfl⟩) hS0 (fun q _ h => h) (fun q h => h) (fun r u25 t9 H1 locs ht hvm hw hW hz1 hk1 hS0 => ?_)
    have hX : x_canPack c0 99 9 = 2 := nf_can (noid hM nf_99)
    rw [hX] at hw
    have hw : r = (-1001) := hw
    have hW : LW D G X A h c0 c2 hS hn sv0 u1 fl H1 := LW_h ht hW
    obtain ⟨H, rfl⟩ : ∃ z, z = H1 := ⟨_, rfl⟩
    rw [hw]
    refine W.widen (k := 1214) (n := 150084) (Nat.le_of_ble_eq_true rfl) (Nat.le_of_ble_eq_true rfl) ?_
    refine lv_sipush (v := -1001) hx hb dL_thrown_209 (by decide) ?_
    refine lv_icmp_ne (tgt := 558) hx hb dL_thrown_212 (by decide) (fun c_26 => absurd (by decide) c_26) (fun _ => ?_)
    refine lv_aload_n hx hb dL_thrown_215 rfl (lv_at hl 3 rfl) ?_
    refine lv_bipush (v := 99) hx hb dL_thrown_216 (by decide) ?_
    refine va_calli (vx_runSW (As := [.ref h, .int 99]) (rest := []) ⟨hx, hb, hml, hown, hts⟩ (cl_L_unpack l hfl D G B0 X A h c0 c2 hS hn sv0 u1 fl 99 hh H.size) (vx_cwSW (hh := [(0, 5, 6, 24), (0, 5, 11, 15)]) 2 hts gl_250 rfl rfl rfl (by decide +kernel) ⟨Nat.le_of_ble_eq_true rfl, Nat.le_of_ble_eq_true rfl⟩) (ps_lw hK hW (hE.at hS0 hAB) (AH hA0 hS0) hAB) rfl rfl hl.1 rfl (lv_room (Nat.le_of_ble_eq_true rfl)) dL_thrown_218 ⟨Nat.le_of_ble_eq_true rfl, Nat.le_of_ble_eq_true rfl⟩) hS0 (fun q _ h => h) (fun q h => h) (fun r u27 t9 H1 locs ht hvm hw hW hz1 hk1 hS0 => ?_)
    have hX : f_unload c0 99 = 2 := nf_unload (noid hM nf_99)
    rw [hX] at hw hW
    have hw : r = (-1001) := hw
    have hW : LW D G X A h c0 c2 hS hn sv0 u1 fl H1 := LW_h ht hW
    obtain ⟨H, rfl⟩ : ∃ z, z = H1 := ⟨_, rfl⟩
    rw [hw]
    refine W.widen (k := 1215) (n := 150090) (Nat.le_of_ble_eq_true rfl) (Nat.le_of_ble_eq_true rfl) ?_
    refine lv_sipush (v := -1001) hx hb dL_thrown_221 (by decide) ?_
    refine lv_icmp_ne (tgt := 558) hx hb dL_thrown_224 (by decide) (fun c_28 => absurd (by decide) c_28) (fun _ => ?_)
    refine lv_aload_n hx hb dL_thrown_227 rfl (lv_at hl 3 rfl) ?_
    refine lv_iload hx hb dL_thrown_228 (lv_at hl 0 rfl) ?_
    refine va_calli (vx_runSW (As := [.ref h, .int (nI (nbg c0))]) (rest := []) ⟨hx, hb, hml, hown, hts⟩ (cl_L_autoPack l hfl D G B0 X A h c0 c2 hS hn sv0 u1 fl (nI (nbg c0)) hh H.size) (vx_cwSW (hh := [(0, 5, 6, 30)]) 2 hts gl_195 rfl rfl rfl (by decide +kernel) ⟨Nat.le_of_ble_eq_true rfl, Nat.le_of_ble_eq_true rfl⟩) (ps_lw hK hW (hE.at hS0 hAB) (AH hA0 hS0) hAB) rfl rfl hl.1 rfl (lv_room (Nat.le_of_ble_eq_true rfl)) dL_thrown_230 ⟨Nat.le_of_ble_eq_true rfl, Nat.le_of_ble_eq_true rfl⟩) hS0 (fun q _ h => h) (fun q h => h) (fun r u29 t9 H1 locs ht hvm hw hW hz1 hk1 hS0 => ?_)
    have hX : f_fill c0 (nI (nbg c0)) = 3 := nb_fill (nb_n hM.1.1)
    rw [hX] at hw hW
    have hw : r = (-1001) := hw
    have hW : LW D G X A h c0 c2 hS hn sv0 u1 fl H1 := LW_h ht hW
    obtain ⟨H, rfl⟩ : ∃ z, z = H1 := ⟨_, rfl⟩
    rw [hw]
    refine W.widen (k := 1216) (n := 150096) (Nat.le_of_ble_eq_true rfl) (Nat.le_of_ble_eq_true rfl) ?_
    refine lv_sipush (v := -1001) hx hb dL_thrown_233 (by decide) ?_
    refine lv_icmp_ne (tgt := 558) hx hb dL_thrown_236 (by decide) (fun c_30 => absurd (by decide) c_30) (fun _ => ?_)
    refine lv_aload_n hx hb dL_thrown_239 rfl (lv_at hl 3 rfl) ?_
    refine lv_iconst (v := -1) hx hb dL_thrown_240 (by decide) ?_
    refine va_calli (vx_runSW (As := [.ref h, .int (-1)]) (rest := []) ⟨hx, hb, hml, hown, hts⟩ (cl_L_autoPack l hfl D G B0 X A h c0 c2 hS hn sv0 u1 fl (-1) hh H.size) (vx_cwSW (hh := [(0, 5, 6, 30)]) 2 hts gl_195 rfl rfl rfl (by decide +kernel) ⟨Nat.le_of_ble_eq_true rfl, Nat.le_of_ble_eq_true rfl⟩) (ps_lw hK hW (hE.at hS0 hAB) (AH hA0 hS0) hAB) rfl rfl hl.1 rfl (lv_room (Nat.le_of_ble_eq_true rfl)) dL_thrown_241 ⟨Nat.le_of_ble_eq_true rfl, Nat.le_of_ble_eq_true rfl⟩) hS0 (fun q _ h => h) (fun q h => h) (fun r u31 t9 H1 locs ht hvm hw hW hz1 hk1 hS0 => ?_)
    have hX : f_fill c0 (-1) = 3 := nb_fill (nb_m1 c0)
    rw [hX] at hw hW
    have hw : r = (-1001) := hw
    have hW : LW D G X A h c0 c2 hS hn sv0 u1 fl H1 := LW_h ht hW
    obtain ⟨H, rfl⟩ : ∃ z, z = H1 := ⟨_, rfl⟩
    rw [hw]
    refine W.widen (k := 1217) (n := 150102) (Nat.le_of_ble_eq_true rfl) (Nat.le_of_ble_eq_true rfl) ?_
    refine lv_sipush (v := -1001) hx hb dL_thrown_244 (by decide) ?_
    refine lv_icmp_ne (tgt := 558) hx hb dL_thrown_247 (by decide) (fun c_32 => absurd (by decide) c_32) (fun _ => ?_)
    refine lv_aload_n hx hb dL_thrown_250 rfl (lv_at hl 3 rfl) ?_
    refine lv_bipush (v := 99) hx hb dL_thrown_251 (by decide) ?_
    refine va_calli (vx_runSW (As := [.ref h, .int 99]) (rest := []) ⟨hx, hb, hml, hown, hts⟩ (cl_L_sizeOf l hfl D G B0 X A h c0 c2 hS hn sv0 u1 fl 99 H.size) (vx_cwSW (hh := [(0, 5, 6, 24)]) 2 hts gl_238 rfl rfl rfl (by decide +kernel) ⟨Nat.le_of_ble_eq_true rfl, Nat.le_of_ble_eq_true rfl⟩) (ps_lw hK hW (hE.at hS0 hAB) (AH hA0 hS0) hAB) rfl rfl hl.1 rfl (lv_room (Nat.le_of_ble_eq_true rfl)) dL_thrown_253 ⟨Nat.le_of_ble_eq_true rfl, Nat.le_of_ble_eq_true rfl⟩) hS0 (fun q _ h => h) (fun q h => h) (fun r u33 t9 H1 locs ht hvm hw hW hz1 hk1 hS0 => ?_)
    have hX : x_item c0 99 = 2 := nf_item (noid hM nf_99)
    rw [hX] at hw
    have hw : r = (-1001) := hw
    have hW : LW D G X A h c0 c2 hS hn sv0 u1 fl H1 := LW_h ht hW
    obtain ⟨H, rfl⟩ : ∃ z, z = H1 := ⟨_, rfl⟩
    rw [hw]
    refine W.widen (k := 1218) (n := 150108) (Nat.le_of_ble_eq_true rfl) (Nat.le_of_ble_eq_true rfl) ?_
    refine lv_sipush (v := -1001) hx hb dL_thrown_256 (by decide) ?_
    refine lv_icmp_ne (tgt := 558) hx hb dL_thrown_259 (by decide) (fun c_34 => absurd (by decide) c_34) (fun _ => ?_)
    refine lv_aload_n hx hb dL_thrown_262 rfl (lv_at hl 3 rfl) ?_
    refine lv_iconst (v := -1) hx hb dL_thrown_263 (by decide) ?_
    refine va_calli (vx_runSW (As := [.ref h, .int (-1)]) (rest := []) ⟨hx, hb, hml, hown, hts⟩ (cl_L_weightOf l hfl D G B0 X A h c0 c2 hS hn sv0 u1 fl (-1) H.size) (vx_cwSW (hh := [(0, 5, 6, 24)]) 2 hts gl_240 rfl rfl rfl (by decide +kernel) ⟨Nat.le_of_ble_eq_true rfl, Nat.le_of_ble_eq_true rfl⟩) (ps_lw hK hW (hE.at hS0 hAB) (AH hA0 hS0) hAB) rfl rfl hl.1 rfl (lv_room (Nat.le_of_ble_eq_true rfl)) dL_thrown_264 ⟨Nat.le_of_ble_eq_true rfl, Nat.le_of_ble_eq_true rfl⟩) hS0 (fun q _ h => h) (fun q h => h) (fun r u35 t9 H1 locs ht hvm hw hW hz1 hk1 hS0 => ?_)
    have hX : x_item c0 (-1) = 2 := nf_item (noid hM nf_m1)
    rw [hX] at hw
    have hw : r = (-1001) := hw
    have hW : LW D G X A h c0 c2 hS hn sv0 u1 fl H1 := LW_h ht hW
    obtain ⟨H, rfl⟩ : ∃ z, z = H1 := ⟨_, rfl⟩
    rw [hw]
    refine W.widen (k := 1219) (n := 150114) (Nat.le_of_ble_eq_true rfl) (Nat.le_of_ble_eq_true rfl) ?_
    refine lv_sipush (v := -1001) hx hb dL_thrown_267 (by decide) ?_
    refine lv_icmp_ne (tgt := 558) hx hb dL_thrown_270 (by decide) (fun c_36 => absurd (by decide) c_36) (fun _ => ?_)
    refine lv_aload_n hx hb dL_thrown_273 rfl (lv_at hl 3 rfl) ?_
    refine lv_bipush (v := 99) hx hb dL_thrown_274 (by decide) ?_
    refine va_calli (vx_runSW (As := [.ref h, .int 99]) (rest := []) ⟨hx, hb, hml, hown, hts⟩ (cl_L_stopOf l hfl D G B0 X A h c0 c2 hS hn sv0 u1 fl 99 H.size) (vx_cwSW (hh := [(0, 5, 6, 24)]) 2 hts gl_242 rfl rfl rfl (by decide +kernel) ⟨Nat.le_of_ble_eq_true rfl, Nat.le_of_ble_eq_true rfl⟩) (ps_lw hK hW (hE.at hS0 hAB) (AH hA0 hS0) hAB) rfl rfl hl.1 rfl (lv_room (Nat.le_of_ble_eq_true rfl)) dL_thrown_276 ⟨Nat.le_of_ble_eq_true rfl, Nat.le_of_ble_eq_true rfl⟩) hS0 (fun q _ h => h) (fun q h => h) (fun r u37 t9 H1 locs ht hvm hw hW hz1 hk1 hS0 => ?_)
    have hX : x_item c0 99 = 2 := nf_item (noid hM nf_99)
    rw [hX] at hw
    have hw : r = (-1001) := hw
    have hW : LW D G X A h c0 c2 hS hn sv0 u1 fl H1 := LW_h ht hW
    obtain ⟨H, rfl⟩ : ∃ z, z = H1 := ⟨_, rfl⟩
    rw [hw]
    refine W.widen (k := 1220) (n := 150120) (Nat.le_of_ble_eq_true rfl) (Nat.le_of_ble_eq_true rfl) ?_
    refine lv_sipush (v := -1001) hx hb dL_thrown_279 (by decide) ?_
    refine lv_icmp_ne (tgt := 558) hx hb dL_thrown_282 (by decide) (fun c_38 => absurd (by decide) c_38) (fun _ => ?_)
    refine lv_aload_n hx hb dL_thrown_285 rfl (lv_at hl 3 rfl) ?_
    refine lv_bipush (v := 99) hx hb dL_thrown_286 (by decide) ?_
    refine va_calli (vx_runSW (As := [.ref h, .int 99]) (rest := []) ⟨hx, hb, hml, hown, hts⟩ (cl_L_isFragile l hfl D G B0 X A h c0 c2 hS hn sv0 u1 fl 99 H.size) (vx_cwSW (hh := [(0, 13, 14, 24)]) 2 hts gl_244 rfl rfl rfl (by decide +kernel) ⟨Nat.le_of_ble_eq_true rfl, Nat.le_of_ble_eq_true rfl⟩) (ps_lw hK hW (hE.at hS0 hAB) (AH hA0 hS0) hAB) rfl rfl hl.1 rfl (lv_room (Nat.le_of_ble_eq_true rfl)) dL_thrown_288 ⟨Nat.le_of_ble_eq_true rfl, Nat.le_of_ble_eq_true rfl⟩) hS0 (fun q _ h => h) (fun q h => h) (fun r u39 t9 H1 locs ht hvm hw hW hz1 hk1 hS0 => ?_)
    have hX : x_item c0 99 = 2 := nf_item (noid hM nf_99)
    rw [hX] at hw
    have hw : r = (-1001) := hw
    have hW : LW D G X A h c0 c2 hS hn sv0 u1 fl H1 := LW_h ht hW
    obtain ⟨H, rfl⟩ : ∃ z, z = H1 := ⟨_, rfl⟩
    rw [hw]
    refine W.widen (k := 1221) (n := 150126) (Nat.le_of_ble_eq_true rfl) (Nat.le_of_ble_eq_true rfl) ?_
    refine lv_sipush (v := -1001) hx hb dL_thrown_291 (by decide) ?_
    refine lv_icmp_ne (tgt := 558) hx hb dL_thrown_294 (by decide) (fun c_40 => absurd (by decide) c_40) (fun _ => ?_)
    refine lv_aload_n hx hb dL_thrown_297 rfl (lv_at hl 3 rfl) ?_
    refine lv_bipush (v := 99) hx hb dL_thrown_298 (by decide) ?_
    refine va_calli (vx_runSW (As := [.ref h, .int 99]) (rest := []) ⟨hx, hb, hml, hown, hts⟩ (cl_L_isPacked l hfl D G B0 X A h c0 c2 hS hn sv0 u1 fl 99 H.size) (vx_cwSW (hh := [(0, 13, 14, 24)]) 2 hts gl_284 rfl rfl rfl (by decide +kernel) ⟨Nat.le_of_ble_eq_true rfl, Nat.le_of_ble_eq_true rfl⟩) (ps_lw hK hW (hE.at hS0 hAB) (AH hA0 hS0) hAB) rfl rfl hl.1 rfl (lv_room (Nat.le_of_ble_eq_true rfl)) dL_thrown_300 ⟨Nat.le_of_ble_eq_true rfl, Nat.le_of_ble_eq_true rfl⟩) hS0 (fun q _ h => h) (fun q h => h) (fun r u41 t9 H1 locs ht hvm hw hW hz1 hk1 hS0 => ?_)
    have hX : x_item c0 99 = 2 := nf_item (noid hM nf_99)
    rw [hX] at hw
    have hw : r = (-1001) := hw
    have hW : LW D G X A h c0 c2 hS hn sv0 u1 fl H1 := LW_h ht hW
    obtain ⟨H, rfl⟩ : ∃ z, z = H1 := ⟨_, rfl⟩
    rw [hw]
    refine W.widen (k := 1222) (n := 150132) (Nat.le_of_ble_eq_true rfl) (Nat.le_of_ble_eq_true rfl) ?_
    refine lv_sipush (v := -1001) hx hb dL_thrown_303 (by decide) ?_
    refine lv_icmp_ne (tgt := 558) hx hb dL_thrown_306 (by decide) (fun c_42 => absurd (by decide) c_42) (fun _ => ?_)
    refine lv_aload_n hx hb dL_thrown_309 rfl (lv_at hl 3 rfl) ?_
    refine lv_bipush (v := 99) hx hb dL_thrown_310 (by decide) ?_
    refine va_calli (vx_runSW (As := [.ref h, .int 99]) (rest := []) ⟨hx, hb, hml, hown, hts⟩ (cl_L_bagOf l hfl D G B0 X A h c0 c2 hS hn sv0 u1 fl 99 H.size) (vx_cwSW (hh := [(0, 5, 6, 24)]) 2 hts gl_246 rfl rfl rfl (by decide +kernel) ⟨Nat.le_of_ble_eq_true rfl, Nat.le_of_ble_eq_true rfl⟩) (ps_lw hK hW (hE.at hS0 hAB) (AH hA0 hS0) hAB) rfl rfl hl.1 rfl (lv_room (Nat.le_of_ble_eq_true rfl)) dL_thrown_312 ⟨Nat.le_of_ble_eq_true rfl, Nat.le_of_ble_eq_true rfl⟩) hS0 (fun q _ h => h) (fun q h => h) (fun r u43 t9 H1 locs ht hvm hw hW hz1 hk1 hS0 => ?_)
    have hX : x_packed c0 99 = 2 := nf_packed (noid hM nf_99)
    rw [hX] at hw
    have hw : r = (-1001) := hw
    have hW : LW D G X A h c0 c2 hS hn sv0 u1 fl H1 := LW_h ht hW
    obtain ⟨H, rfl⟩ : ∃ z, z = H1 := ⟨_, rfl⟩
    rw [hw]
    refine W.widen (k := 1223) (n := 150138) (Nat.le_of_ble_eq_true rfl) (Nat.le_of_ble_eq_true rfl) ?_
    refine lv_sipush (v := -1001) hx hb dL_thrown_315 (by decide) ?_
    refine lv_icmp_ne (tgt := 558) hx hb dL_thrown_318 (by decide) (fun c_44 => absurd (by decide) c_44) (fun _ => ?_)
    refine lv_aload_n hx hb dL_thrown_321 rfl (lv_at hl 3 rfl) ?_
    refine lv_bipush (v := 99) hx hb dL_thrown_322 (by decide) ?_
    refine va_calli (vx_runSW (As := [.ref h, .int 99]) (rest := []) ⟨hx, hb, hml, hown, hts⟩ (cl_L_layerOf l hfl D G B0 X A h c0 c2 hS hn sv0 u1 fl 99 H.size) (vx_cwSW (hh := [(0, 5, 6, 24)]) 2 hts gl_286 rfl rfl rfl (by decide +kernel) ⟨Nat.le_of_ble_eq_true rfl, Nat.le_of_ble_eq_true rfl⟩) (ps_lw hK hW (hE.at hS0 hAB) (AH hA0 hS0) hAB) rfl rfl hl.1 rfl (lv_room (Nat.le_of_ble_eq_true rfl)) dL_thrown_324 ⟨Nat.le_of_ble_eq_true rfl, Nat.le_of_ble_eq_true rfl⟩) hS0 (fun q _ h => h) (fun q h => h) (fun r u45 t9 H1 locs ht hvm hw hW hz1 hk1 hS0 => ?_)
    have hX : x_packed c0 99 = 2 := nf_packed (noid hM nf_99)
    rw [hX] at hw
    have hw : r = (-1001) := hw
    have hW : LW D G X A h c0 c2 hS hn sv0 u1 fl H1 := LW_h ht hW
    obtain ⟨H, rfl⟩ : ∃ z, z = H1 := ⟨_, rfl⟩
    rw [hw]
    refine W.widen (k := 1224) (n := 150144) (Nat.le_of_ble_eq_true rfl) (Nat.le_of_ble_eq_true rfl) ?_
    refine lv_sipush (v := -1001) hx hb dL_thrown_327 (by decide) ?_
    refine lv_icmp_ne (tgt := 558) hx hb dL_thrown_330 (by decide) (fun c_46 => absurd (by decide) c_46) (fun _ => ?_)
    refine lv_aload_n hx hb dL_thrown_333 rfl (lv_at hl 3 rfl) ?_
    refine lv_iload_n hx hb dL_thrown_334 rfl (lv_at hl 1 rfl) ?_
    refine va_calli (vx_runSW (As := [.ref h, .int (nI (cN c0))]) (rest := []) ⟨hx, hb, hml, hown, hts⟩ (cl_L_itemAtRank l hfl D G B0 X A h c0 c2 hS hn sv0 u1 fl (nI (cN c0)) H.size) (vx_cwSW (hh := [(0, 5, 6, 30)]) 2 hts gl_236 rfl rfl rfl (by decide +kernel) ⟨Nat.le_of_ble_eq_true rfl, Nat.le_of_ble_eq_true rfl⟩) (ps_lw hK hW (hE.at hS0 hAB) (AH hA0 hS0) hAB) rfl rfl hl.1 rfl (lv_room (Nat.le_of_ble_eq_true rfl)) dL_thrown_335 ⟨Nat.le_of_ble_eq_true rfl, Nat.le_of_ble_eq_true rfl⟩) hS0 (fun q _ h => h) (fun q h => h) (fun r u47 t9 H1 locs ht hvm hw hW hz1 hk1 hS0 => ?_)
    have hX : x_rank c0 (nI (cN c0)) = 3 := rank_n c0
    rw [hX] at hw
    have hw : r = (-1001) := hw
    have hW : LW D G X A h c0 c2 hS hn sv0 u1 fl H1 := LW_h ht hW
    obtain ⟨H, rfl⟩ : ∃ z, z = H1 := ⟨_, rfl⟩
    rw [hw]
    refine W.widen (k := 1225) (n := 150150) (Nat.le_of_ble_eq_true rfl) (Nat.le_of_ble_eq_true rfl) ?_
    refine lv_sipush (v := -1001) hx hb dL_thrown_338 (by decide) ?_
    refine lv_icmp_ne (tgt := 558) hx hb dL_thrown_341 (by decide) (fun c_48 => absurd (by decide) c_48) (fun _ => ?_)
    refine lv_aload_n hx hb dL_thrown_344 rfl (lv_at hl 3 rfl) ?_
    refine lv_iconst (v := -1) hx hb dL_thrown_345 (by decide) ?_
    refine va_calli (vx_runSW (As := [.ref h, .int (-1)]) (rest := []) ⟨hx, hb, hml, hown, hts⟩ (cl_L_itemAtRank l hfl D G B0 X A h c0 c2 hS hn sv0 u1 fl (-1) H.size) (vx_cwSW (hh := [(0, 5, 6, 30)]) 2 hts gl_236 rfl rfl rfl (by decide +kernel) ⟨Nat.le_of_ble_eq_true rfl, Nat.le_of_ble_eq_true rfl⟩) (ps_lw hK hW (hE.at hS0 hAB) (AH hA0 hS0) hAB) rfl rfl hl.1 rfl (lv_room (Nat.le_of_ble_eq_true rfl)) dL_thrown_346 ⟨Nat.le_of_ble_eq_true rfl, Nat.le_of_ble_eq_true rfl⟩) hS0 (fun q _ h => h) (fun q h => h) (fun r u49 t9 H1 locs ht hvm hw hW hz1 hk1 hS0 => ?_)
    have hX : x_rank c0 (-1) = 3 := rank_m1 c0
    rw [hX] at hw
    have hw : r = (-1001) := hw
    have hW : LW D G X A h c0 c2 hS hn sv0 u1 fl H1 := LW_h ht hW
    obtain ⟨H, rfl⟩ : ∃ z, z = H1 := ⟨_, rfl⟩
    rw [hw]
    refine W.widen (k := 1226) (n := 150156) (Nat.le_of_ble_eq_true rfl) (Nat.le_of_ble_eq_true rfl) ?_
    refine lv_sipush (v := -1001) hx hb dL_thrown_349 (by decide) ?_
    refine lv_icmp_ne (tgt := 558) hx hb dL_thrown_352 (by decide) (fun c_50 => absurd (by decide) c_50) (fun _ => ?_)
    refine lv_aload_n hx hb dL_thrown_355 rfl (lv_at hl 3 rfl) ?_
    refine lv_iload hx hb dL_thrown_356 (lv_at hl 0 rfl) ?_
    refine va_calli (vx_runSW (As := [.ref h, .int (nI (nbg c0))]) (rest := []) ⟨hx, hb, hml, hown, hts⟩ (cl_L_limitOf l hfl D G B0 X A h c0 c2 hS hn sv0 u1 fl (nI (nbg c0)) H.size) (vx_cwSW (hh := [(0, 5, 6, 30)]) 2 hts gl_228 rfl rfl rfl (by decide +kernel) ⟨Nat.le_of_ble_eq_true rfl, Nat.le_of_ble_eq_true rfl⟩) (ps_lw hK hW (hE.at hS0 hAB) (AH hA0 hS0) hAB) rfl rfl hl.1 rfl (lv_room (Nat.le_of_ble_eq_true rfl)) dL_thrown_358 ⟨Nat.le_of_ble_eq_true rfl, Nat.le_of_ble_eq_true rfl⟩) hS0 (fun q _ h => h) (fun q h => h) (fun r u51 t9 H1 locs ht hvm hw hW hz1 hk1 hS0 => ?_)
    have hX : x_bag c0 (nI (nbg c0)) = 3 := nb_bag (nb_n hM.1.1)
    rw [hX] at hw
    have hw : r = (-1001) := hw
    have hW : LW D G X A h c0 c2 hS hn sv0 u1 fl H1 := LW_h ht hW
    obtain ⟨H, rfl⟩ : ∃ z, z = H1 := ⟨_, rfl⟩
    rw [hw]
    refine W.widen (k := 1227) (n := 150162) (Nat.le_of_ble_eq_true rfl) (Nat.le_of_ble_eq_true rfl) ?_
    refine lv_sipush (v := -1001) hx hb dL_thrown_361 (by decide) ?_
    refine lv_icmp_ne (tgt := 558) hx hb dL_thrown_364 (by decide) (fun c_52 => absurd (by decide) c_52) (fun _ => ?_)
    refine lv_aload_n hx hb dL_thrown_367 rfl (lv_at hl 3 rfl) ?_
    refine lv_iload hx hb dL_thrown_368 (lv_at hl 0 rfl) ?_
    refine va_calli (vx_runSW (As := [.ref h, .int (nI (nbg c0))]) (rest := []) ⟨hx, hb, hml, hown, hts⟩ (cl_L_weightIn l hfl D G B0 X A h c0 c2 hS hn sv0 u1 fl (nI (nbg c0)) H.size) (vx_cwSW (hh := [(0, 5, 6, 30)]) 2 hts gl_230 rfl rfl rfl (by decide +kernel) ⟨Nat.le_of_ble_eq_true rfl, Nat.le_of_ble_eq_true rfl⟩) (ps_lw hK hW (hE.at hS0 hAB) (AH hA0 hS0) hAB) rfl rfl hl.1 rfl (lv_room (Nat.le_of_ble_eq_true rfl)) dL_thrown_370 ⟨Nat.le_of_ble_eq_true rfl, Nat.le_of_ble_eq_true rfl⟩) hS0 (fun q _ h => h) (fun q h => h) (fun r u53 t9 H1 locs ht hvm hw hW hz1 hk1 hS0 => ?_)
    have hX : x_bag c0 (nI (nbg c0)) = 3 := nb_bag (nb_n hM.1.1)
    rw [hX] at hw
    have hw : r = (-1001) := hw
    have hW : LW D G X A h c0 c2 hS hn sv0 u1 fl H1 := LW_h ht hW
    obtain ⟨H, rfl⟩ : ∃ z, z = H1 := ⟨_, rfl⟩
    rw [hw]
    refine W.widen (k := 1228) (n := 150168) (Nat.le_of_ble_eq_true rfl) (Nat.le_of_ble_eq_true rfl) ?_
    refine lv_sipush (v := -1001) hx hb dL_thrown_373 (by decide) ?_
    refine lv_icmp_ne (tgt := 558) hx hb dL_thrown_376 (by decide) (fun c_54 => absurd (by decide) c_54) (fun _ => ?_)
    refine lv_aload_n hx hb dL_thrown_379 rfl (lv_at hl 3 rfl) ?_
    refine lv_iconst (v := -1) hx hb dL_thrown_380 (by decide) ?_
    refine va_calli (vx_runSW (As := [.ref h, .int (-1)]) (rest := []) ⟨hx, hb, hml, hown, hts⟩ (cl_L_weightByLayers l hfl D G B0 X A h c0 c2 hS hn sv0 u1 fl (-1) H.size) (vx_cwSW (hh := [(0, 5, 6, 30)]) 2 hts gl_288 rfl rfl rfl (by decide +kernel) ⟨Nat.le_of_ble_eq_true rfl, Nat.le_of_ble_eq_true rfl⟩) (ps_lw hK hW (hE.at hS0 hAB) (AH hA0 hS0) hAB) rfl rfl hl.1 rfl (lv_room (Nat.le_of_ble_eq_true rfl)) dL_thrown_381 ⟨Nat.le_of_ble_eq_true rfl, Nat.le_of_ble_eq_true rfl⟩) hS0 (fun q _ h => h) (fun q h => h) (fun r u55 t9 H1 locs ht hvm hw hW hz1 hk1 hS0 => ?_)
    have hX : x_bag c0 (-1) = 3 := nb_bag (nb_m1 c0)
    rw [hX] at hw
    have hw : r = (-1001) := hw
    have hW : LW D G X A h c0 c2 hS hn sv0 u1 fl H1 := LW_h ht hW
    obtain ⟨H, rfl⟩ : ∃ z, z = H1 := ⟨_, rfl⟩
    rw [hw]
    refine W.widen (k := 1229) (n := 150174) (Nat.le_of_ble_eq_true rfl) (Nat.le_of_ble_eq_true rfl) ?_
    refine lv_sipush (v := -1001) hx hb dL_thrown_384 (by decide) ?_
    refine lv_icmp_ne (tgt := 558) hx hb dL_thrown_387 (by decide) (fun c_56 => absurd (by decide) c_56) (fun _ => ?_)
    refine lv_aload_n hx hb dL_thrown_390 rfl (lv_at hl 3 rfl) ?_
    refine lv_iload hx hb dL_thrown_391 (lv_at hl 0 rfl) ?_
    refine va_calli (vx_runSW (As := [.ref h, .int (nI (nbg c0))]) (rest := []) ⟨hx, hb, hml, hown, hts⟩ (cl_L_weightLeft l hfl D G B0 X A h c0 c2 hS hn sv0 u1 fl (nI (nbg c0)) H.size) (vx_cwSW (hh := [(0, 5, 6, 30)]) 2 hts gl_291 rfl rfl rfl (by decide +kernel) ⟨Nat.le_of_ble_eq_true rfl, Nat.le_of_ble_eq_true rfl⟩) (ps_lw hK hW (hE.at hS0 hAB) (AH hA0 hS0) hAB) rfl rfl hl.1 rfl (lv_room (Nat.le_of_ble_eq_true rfl)) dL_thrown_393 ⟨Nat.le_of_ble_eq_true rfl, Nat.le_of_ble_eq_true rfl⟩) hS0 (fun q _ h => h) (fun q h => h) (fun r u57 t9 H1 locs ht hvm hw hW hz1 hk1 hS0 => ?_)
    have hX : x_bag c0 (nI (nbg c0)) = 3 := nb_bag (nb_n hM.1.1)
    rw [hX] at hw
    have hw : r = (-1001) := hw
    have hW : LW D G X A h c0 c2 hS hn sv0 u1 fl H1 := LW_h ht hW
    obtain ⟨H, rfl⟩ : ∃ z, z = H1 := ⟨_, rfl⟩
    rw [hw]
    refine W.widen (k := 1230) (n := 150180) (Nat.le_of_ble_eq_true rfl) (Nat.le_of_ble_eq_true rfl) ?_
    refine lv_sipush (v := -1001) hx hb dL_thrown_396 (by decide) ?_
    refine lv_icmp_ne (tgt := 558) hx hb dL_thrown_399 (by decide) (fun c_58 => absurd (by decide) c_58) (fun _ => ?_)
    refine lv_aload_n hx hb dL_thrown_402 rfl (lv_at hl 3 rfl) ?_
    refine lv_iload hx hb dL_thrown_403 (lv_at hl 0 rfl) ?_
    refine va_calli (vx_runSW (As := [.ref h, .int (nI (nbg c0))]) (rest := []) ⟨hx, hb, hml, hown, hts⟩ (cl_L_layerCount l hfl D G B0 X A h c0 c2 hS hn sv0 u1 fl (nI (nbg c0)) H.size) (vx_cwSW (hh := [(0, 5, 6, 30)]) 2 hts gl_232 rfl rfl rfl (by decide +kernel) ⟨Nat.le_of_ble_eq_true rfl, Nat.le_of_ble_eq_true rfl⟩) (ps_lw hK hW (hE.at hS0 hAB) (AH hA0 hS0) hAB) rfl rfl hl.1 rfl (lv_room (Nat.le_of_ble_eq_true rfl)) dL_thrown_405 ⟨Nat.le_of_ble_eq_true rfl, Nat.le_of_ble_eq_true rfl⟩) hS0 (fun q _ h => h) (fun q h => h) (fun r u59 t9 H1 locs ht hvm hw hW hz1 hk1 hS0 => ?_)
    have hX : x_bag c0 (nI (nbg c0)) = 3 := nb_bag (nb_n hM.1.1)
    rw [hX] at hw
    have hw : r = (-1001) := hw
    have hW : LW D G X A h c0 c2 hS hn sv0 u1 fl H1 := LW_h ht hW
    obtain ⟨H, rfl⟩ : ∃ z, z = H1 := ⟨_, rfl⟩
    rw [hw]
    refine W.widen (k := 1231) (n := 150186) (Nat.le_of_ble_eq_true rfl) (Nat.le_of_ble_eq_true rfl) ?_
    refine lv_sipush (v := -1001) hx hb dL_thrown_408 (by decide) ?_
    refine lv_icmp_ne (tgt := 558) hx hb dL_thrown_411 (by decide) (fun c_60 => absurd (by decide) c_60) (fun _ => ?_)
    refine lv_aload_n hx hb dL_thrown_414 rfl (lv_at hl 3 rfl) ?_
    refine lv_iload hx hb dL_thrown_415 (lv_at hl 0 rfl) ?_
    refine lv_iconst (v := 0) hx hb dL_thrown_417 (by decide) ?_
    refine va_calli (vx_runSW (As := [.ref h, .int (nI (nbg c0)), .int 0]) (rest := []) ⟨hx, hb, hml, hown, hts⟩ (cl_L_itemsInLayer l hfl D G B0 X A h c0 c2 hS hn sv0 u1 fl (nI (nbg c0)) 0 H.size) (vx_cwSW (hh := [(0, 6, 7, 30)]) 3 hts gl_293 rfl rfl rfl (by decide +kernel) ⟨Nat.le_of_ble_eq_true rfl, Nat.le_of_ble_eq_true rfl⟩) (ps_lw hK hW (hE.at hS0 hAB) (AH hA0 hS0) hAB) rfl rfl hl.1 rfl (lv_room (Nat.le_of_ble_eq_true rfl)) dL_thrown_418 ⟨Nat.le_of_ble_eq_true rfl, Nat.le_of_ble_eq_true rfl⟩) hS0 (fun q _ h => h) (fun q h => h) (fun r u61 t9 H1 locs ht hvm hw hW hz1 hk1 hS0 => ?_)
    have hX : x_layer c0 (nI (nbg c0)) 0 = 3 := nb_layer (nb_n hM.1.1)
    rw [hX] at hw
    have hw : r = (-1001) := hw
    have hW : LW D G X A h c0 c2 hS hn sv0 u1 fl H1 := LW_h ht hW
    obtain ⟨H, rfl⟩ : ∃ z, z = H1 := ⟨_, rfl⟩
    rw [hw]
    refine W.widen (k := 1233) (n := 150198) (Nat.le_of_ble_eq_true rfl) (Nat.le_of_ble_eq_true rfl) ?_
    refine lv_sipush (v := -1001) hx hb dL_thrown_421 (by decide) ?_
    refine lv_icmp_ne (tgt := 558) hx hb dL_thrown_424 (by decide) (fun c_62 => absurd (by decide) c_62) (fun _ => ?_)
    refine lv_aload_n hx hb dL_thrown_427 rfl (lv_at hl 3 rfl) ?_
    refine lv_iconst (v := -1) hx hb dL_thrown_428 (by decide) ?_
    refine lv_iconst (v := 0) hx hb dL_thrown_429 (by decide) ?_
    refine lv_iconst (v := 0) hx hb dL_thrown_430 (by decide) ?_
    refine va_calli (vx_runSW (As := [.ref h, .int (-1), .int 0, .int 0]) (rest := []) ⟨hx, hb, hml, hown, hts⟩ (cl_L_itemAt l hfl D G B0 X A h c0 c2 hS hn sv0 u1 fl (-1) 0 0 H.size) (vx_cwSW (hh := [(0, 7, 8, 30), (0, 7, 14, 24)]) 4 hts gl_295 rfl rfl rfl (by decide +kernel) ⟨Nat.le_of_ble_eq_true rfl, Nat.le_of_ble_eq_true rfl⟩) (ps_lw hK hW (hE.at hS0 hAB) (AH hA0 hS0) hAB) rfl rfl hl.1 rfl (lv_room (Nat.le_of_ble_eq_true rfl)) dL_thrown_431 ⟨Nat.le_of_ble_eq_true rfl, Nat.le_of_ble_eq_true rfl⟩) hS0 (fun q _ h => h) (fun q h => h) (fun r u63 t9 H1 locs ht hvm hw hW hz1 hk1 hS0 => ?_)
    have hX : x_place c0 (-1) 0 0 = 3 := nb_place (nb_m1 c0)
    rw [hX] at hw
    have hw : r = (-1001) := hw
    have hW : LW D G X A h c0 c2 hS hn sv0 u1 fl H1 := LW_h ht hW
    obtain ⟨H, rfl⟩ : ∃ z, z = H1 := ⟨_, rfl⟩
    rw [hw]
    refine W.widen (k := 1236) (n := 150216) (Nat.le_of_ble_eq_true rfl) (Nat.le_of_ble_eq_true rfl) ?_
    refine lv_sipush (v := -1001) hx hb dL_thrown_434 (by decide) ?_
    refine lv_icmp_ne (tgt := 558) hx hb dL_thrown_437 (by decide) (fun c_64 => absurd (by decide) c_64) (fun _ => ?_)
    refine lv_aload_n hx hb dL_thrown_440 rfl (lv_at hl 3 rfl) ?_
    refine lv_iload hx hb dL_thrown_441 (lv_at hl 0 rfl) ?_
    refine lv_iconst (v := 0) hx hb dL_thrown_443 (by decide) ?_
    refine va_calli (vx_runSW (As := [.ref h, .int (nI (nbg c0)), .int 0]) (rest := []) ⟨hx, hb, hml, hown, hts⟩ (cl_L_sizeUsed l hfl D G B0 X A h c0 c2 hS hn sv0 u1 fl (nI (nbg c0)) 0 H.size) (vx_cwSW (hh := [(0, 6, 7, 30)]) 3 hts gl_298 rfl rfl rfl (by decide +kernel) ⟨Nat.le_of_ble_eq_true rfl, Nat.le_of_ble_eq_true rfl⟩) (ps_lw hK hW (hE.at hS0 hAB) (AH hA0 hS0) hAB) rfl rfl hl.1 rfl (lv_room (Nat.le_of_ble_eq_true rfl)) dL_thrown_444 ⟨Nat.le_of_ble_eq_true rfl, Nat.le_of_ble_eq_true rfl⟩) hS0 (fun q _ h => h) (fun q h => h) (fun r u65 t9 H1 locs ht hvm hw hW hz1 hk1 hS0 => ?_)
    have hX : x_layer c0 (nI (nbg c0)) 0 = 3 := nb_layer (nb_n hM.1.1)
    rw [hX] at hw
    have hw : r = (-1001) := hw
    have hW : LW D G X A h c0 c2 hS hn sv0 u1 fl H1 := LW_h ht hW
    obtain ⟨H, rfl⟩ : ∃ z, z = H1 := ⟨_, rfl⟩
    rw [hw]
    refine W.widen (k := 1238) (n := 150228) (Nat.le_of_ble_eq_true rfl) (Nat.le_of_ble_eq_true rfl) ?_
    refine lv_sipush (v := -1001) hx hb dL_thrown_447 (by decide) ?_
    refine lv_icmp_ne (tgt := 558) hx hb dL_thrown_450 (by decide) (fun c_66 => absurd (by decide) c_66) (fun _ => ?_)
    refine lv_aload_n hx hb dL_thrown_453 rfl (lv_at hl 3 rfl) ?_
    refine lv_iload hx hb dL_thrown_454 (lv_at hl 0 rfl) ?_
    refine lv_iconst (v := 0) hx hb dL_thrown_456 (by decide) ?_
    refine va_calli (vx_runSW (As := [.ref h, .int (nI (nbg c0)), .int 0]) (rest := []) ⟨hx, hb, hml, hown, hts⟩ (cl_L_loadOf l hfl D G B0 X A h c0 c2 hS hn sv0 u1 fl (nI (nbg c0)) 0 H.size) (vx_cwSW (hh := [(0, 6, 7, 30)]) 3 hts gl_300 rfl rfl rfl (by decide +kernel) ⟨Nat.le_of_ble_eq_true rfl, Nat.le_of_ble_eq_true rfl⟩) (ps_lw hK hW (hE.at hS0 hAB) (AH hA0 hS0) hAB) rfl rfl hl.1 rfl (lv_room (Nat.le_of_ble_eq_true rfl)) dL_thrown_457 ⟨Nat.le_of_ble_eq_true rfl, Nat.le_of_ble_eq_true rfl⟩) hS0 (fun q _ h => h) (fun q h => h) (fun r u67 t9 H1 locs ht hvm hw hW hz1 hk1 hS0 => ?_)
    have hX : x_layer c0 (nI (nbg c0)) 0 = 3 := nb_layer (nb_n hM.1.1)
    rw [hX] at hw
    have hw : r = (-1001) := hw
    have hW : LW D G X A h c0 c2 hS hn sv0 u1 fl H1 := LW_h ht hW
    obtain ⟨H, rfl⟩ : ∃ z, z = H1 := ⟨_, rfl⟩
    rw [hw]
    refine W.widen (k := 1240) (n := 150240) (Nat.le_of_ble_eq_true rfl) (Nat.le_of_ble_eq_true rfl) ?_
    refine lv_sipush (v := -1001) hx hb dL_thrown_460 (by decide) ?_
    refine lv_icmp_ne (tgt := 558) hx hb dL_thrown_463 (by decide) (fun c_68 => absurd (by decide) c_68) (fun _ => ?_)
    refine lv_aload_n hx hb dL_thrown_466 rfl (lv_at hl 3 rfl) ?_
    refine lv_iload hx hb dL_thrown_467 (lv_at hl 0 rfl) ?_
    refine va_calli (vx_runSW (As := [.ref h, .int (nI (nbg c0))]) (rest := []) ⟨hx, hb, hml, hown, hts⟩ (cl_L_bestLoad l hfl D G B0 X A h c0 c2 hS hn sv0 u1 fl (nI (nbg c0)) H.size) (vx_cwSW (hh := [(0, 5, 6, 30)]) 2 hts gl_234 rfl rfl rfl (by decide +kernel) ⟨Nat.le_of_ble_eq_true rfl, Nat.le_of_ble_eq_true rfl⟩) (ps_lw hK hW (hE.at hS0 hAB) (AH hA0 hS0) hAB) rfl rfl hl.1 rfl (lv_room (Nat.le_of_ble_eq_true rfl)) dL_thrown_469 ⟨Nat.le_of_ble_eq_true rfl, Nat.le_of_ble_eq_true rfl⟩) hS0 (fun q _ h => h) (fun q h => h) (fun r u69 t9 H1 locs ht hvm hw hW hz1 hk1 hS0 => ?_)
    have hX : x_bag c0 (nI (nbg c0)) = 3 := nb_bag (nb_n hM.1.1)
    rw [hX] at hw
    have hw : r = (-1001) := hw
    have hW : LW D G X A h c0 c2 hS hn sv0 u1 fl H1 := LW_h ht hW
    obtain ⟨H, rfl⟩ : ∃ z, z = H1 := ⟨_, rfl⟩
    rw [hw]
    refine W.widen (k := 1241) (n := 150246) (Nat.le_of_ble_eq_true rfl) (Nat.le_of_ble_eq_true rfl) ?_
    refine lv_sipush (v := -1001) hx hb dL_thrown_472 (by decide) ?_
    refine lv_icmp_ne (tgt := 558) hx hb dL_thrown_475 (by decide) (fun c_70 => absurd (by decide) c_70) (fun _ => ?_)
    refine lv_aload_n hx hb dL_thrown_478 rfl (lv_at hl 3 rfl) ?_
    refine lv_iconst (v := -1) hx hb dL_thrown_479 (by decide) ?_
    refine va_calli (vx_runSW (As := [.ref h, .int (-1)]) (rest := []) ⟨hx, hb, hml, hown, hts⟩ (cl_L_bestByTable l hfl D G B0 X A h c0 c2 hS hn sv0 u1 fl (-1) (by rw [nb_bag (nb_m1 c0)]; decide) H.size) (vx_cwSW (hh := [(0, 5, 6, 30)]) 2 hts gl_302 rfl rfl rfl (by decide +kernel) ⟨Nat.le_of_ble_eq_true rfl, Nat.le_of_ble_eq_true rfl⟩) (ps_lw hK hW (hE.at hS0 hAB) (AH hA0 hS0) hAB) rfl rfl hl.1 rfl (lv_room (Nat.le_of_ble_eq_true rfl)) dL_thrown_480 ⟨Nat.le_of_ble_eq_true rfl, Nat.le_of_ble_eq_true rfl⟩) hS0 (fun q _ h => h) (fun q h => h) (fun r u71 t9 H1 locs ht hvm hw hW hz1 hk1 hS0 => ?_)
    have hX : x_bag c0 (-1) = 3 := nb_bag (nb_m1 c0)
    rw [hX] at hw
    have hw : r = (-1001) := hw
    have hW : LW D G X A h c0 c2 hS hn sv0 u1 fl H1 := LW_h ht hW
    obtain ⟨H, rfl⟩ : ∃ z, z = H1 := ⟨_, rfl⟩
    rw [hw]
    refine W.widen (k := 1242) (n := 150252) (Nat.le_of_ble_eq_true rfl) (Nat.le_of_ble_eq_true rfl) ?_
    refine lv_sipush (v := -1001) hx hb dL_thrown_483 (by decide) ?_
    refine lv_icmp_ne (tgt := 558) hx hb dL_thrown_486 (by decide) (fun c_72 => absurd (by decide) c_72) (fun _ => ?_)
    refine lv_aload_n hx hb dL_thrown_489 rfl (lv_at hl 3 rfl) ?_
    refine lv_iload hx hb dL_thrown_490 (lv_at hl 0 rfl) ?_
    refine va_calli (vx_runSW (As := [.ref h, .int (nI (nbg c0))]) (rest := []) ⟨hx, hb, hml, hown, hts⟩ (cl_L_writeLabel l hfl D G B0 X A h c0 c2 hS hn sv0 u1 fl (nI (nbg c0)) (hM.1.id (by decide)) hM.1.ly H.size) (vx_cwSW (hh := [(0, 5, 6, 30)]) 2 hts gl_175 rfl rfl rfl (by decide +kernel) ⟨Nat.le_of_ble_eq_true rfl, Nat.le_of_ble_eq_true rfl⟩) (ps_lw hK hW (hE.at hS0 hAB) (AH hA0 hS0) hAB) rfl rfl hl.1 rfl (lv_room (Nat.le_of_ble_eq_true rfl)) dL_thrown_492 ⟨Nat.le_of_ble_eq_true rfl, Nat.le_of_ble_eq_true rfl⟩) hS0 (fun q _ h => h) (fun q h => h) (fun r u73 t9 H1 locs ht hvm hw hW hz1 hk1 hS0 => ?_)
    have hX : x_bag c0 (nI (nbg c0)) = 3 := nb_bag (nb_n hM.1.1)
    rw [hX] at hw hW
    have hw : r = (-1001) := hw
    have hW : LW D G X A h c0 c2 hS hn sv0 u1 fl H1 := LW_h ht hW
    obtain ⟨H, rfl⟩ : ∃ z, z = H1 := ⟨_, rfl⟩
    rw [hw]
    refine W.widen (k := 1434) (n := 188840) (Nat.le_of_ble_eq_true rfl) (Nat.le_of_ble_eq_true rfl) ?_
    refine lv_sipush (v := -1001) hx hb dL_thrown_495 (by decide) ?_
    refine lv_icmp_ne (tgt := 558) hx hb dL_thrown_498 (by decide) (fun c_74 => absurd (by decide) c_74) (fun _ => ?_)
    refine lv_aload_n hx hb dL_thrown_501 rfl (lv_at hl 3 rfl) ?_
    refine lv_iconst (v := -1) hx hb dL_thrown_502 (by decide) ?_
    refine va_calli (vx_runSW (As := [.ref h, .int (-1)]) (rest := []) ⟨hx, hb, hml, hown, hts⟩ (cl_L_labelAt l hfl D G B0 X A h c0 c2 hS hn sv0 u1 fl (-1) H.size) (vx_cwSW (hh := [(0, 5, 6, 30)]) 2 hts gl_178 rfl rfl rfl (by decide +kernel) ⟨Nat.le_of_ble_eq_true rfl, Nat.le_of_ble_eq_true rfl⟩) (ps_lw hK hW (hE.at hS0 hAB) (AH hA0 hS0) hAB) rfl rfl hl.1 rfl (lv_room (Nat.le_of_ble_eq_true rfl)) dL_thrown_503 ⟨Nat.le_of_ble_eq_true rfl, Nat.le_of_ble_eq_true rfl⟩) hS0 (fun q _ h => h) (fun q h => h) (fun r u75 t9 H1 locs ht hvm hw hW hz1 hk1 hS0 => ?_)
    have hX : x_lab u1 (-1) = 3 := lab_m1 _
    rw [hX] at hw
    have hw : r = (-1001) := hw
    have hW : LW D G X A h c0 c2 hS hn sv0 u1 fl H1 := LW_h ht hW
    obtain ⟨H, rfl⟩ : ∃ z, z = H1 := ⟨_, rfl⟩
    rw [hw]
    refine W.widen (k := 1435) (n := 188846) (Nat.le_of_ble_eq_true rfl) (Nat.le_of_ble_eq_true rfl) ?_
    refine lv_sipush (v := -1001) hx hb dL_thrown_506 (by decide) ?_
    refine lv_icmp_ne (tgt := 558) hx hb dL_thrown_509 (by decide) (fun c_76 => absurd (by decide) c_76) (fun _ => ?_)
    refine lv_aload_n hx hb dL_thrown_512 rfl (lv_at hl 3 rfl) ?_
    refine lv_bipush (v := 90) hx hb dL_thrown_513 (by decide) ?_
    refine va_calli (vx_runSW (As := [.ref h, .int 90]) (rest := []) ⟨hx, hb, hml, hown, hts⟩ (cl_L_labelAt l hfl D G B0 X A h c0 c2 hS hn sv0 u1 fl 90 H.size) (vx_cwSW (hh := [(0, 5, 6, 30)]) 2 hts gl_178 rfl rfl rfl (by decide +kernel) ⟨Nat.le_of_ble_eq_true rfl, Nat.le_of_ble_eq_true rfl⟩) (ps_lw hK hW (hE.at hS0 hAB) (AH hA0 hS0) hAB) rfl rfl hl.1 rfl (lv_room (Nat.le_of_ble_eq_true rfl)) dL_thrown_515 ⟨Nat.le_of_ble_eq_true rfl, Nat.le_of_ble_eq_true rfl⟩) hS0 (fun q _ h => h) (fun q h => h) (fun r u77 t9 H1 locs ht hvm hw hW hz1 hk1 hS0 => ?_)
    have hX : x_lab u1 90 = 3 := lab_90 (LW_lab hW)
    rw [hX] at hw
    have hw : r = (-1001) := hw
    have hW : LW D G X A h c0 c2 hS hn sv0 u1 fl H1 := LW_h ht hW
    obtain ⟨H, rfl⟩ : ∃ z, z = H1 := ⟨_, rfl⟩
    rw [hw]
    refine W.widen (k := 1436) (n := 188852) (Nat.le_of_ble_eq_true rfl) (Nat.le_of_ble_eq_true rfl) ?_
    refine lv_sipush (v := -1001) hx hb dL_thrown_518 (by decide) ?_
    refine lv_icmp_ne (tgt := 558) hx hb dL_thrown_521 (by decide) (fun c_78 => absurd (by decide) c_78) (fun _ => ?_)
    refine lv_aload_n hx hb dL_thrown_524 rfl (lv_at hl 3 rfl) ?_
    refine lv_sipush (v := 200) hx hb dL_thrown_525 (by decide) ?_
    refine va_calli (vx_runSW (As := [.ref h, .int 200]) (rest := []) ⟨hx, hb, hml, hown, hts⟩ (cl_L_type l hfl D G B0 X A h c0 c2 hS hn sv0 u1 fl 200 sv0_ok.1 (by decide) H.size) (vx_cwSW (hh := [(0, 5, 6, 13), (0, 5, 11, 15)]) 2 hts gl_161 rfl rfl rfl (by decide +kernel) ⟨Nat.le_of_ble_eq_true rfl, Nat.le_of_ble_eq_true rfl⟩) (ps_lw hK hW (hE.at hS0 hAB) (AH hA0 hS0) hAB) rfl rfl hl.1 rfl (lv_room (Nat.le_of_ble_eq_true rfl)) dL_thrown_528 ⟨Nat.le_of_ble_eq_true rfl, Nat.le_of_ble_eq_true rfl⟩) hS0 (fun q _ h => h) (fun q h => h) (fun r u79 t9 H1 locs ht hvm hw hW hz1 hk1 hS0 => ?_)
    have hX : x_type sv0 200 = 1 := by decide
    rw [hX] at hw hW
    have hw : r = (-1001) := hw
    have hW : LW D G X A h c0 c2 hS hn sv0 u1 fl H1 := LW_h ht hW
    obtain ⟨H, rfl⟩ : ∃ z, z = H1 := ⟨_, rfl⟩
    rw [hw]
    refine W.widen (k := 1437) (n := 188858) (Nat.le_of_ble_eq_true rfl) (Nat.le_of_ble_eq_true rfl) ?_
    refine lv_sipush (v := -1001) hx hb dL_thrown_531 (by decide) ?_
    refine lv_icmp_ne (tgt := 558) hx hb dL_thrown_534 (by decide) (fun c_80 => absurd (by decide) c_80) (fun _ => ?_)
    have J554 : ∀ (H : Heap) (locs : List Loc), LW D G X A h c0 c2 hS hn sv0 u1 fl H → va_S A s.heap H locs → ∀ ls : Array Slot, lv_has ls 9 [(4, .int (nI (nbg c0))), (3, .int (nI (cN c0))), (1, .long (ask_v c0)), (0, .ref h)] → W p9 l e (headSpec (wA yL_thrown cL_thrown 9 (some .boolean)) ({ frames := 18, cells := 5000, slots := 360000, locals := 451 } : Room)).room s m ([.ref h] : List Value).toArray below meth c9 H locs (1439) (188870) (MQ below (va_Qi (fun (r : Int32) (_ : List Int32 × (Nat → Int32)) => r = 1) (fun u t9 => LW D G X A h c0 c2 hS hn svN u.1 u.2 t9.heap) A) ([.ref h] : List Value).toArray s 5000 360000 A) (F0 m 554 ls []) := by
      intro H locs hW hS0 ls hl
      refine lv_iconst (v := 1) hx hb dL_thrown_554 (by decide) ?_
      refine lv_goto (tgt := 559) hx hb dL_thrown_555 (by decide) ?_
      refine lv_istore (lv' := [(5, .int 1), (4, .int (nI (nbg c0))), (3, .int (nI (cN c0))), (1, .long (ask_v c0)), (0, .ref h)]) hx hb dL_thrown_559 hl (by decide) rfl (fun ls hl => ?_)
      refine lv_iconst (v := 0) hx hb dL_thrown_561 (by decide) ?_
      refine lv_istore (lv' := [(6, .int 0), (5, .int 1), (4, .int (nI (nbg c0))), (3, .int (nI (cN c0))), (1, .long (ask_v c0)), (0, .ref h)]) hx hb dL_thrown_562 hl (by decide) rfl (fun ls hl => ?_)
      have L564 : ∀ (m9 k : Nat), k + m9 = nbg c0 → ∀ (H : Heap) (locs : List Loc), LW D G X A h c0 c2 hS hn sv0 u1 fl H → va_S A s.heap H locs → ∀ ls : Array Slot, lv_has ls 9 [(6, .int (nI k)), (5, .int 1), (4, .int (nI (nbg c0))), (3, .int (nI (cN c0))), (1, .long (ask_v c0)), (0, .ref h)] → W p9 l e (headSpec (wA yL_thrown cL_thrown 9 (some .boolean)) ({ frames := 18, cells := 5000, slots := 360000, locals := 451 } : Room)).room s m ([.ref h] : List Value).toArray below meth c9 H locs (1439 + (150 - 50 * m9)) (188870 + (900 - 300 * m9)) (MQ below (va_Qi (fun (r : Int32) (_ : List Int32 × (Nat → Int32)) => r = 1) (fun u t9 => LW D G X A h c0 c2 hS hn svN u.1 u.2 t9.heap) A) ([.ref h] : List Value).toArray s 5000 360000 A) (F0 m 564 ls []) := by
        intro m9
        induction m9 with
        | zero =>
          intro k hk1  H locs  hW hS0 ls hl
          obtain rfl : k = nbg c0 := by omega
          refine W.widen (k := 1589) (n := 189770) (by omega) (by omega) ?_
          refine lv_iload hx hb dL_thrown_564 (lv_at hl 0 rfl) ?_
          refine lv_iload hx hb dL_thrown_566 (lv_at hl 2 rfl) ?_
          refine lv_icmp_ge (tgt := 712) hx hb dL_thrown_568 (by decide) (fun _ => ?_) (fun c_81 => absurd (nI_le (a := (nbg c0)) (b := (nbg c0)) (by omega) (by omega)) c_81)
          refine lv_iconst (v := 0) hx hb dL_thrown_712 (by decide) ?_
          refine lv_istore (lv' := [(6, .int 0), (5, .int 1), (4, .int (nI (nbg c0))), (3, .int (nI (cN c0))), (1, .long (ask_v c0)), (0, .ref h)]) hx hb dL_thrown_713 hl (by decide) rfl (fun ls hl => ?_)
          have L715 : ∀ (m8 k : Nat), k + m8 = cN c0 → ∀ (f8 : Nat → Int32) (H : Heap) (locs : List Loc), LW D G X A h c0 c2 hS hn sv0 u1 f8 H → va_S A s.heap H locs → ∀ ls : Array Slot, lv_has ls 9 [(6, .int (nI k)), (5, .int 1), (4, .int (nI (nbg c0))), (3, .int (nI (cN c0))), (1, .long (ask_v c0)), (0, .ref h)] → W p9 l e (headSpec (wA yL_thrown cL_thrown 9 (some .boolean)) ({ frames := 18, cells := 5000, slots := 360000, locals := 451 } : Room)).room s m ([.ref h] : List Value).toArray below meth c9 H locs (1589 + (1200 - 100 * m8)) (189770 + (7200 - 600 * m8)) (MQ below (va_Qi (fun (r : Int32) (_ : List Int32 × (Nat → Int32)) => r = 1) (fun u t9 => LW D G X A h c0 c2 hS hn svN u.1 u.2 t9.heap) A) ([.ref h] : List Value).toArray s 5000 360000 A) (F0 m 715 ls []) := by
            intro m8
            induction m8 with
            | zero =>
              intro k hk2 f8 H locs  hW hS0 ls hl
              obtain rfl : k = cN c0 := by omega
              refine W.widen (k := 2789) (n := 196970) (by omega) (by omega) ?_
              refine lv_iload hx hb dL_thrown_715 (lv_at hl 0 rfl) ?_
              refine lv_iload_n hx hb dL_thrown_717 rfl (lv_at hl 3 rfl) ?_
              refine lv_icmp_ge (tgt := 1044) hx hb dL_thrown_718 (by decide) (fun _ => ?_) (fun c_82 => absurd (nI_le (a := (cN c0)) (b := (cN c0)) (by omega) (by omega)) c_82)
              refine lv_aload_n hx hb dL_thrown_1044 rfl (lv_at hl 5 rfl) ?_
              refine va_calli (vx_runSW (As := [.ref h]) (rest := []) ⟨hx, hb, hml, hown, hts⟩ (cl_L_reason l hfl D G B0 X A h c0 c2 hS hn sv0 u1 f8 H.size) (vx_cwSW (hh := [(0, 4, 5, 24)]) 1 hts gl_169 rfl rfl rfl (by decide +kernel) ⟨Nat.le_of_ble_eq_true rfl, Nat.le_of_ble_eq_true rfl⟩) (ps_lw hK hW (hE.at hS0 hAB) (AH hA0 hS0) hAB) rfl rfl hl.1 rfl (lv_room (Nat.le_of_ble_eq_true rfl)) dL_thrown_1045 ⟨Nat.le_of_ble_eq_true rfl, Nat.le_of_ble_eq_true rfl⟩) hS0 (fun q _ h => h) (fun q h => h) (fun r u83 t9 H1 locs ht hvm hw hW hz1 hk1 hS0 => ?_)
              have hW : LW D G X A h c0 c2 hS hn sv0 u1 f8 H1 := LW_h ht hW
              obtain ⟨H, rfl⟩ : ∃ z, z = H1 := ⟨_, rfl⟩
              rw [hw]
              refine W.widen (k := 2790) (n := 196976) (Nat.le_of_ble_eq_true rfl) (Nat.le_of_ble_eq_true rfl) ?_
              refine lv_istore (lv' := [(6, .int (sel (x_reason f8) (f8 1) (-1001))), (5, .int 1), (4, .int (nI (nbg c0))), (3, .int (nI (cN c0))), (1, .long (ask_v c0)), (0, .ref h)]) hx hb dL_thrown_1048 hl (by decide) rfl (fun ls hl => ?_)
              refine lv_aload_n hx hb dL_thrown_1050 rfl (lv_at hl 5 rfl) ?_
              refine va_calli (vx_runSW (As := [.ref h]) (rest := []) ⟨hx, hb, hml, hown, hts⟩ (cl_L_refused l hfl D G B0 X A h c0 c2 hS hn sv0 u1 f8 H.size) (vx_cwSW (hh := [(0, 4, 5, 24)]) 1 hts gl_172 rfl rfl rfl (by decide +kernel) ⟨Nat.le_of_ble_eq_true rfl, Nat.le_of_ble_eq_true rfl⟩) (ps_lw hK hW (hE.at hS0 hAB) (AH hA0 hS0) hAB) rfl rfl hl.1 rfl (lv_room (Nat.le_of_ble_eq_true rfl)) dL_thrown_1051 ⟨Nat.le_of_ble_eq_true rfl, Nat.le_of_ble_eq_true rfl⟩) hS0 (fun q _ h => h) (fun q h => h) (fun r u84 t9 H1 locs ht hvm hw hW hz1 hk1 hS0 => ?_)
              have hW : LW D G X A h c0 c2 hS hn sv0 u1 f8 H1 := LW_h ht hW
              obtain ⟨H, rfl⟩ : ∃ z, z = H1 := ⟨_, rfl⟩
              rw [hw]
              refine W.widen (k := 2791) (n := 196982) (Nat.le_of_ble_eq_true rfl) (Nat.le_of_ble_eq_true rfl) ?_
              refine lv_istore (lv' := [(7, .int (sel (x_reason f8) (f8 2) (-1001))), (6, .int (sel (x_reason f8) (f8 1) (-1001))), (5, .int 1), (4, .int (nI (nbg c0))), (3, .int (nI (cN c0))), (1, .long (ask_v c0)), (0, .ref h)]) hx hb dL_thrown_1054 hl (by decide) rfl (fun ls hl => ?_)
              refine lv_iload hx hb dL_thrown_1056 (lv_at hl 2 rfl) ?_
              refine lv_if_eq (tgt := 1160) hx hb dL_thrown_1058 (by decide) (fun c_85 => absurd c_85 (by decide)) (fun _ => ?_)
              refine lv_aload_n hx hb dL_thrown_1061 rfl (lv_at hl 6 rfl) ?_
              refine va_ldcSW hx hb hown (hE.s.1 29 ("CourierBagsLaw", 305, "q") rfl) dL_thrown_1062 ?_
              have hTx := StrX.of (hE.at hS0 hAB) hAB (i := 29) (by decide)
              refine va_calli (va_runS (As := [.ref h, .ref (X 2 29)]) (rest := []) ⟨hx, hb, hml, hown, hts⟩ (cl_L_runs l hfl D G B0 X A h c0 c2 hS hn sv0 u1 f8 (X 2 29) (X 3 29) (strL.getD 29 0) (fun j => (strB.getD 29 []).getD j 0) hh sv0_ok.1 sv0_ok.2 hM.1.1 tQ (by decide) (by decide +kernel) (by decide) (by decide +kernel) H.size) (va_cwS 2 hts gw_L_272 rfl rfl rfl (by decide +kernel) ⟨Nat.le_of_ble_eq_true rfl, Nat.le_of_ble_eq_true rfl⟩) (ps_lx hK hW (hE.at hS0 hAB) (AH hA0 hS0) hAB hTx) rfl rfl hl.1 rfl (lv_room (Nat.le_of_ble_eq_true rfl)) dL_thrown_1065 ⟨Nat.le_of_ble_eq_true rfl, Nat.le_of_ble_eq_true rfl⟩) hS0 (fun q _ h => h) (fun q h => h) (fun r u t9 H1 locs ht hvm hw hW hz1 hk1 hS0 => ?_)
              obtain ⟨e1, e2, e3⟩ := xQ c0 f8
              rw [e1, e2, e3] at hW
              have hw : r = (-1001) := by
                have h9 : r = w_exec c0 f8 (v_tyL sv0 tQ) := hw
                rw [h9]
                unfold w_exec
                rw [e1]
                rfl
              have hW : LW D G X A h c0 c2 hS hn svQ u1 (upd f8 3 0) H1 := LW_h ht hW
              obtain ⟨H, rfl⟩ : ∃ z, z = H1 := ⟨_, rfl⟩
              rw [hw]
              refine W.widen (k := 2853) (n := 197354) (Nat.le_of_ble_eq_true rfl) (Nat.le_of_ble_eq_true rfl) ?_
              refine lv_sipush (v := -1001) hx hb dL_thrown_1068 (by decide) ?_
              refine lv_icmp_ne (tgt := 1160) hx hb dL_thrown_1071 (by decide) (fun c_86 => absurd (by decide) c_86) (fun _ => ?_)
              refine lv_aload_n hx hb dL_thrown_1074 rfl (lv_at hl 6 rfl) ?_
              refine va_calli (vx_runSW (As := [.ref h]) (rest := []) ⟨hx, hb, hml, hown, hts⟩ (cl_L_errorPosition l hfl D G B0 X A h c0 c2 hS hn svQ u1 (upd f8 3 0) H.size) (vx_cwSW (hh := [(0, 4, 5, 24)]) 1 hts gl_307 rfl rfl rfl (by decide +kernel) ⟨Nat.le_of_ble_eq_true rfl, Nat.le_of_ble_eq_true rfl⟩) (ps_lw hK hW (hE.at hS0 hAB) (AH hA0 hS0) hAB) rfl rfl hl.1 rfl (lv_room (Nat.le_of_ble_eq_true rfl)) dL_thrown_1075 ⟨Nat.le_of_ble_eq_true rfl, Nat.le_of_ble_eq_true rfl⟩) hS0 (fun q _ h => h) (fun q h => h) (fun r u87 t9 H1 locs ht hvm hw hW hz1 hk1 hS0 => ?_)
              have hX : x_errp (upd f8 3 0) = 0 := ep_0 pk_us
              rw [hX] at hw
              have hw : r = (upd f8 3 0) 3 := hw
              have hW : LW D G X A h c0 c2 hS hn svQ u1 (upd f8 3 0) H1 := LW_h ht hW
              obtain ⟨H, rfl⟩ : ∃ z, z = H1 := ⟨_, rfl⟩
              rw [hw]
              refine W.widen (k := 2854) (n := 197360) (Nat.le_of_ble_eq_true rfl) (Nat.le_of_ble_eq_true rfl) ?_
              rw [show ((upd f8 3 0) 3) = 0 from pk_us]
              refine lv_if_ne (tgt := 1160) hx hb dL_thrown_1078 (by decide) (fun c_88 => absurd (by decide) c_88) (fun _ => ?_)
              refine lv_aload_n hx hb dL_thrown_1081 rfl (lv_at hl 6 rfl) ?_
              refine va_ldcSW hx hb hown (hE.s.1 30 ("CourierBagsLaw", 309, "fill 0;drop 99") rfl) dL_thrown_1082 ?_
              have hTx := StrX.of (hE.at hS0 hAB) hAB (i := 30) (by decide)
              refine va_calli (va_runS (As := [.ref h, .ref (X 2 30)]) (rest := []) ⟨hx, hb, hml, hown, hts⟩ (cl_L_runs l hfl D G B0 X A h c0 c2 hS hn svQ u1 (upd f8 3 0) (X 2 30) (X 3 30) (strL.getD 30 0) (fun j => (strB.getD 30 []).getD j 0) hh svQ_ok.1 svQ_ok.2 hM.1.1 tF (by decide) (by decide +kernel) (by decide) (by decide +kernel) H.size) (va_cwS 2 hts gw_L_272 rfl rfl rfl (by decide +kernel) ⟨Nat.le_of_ble_eq_true rfl, Nat.le_of_ble_eq_true rfl⟩) (ps_lx hK hW (hE.at hS0 hAB) (AH hA0 hS0) hAB hTx) rfl rfl hl.1 rfl (lv_room (Nat.le_of_ble_eq_true rfl)) dL_thrown_1085 ⟨Nat.le_of_ble_eq_true rfl, Nat.le_of_ble_eq_true rfl⟩) hS0 (fun q _ h => h) (fun q h => h) (fun r u t9 H1 locs ht hvm hw hW hz1 hk1 hS0 => ?_)
              obtain ⟨e1, e2, e3⟩ := xF hM hn1 (upd f8 3 0)
              rw [e1, e2, e3] at hW
              have hw : r = (-1002) := by
                have h9 : r = w_exec c0 (upd f8 3 0) (v_tyL svQ tF) := hw
                rw [h9]
                unfold w_exec
                rw [e1]
                rfl
              have hW : LW D G X A h c0 c2 hS hn svF u1 (upd (upd f8 3 0) 4 1) H1 := LW_h ht hW
              obtain ⟨H, rfl⟩ : ∃ z, z = H1 := ⟨_, rfl⟩
              rw [hw]
              refine W.widen (k := 2916) (n := 197732) (Nat.le_of_ble_eq_true rfl) (Nat.le_of_ble_eq_true rfl) ?_
              refine lv_sipush (v := -1002) hx hb dL_thrown_1088 (by decide) ?_
              refine lv_icmp_ne (tgt := 1160) hx hb dL_thrown_1091 (by decide) (fun c_89 => absurd (by decide) c_89) (fun _ => ?_)
              refine lv_aload_n hx hb dL_thrown_1094 rfl (lv_at hl 6 rfl) ?_
              refine va_calli (vx_runSW (As := [.ref h]) (rest := []) ⟨hx, hb, hml, hown, hts⟩ (cl_L_failedCommand l hfl D G B0 X A h c0 c2 hS hn svF u1 (upd (upd f8 3 0) 4 1) H.size) (vx_cwSW (hh := [(0, 4, 5, 24)]) 1 hts gl_311 rfl rfl rfl (by decide +kernel) ⟨Nat.le_of_ble_eq_true rfl, Nat.le_of_ble_eq_true rfl⟩) (ps_lw hK hW (hE.at hS0 hAB) (AH hA0 hS0) hAB) rfl rfl hl.1 rfl (lv_room (Nat.le_of_ble_eq_true rfl)) dL_thrown_1095 ⟨Nat.le_of_ble_eq_true rfl, Nat.le_of_ble_eq_true rfl⟩) hS0 (fun q _ h => h) (fun q h => h) (fun r u90 t9 H1 locs ht hvm hw hW hz1 hk1 hS0 => ?_)
              have hX : x_fail (upd (upd f8 3 0) 4 1) = 0 := fc_0 pk_us (by decide)
              rw [hX] at hw
              have hw : r = (upd (upd f8 3 0) 4 1) 4 := hw
              have hW : LW D G X A h c0 c2 hS hn svF u1 (upd (upd f8 3 0) 4 1) H1 := LW_h ht hW
              obtain ⟨H, rfl⟩ : ∃ z, z = H1 := ⟨_, rfl⟩
              rw [hw]
              refine W.widen (k := 2917) (n := 197738) (Nat.le_of_ble_eq_true rfl) (Nat.le_of_ble_eq_true rfl) ?_
              rw [show ((upd (upd f8 3 0) 4 1) 4) = 1 from pk_us]
              refine lv_iconst (v := 1) hx hb dL_thrown_1098 (by decide) ?_
              refine lv_icmp_ne (tgt := 1160) hx hb dL_thrown_1099 (by decide) (fun c_91 => absurd (by decide) c_91) (fun _ => ?_)
              refine lv_aload_n hx hb dL_thrown_1102 rfl (lv_at hl 6 rfl) ?_
              refine va_ldcSW hx hb hown (hE.s.1 32 ("CourierBagsLaw", 313, "fill 9") rfl) dL_thrown_1103 ?_
              have hTx := StrX.of (hE.at hS0 hAB) hAB (i := 32) (by decide)
              refine va_calli (va_runS (As := [.ref h, .ref (X 2 32)]) (rest := []) ⟨hx, hb, hml, hown, hts⟩ (cl_L_runs l hfl D G B0 X A h c0 c2 hS hn svF u1 (upd (upd f8 3 0) 4 1) (X 2 32) (X 3 32) (strL.getD 32 0) (fun j => (strB.getD 32 []).getD j 0) hh svF_ok.1 svF_ok.2 hM.1.1 tN (by decide) (by decide +kernel) (by decide) (by decide +kernel) H.size) (va_cwS 2 hts gw_L_272 rfl rfl rfl (by decide +kernel) ⟨Nat.le_of_ble_eq_true rfl, Nat.le_of_ble_eq_true rfl⟩) (ps_lx hK hW (hE.at hS0 hAB) (AH hA0 hS0) hAB hTx) rfl rfl hl.1 rfl (lv_room (Nat.le_of_ble_eq_true rfl)) dL_thrown_1106 ⟨Nat.le_of_ble_eq_true rfl, Nat.le_of_ble_eq_true rfl⟩) hS0 (fun q _ h => h) (fun q h => h) (fun r u t9 H1 locs ht hvm hw hW hz1 hk1 hS0 => ?_)
              obtain ⟨e1, e2, e3⟩ := xN hM.1.1 (upd (upd f8 3 0) 4 1)
              rw [e1, e2, e3] at hW
              have hw : r = (-1002) := by
                have h9 : r = w_exec c0 (upd (upd f8 3 0) 4 1) (v_tyL svF tN) := hw
                rw [h9]
                unfold w_exec
                rw [e1]
                rfl
              have hW : LW D G X A h c0 c2 hS hn svN u1 (upd (upd (upd f8 3 0) 4 1) 4 0) H1 := LW_h ht hW
              obtain ⟨H, rfl⟩ : ∃ z, z = H1 := ⟨_, rfl⟩
              rw [hw]
              refine W.widen (k := 2979) (n := 198110) (Nat.le_of_ble_eq_true rfl) (Nat.le_of_ble_eq_true rfl) ?_
              refine lv_sipush (v := -1002) hx hb dL_thrown_1109 (by decide) ?_
              refine lv_icmp_ne (tgt := 1160) hx hb dL_thrown_1112 (by decide) (fun c_92 => absurd (by decide) c_92) (fun _ => ?_)
              refine lv_aload_n hx hb dL_thrown_1115 rfl (lv_at hl 6 rfl) ?_
              refine va_calli (vx_runSW (As := [.ref h]) (rest := []) ⟨hx, hb, hml, hown, hts⟩ (cl_L_failedCommand l hfl D G B0 X A h c0 c2 hS hn svN u1 (upd (upd (upd f8 3 0) 4 1) 4 0) H.size) (vx_cwSW (hh := [(0, 4, 5, 24)]) 1 hts gl_311 rfl rfl rfl (by decide +kernel) ⟨Nat.le_of_ble_eq_true rfl, Nat.le_of_ble_eq_true rfl⟩) (ps_lw hK hW (hE.at hS0 hAB) (AH hA0 hS0) hAB) rfl rfl hl.1 rfl (lv_room (Nat.le_of_ble_eq_true rfl)) dL_thrown_1116 ⟨Nat.le_of_ble_eq_true rfl, Nat.le_of_ble_eq_true rfl⟩) hS0 (fun q _ h => h) (fun q h => h) (fun r u93 t9 H1 locs ht hvm hw hW hz1 hk1 hS0 => ?_)
              have hX : x_fail (upd (upd (upd f8 3 0) 4 1) 4 0) = 0 := fc_0 pk_us (by decide)
              rw [hX] at hw
              have hw : r = (upd (upd (upd f8 3 0) 4 1) 4 0) 4 := hw
              have hW : LW D G X A h c0 c2 hS hn svN u1 (upd (upd (upd f8 3 0) 4 1) 4 0) H1 := LW_h ht hW
              obtain ⟨H, rfl⟩ : ∃ z, z = H1 := ⟨_, rfl⟩
              rw [hw]
              refine W.widen (k := 2980) (n := 198116) (Nat.le_of_ble_eq_true rfl) (Nat.le_of_ble_eq_true rfl) ?_
              rw [show ((upd (upd (upd f8 3 0) 4 1) 4 0) 4) = 0 from pk_us]
              refine lv_if_ne (tgt := 1160) hx hb dL_thrown_1119 (by decide) (fun c_94 => absurd (by decide) c_94) (fun _ => ?_)
              refine lv_aload_n hx hb dL_thrown_1122 rfl (lv_at hl 6 rfl) ?_
              refine va_calli (vx_runSW (As := [.ref h]) (rest := []) ⟨hx, hb, hml, hown, hts⟩ (cl_L_reason l hfl D G B0 X A h c0 c2 hS hn svN u1 (upd (upd (upd f8 3 0) 4 1) 4 0) H.size) (vx_cwSW (hh := [(0, 4, 5, 24)]) 1 hts gl_169 rfl rfl rfl (by decide +kernel) ⟨Nat.le_of_ble_eq_true rfl, Nat.le_of_ble_eq_true rfl⟩) (ps_lw hK hW (hE.at hS0 hAB) (AH hA0 hS0) hAB) rfl rfl hl.1 rfl (lv_room (Nat.le_of_ble_eq_true rfl)) dL_thrown_1123 ⟨Nat.le_of_ble_eq_true rfl, Nat.le_of_ble_eq_true rfl⟩) hS0 (fun q _ h => h) (fun q h => h) (fun r u95 t9 H1 locs ht hvm hw hW hz1 hk1 hS0 => ?_)
              have hW : LW D G X A h c0 c2 hS hn svN u1 (upd (upd (upd f8 3 0) 4 1) 4 0) H1 := LW_h ht hW
              obtain ⟨H, rfl⟩ : ∃ z, z = H1 := ⟨_, rfl⟩
              rw [hw]
              refine W.widen (k := 2981) (n := 198122) (Nat.le_of_ble_eq_true rfl) (Nat.le_of_ble_eq_true rfl) ?_
              refine lv_iload hx hb dL_thrown_1126 (lv_at hl 1 rfl) ?_
              refine lv_icmp_ne (tgt := 1160) hx hb dL_thrown_1128 (by decide) (fun c_96 => absurd ((rs_1 (by decide)).trans ((rs_1 (by decide)).trans (rs_1 (by decide)))) c_96) (fun _ => ?_)
              refine lv_aload_n hx hb dL_thrown_1131 rfl (lv_at hl 6 rfl) ?_
              refine va_calli (vx_runSW (As := [.ref h]) (rest := []) ⟨hx, hb, hml, hown, hts⟩ (cl_L_refused l hfl D G B0 X A h c0 c2 hS hn svN u1 (upd (upd (upd f8 3 0) 4 1) 4 0) H.size) (vx_cwSW (hh := [(0, 4, 5, 24)]) 1 hts gl_172 rfl rfl rfl (by decide +kernel) ⟨Nat.le_of_ble_eq_true rfl, Nat.le_of_ble_eq_true rfl⟩) (ps_lw hK hW (hE.at hS0 hAB) (AH hA0 hS0) hAB) rfl rfl hl.1 rfl (lv_room (Nat.le_of_ble_eq_true rfl)) dL_thrown_1132 ⟨Nat.le_of_ble_eq_true rfl, Nat.le_of_ble_eq_true rfl⟩) hS0 (fun q _ h => h) (fun q h => h) (fun r u97 t9 H1 locs ht hvm hw hW hz1 hk1 hS0 => ?_)
              have hW : LW D G X A h c0 c2 hS hn svN u1 (upd (upd (upd f8 3 0) 4 1) 4 0) H1 := LW_h ht hW
              obtain ⟨H, rfl⟩ : ∃ z, z = H1 := ⟨_, rfl⟩
              rw [hw]
              refine W.widen (k := 2982) (n := 198128) (Nat.le_of_ble_eq_true rfl) (Nat.le_of_ble_eq_true rfl) ?_
              refine lv_iload hx hb dL_thrown_1135 (lv_at hl 0 rfl) ?_
              refine lv_icmp_ne (tgt := 1160) hx hb dL_thrown_1137 (by decide) (fun c_98 => absurd ((rs_2 (by decide) (by decide)).trans ((rs_2 (by decide) (by decide)).trans (rs_2 (by decide) (by decide)))) c_98) (fun _ => ?_)
              refine lv_aload_n hx hb dL_thrown_1140 rfl (lv_at hl 6 rfl) ?_
              refine va_calli (vx_runSW (As := [.ref h]) (rest := []) ⟨hx, hb, hml, hown, hts⟩ (cl_L_errorPosition l hfl D G B0 X A h c0 c2 hS hn svN u1 (upd (upd (upd f8 3 0) 4 1) 4 0) H.size) (vx_cwSW (hh := [(0, 4, 5, 24)]) 1 hts gl_307 rfl rfl rfl (by decide +kernel) ⟨Nat.le_of_ble_eq_true rfl, Nat.le_of_ble_eq_true rfl⟩) (ps_lw hK hW (hE.at hS0 hAB) (AH hA0 hS0) hAB) rfl rfl hl.1 rfl (lv_room (Nat.le_of_ble_eq_true rfl)) dL_thrown_1141 ⟨Nat.le_of_ble_eq_true rfl, Nat.le_of_ble_eq_true rfl⟩) hS0 (fun q _ h => h) (fun q h => h) (fun r u99 t9 H1 locs ht hvm hw hW hz1 hk1 hS0 => ?_)
              have hX : x_errp (upd (upd (upd f8 3 0) 4 1) 4 0) = 0 := ep_0 (by rw [pk_un (by decide), pk_un (by decide), pk_us])
              rw [hX] at hw
              have hw : r = (upd (upd (upd f8 3 0) 4 1) 4 0) 3 := hw
              have hW : LW D G X A h c0 c2 hS hn svN u1 (upd (upd (upd f8 3 0) 4 1) 4 0) H1 := LW_h ht hW
              obtain ⟨H, rfl⟩ : ∃ z, z = H1 := ⟨_, rfl⟩
              rw [hw]
              refine W.widen (k := 2983) (n := 198134) (Nat.le_of_ble_eq_true rfl) (Nat.le_of_ble_eq_true rfl) ?_
              rw [show ((upd (upd (upd f8 3 0) 4 1) 4 0) 3) = 0 from by rw [pk_un (by decide), pk_un (by decide), pk_us]]
              refine lv_if_ne (tgt := 1160) hx hb dL_thrown_1144 (by decide) (fun c_100 => absurd (by decide) c_100) (fun _ => ?_)
              refine lv_aload_n hx hb dL_thrown_1147 rfl (lv_at hl 6 rfl) ?_
              refine va_calll (va_runS (As := [.ref h]) (rest := []) ⟨hx, hb, hml, hown, hts⟩ (cl_L_asks l hfl D G B0 X A h c0 c2 hS hn svN u1 (upd (upd (upd f8 3 0) 4 1) 4 0) hM.1.1 (hM.1.id (by decide)) hM.1.ly H.size) (va_cwS 1 hts gw_L_278 rfl rfl rfl (by decide +kernel) ⟨Nat.le_of_ble_eq_true rfl, Nat.le_of_ble_eq_true rfl⟩) (ps_lw hK hW (hE.at hS0 hAB) (AH hA0 hS0) hAB) rfl rfl hl.1 rfl (lv_room (Nat.le_of_ble_eq_true rfl)) dL_thrown_1148 ⟨Nat.le_of_ble_eq_true rfl, Nat.le_of_ble_eq_true rfl⟩) hS0 (fun q _ h => h) (fun q h => h) (fun r u101 t9 H1 locs ht hvm hw hW hz1 hk1 hS0 => ?_)
              have hW : LW D G X A h c0 c2 hS hn svN u101 (upd (upd (upd f8 3 0) 4 1) 4 0) H1 := LW_h ht hW
              obtain ⟨H, rfl⟩ : ∃ z, z = H1 := ⟨_, rfl⟩
              rw [hw]
              refine W.widen (k := 4183) (n := 348134) (Nat.le_of_ble_eq_true rfl) (Nat.le_of_ble_eq_true rfl) ?_
              refine lv_lload_n hx hb dL_thrown_1151 rfl (lv_at hl 5 rfl) ?_
              refine W.lcmp hx hb dL_thrown_1152 ?_
              rw [lg_self]
              refine lv_if_ne (tgt := 1160) hx hb dL_thrown_1153 (by decide) (fun c_102 => absurd (by decide) c_102) (fun _ => ?_)
              refine lv_iconst (v := 1) hx hb dL_thrown_1156 (by decide) ?_
              refine lv_goto (tgt := 1161) hx hb dL_thrown_1157 (by decide) ?_
              refine W.widen (k := 5000) (n := 360000) (Nat.le_of_ble_eq_true rfl) (Nat.le_of_ble_eq_true rfl) ?_
              exact W.zret (ty := .boolean) (v := 1) hx hb hr (by decide) (fun t ht hWm => ⟨⟨_, (u101, upd (upd (upd f8 3 0) 4 1) 4 0), rfl, rfl, LW_t ht hW⟩, hS0.F ht⟩) hS0.2.2 dL_thrown_1161
            | succ m8 ih2 =>
              intro k hk2 f8 H locs  hW hS0 ls hl
              have hlt2 : k < cN c0 := by omega
              refine W.widen (k := (1589 + (1200 - 100 * (m8 + 1))) + 0) (n := (189770 + (7200 - 600 * (m8 + 1))) + 0) (by omega) (by omega) ?_
              refine lv_iload hx hb dL_thrown_715 (lv_at hl 0 rfl) ?_
              refine lv_iload_n hx hb dL_thrown_717 rfl (lv_at hl 3 rfl) ?_
              refine lv_icmp_ge (tgt := 1044) hx hb dL_thrown_718 (by decide) (fun c_103 => absurd c_103 (nI_ge (a := k) (b := (cN c0)) (by omega) (by omega))) (fun _ => ?_)
              refine lv_aload_n hx hb dL_thrown_721 rfl (lv_at hl 5 rfl) ?_
              refine lv_iload hx hb dL_thrown_722 (lv_at hl 0 rfl) ?_
              refine va_calli (vx_runSW (As := [.ref h, .int (nI k)]) (rest := []) ⟨hx, hb, hml, hown, hts⟩ (cl_L_itemAtRank l hfl D G B0 X A h c0 c2 hS hn sv0 u1 f8 (nI k) H.size) (vx_cwSW (hh := [(0, 5, 6, 30)]) 2 hts gl_236 rfl rfl rfl (by decide +kernel) ⟨Nat.le_of_ble_eq_true rfl, Nat.le_of_ble_eq_true rfl⟩) (ps_lw hK hW (hE.at hS0 hAB) (AH hA0 hS0) hAB) rfl rfl hl.1 rfl (lv_room (Nat.le_of_ble_eq_true rfl)) dL_thrown_724 ⟨(show (1589 + (1200 - 100 * (m8 + 1))) + 0 + 1 ≤ 5000 by omega), (show (189770 + (7200 - 600 * (m8 + 1))) + 0 + 6 ≤ 360000 by omega)⟩) hS0 (fun q _ h => h) (fun q h => h) (fun r u104 t9 H1 locs ht hvm hw hW hz1 hk1 hS0 => ?_)
              have hX : x_rank c0 (nI k) = 0 := (rank_in hM hlt2).1
              rw [hX] at hw
              have hw : r = itm c0 (s_findRank c0 (nI k)) 0 := hw
              have hW : LW D G X A h c0 c2 hS hn sv0 u1 f8 H1 := LW_h ht hW
              obtain ⟨H, rfl⟩ : ∃ z, z = H1 := ⟨_, rfl⟩
              rw [hw]
              refine W.widen (k := (1589 + (1200 - 100 * (m8 + 1))) + 1) (n := (189770 + (7200 - 600 * (m8 + 1))) + 6) (by omega) (by omega) ?_
              have hR := rank_in hM hlt2
              obtain ⟨id, hid9⟩ : ∃ z, z = itm c0 (s_findRank c0 (nI k)) 0 := ⟨_, rfl⟩
              rw [← hid9]
              have hT := (find_there hR.2.2 hR.2.1 hid9.symm).1
              refine lv_istore (lv' := [(7, .int id), (6, .int (nI k)), (5, .int 1), (4, .int (nI (nbg c0))), (3, .int (nI (cN c0))), (1, .long (ask_v c0)), (0, .ref h)]) hx hb dL_thrown_727 hl (by decide) rfl (fun ls hl => ?_)
              refine lv_iload hx hb dL_thrown_729 (lv_at hl 2 rfl) ?_
              refine lv_if_eq (tgt := 765) hx hb dL_thrown_731 (by decide) (fun c_105 => absurd c_105 (by decide)) (fun _ => ?_)
              refine lv_aload_n hx hb dL_thrown_734 rfl (lv_at hl 6 rfl) ?_
              refine lv_iload hx hb dL_thrown_735 (lv_at hl 0 rfl) ?_
              refine lv_iload hx hb dL_thrown_737 (lv_at hl 3 rfl) ?_
              refine va_calli (vx_runSW (As := [.ref h, .int id, .int (nI (nbg c0))]) (rest := []) ⟨hx, hb, hml, hown, hts⟩ (cl_L_pack l hfl D G B0 X A h c0 c2 hS hn sv0 u1 f8 id (nI (nbg c0)) hh H.size) (vx_cwSW (hh := [(0, 6, 7, 24), (0, 6, 12, 30), (0, 6, 17, 15), (0, 6, 22, 32)]) 3 hts gl_192 rfl rfl rfl (by decide +kernel) ⟨Nat.le_of_ble_eq_true rfl, Nat.le_of_ble_eq_true rfl⟩) (ps_lw hK hW (hE.at hS0 hAB) (AH hA0 hS0) hAB) rfl rfl hl.1 rfl (lv_room (Nat.le_of_ble_eq_true rfl)) dL_thrown_739 ⟨(show (1589 + (1200 - 100 * (m8 + 1))) + 1 + 1 ≤ 5000 by omega), (show (189770 + (7200 - 600 * (m8 + 1))) + 6 + 6 ≤ 360000 by omega)⟩) hS0 (fun q _ h => h) (fun q h => h) (fun r u106 t9 H1 locs ht hvm hw hW hz1 hk1 hS0 => ?_)
              have hX : f_load c0 id (nI (nbg c0)) = 3 := it_load_m hT (nb_n hM.1.1)
              rw [hX] at hw hW
              have hw : r = (-1002) := hw
              have hW : LW D G X A h c0 c2 hS hn sv0 u1 f8 H1 := LW_h ht hW
              obtain ⟨H, rfl⟩ : ∃ z, z = H1 := ⟨_, rfl⟩
              rw [hw]
              refine W.widen (k := (1589 + (1200 - 100 * (m8 + 1))) + 2) (n := (189770 + (7200 - 600 * (m8 + 1))) + 12) (by omega) (by omega) ?_
              refine lv_sipush (v := -1002) hx hb dL_thrown_742 (by decide) ?_
              refine lv_icmp_ne (tgt := 765) hx hb dL_thrown_745 (by decide) (fun c_107 => absurd (by decide) c_107) (fun _ => ?_)
              refine lv_aload_n hx hb dL_thrown_748 rfl (lv_at hl 6 rfl) ?_
              refine lv_iload hx hb dL_thrown_749 (lv_at hl 0 rfl) ?_
              refine lv_iconst (v := -1) hx hb dL_thrown_751 (by decide) ?_
              refine va_calli (vx_runSW (As := [.ref h, .int id, .int (-1)]) (rest := []) ⟨hx, hb, hml, hown, hts⟩ (cl_L_canPack l hfl D G B0 X A h c0 c2 hS hn sv0 u1 f8 id (-1) H.size) (vx_cwSW (hh := [(0, 14, 15, 24), (0, 14, 20, 30)]) 3 hts gl_282 rfl rfl rfl (by decide +kernel) ⟨Nat.le_of_ble_eq_true rfl, Nat.le_of_ble_eq_true rfl⟩) (ps_lw hK hW (hE.at hS0 hAB) (AH hA0 hS0) hAB) rfl rfl hl.1 rfl (lv_room (Nat.le_of_ble_eq_true rfl)) dL_thrown_752 ⟨(show (1589 + (1200 - 100 * (m8 + 1))) + 2 + 2 ≤ 5000 by omega), (show (189770 + (7200 - 600 * (m8 + 1))) + 12 + 12 ≤ 360000 by omega)⟩) hS0 (fun q _ h => h) (fun q h => h) (fun r u108 t9 H1 locs ht hvm hw hW hz1 hk1 hS0 => ?_)
              have hX : x_canPack c0 id (-1) = 3 := it_can3 hT (nb_m1 c0)
              rw [hX] at hw
              have hw : r = (-1002) := hw
              have hW : LW D G X A h c0 c2 hS hn sv0 u1 f8 H1 := LW_h ht hW
              obtain ⟨H, rfl⟩ : ∃ z, z = H1 := ⟨_, rfl⟩
              rw [hw]
              refine W.widen (k := (1589 + (1200 - 100 * (m8 + 1))) + 4) (n := (189770 + (7200 - 600 * (m8 + 1))) + 24) (by omega) (by omega) ?_
              refine lv_sipush (v := -1002) hx hb dL_thrown_755 (by decide) ?_
              refine lv_icmp_ne (tgt := 765) hx hb dL_thrown_758 (by decide) (fun c_109 => absurd (by decide) c_109) (fun _ => ?_)
              refine lv_iconst (v := 1) hx hb dL_thrown_761 (by decide) ?_
              refine lv_goto (tgt := 766) hx hb dL_thrown_762 (by decide) ?_
              refine lv_istore (lv' := [(5, .int 1), (7, .int id), (6, .int (nI k)), (4, .int (nI (nbg c0))), (3, .int (nI (cN c0))), (1, .long (ask_v c0)), (0, .ref h)]) hx hb dL_thrown_766 hl (by decide) rfl (fun ls hl => ?_)
              refine lv_aload_n hx hb dL_thrown_768 rfl (lv_at hl 6 rfl) ?_
              refine lv_iload hx hb dL_thrown_769 (lv_at hl 1 rfl) ?_
              refine va_calli (vx_runSW (As := [.ref h, .int id]) (rest := []) ⟨hx, hb, hml, hown, hts⟩ (cl_L_isPacked l hfl D G B0 X A h c0 c2 hS hn sv0 u1 f8 id H.size) (vx_cwSW (hh := [(0, 13, 14, 24)]) 2 hts gl_284 rfl rfl rfl (by decide +kernel) ⟨Nat.le_of_ble_eq_true rfl, Nat.le_of_ble_eq_true rfl⟩) (ps_lw hK hW (hE.at hS0 hAB) (AH hA0 hS0) hAB) rfl rfl hl.1 rfl (lv_room (Nat.le_of_ble_eq_true rfl)) dL_thrown_771 ⟨(show (1589 + (1200 - 100 * (m8 + 1))) + 4 + 1 ≤ 5000 by omega), (show (189770 + (7200 - 600 * (m8 + 1))) + 24 + 6 ≤ 360000 by omega)⟩) hS0 (fun q _ h => h) (fun q h => h) (fun r u110 t9 H1 locs ht hvm hw hW hz1 hk1 hS0 => ?_)
              have hX : x_item c0 id = 0 := it_item hT
              rw [hX] at hw
              have hw : r = bi (p_inbag (itm c0 (s_find c0 id))) := hw
              have hW : LW D G X A h c0 c2 hS hn sv0 u1 f8 H1 := LW_h ht hW
              obtain ⟨H, rfl⟩ : ∃ z, z = H1 := ⟨_, rfl⟩
              rw [hw]
              refine W.widen (k := (1589 + (1200 - 100 * (m8 + 1))) + 5) (n := (189770 + (7200 - 600 * (m8 + 1))) + 30) (by omega) (by omega) ?_
              cases hI : p_inbag (itm c0 (s_find c0 id))
              case false =>
                refine lv_iconst (v := 1) hx hb dL_thrown_774 (by decide) ?_
                refine lv_icmp_ne (tgt := 873) hx hb dL_thrown_775 (by decide) (fun _ => ?_) (fun c_111 => absurd c_111 (by decide))
                refine lv_iload hx hb dL_thrown_873 (lv_at hl 0 rfl) ?_
                refine lv_if_eq (tgt := 918) hx hb dL_thrown_875 (by decide) (fun c_112 => absurd c_112 (by decide)) (fun _ => ?_)
                refine lv_aload_n hx hb dL_thrown_878 rfl (lv_at hl 6 rfl) ?_
                refine lv_iload hx hb dL_thrown_879 (lv_at hl 1 rfl) ?_
                refine va_calli (vx_runSW (As := [.ref h, .int id]) (rest := []) ⟨hx, hb, hml, hown, hts⟩ (cl_L_unpack l hfl D G B0 X A h c0 c2 hS hn sv0 u1 f8 id hh H.size) (vx_cwSW (hh := [(0, 5, 6, 24), (0, 5, 11, 15)]) 2 hts gl_250 rfl rfl rfl (by decide +kernel) ⟨Nat.le_of_ble_eq_true rfl, Nat.le_of_ble_eq_true rfl⟩) (ps_lw hK hW (hE.at hS0 hAB) (AH hA0 hS0) hAB) rfl rfl hl.1 rfl (lv_room (Nat.le_of_ble_eq_true rfl)) dL_thrown_881 ⟨(show (1589 + (1200 - 100 * (m8 + 1))) + 5 + 1 ≤ 5000 by omega), (show (189770 + (7200 - 600 * (m8 + 1))) + 30 + 6 ≤ 360000 by omega)⟩) hS0 (fun q _ h => h) (fun q h => h) (fun r u113 t9 H1 locs ht hvm hw hW hz1 hk1 hS0 => ?_)
                have hX : f_unload c0 id = 4 := it_unload4 hT hI
                rw [hX] at hw hW
                have hw : r = (-1002) := hw
                have hW : LW D G X A h c0 c2 hS hn sv0 u1 f8 H1 := LW_h ht hW
                obtain ⟨H, rfl⟩ : ∃ z, z = H1 := ⟨_, rfl⟩
                rw [hw]
                refine W.widen (k := (1589 + (1200 - 100 * (m8 + 1))) + 6) (n := (189770 + (7200 - 600 * (m8 + 1))) + 36) (by omega) (by omega) ?_
                refine lv_sipush (v := -1002) hx hb dL_thrown_884 (by decide) ?_
                refine lv_icmp_ne (tgt := 918) hx hb dL_thrown_887 (by decide) (fun c_114 => absurd (by decide) c_114) (fun _ => ?_)
                refine lv_aload_n hx hb dL_thrown_890 rfl (lv_at hl 6 rfl) ?_
                refine lv_iload hx hb dL_thrown_891 (lv_at hl 1 rfl) ?_
                refine va_calli (vx_runSW (As := [.ref h, .int id]) (rest := []) ⟨hx, hb, hml, hown, hts⟩ (cl_L_bagOf l hfl D G B0 X A h c0 c2 hS hn sv0 u1 f8 id H.size) (vx_cwSW (hh := [(0, 5, 6, 24)]) 2 hts gl_246 rfl rfl rfl (by decide +kernel) ⟨Nat.le_of_ble_eq_true rfl, Nat.le_of_ble_eq_true rfl⟩) (ps_lw hK hW (hE.at hS0 hAB) (AH hA0 hS0) hAB) rfl rfl hl.1 rfl (lv_room (Nat.le_of_ble_eq_true rfl)) dL_thrown_893 ⟨(show (1589 + (1200 - 100 * (m8 + 1))) + 6 + 1 ≤ 5000 by omega), (show (189770 + (7200 - 600 * (m8 + 1))) + 36 + 6 ≤ 360000 by omega)⟩) hS0 (fun q _ h => h) (fun q h => h) (fun r u115 t9 H1 locs ht hvm hw hW hz1 hk1 hS0 => ?_)
                have hX : x_packed c0 id = 2 := it_packed2 hI
                rw [hX] at hw
                have hw : r = (-1001) := hw
                have hW : LW D G X A h c0 c2 hS hn sv0 u1 f8 H1 := LW_h ht hW
                obtain ⟨H, rfl⟩ : ∃ z, z = H1 := ⟨_, rfl⟩
                rw [hw]
                refine W.widen (k := (1589 + (1200 - 100 * (m8 + 1))) + 7) (n := (189770 + (7200 - 600 * (m8 + 1))) + 42) (by omega) (by omega) ?_
                refine lv_sipush (v := -1001) hx hb dL_thrown_896 (by decide) ?_
                refine lv_icmp_ne (tgt := 918) hx hb dL_thrown_899 (by decide) (fun c_116 => absurd (by decide) c_116) (fun _ => ?_)
                refine lv_aload_n hx hb dL_thrown_902 rfl (lv_at hl 6 rfl) ?_
                refine lv_iload hx hb dL_thrown_903 (lv_at hl 1 rfl) ?_
                refine va_calli (vx_runSW (As := [.ref h, .int id]) (rest := []) ⟨hx, hb, hml, hown, hts⟩ (cl_L_layerOf l hfl D G B0 X A h c0 c2 hS hn sv0 u1 f8 id H.size) (vx_cwSW (hh := [(0, 5, 6, 24)]) 2 hts gl_286 rfl rfl rfl (by decide +kernel) ⟨Nat.le_of_ble_eq_true rfl, Nat.le_of_ble_eq_true rfl⟩) (ps_lw hK hW (hE.at hS0 hAB) (AH hA0 hS0) hAB) rfl rfl hl.1 rfl (lv_room (Nat.le_of_ble_eq_true rfl)) dL_thrown_905 ⟨(show (1589 + (1200 - 100 * (m8 + 1))) + 7 + 1 ≤ 5000 by omega), (show (189770 + (7200 - 600 * (m8 + 1))) + 42 + 6 ≤ 360000 by omega)⟩) hS0 (fun q _ h => h) (fun q h => h) (fun r u117 t9 H1 locs ht hvm hw hW hz1 hk1 hS0 => ?_)
                have hX : x_packed c0 id = 2 := it_packed2 hI
                rw [hX] at hw
                have hw : r = (-1001) := hw
                have hW : LW D G X A h c0 c2 hS hn sv0 u1 f8 H1 := LW_h ht hW
                obtain ⟨H, rfl⟩ : ∃ z, z = H1 := ⟨_, rfl⟩
                rw [hw]
                refine W.widen (k := (1589 + (1200 - 100 * (m8 + 1))) + 8) (n := (189770 + (7200 - 600 * (m8 + 1))) + 48) (by omega) (by omega) ?_
                refine lv_sipush (v := -1001) hx hb dL_thrown_908 (by decide) ?_
                refine lv_icmp_ne (tgt := 918) hx hb dL_thrown_911 (by decide) (fun c_118 => absurd (by decide) c_118) (fun _ => ?_)
                refine lv_iconst (v := 1) hx hb dL_thrown_914 (by decide) ?_
                refine lv_goto (tgt := 919) hx hb dL_thrown_915 (by decide) ?_
                refine lv_istore (lv' := [(5, .int 1), (7, .int id), (6, .int (nI k)), (4, .int (nI (nbg c0))), (3, .int (nI (cN c0))), (1, .long (ask_v c0)), (0, .ref h)]) hx hb dL_thrown_919 hl (by decide) rfl (fun ls hl => ?_)
                refine lv_iconst (v := 0) hx hb dL_thrown_921 (by decide) ?_
                refine lv_istore (lv' := [(8, .int 0), (5, .int 1), (7, .int id), (6, .int (nI k)), (4, .int (nI (nbg c0))), (3, .int (nI (cN c0))), (1, .long (ask_v c0)), (0, .ref h)]) hx hb dL_thrown_922 hl (by decide) rfl (fun ls hl => ?_)
                have L924 : ∀ (m7 i : Nat), i + m7 = nbg c0 → ∀ (f7 : Nat → Int32) (H : Heap) (locs : List Loc), LW D G X A h c0 c2 hS hn sv0 u1 f7 H → va_S A s.heap H locs → ∀ ls : Array Slot, lv_has ls 9 [(8, .int (nI i)), (5, .int 1), (7, .int id), (6, .int (nI k)), (4, .int (nI (nbg c0))), (3, .int (nI (cN c0))), (1, .long (ask_v c0)), (0, .ref h)] → W p9 l e (headSpec (wA yL_thrown cL_thrown 9 (some .boolean)) ({ frames := 18, cells := 5000, slots := 360000, locals := 451 } : Room)).room s m ([.ref h] : List Value).toArray below meth c9 H locs ((1589 + (1200 - 100 * (m8 + 1))) + 8 + (60 - 20 * m7)) ((189770 + (7200 - 600 * (m8 + 1))) + 48 + (360 - 120 * m7)) (MQ below (va_Qi (fun (r : Int32) (_ : List Int32 × (Nat → Int32)) => r = 1) (fun u t9 => LW D G X A h c0 c2 hS hn svN u.1 u.2 t9.heap) A) ([.ref h] : List Value).toArray s 5000 360000 A) (F0 m 924 ls []) := by
                  intro m7
                  induction m7 with
                  | zero =>
                    intro i hk3 f7 H locs  hW hS0 ls hl
                    obtain rfl : i = nbg c0 := by omega
                    refine W.widen (k := (1589 + (1200 - 100 * (m8 + 1))) + 68) (n := (189770 + (7200 - 600 * (m8 + 1))) + 408) (by omega) (by omega) ?_
                    refine lv_iload hx hb dL_thrown_924 (lv_at hl 0 rfl) ?_
                    refine lv_iload hx hb dL_thrown_926 (lv_at hl 4 rfl) ?_
                    refine lv_icmp_ge (tgt := 1038) hx hb dL_thrown_928 (by decide) (fun _ => ?_) (fun c_119 => absurd (nI_le (a := (nbg c0)) (b := (nbg c0)) (by omega) (by omega)) c_119)
                    refine lv_iinc (v := nI (k + 1)) (lv' := [(6, .int (nI (k + 1))), (8, .int (nI (nbg c0))), (5, .int 1), (7, .int id), (4, .int (nI (nbg c0))), (3, .int (nI (cN c0))), (1, .long (ask_v c0)), (0, .ref h)]) hx hb dL_thrown_1038 hl (k := 3) rfl (by exact nI_1 k) (by decide) rfl (fun ls hl => ?_)
                    refine lv_goto (tgt := 715) hx hb dL_thrown_1041 (by decide) ?_
                    refine W.widen (k := (1589 + (1200 - 100 * m8))) (n := (189770 + (7200 - 600 * m8))) (by omega) (by omega) ?_
                    exact ih2 (k + 1) (by omega) f7 _ _ hW hS0 ls (lv_sub hl [0, 2, 4, 5, 6, 7] rfl)
                  | succ m7 ih3 =>
                    intro i hk3 f7 H locs  hW hS0 ls hl
                    have hlt3 : i < nbg c0 := by omega
                    refine W.widen (k := ((1589 + (1200 - 100 * (m8 + 1))) + 8 + (60 - 20 * (m7 + 1))) + 0) (n := ((189770 + (7200 - 600 * (m8 + 1))) + 48 + (360 - 120 * (m7 + 1))) + 0) (by omega) (by omega) ?_
                    refine lv_iload hx hb dL_thrown_924 (lv_at hl 0 rfl) ?_
                    refine lv_iload hx hb dL_thrown_926 (lv_at hl 4 rfl) ?_
                    refine lv_icmp_ge (tgt := 1038) hx hb dL_thrown_928 (by decide) (fun c_120 => absurd c_120 (nI_ge (a := i) (b := (nbg c0)) (by omega) (by omega))) (fun _ => ?_)
                    refine lv_aload_n hx hb dL_thrown_931 rfl (lv_at hl 7 rfl) ?_
                    refine lv_iload hx hb dL_thrown_932 (lv_at hl 2 rfl) ?_
                    refine lv_iload hx hb dL_thrown_934 (lv_at hl 0 rfl) ?_
                    refine va_calli (vx_runSW (As := [.ref h, .int id, .int (nI i)]) (rest := []) ⟨hx, hb, hml, hown, hts⟩ (cl_L_canPack l hfl D G B0 X A h c0 c2 hS hn sv0 u1 f7 id (nI i) H.size) (vx_cwSW (hh := [(0, 14, 15, 24), (0, 14, 20, 30)]) 3 hts gl_282 rfl rfl rfl (by decide +kernel) ⟨Nat.le_of_ble_eq_true rfl, Nat.le_of_ble_eq_true rfl⟩) (ps_lw hK hW (hE.at hS0 hAB) (AH hA0 hS0) hAB) rfl rfl hl.1 rfl (lv_room (Nat.le_of_ble_eq_true rfl)) dL_thrown_936 ⟨(show ((1589 + (1200 - 100 * (m8 + 1))) + 8 + (60 - 20 * (m7 + 1))) + 0 + 2 ≤ 5000 by omega), (show ((189770 + (7200 - 600 * (m8 + 1))) + 48 + (360 - 120 * (m7 + 1))) + 0 + 12 ≤ 360000 by omega)⟩) hS0 (fun q _ h => h) (fun q h => h) (fun r u121 t9 H1 locs ht hvm hw hW hz1 hk1 hS0 => ?_)
                    have hX : x_canPack c0 id (nI i) = 0 := it_can0 hT (hasBag_in hM.1.1 hlt3)
                    rw [hX] at hw
                    have hw : r = bi (s_canPack c0 id (nI i)) := hw
                    have hW : LW D G X A h c0 c2 hS hn sv0 u1 f7 H1 := LW_h ht hW
                    obtain ⟨H, rfl⟩ : ∃ z, z = H1 := ⟨_, rfl⟩
                    rw [hw]
                    refine W.widen (k := ((1589 + (1200 - 100 * (m8 + 1))) + 8 + (60 - 20 * (m7 + 1))) + 2) (n := ((189770 + (7200 - 600 * (m8 + 1))) + 48 + (360 - 120 * (m7 + 1))) + 12) (by omega) (by omega) ?_
                    cases hC : s_canPack c0 id (nI i)
                    case false =>
                      refine lv_iconst (v := 1) hx hb dL_thrown_939 (by decide) ?_
                      refine lv_icmp_ne (tgt := 946) hx hb dL_thrown_940 (by decide) (fun _ => ?_) (fun c_122 => absurd c_122 (by decide))
                      refine lv_iload hx hb dL_thrown_946 (lv_at hl 1 rfl) ?_
                      refine lv_if_eq (tgt := 1029) hx hb dL_thrown_948 (by decide) (fun c_123 => absurd c_123 (by decide)) (fun _ => ?_)
                      refine lv_aload_n hx hb dL_thrown_951 rfl (lv_at hl 7 rfl) ?_
                      refine lv_iload hx hb dL_thrown_952 (lv_at hl 2 rfl) ?_
                      refine lv_iload hx hb dL_thrown_954 (lv_at hl 0 rfl) ?_
                      refine va_calli (vx_runSW (As := [.ref h, .int id, .int (nI i)]) (rest := []) ⟨hx, hb, hml, hown, hts⟩ (cl_L_pack l hfl D G B0 X A h c0 c2 hS hn sv0 u1 f7 id (nI i) hh H.size) (vx_cwSW (hh := [(0, 6, 7, 24), (0, 6, 12, 30), (0, 6, 17, 15), (0, 6, 22, 32)]) 3 hts gl_192 rfl rfl rfl (by decide +kernel) ⟨Nat.le_of_ble_eq_true rfl, Nat.le_of_ble_eq_true rfl⟩) (ps_lw hK hW (hE.at hS0 hAB) (AH hA0 hS0) hAB) rfl rfl hl.1 rfl (lv_room (Nat.le_of_ble_eq_true rfl)) dL_thrown_956 ⟨(show ((1589 + (1200 - 100 * (m8 + 1))) + 8 + (60 - 20 * (m7 + 1))) + 2 + 1 ≤ 5000 by omega), (show ((189770 + (7200 - 600 * (m8 + 1))) + 48 + (360 - 120 * (m7 + 1))) + 12 + 6 ≤ 360000 by omega)⟩) hS0 (fun q _ h => h) (fun q h => h) (fun r u124 t9 H1 locs ht hvm hw hW hz1 hk1 hS0 => ?_)
                      have hX : f_load c0 id (nI i) = 5 := it_load5 hT (hasBag_in hM.1.1 hlt3) hI hC
                      rw [hX] at hw hW
                      have hw : r = (-1004) := hw
                      have hW : LW D G X A h c0 c2 hS hn sv0 u1 (m_keep c0 f7 5 id (nI i)) H1 := LW_h ht hW
                      obtain ⟨H, rfl⟩ : ∃ z, z = H1 := ⟨_, rfl⟩
                      rw [hw]
                      refine W.widen (k := ((1589 + (1200 - 100 * (m8 + 1))) + 8 + (60 - 20 * (m7 + 1))) + 3) (n := ((189770 + (7200 - 600 * (m8 + 1))) + 48 + (360 - 120 * (m7 + 1))) + 18) (by omega) (by omega) ?_
                      have hX5 := hX
                      have hr0 := (rf_ne hX5).1
                      refine lv_sipush (v := -1004) hx hb dL_thrown_959 (by decide) ?_
                      refine lv_icmp_ne (tgt := 1029) hx hb dL_thrown_962 (by decide) (fun c_125 => absurd (by decide) c_125) (fun _ => ?_)
                      refine lv_aload_n hx hb dL_thrown_965 rfl (lv_at hl 7 rfl) ?_
                      refine va_calli (vx_runSW (As := [.ref h]) (rest := []) ⟨hx, hb, hml, hown, hts⟩ (cl_L_refused l hfl D G B0 X A h c0 c2 hS hn sv0 u1 (m_keep c0 f7 5 id (nI i)) H.size) (vx_cwSW (hh := [(0, 4, 5, 24)]) 1 hts gl_172 rfl rfl rfl (by decide +kernel) ⟨Nat.le_of_ble_eq_true rfl, Nat.le_of_ble_eq_true rfl⟩) (ps_lw hK hW (hE.at hS0 hAB) (AH hA0 hS0) hAB) rfl rfl hl.1 rfl (lv_room (Nat.le_of_ble_eq_true rfl)) dL_thrown_966 ⟨(show ((1589 + (1200 - 100 * (m8 + 1))) + 8 + (60 - 20 * (m7 + 1))) + 3 + 1 ≤ 5000 by omega), (show ((189770 + (7200 - 600 * (m8 + 1))) + 48 + (360 - 120 * (m7 + 1))) + 18 + 6 ≤ 360000 by omega)⟩) hS0 (fun q _ h => h) (fun q h => h) (fun r u126 t9 H1 locs ht hvm hw hW hz1 hk1 hS0 => ?_)
                      have hX : x_reason (m_keep c0 f7 5 id (nI i)) = 0 := keep_x hr0
                      rw [hX] at hw
                      have hw : r = (m_keep c0 f7 5 id (nI i)) 2 := hw
                      have hW : LW D G X A h c0 c2 hS hn sv0 u1 (m_keep c0 f7 5 id (nI i)) H1 := LW_h ht hW
                      obtain ⟨H, rfl⟩ : ∃ z, z = H1 := ⟨_, rfl⟩
                      rw [hw]
                      refine W.widen (k := ((1589 + (1200 - 100 * (m8 + 1))) + 8 + (60 - 20 * (m7 + 1))) + 4) (n := ((189770 + (7200 - 600 * (m8 + 1))) + 48 + (360 - 120 * (m7 + 1))) + 24) (by omega) (by omega) ?_
                      rw [show ((m_keep c0 f7 5 id (nI i)) 2) = id from keep_2]
                      refine lv_iload hx hb dL_thrown_969 (lv_at hl 2 rfl) ?_
                      refine lv_icmp_ne (tgt := 1029) hx hb dL_thrown_971 (by decide) (fun c_127 => absurd rfl c_127) (fun _ => ?_)
                      refine lv_aload_n hx hb dL_thrown_974 rfl (lv_at hl 7 rfl) ?_
                      refine va_calli (vx_runSW (As := [.ref h]) (rest := []) ⟨hx, hb, hml, hown, hts⟩ (cl_L_reason l hfl D G B0 X A h c0 c2 hS hn sv0 u1 (m_keep c0 f7 5 id (nI i)) H.size) (vx_cwSW (hh := [(0, 4, 5, 24)]) 1 hts gl_169 rfl rfl rfl (by decide +kernel) ⟨Nat.le_of_ble_eq_true rfl, Nat.le_of_ble_eq_true rfl⟩) (ps_lw hK hW (hE.at hS0 hAB) (AH hA0 hS0) hAB) rfl rfl hl.1 rfl (lv_room (Nat.le_of_ble_eq_true rfl)) dL_thrown_975 ⟨(show ((1589 + (1200 - 100 * (m8 + 1))) + 8 + (60 - 20 * (m7 + 1))) + 4 + 1 ≤ 5000 by omega), (show ((189770 + (7200 - 600 * (m8 + 1))) + 48 + (360 - 120 * (m7 + 1))) + 24 + 6 ≤ 360000 by omega)⟩) hS0 (fun q _ h => h) (fun q h => h) (fun r u128 t9 H1 locs ht hvm hw hW hz1 hk1 hS0 => ?_)
                      have hX : x_reason (m_keep c0 f7 5 id (nI i)) = 0 := keep_x hr0
                      rw [hX] at hw
                      have hw : r = (m_keep c0 f7 5 id (nI i)) 1 := hw
                      have hW : LW D G X A h c0 c2 hS hn sv0 u1 (m_keep c0 f7 5 id (nI i)) H1 := LW_h ht hW
                      obtain ⟨H, rfl⟩ : ∃ z, z = H1 := ⟨_, rfl⟩
                      rw [hw]
                      refine W.widen (k := ((1589 + (1200 - 100 * (m8 + 1))) + 8 + (60 - 20 * (m7 + 1))) + 5) (n := ((189770 + (7200 - 600 * (m8 + 1))) + 48 + (360 - 120 * (m7 + 1))) + 30) (by omega) (by omega) ?_
                      rw [show ((m_keep c0 f7 5 id (nI i)) 1) = s_refusal c0 (s_find c0 id) (nI i) from keep_1]
                      refine lv_if_le (tgt := 1029) hx hb dL_thrown_978 (by decide) (fun c_129 => absurd c_129 (rf_ne hX5).2.1) (fun _ => ?_)
                      refine lv_aload_n hx hb dL_thrown_981 rfl (lv_at hl 7 rfl) ?_
                      refine va_calli (vx_runSW (As := [.ref h]) (rest := []) ⟨hx, hb, hml, hown, hts⟩ (cl_L_reason l hfl D G B0 X A h c0 c2 hS hn sv0 u1 (m_keep c0 f7 5 id (nI i)) H.size) (vx_cwSW (hh := [(0, 4, 5, 24)]) 1 hts gl_169 rfl rfl rfl (by decide +kernel) ⟨Nat.le_of_ble_eq_true rfl, Nat.le_of_ble_eq_true rfl⟩) (ps_lw hK hW (hE.at hS0 hAB) (AH hA0 hS0) hAB) rfl rfl hl.1 rfl (lv_room (Nat.le_of_ble_eq_true rfl)) dL_thrown_982 ⟨(show ((1589 + (1200 - 100 * (m8 + 1))) + 8 + (60 - 20 * (m7 + 1))) + 5 + 1 ≤ 5000 by omega), (show ((189770 + (7200 - 600 * (m8 + 1))) + 48 + (360 - 120 * (m7 + 1))) + 30 + 6 ≤ 360000 by omega)⟩) hS0 (fun q _ h => h) (fun q h => h) (fun r u130 t9 H1 locs ht hvm hw hW hz1 hk1 hS0 => ?_)
                      have hX : x_reason (m_keep c0 f7 5 id (nI i)) = 0 := keep_x hr0
                      rw [hX] at hw
                      have hw : r = (m_keep c0 f7 5 id (nI i)) 1 := hw
                      have hW : LW D G X A h c0 c2 hS hn sv0 u1 (m_keep c0 f7 5 id (nI i)) H1 := LW_h ht hW
                      obtain ⟨H, rfl⟩ : ∃ z, z = H1 := ⟨_, rfl⟩
                      rw [hw]
                      refine W.widen (k := ((1589 + (1200 - 100 * (m8 + 1))) + 8 + (60 - 20 * (m7 + 1))) + 6) (n := ((189770 + (7200 - 600 * (m8 + 1))) + 48 + (360 - 120 * (m7 + 1))) + 36) (by omega) (by omega) ?_
                      rw [show ((m_keep c0 f7 5 id (nI i)) 1) = s_refusal c0 (s_find c0 id) (nI i) from keep_1]
                      refine lv_iconst (v := 5) hx hb dL_thrown_985 (by decide) ?_
                      refine lv_icmp_ge (tgt := 1029) hx hb dL_thrown_986 (by decide) (fun c_131 => absurd c_131 (rf_ne hX5).2.2) (fun _ => ?_)
                      refine lv_aload_n hx hb dL_thrown_989 rfl (lv_at hl 7 rfl) ?_
                      refine va_calli (vx_runSW (As := [.ref h]) (rest := []) ⟨hx, hb, hml, hown, hts⟩ (cl_L_reason l hfl D G B0 X A h c0 c2 hS hn sv0 u1 (m_keep c0 f7 5 id (nI i)) H.size) (vx_cwSW (hh := [(0, 4, 5, 24)]) 1 hts gl_169 rfl rfl rfl (by decide +kernel) ⟨Nat.le_of_ble_eq_true rfl, Nat.le_of_ble_eq_true rfl⟩) (ps_lw hK hW (hE.at hS0 hAB) (AH hA0 hS0) hAB) rfl rfl hl.1 rfl (lv_room (Nat.le_of_ble_eq_true rfl)) dL_thrown_990 ⟨(show ((1589 + (1200 - 100 * (m8 + 1))) + 8 + (60 - 20 * (m7 + 1))) + 6 + 1 ≤ 5000 by omega), (show ((189770 + (7200 - 600 * (m8 + 1))) + 48 + (360 - 120 * (m7 + 1))) + 36 + 6 ≤ 360000 by omega)⟩) hS0 (fun q _ h => h) (fun q h => h) (fun r u132 t9 H1 locs ht hvm hw hW hz1 hk1 hS0 => ?_)
                      have hX : x_reason (m_keep c0 f7 5 id (nI i)) = 0 := keep_x hr0
                      rw [hX] at hw
                      have hw : r = (m_keep c0 f7 5 id (nI i)) 1 := hw
                      have hW : LW D G X A h c0 c2 hS hn sv0 u1 (m_keep c0 f7 5 id (nI i)) H1 := LW_h ht hW
                      obtain ⟨H, rfl⟩ : ∃ z, z = H1 := ⟨_, rfl⟩
                      rw [hw]
                      refine W.widen (k := ((1589 + (1200 - 100 * (m8 + 1))) + 8 + (60 - 20 * (m7 + 1))) + 7) (n := ((189770 + (7200 - 600 * (m8 + 1))) + 48 + (360 - 120 * (m7 + 1))) + 42) (by omega) (by omega) ?_
                      rw [show ((m_keep c0 f7 5 id (nI i)) 1) = s_refusal c0 (s_find c0 id) (nI i) from keep_1]
                      refine lv_iconst (v := 1) hx hb dL_thrown_993 (by decide) ?_
                      rcases rf_cases hX5 with ⟨hr1, hw1⟩ | ⟨hr1, hw1⟩
                      · skip
                        refine lv_icmp_ne (tgt := 1001) hx hb dL_thrown_994 (by decide) (fun c_133 => absurd hr1 c_133) (fun _ => ?_)
                        refine lv_iconst (v := 1) hx hb dL_thrown_997 (by decide) ?_
                        refine lv_goto (tgt := 1002) hx hb dL_thrown_998 (by decide) ?_
                        refine lv_aload_n hx hb dL_thrown_1002 rfl (lv_at hl 7 rfl) ?_
                        refine lv_iload hx hb dL_thrown_1003 (lv_at hl 2 rfl) ?_
                        refine va_calli (vx_runSW (As := [.ref h, .int id]) (rest := [.int 1]) ⟨hx, hb, hml, hown, hts⟩ (cl_L_weightOf l hfl D G B0 X A h c0 c2 hS hn sv0 u1 (m_keep c0 f7 5 id (nI i)) id H.size) (vx_cwSW (hh := [(0, 5, 6, 24)]) 2 hts gl_240 rfl rfl rfl (by decide +kernel) ⟨Nat.le_of_ble_eq_true rfl, Nat.le_of_ble_eq_true rfl⟩) (ps_lw hK hW (hE.at hS0 hAB) (AH hA0 hS0) hAB) rfl rfl hl.1 rfl (lv_room (Nat.le_of_ble_eq_true rfl)) dL_thrown_1005 ⟨(show ((1589 + (1200 - 100 * (m8 + 1))) + 8 + (60 - 20 * (m7 + 1))) + 7 + 1 ≤ 5000 by omega), (show ((189770 + (7200 - 600 * (m8 + 1))) + 48 + (360 - 120 * (m7 + 1))) + 42 + 6 ≤ 360000 by omega)⟩) hS0 (fun q _ h => h) (fun q h => h) (fun r u134 t9 H1 locs ht hvm hw hW hz1 hk1 hS0 => ?_)
                        have hX : x_item c0 id = 0 := it_item hT
                        rw [hX] at hw
                        have hw : r = itm c0 (s_find c0 id) 2 := hw
                        have hW : LW D G X A h c0 c2 hS hn sv0 u1 (m_keep c0 f7 5 id (nI i)) H1 := LW_h ht hW
                        obtain ⟨H, rfl⟩ : ∃ z, z = H1 := ⟨_, rfl⟩
                        rw [hw]
                        refine W.widen (k := ((1589 + (1200 - 100 * (m8 + 1))) + 8 + (60 - 20 * (m7 + 1))) + 8) (n := ((189770 + (7200 - 600 * (m8 + 1))) + 48 + (360 - 120 * (m7 + 1))) + 48) (by omega) (by omega) ?_
                        refine lv_aload_n hx hb dL_thrown_1008 rfl (lv_at hl 7 rfl) ?_
                        refine lv_iload hx hb dL_thrown_1009 (lv_at hl 0 rfl) ?_
                        refine va_calli (vx_runSW (As := [.ref h, .int (nI i)]) (rest := [.int (itm c0 (s_find c0 id) 2), .int 1]) ⟨hx, hb, hml, hown, hts⟩ (cl_L_weightLeft l hfl D G B0 X A h c0 c2 hS hn sv0 u1 (m_keep c0 f7 5 id (nI i)) (nI i) H.size) (vx_cwSW (hh := [(0, 5, 6, 30)]) 2 hts gl_291 rfl rfl rfl (by decide +kernel) ⟨Nat.le_of_ble_eq_true rfl, Nat.le_of_ble_eq_true rfl⟩) (ps_lw hK hW (hE.at hS0 hAB) (AH hA0 hS0) hAB) rfl rfl hl.1 rfl (lv_room (Nat.le_of_ble_eq_true rfl)) dL_thrown_1011 ⟨(show ((1589 + (1200 - 100 * (m8 + 1))) + 8 + (60 - 20 * (m7 + 1))) + 8 + 1 ≤ 5000 by omega), (show ((189770 + (7200 - 600 * (m8 + 1))) + 48 + (360 - 120 * (m7 + 1))) + 48 + 6 ≤ 360000 by omega)⟩) hS0 (fun q _ h => h) (fun q h => h) (fun r u135 t9 H1 locs ht hvm hw hW hz1 hk1 hS0 => ?_)
                        have hX : x_bag c0 (nI i) = 0 := x_bag_in hM.1.1 hlt3
                        rw [hX] at hw
                        have hw : r = s_roomIn c0 (nI i) := hw
                        have hW : LW D G X A h c0 c2 hS hn sv0 u1 (m_keep c0 f7 5 id (nI i)) H1 := LW_h ht hW
                        obtain ⟨H, rfl⟩ : ∃ z, z = H1 := ⟨_, rfl⟩
                        rw [hw]
                        refine W.widen (k := ((1589 + (1200 - 100 * (m8 + 1))) + 8 + (60 - 20 * (m7 + 1))) + 9) (n := ((189770 + (7200 - 600 * (m8 + 1))) + 48 + (360 - 120 * (m7 + 1))) + 54) (by omega) (by omega) ?_
                        refine lv_icmp_le (tgt := 1021) hx hb dL_thrown_1014 (by decide) (fun c_136 => absurd c_136 hw1) (fun _ => ?_)
                        refine lv_iconst (v := 1) hx hb dL_thrown_1017 (by decide) ?_
                        refine lv_goto (tgt := 1022) hx hb dL_thrown_1018 (by decide) ?_
                        refine lv_icmp_ne (tgt := 1029) hx hb dL_thrown_1022 (by decide) (fun c_137 => absurd (by decide) c_137) (fun _ => ?_)
                        refine lv_iconst (v := 1) hx hb dL_thrown_1025 (by decide) ?_
                        refine lv_goto (tgt := 1030) hx hb dL_thrown_1026 (by decide) ?_
                        refine lv_istore (lv' := [(5, .int 1), (8, .int (nI i)), (7, .int id), (6, .int (nI k)), (4, .int (nI (nbg c0))), (3, .int (nI (cN c0))), (1, .long (ask_v c0)), (0, .ref h)]) hx hb dL_thrown_1030 hl (by decide) rfl (fun ls hl => ?_)
                        refine lv_iinc (v := nI (i + 1)) (lv' := [(8, .int (nI (i + 1))), (5, .int 1), (7, .int id), (6, .int (nI k)), (4, .int (nI (nbg c0))), (3, .int (nI (cN c0))), (1, .long (ask_v c0)), (0, .ref h)]) hx hb dL_thrown_1032 hl (k := 1) rfl (by exact nI_1 i) (by decide) rfl (fun ls hl => ?_)
                        refine lv_goto (tgt := 924) hx hb dL_thrown_1035 (by decide) ?_
                        refine W.widen (k := ((1589 + (1200 - 100 * (m8 + 1))) + 8 + (60 - 20 * m7))) (n := ((189770 + (7200 - 600 * (m8 + 1))) + 48 + (360 - 120 * m7))) (by omega) (by omega) ?_
                        exact ih3 (i + 1) (by omega) (m_keep c0 f7 5 id (nI i)) _ _ hW hS0 ls (lv_sub hl [0, 1, 2, 3, 4, 5, 6, 7] rfl)
                      · skip
                        refine lv_icmp_ne (tgt := 1001) hx hb dL_thrown_994 (by decide) (fun _ => ?_) (fun c_138 => absurd c_138 (by rcases hr1 with h9 | h9 | h9 <;> rw [h9] <;> decide))
                        refine lv_iconst (v := 0) hx hb dL_thrown_1001 (by decide) ?_
                        refine lv_aload_n hx hb dL_thrown_1002 rfl (lv_at hl 7 rfl) ?_
                        refine lv_iload hx hb dL_thrown_1003 (lv_at hl 2 rfl) ?_
                        refine va_calli (vx_runSW (As := [.ref h, .int id]) (rest := [.int 0]) ⟨hx, hb, hml, hown, hts⟩ (cl_L_weightOf l hfl D G B0 X A h c0 c2 hS hn sv0 u1 (m_keep c0 f7 5 id (nI i)) id H.size) (vx_cwSW (hh := [(0, 5, 6, 24)]) 2 hts gl_240 rfl rfl rfl (by decide +kernel) ⟨Nat.le_of_ble_eq_true rfl, Nat.le_of_ble_eq_true rfl⟩) (ps_lw hK hW (hE.at hS0 hAB) (AH hA0 hS0) hAB) rfl rfl hl.1 rfl (lv_room (Nat.le_of_ble_eq_true rfl)) dL_thrown_1005 ⟨(show ((1589 + (1200 - 100 * (m8 + 1))) + 8 + (60 - 20 * (m7 + 1))) + 7 + 1 ≤ 5000 by omega), (show ((189770 + (7200 - 600 * (m8 + 1))) + 48 + (360 - 120 * (m7 + 1))) + 42 + 6 ≤ 360000 by omega)⟩) hS0 (fun q _ h => h) (fun q h => h) (fun r u139 t9 H1 locs ht hvm hw hW hz1 hk1 hS0 => ?_)
                        have hX : x_item c0 id = 0 := it_item hT
                        rw [hX] at hw
                        have hw : r = itm c0 (s_find c0 id) 2 := hw
                        have hW : LW D G X A h c0 c2 hS hn sv0 u1 (m_keep c0 f7 5 id (nI i)) H1 := LW_h ht hW
                        obtain ⟨H, rfl⟩ : ∃ z, z = H1 := ⟨_, rfl⟩
                        rw [hw]
                        refine W.widen (k := ((1589 + (1200 - 100 * (m8 + 1))) + 8 + (60 - 20 * (m7 + 1))) + 8) (n := ((189770 + (7200 - 600 * (m8 + 1))) + 48 + (360 - 120 * (m7 + 1))) + 48) (by omega) (by omega) ?_
                        refine lv_aload_n hx hb dL_thrown_1008 rfl (lv_at hl 7 rfl) ?_
                        refine lv_iload hx hb dL_thrown_1009 (lv_at hl 0 rfl) ?_
                        refine va_calli (vx_runSW (As := [.ref h, .int (nI i)]) (rest := [.int (itm c0 (s_find c0 id) 2), .int 0]) ⟨hx, hb, hml, hown, hts⟩ (cl_L_weightLeft l hfl D G B0 X A h c0 c2 hS hn sv0 u1 (m_keep c0 f7 5 id (nI i)) (nI i) H.size) (vx_cwSW (hh := [(0, 5, 6, 30)]) 2 hts gl_291 rfl rfl rfl (by decide +kernel) ⟨Nat.le_of_ble_eq_true rfl, Nat.le_of_ble_eq_true rfl⟩) (ps_lw hK hW (hE.at hS0 hAB) (AH hA0 hS0) hAB) rfl rfl hl.1 rfl (lv_room (Nat.le_of_ble_eq_true rfl)) dL_thrown_1011 ⟨(show ((1589 + (1200 - 100 * (m8 + 1))) + 8 + (60 - 20 * (m7 + 1))) + 8 + 1 ≤ 5000 by omega), (show ((189770 + (7200 - 600 * (m8 + 1))) + 48 + (360 - 120 * (m7 + 1))) + 48 + 6 ≤ 360000 by omega)⟩) hS0 (fun q _ h => h) (fun q h => h) (fun r u140 t9 H1 locs ht hvm hw hW hz1 hk1 hS0 => ?_)
                        have hX : x_bag c0 (nI i) = 0 := x_bag_in hM.1.1 hlt3
                        rw [hX] at hw
                        have hw : r = s_roomIn c0 (nI i) := hw
                        have hW : LW D G X A h c0 c2 hS hn sv0 u1 (m_keep c0 f7 5 id (nI i)) H1 := LW_h ht hW
                        obtain ⟨H, rfl⟩ : ∃ z, z = H1 := ⟨_, rfl⟩
                        rw [hw]
                        refine W.widen (k := ((1589 + (1200 - 100 * (m8 + 1))) + 8 + (60 - 20 * (m7 + 1))) + 9) (n := ((189770 + (7200 - 600 * (m8 + 1))) + 48 + (360 - 120 * (m7 + 1))) + 54) (by omega) (by omega) ?_
                        refine lv_icmp_le (tgt := 1021) hx hb dL_thrown_1014 (by decide) (fun _ => ?_) (fun c_141 => absurd hw1 c_141)
                        refine lv_iconst (v := 0) hx hb dL_thrown_1021 (by decide) ?_
                        refine lv_icmp_ne (tgt := 1029) hx hb dL_thrown_1022 (by decide) (fun c_142 => absurd (by decide) c_142) (fun _ => ?_)
                        refine lv_iconst (v := 1) hx hb dL_thrown_1025 (by decide) ?_
                        refine lv_goto (tgt := 1030) hx hb dL_thrown_1026 (by decide) ?_
                        refine lv_istore (lv' := [(5, .int 1), (8, .int (nI i)), (7, .int id), (6, .int (nI k)), (4, .int (nI (nbg c0))), (3, .int (nI (cN c0))), (1, .long (ask_v c0)), (0, .ref h)]) hx hb dL_thrown_1030 hl (by decide) rfl (fun ls hl => ?_)
                        refine lv_iinc (v := nI (i + 1)) (lv' := [(8, .int (nI (i + 1))), (5, .int 1), (7, .int id), (6, .int (nI k)), (4, .int (nI (nbg c0))), (3, .int (nI (cN c0))), (1, .long (ask_v c0)), (0, .ref h)]) hx hb dL_thrown_1032 hl (k := 1) rfl (by exact nI_1 i) (by decide) rfl (fun ls hl => ?_)
                        refine lv_goto (tgt := 924) hx hb dL_thrown_1035 (by decide) ?_
                        refine W.widen (k := ((1589 + (1200 - 100 * (m8 + 1))) + 8 + (60 - 20 * m7))) (n := ((189770 + (7200 - 600 * (m8 + 1))) + 48 + (360 - 120 * m7))) (by omega) (by omega) ?_
                        exact ih3 (i + 1) (by omega) (m_keep c0 f7 5 id (nI i)) _ _ hW hS0 ls (lv_sub hl [0, 1, 2, 3, 4, 5, 6, 7] rfl)
                    case true =>
                      refine lv_iconst (v := 1) hx hb dL_thrown_939 (by decide) ?_
                      refine lv_icmp_ne (tgt := 946) hx hb dL_thrown_940 (by decide) (fun c_143 => absurd (by decide) c_143) (fun _ => ?_)
                      refine lv_goto (tgt := 1032) hx hb dL_thrown_943 (by decide) ?_
                      refine lv_iinc (v := nI (i + 1)) (lv' := [(8, .int (nI (i + 1))), (5, .int 1), (7, .int id), (6, .int (nI k)), (4, .int (nI (nbg c0))), (3, .int (nI (cN c0))), (1, .long (ask_v c0)), (0, .ref h)]) hx hb dL_thrown_1032 hl (k := 0) rfl (by exact nI_1 i) (by decide) rfl (fun ls hl => ?_)
                      refine lv_goto (tgt := 924) hx hb dL_thrown_1035 (by decide) ?_
                      refine W.widen (k := ((1589 + (1200 - 100 * (m8 + 1))) + 8 + (60 - 20 * m7))) (n := ((189770 + (7200 - 600 * (m8 + 1))) + 48 + (360 - 120 * m7))) (by omega) (by omega) ?_
                      exact ih3 (i + 1) (by omega) f7 _ _ hW hS0 ls (lv_sub hl [0, 1, 2, 3, 4, 5, 6, 7] rfl)
                refine W.widen (k := ((1589 + (1200 - 100 * (m8 + 1))) + 8 + (60 - 20 * (nbg c0)))) (n := ((189770 + (7200 - 600 * (m8 + 1))) + 48 + (360 - 120 * (nbg c0)))) (by omega) (by omega) ?_
                exact L924 (nbg c0) 0 (by omega) f8 _ _ hW hS0 ls (lv_sub hl [0, 1, 2, 3, 4, 5, 6, 7] rfl)
              case true =>
                refine lv_iconst (v := 1) hx hb dL_thrown_774 (by decide) ?_
                refine lv_icmp_ne (tgt := 873) hx hb dL_thrown_775 (by decide) (fun c_144 => absurd (by decide) c_144) (fun _ => ?_)
                refine lv_iload hx hb dL_thrown_778 (lv_at hl 0 rfl) ?_
                refine lv_if_eq (tgt := 822) hx hb dL_thrown_780 (by decide) (fun c_145 => absurd c_145 (by decide)) (fun _ => ?_)
                refine lv_aload_n hx hb dL_thrown_783 rfl (lv_at hl 6 rfl) ?_
                refine lv_iload hx hb dL_thrown_784 (lv_at hl 1 rfl) ?_
                refine va_calli (vx_runSW (As := [.ref h, .int id]) (rest := []) ⟨hx, hb, hml, hown, hts⟩ (cl_L_removeItem l hfl D G B0 X A h c0 c2 hS hn sv0 u1 f8 id hh H.size) (vx_cwSW (hh := [(0, 5, 6, 24), (0, 5, 11, 15)]) 2 hts gl_248 rfl rfl rfl (by decide +kernel) ⟨Nat.le_of_ble_eq_true rfl, Nat.le_of_ble_eq_true rfl⟩) (ps_lw hK hW (hE.at hS0 hAB) (AH hA0 hS0) hAB) rfl rfl hl.1 rfl (lv_room (Nat.le_of_ble_eq_true rfl)) dL_thrown_786 ⟨(show (1589 + (1200 - 100 * (m8 + 1))) + 5 + 1 ≤ 5000 by omega), (show (189770 + (7200 - 600 * (m8 + 1))) + 30 + 6 ≤ 360000 by omega)⟩) hS0 (fun q _ h => h) (fun q h => h) (fun r u146 t9 H1 locs ht hvm hw hW hz1 hk1 hS0 => ?_)
                have hX : f_drop c0 id = 4 := it_drop4 hT hI
                rw [hX] at hw hW
                have hw : r = (-1002) := hw
                have hW : LW D G X A h c0 c2 hS hn sv0 u1 f8 H1 := LW_h ht hW
                obtain ⟨H, rfl⟩ : ∃ z, z = H1 := ⟨_, rfl⟩
                rw [hw]
                refine W.widen (k := (1589 + (1200 - 100 * (m8 + 1))) + 6) (n := (189770 + (7200 - 600 * (m8 + 1))) + 36) (by omega) (by omega) ?_
                refine lv_sipush (v := -1002) hx hb dL_thrown_789 (by decide) ?_
                refine lv_icmp_ne (tgt := 822) hx hb dL_thrown_792 (by decide) (fun c_147 => absurd (by decide) c_147) (fun _ => ?_)
                refine lv_aload_n hx hb dL_thrown_795 rfl (lv_at hl 6 rfl) ?_
                refine lv_iload hx hb dL_thrown_796 (lv_at hl 1 rfl) ?_
                refine lv_iconst (v := 0) hx hb dL_thrown_798 (by decide) ?_
                refine va_calli (vx_runSW (As := [.ref h, .int id, .int 0]) (rest := []) ⟨hx, hb, hml, hown, hts⟩ (cl_L_pack l hfl D G B0 X A h c0 c2 hS hn sv0 u1 f8 id 0 hh H.size) (vx_cwSW (hh := [(0, 6, 7, 24), (0, 6, 12, 30), (0, 6, 17, 15), (0, 6, 22, 32)]) 3 hts gl_192 rfl rfl rfl (by decide +kernel) ⟨Nat.le_of_ble_eq_true rfl, Nat.le_of_ble_eq_true rfl⟩) (ps_lw hK hW (hE.at hS0 hAB) (AH hA0 hS0) hAB) rfl rfl hl.1 rfl (lv_room (Nat.le_of_ble_eq_true rfl)) dL_thrown_799 ⟨(show (1589 + (1200 - 100 * (m8 + 1))) + 6 + 1 ≤ 5000 by omega), (show (189770 + (7200 - 600 * (m8 + 1))) + 36 + 6 ≤ 360000 by omega)⟩) hS0 (fun q _ h => h) (fun q h => h) (fun r u148 t9 H1 locs ht hvm hw hW hz1 hk1 hS0 => ?_)
                have hX : f_load c0 id 0 = 4 := it_load4 hT hI (hasBag_in (j := 0) hM.1.1 hn1)
                rw [hX] at hw hW
                have hw : r = (-1003) := hw
                have hW : LW D G X A h c0 c2 hS hn sv0 u1 f8 H1 := LW_h ht hW
                obtain ⟨H, rfl⟩ : ∃ z, z = H1 := ⟨_, rfl⟩
                rw [hw]
                refine W.widen (k := (1589 + (1200 - 100 * (m8 + 1))) + 7) (n := (189770 + (7200 - 600 * (m8 + 1))) + 42) (by omega) (by omega) ?_
                refine lv_sipush (v := -1003) hx hb dL_thrown_802 (by decide) ?_
                refine lv_icmp_ne (tgt := 822) hx hb dL_thrown_805 (by decide) (fun c_149 => absurd (by decide) c_149) (fun _ => ?_)
                refine lv_aload_n hx hb dL_thrown_808 rfl (lv_at hl 6 rfl) ?_
                refine lv_iload hx hb dL_thrown_809 (lv_at hl 1 rfl) ?_
                refine lv_iconst (v := 0) hx hb dL_thrown_811 (by decide) ?_
                refine va_calli (vx_runSW (As := [.ref h, .int id, .int 0]) (rest := []) ⟨hx, hb, hml, hown, hts⟩ (cl_L_canPack l hfl D G B0 X A h c0 c2 hS hn sv0 u1 f8 id 0 H.size) (vx_cwSW (hh := [(0, 14, 15, 24), (0, 14, 20, 30)]) 3 hts gl_282 rfl rfl rfl (by decide +kernel) ⟨Nat.le_of_ble_eq_true rfl, Nat.le_of_ble_eq_true rfl⟩) (ps_lw hK hW (hE.at hS0 hAB) (AH hA0 hS0) hAB) rfl rfl hl.1 rfl (lv_room (Nat.le_of_ble_eq_true rfl)) dL_thrown_812 ⟨(show (1589 + (1200 - 100 * (m8 + 1))) + 7 + 2 ≤ 5000 by omega), (show (189770 + (7200 - 600 * (m8 + 1))) + 42 + 12 ≤ 360000 by omega)⟩) hS0 (fun q _ h => h) (fun q h => h) (fun r u150 t9 H1 locs ht hvm hw hW hz1 hk1 hS0 => ?_)
                have hX : x_canPack c0 id 0 = 0 := it_can0 hT (hasBag_in (j := 0) hM.1.1 hn1)
                rw [hX] at hw
                have hw : r = bi (s_canPack c0 id 0) := hw
                have hW : LW D G X A h c0 c2 hS hn sv0 u1 f8 H1 := LW_h ht hW
                obtain ⟨H, rfl⟩ : ∃ z, z = H1 := ⟨_, rfl⟩
                rw [hw]
                refine W.widen (k := (1589 + (1200 - 100 * (m8 + 1))) + 9) (n := (189770 + (7200 - 600 * (m8 + 1))) + 54) (by omega) (by omega) ?_
                rw [show (bi (s_canPack c0 id 0)) = 0 from by rw [it_canF (show f_load c0 id 0 ≠ 0 from by have h9 : f_load c0 id 0 = 4 := it_load4 hT hI (hasBag_in (j := 0) hM.1.1 hn1); rw [h9]; decide)]; rfl]
                refine lv_if_ne (tgt := 822) hx hb dL_thrown_815 (by decide) (fun c_151 => absurd (by decide) c_151) (fun _ => ?_)
                refine lv_iconst (v := 1) hx hb dL_thrown_818 (by decide) ?_
                refine lv_goto (tgt := 823) hx hb dL_thrown_819 (by decide) ?_
                refine lv_istore (lv' := [(5, .int 1), (7, .int id), (6, .int (nI k)), (4, .int (nI (nbg c0))), (3, .int (nI (cN c0))), (1, .long (ask_v c0)), (0, .ref h)]) hx hb dL_thrown_823 hl (by decide) rfl (fun ls hl => ?_)
                refine lv_aload_n hx hb dL_thrown_825 rfl (lv_at hl 6 rfl) ?_
                refine lv_iload hx hb dL_thrown_826 (lv_at hl 1 rfl) ?_
                refine va_calli (vx_runSW (As := [.ref h, .int id]) (rest := []) ⟨hx, hb, hml, hown, hts⟩ (cl_L_layerOf l hfl D G B0 X A h c0 c2 hS hn sv0 u1 f8 id H.size) (vx_cwSW (hh := [(0, 5, 6, 24)]) 2 hts gl_286 rfl rfl rfl (by decide +kernel) ⟨Nat.le_of_ble_eq_true rfl, Nat.le_of_ble_eq_true rfl⟩) (ps_lw hK hW (hE.at hS0 hAB) (AH hA0 hS0) hAB) rfl rfl hl.1 rfl (lv_room (Nat.le_of_ble_eq_true rfl)) dL_thrown_828 ⟨(show (1589 + (1200 - 100 * (m8 + 1))) + 9 + 1 ≤ 5000 by omega), (show (189770 + (7200 - 600 * (m8 + 1))) + 54 + 6 ≤ 360000 by omega)⟩) hS0 (fun q _ h => h) (fun q h => h) (fun r u152 t9 H1 locs ht hvm hw hW hz1 hk1 hS0 => ?_)
                have hX : x_packed c0 id = 0 := it_packed0 hI
                rw [hX] at hw
                have hw : r = itm c0 (s_find c0 id) 6 := hw
                have hW : LW D G X A h c0 c2 hS hn sv0 u1 f8 H1 := LW_h ht hW
                obtain ⟨H, rfl⟩ : ∃ z, z = H1 := ⟨_, rfl⟩
                rw [hw]
                refine W.widen (k := (1589 + (1200 - 100 * (m8 + 1))) + 10) (n := (189770 + (7200 - 600 * (m8 + 1))) + 60) (by omega) (by omega) ?_
                refine lv_aload_n hx hb dL_thrown_831 rfl (lv_at hl 6 rfl) ?_
                refine lv_aload_n hx hb dL_thrown_832 rfl (lv_at hl 6 rfl) ?_
                refine lv_iload hx hb dL_thrown_833 (lv_at hl 1 rfl) ?_
                refine va_calli (vx_runSW (As := [.ref h, .int id]) (rest := [.ref h, .int (itm c0 (s_find c0 id) 6)]) ⟨hx, hb, hml, hown, hts⟩ (cl_L_bagOf l hfl D G B0 X A h c0 c2 hS hn sv0 u1 f8 id H.size) (vx_cwSW (hh := [(0, 5, 6, 24)]) 2 hts gl_246 rfl rfl rfl (by decide +kernel) ⟨Nat.le_of_ble_eq_true rfl, Nat.le_of_ble_eq_true rfl⟩) (ps_lw hK hW (hE.at hS0 hAB) (AH hA0 hS0) hAB) rfl rfl hl.1 rfl (lv_room (Nat.le_of_ble_eq_true rfl)) dL_thrown_835 ⟨(show (1589 + (1200 - 100 * (m8 + 1))) + 10 + 1 ≤ 5000 by omega), (show (189770 + (7200 - 600 * (m8 + 1))) + 60 + 6 ≤ 360000 by omega)⟩) hS0 (fun q _ h => h) (fun q h => h) (fun r u153 t9 H1 locs ht hvm hw hW hz1 hk1 hS0 => ?_)
                have hX : x_packed c0 id = 0 := it_packed0 hI
                rw [hX] at hw
                have hw : r = itm c0 (s_find c0 id) 5 := hw
                have hW : LW D G X A h c0 c2 hS hn sv0 u1 f8 H1 := LW_h ht hW
                obtain ⟨H, rfl⟩ : ∃ z, z = H1 := ⟨_, rfl⟩
                rw [hw]
                refine W.widen (k := (1589 + (1200 - 100 * (m8 + 1))) + 11) (n := (189770 + (7200 - 600 * (m8 + 1))) + 66) (by omega) (by omega) ?_
                refine va_calli (vx_runSW (As := [.ref h, .int (itm c0 (s_find c0 id) 5)]) (rest := [.int (itm c0 (s_find c0 id) 6)]) ⟨hx, hb, hml, hown, hts⟩ (cl_L_layerCount l hfl D G B0 X A h c0 c2 hS hn sv0 u1 f8 (itm c0 (s_find c0 id) 5) H.size) (vx_cwSW (hh := [(0, 5, 6, 30)]) 2 hts gl_232 rfl rfl rfl (by decide +kernel) ⟨Nat.le_of_ble_eq_true rfl, Nat.le_of_ble_eq_true rfl⟩) (ps_lw hK hW (hE.at hS0 hAB) (AH hA0 hS0) hAB) rfl rfl hl.1 rfl (lv_room (Nat.le_of_ble_eq_true rfl)) dL_thrown_838 ⟨(show (1589 + (1200 - 100 * (m8 + 1))) + 11 + 1 ≤ 5000 by omega), (show (189770 + (7200 - 600 * (m8 + 1))) + 66 + 6 ≤ 360000 by omega)⟩) hS0 (fun q _ h => h) (fun q h => h) (fun r u154 t9 H1 locs ht hvm hw hW hz1 hk1 hS0 => ?_)
                have hW : LW D G X A h c0 c2 hS hn sv0 u1 f8 H1 := LW_h ht hW
                obtain ⟨H, rfl⟩ : ∃ z, z = H1 := ⟨_, rfl⟩
                rw [hw]
                refine W.widen (k := (1589 + (1200 - 100 * (m8 + 1))) + 12) (n := (189770 + (7200 - 600 * (m8 + 1))) + 72) (by omega) (by omega) ?_
                refine lv_iconst (v := 1) hx hb dL_thrown_841 (by decide) ?_
                refine lv_isub hx hb dL_thrown_842 ?_
                refine lv_icmp_ge (tgt := 1038) hx hb dL_thrown_843 (by decide) (fun c_g => ?_) (fun c_g => ?_)
                · skip
                  refine lv_iinc (v := nI (k + 1)) (lv' := [(6, .int (nI (k + 1))), (5, .int 1), (7, .int id), (4, .int (nI (nbg c0))), (3, .int (nI (cN c0))), (1, .long (ask_v c0)), (0, .ref h)]) hx hb dL_thrown_1038 hl (k := 2) rfl (by exact nI_1 k) (by decide) rfl (fun ls hl => ?_)
                  refine lv_goto (tgt := 715) hx hb dL_thrown_1041 (by decide) ?_
                  refine W.widen (k := (1589 + (1200 - 100 * m8))) (n := (189770 + (7200 - 600 * m8))) (by omega) (by omega) ?_
                  exact ih2 (k + 1) (by omega) f8 _ _ hW hS0 ls (lv_sub hl [0, 1, 3, 4, 5, 6] rfl)
                · skip
                  refine lv_iload hx hb dL_thrown_846 (lv_at hl 0 rfl) ?_
                  refine lv_if_eq (tgt := 867) hx hb dL_thrown_848 (by decide) (fun c_155 => absurd c_155 (by decide)) (fun _ => ?_)
                  refine lv_aload_n hx hb dL_thrown_851 rfl (lv_at hl 6 rfl) ?_
                  refine lv_iload hx hb dL_thrown_852 (lv_at hl 1 rfl) ?_
                  refine va_calli (vx_runSW (As := [.ref h, .int id]) (rest := []) ⟨hx, hb, hml, hown, hts⟩ (cl_L_unpack l hfl D G B0 X A h c0 c2 hS hn sv0 u1 f8 id hh H.size) (vx_cwSW (hh := [(0, 5, 6, 24), (0, 5, 11, 15)]) 2 hts gl_250 rfl rfl rfl (by decide +kernel) ⟨Nat.le_of_ble_eq_true rfl, Nat.le_of_ble_eq_true rfl⟩) (ps_lw hK hW (hE.at hS0 hAB) (AH hA0 hS0) hAB) rfl rfl hl.1 rfl (lv_room (Nat.le_of_ble_eq_true rfl)) dL_thrown_854 ⟨(show (1589 + (1200 - 100 * (m8 + 1))) + 12 + 1 ≤ 5000 by omega), (show (189770 + (7200 - 600 * (m8 + 1))) + 72 + 6 ≤ 360000 by omega)⟩) hS0 (fun q _ h => h) (fun q h => h) (fun r u156 t9 H1 locs ht hvm hw hW hz1 hk1 hS0 => ?_)
                  have hX : f_unload c0 id = 4 := it_unloadL hM.1 hT hI c_g
                  rw [hX] at hw hW
                  have hw : r = (-1002) := hw
                  have hW : LW D G X A h c0 c2 hS hn sv0 u1 f8 H1 := LW_h ht hW
                  obtain ⟨H, rfl⟩ : ∃ z, z = H1 := ⟨_, rfl⟩
                  rw [hw]
                  refine W.widen (k := (1589 + (1200 - 100 * (m8 + 1))) + 13) (n := (189770 + (7200 - 600 * (m8 + 1))) + 78) (by omega) (by omega) ?_
                  refine lv_sipush (v := -1002) hx hb dL_thrown_857 (by decide) ?_
                  refine lv_icmp_ne (tgt := 867) hx hb dL_thrown_860 (by decide) (fun c_157 => absurd (by decide) c_157) (fun _ => ?_)
                  refine lv_iconst (v := 1) hx hb dL_thrown_863 (by decide) ?_
                  refine lv_goto (tgt := 868) hx hb dL_thrown_864 (by decide) ?_
                  refine lv_istore (lv' := [(5, .int 1), (7, .int id), (6, .int (nI k)), (4, .int (nI (nbg c0))), (3, .int (nI (cN c0))), (1, .long (ask_v c0)), (0, .ref h)]) hx hb dL_thrown_868 hl (by decide) rfl (fun ls hl => ?_)
                  refine lv_goto (tgt := 1038) hx hb dL_thrown_870 (by decide) ?_
                  refine lv_iinc (v := nI (k + 1)) (lv' := [(6, .int (nI (k + 1))), (5, .int 1), (7, .int id), (4, .int (nI (nbg c0))), (3, .int (nI (cN c0))), (1, .long (ask_v c0)), (0, .ref h)]) hx hb dL_thrown_1038 hl (k := 2) rfl (by exact nI_1 k) (by decide) rfl (fun ls hl => ?_)
                  refine lv_goto (tgt := 715) hx hb dL_thrown_1041 (by decide) ?_
                  refine W.widen (k := (1589 + (1200 - 100 * m8))) (n := (189770 + (7200 - 600 * m8))) (by omega) (by omega) ?_
                  exact ih2 (k + 1) (by omega) f8 _ _ hW hS0 ls (lv_sub hl [0, 1, 3, 4, 5, 6] rfl)
          refine W.widen (k := (1589 + (1200 - 100 * (cN c0)))) (n := (189770 + (7200 - 600 * (cN c0)))) (by omega) (by omega) ?_
          exact L715 (cN c0) 0 (by omega) fl _ _ hW hS0 ls (lv_sub hl [0, 1, 2, 3, 4, 5] rfl)
        | succ m9 ih1 =>
          intro k hk1  H locs  hW hS0 ls hl
          have hlt1 : k < nbg c0 := by omega
          refine W.widen (k := (1439 + (150 - 50 * (m9 + 1))) + 0) (n := (188870 + (900 - 300 * (m9 + 1))) + 0) (by omega) (by omega) ?_
          refine lv_iload hx hb dL_thrown_564 (lv_at hl 0 rfl) ?_
          refine lv_iload hx hb dL_thrown_566 (lv_at hl 2 rfl) ?_
          refine lv_icmp_ge (tgt := 712) hx hb dL_thrown_568 (by decide) (fun c_158 => absurd c_158 (nI_ge (a := k) (b := (nbg c0)) (by omega) (by omega))) (fun _ => ?_)
          refine lv_aload_n hx hb dL_thrown_571 rfl (lv_at hl 5 rfl) ?_
          refine lv_iload hx hb dL_thrown_572 (lv_at hl 0 rfl) ?_
          refine va_calli (vx_runSW (As := [.ref h, .int (nI k)]) (rest := []) ⟨hx, hb, hml, hown, hts⟩ (cl_L_layerCount l hfl D G B0 X A h c0 c2 hS hn sv0 u1 fl (nI k) H.size) (vx_cwSW (hh := [(0, 5, 6, 30)]) 2 hts gl_232 rfl rfl rfl (by decide +kernel) ⟨Nat.le_of_ble_eq_true rfl, Nat.le_of_ble_eq_true rfl⟩) (ps_lw hK hW (hE.at hS0 hAB) (AH hA0 hS0) hAB) rfl rfl hl.1 rfl (lv_room (Nat.le_of_ble_eq_true rfl)) dL_thrown_574 ⟨(show (1439 + (150 - 50 * (m9 + 1))) + 0 + 1 ≤ 5000 by omega), (show (188870 + (900 - 300 * (m9 + 1))) + 0 + 6 ≤ 360000 by omega)⟩) hS0 (fun q _ h => h) (fun q h => h) (fun r u159 t9 H1 locs ht hvm hw hW hz1 hk1 hS0 => ?_)
          have hX : x_bag c0 (nI k) = 0 := x_bag_in hM.1.1 hlt1
          rw [hX] at hw
          have hw : r = s_countLayers c0 (nI k) := hw
          have hW : LW D G X A h c0 c2 hS hn sv0 u1 fl H1 := LW_h ht hW
          obtain ⟨H, rfl⟩ : ∃ z, z = H1 := ⟨_, rfl⟩
          rw [hw]
          refine W.widen (k := (1439 + (150 - 50 * (m9 + 1))) + 1) (n := (188870 + (900 - 300 * (m9 + 1))) + 6) (by omega) (by omega) ?_
          rw [show (s_countLayers c0 (nI k)) = nI (cLy c0 (nI k)) from (cLy_ok hM.1.ly (nI k)).1]
          refine lv_istore (lv' := [(7, .int (nI (cLy c0 (nI k)))), (6, .int (nI k)), (5, .int 1), (4, .int (nI (nbg c0))), (3, .int (nI (cN c0))), (1, .long (ask_v c0)), (0, .ref h)]) hx hb dL_thrown_577 hl (by decide) rfl (fun ls hl => ?_)
          refine lv_iload hx hb dL_thrown_579 (lv_at hl 2 rfl) ?_
          refine lv_if_eq (tgt := 657) hx hb dL_thrown_581 (by decide) (fun c_160 => absurd c_160 (by decide)) (fun _ => ?_)
          refine lv_aload_n hx hb dL_thrown_584 rfl (lv_at hl 6 rfl) ?_
          refine lv_iload hx hb dL_thrown_585 (lv_at hl 1 rfl) ?_
          refine lv_iload hx hb dL_thrown_587 (lv_at hl 0 rfl) ?_
          refine va_calli (vx_runSW (As := [.ref h, .int (nI k), .int (nI (cLy c0 (nI k)))]) (rest := []) ⟨hx, hb, hml, hown, hts⟩ (cl_L_itemsInLayer l hfl D G B0 X A h c0 c2 hS hn sv0 u1 fl (nI k) (nI (cLy c0 (nI k))) H.size) (vx_cwSW (hh := [(0, 6, 7, 30)]) 3 hts gl_293 rfl rfl rfl (by decide +kernel) ⟨Nat.le_of_ble_eq_true rfl, Nat.le_of_ble_eq_true rfl⟩) (ps_lw hK hW (hE.at hS0 hAB) (AH hA0 hS0) hAB) rfl rfl hl.1 rfl (lv_room (Nat.le_of_ble_eq_true rfl)) dL_thrown_589 ⟨(show (1439 + (150 - 50 * (m9 + 1))) + 1 + 2 ≤ 5000 by omega), (show (188870 + (900 - 300 * (m9 + 1))) + 6 + 12 ≤ 360000 by omega)⟩) hS0 (fun q _ h => h) (fun q h => h) (fun r u161 t9 H1 locs ht hvm hw hW hz1 hk1 hS0 => ?_)
          have hX : x_layer c0 (nI k) (nI (cLy c0 (nI k))) = 3 := ly_top hM.1.1 hlt1 hM.1.ly
          rw [hX] at hw
          have hw : r = (-1001) := hw
          have hW : LW D G X A h c0 c2 hS hn sv0 u1 fl H1 := LW_h ht hW
          obtain ⟨H, rfl⟩ : ∃ z, z = H1 := ⟨_, rfl⟩
          rw [hw]
          refine W.widen (k := (1439 + (150 - 50 * (m9 + 1))) + 3) (n := (188870 + (900 - 300 * (m9 + 1))) + 18) (by omega) (by omega) ?_
          refine lv_sipush (v := -1001) hx hb dL_thrown_592 (by decide) ?_
          refine lv_icmp_ne (tgt := 657) hx hb dL_thrown_595 (by decide) (fun c_162 => absurd (by decide) c_162) (fun _ => ?_)
          refine lv_aload_n hx hb dL_thrown_598 rfl (lv_at hl 6 rfl) ?_
          refine lv_iload hx hb dL_thrown_599 (lv_at hl 1 rfl) ?_
          refine lv_iconst (v := -1) hx hb dL_thrown_601 (by decide) ?_
          refine va_calli (vx_runSW (As := [.ref h, .int (nI k), .int (-1)]) (rest := []) ⟨hx, hb, hml, hown, hts⟩ (cl_L_itemsInLayer l hfl D G B0 X A h c0 c2 hS hn sv0 u1 fl (nI k) (-1) H.size) (vx_cwSW (hh := [(0, 6, 7, 30)]) 3 hts gl_293 rfl rfl rfl (by decide +kernel) ⟨Nat.le_of_ble_eq_true rfl, Nat.le_of_ble_eq_true rfl⟩) (ps_lw hK hW (hE.at hS0 hAB) (AH hA0 hS0) hAB) rfl rfl hl.1 rfl (lv_room (Nat.le_of_ble_eq_true rfl)) dL_thrown_602 ⟨(show (1439 + (150 - 50 * (m9 + 1))) + 3 + 2 ≤ 5000 by omega), (show (188870 + (900 - 300 * (m9 + 1))) + 18 + 12 ≤ 360000 by omega)⟩) hS0 (fun q _ h => h) (fun q h => h) (fun r u163 t9 H1 locs ht hvm hw hW hz1 hk1 hS0 => ?_)
          have hX : x_layer c0 (nI k) (-1) = 3 := ly_neg hM.1.1 hlt1
          rw [hX] at hw
          have hw : r = (-1001) := hw
          have hW : LW D G X A h c0 c2 hS hn sv0 u1 fl H1 := LW_h ht hW
          obtain ⟨H, rfl⟩ : ∃ z, z = H1 := ⟨_, rfl⟩
          rw [hw]
          refine W.widen (k := (1439 + (150 - 50 * (m9 + 1))) + 5) (n := (188870 + (900 - 300 * (m9 + 1))) + 30) (by omega) (by omega) ?_
          refine lv_sipush (v := -1001) hx hb dL_thrown_605 (by decide) ?_
          refine lv_icmp_ne (tgt := 657) hx hb dL_thrown_608 (by decide) (fun c_164 => absurd (by decide) c_164) (fun _ => ?_)
          refine lv_aload_n hx hb dL_thrown_611 rfl (lv_at hl 6 rfl) ?_
          refine lv_iload hx hb dL_thrown_612 (lv_at hl 1 rfl) ?_
          refine lv_iload hx hb dL_thrown_614 (lv_at hl 0 rfl) ?_
          refine lv_iconst (v := 0) hx hb dL_thrown_616 (by decide) ?_
          refine va_calli (vx_runSW (As := [.ref h, .int (nI k), .int (nI (cLy c0 (nI k))), .int 0]) (rest := []) ⟨hx, hb, hml, hown, hts⟩ (cl_L_itemAt l hfl D G B0 X A h c0 c2 hS hn sv0 u1 fl (nI k) (nI (cLy c0 (nI k))) 0 H.size) (vx_cwSW (hh := [(0, 7, 8, 30), (0, 7, 14, 24)]) 4 hts gl_295 rfl rfl rfl (by decide +kernel) ⟨Nat.le_of_ble_eq_true rfl, Nat.le_of_ble_eq_true rfl⟩) (ps_lw hK hW (hE.at hS0 hAB) (AH hA0 hS0) hAB) rfl rfl hl.1 rfl (lv_room (Nat.le_of_ble_eq_true rfl)) dL_thrown_617 ⟨(show (1439 + (150 - 50 * (m9 + 1))) + 5 + 3 ≤ 5000 by omega), (show (188870 + (900 - 300 * (m9 + 1))) + 30 + 18 ≤ 360000 by omega)⟩) hS0 (fun q _ h => h) (fun q h => h) (fun r u165 t9 H1 locs ht hvm hw hW hz1 hk1 hS0 => ?_)
          have hX : x_place c0 (nI k) (nI (cLy c0 (nI k))) 0 = 3 := pl_top (ly_top hM.1.1 hlt1 hM.1.ly)
          rw [hX] at hw
          have hw : r = (-1001) := hw
          have hW : LW D G X A h c0 c2 hS hn sv0 u1 fl H1 := LW_h ht hW
          obtain ⟨H, rfl⟩ : ∃ z, z = H1 := ⟨_, rfl⟩
          rw [hw]
          refine W.widen (k := (1439 + (150 - 50 * (m9 + 1))) + 8) (n := (188870 + (900 - 300 * (m9 + 1))) + 48) (by omega) (by omega) ?_
          refine lv_sipush (v := -1001) hx hb dL_thrown_620 (by decide) ?_
          refine lv_icmp_ne (tgt := 657) hx hb dL_thrown_623 (by decide) (fun c_166 => absurd (by decide) c_166) (fun _ => ?_)
          refine lv_aload_n hx hb dL_thrown_626 rfl (lv_at hl 6 rfl) ?_
          refine lv_iload hx hb dL_thrown_627 (lv_at hl 1 rfl) ?_
          refine lv_iload hx hb dL_thrown_629 (lv_at hl 0 rfl) ?_
          refine va_calli (vx_runSW (As := [.ref h, .int (nI k), .int (nI (cLy c0 (nI k)))]) (rest := []) ⟨hx, hb, hml, hown, hts⟩ (cl_L_sizeUsed l hfl D G B0 X A h c0 c2 hS hn sv0 u1 fl (nI k) (nI (cLy c0 (nI k))) H.size) (vx_cwSW (hh := [(0, 6, 7, 30)]) 3 hts gl_298 rfl rfl rfl (by decide +kernel) ⟨Nat.le_of_ble_eq_true rfl, Nat.le_of_ble_eq_true rfl⟩) (ps_lw hK hW (hE.at hS0 hAB) (AH hA0 hS0) hAB) rfl rfl hl.1 rfl (lv_room (Nat.le_of_ble_eq_true rfl)) dL_thrown_631 ⟨(show (1439 + (150 - 50 * (m9 + 1))) + 8 + 2 ≤ 5000 by omega), (show (188870 + (900 - 300 * (m9 + 1))) + 48 + 12 ≤ 360000 by omega)⟩) hS0 (fun q _ h => h) (fun q h => h) (fun r u167 t9 H1 locs ht hvm hw hW hz1 hk1 hS0 => ?_)
          have hX : x_layer c0 (nI k) (nI (cLy c0 (nI k))) = 3 := ly_top hM.1.1 hlt1 hM.1.ly
          rw [hX] at hw
          have hw : r = (-1001) := hw
          have hW : LW D G X A h c0 c2 hS hn sv0 u1 fl H1 := LW_h ht hW
          obtain ⟨H, rfl⟩ : ∃ z, z = H1 := ⟨_, rfl⟩
          rw [hw]
          refine W.widen (k := (1439 + (150 - 50 * (m9 + 1))) + 10) (n := (188870 + (900 - 300 * (m9 + 1))) + 60) (by omega) (by omega) ?_
          refine lv_sipush (v := -1001) hx hb dL_thrown_634 (by decide) ?_
          refine lv_icmp_ne (tgt := 657) hx hb dL_thrown_637 (by decide) (fun c_168 => absurd (by decide) c_168) (fun _ => ?_)
          refine lv_aload_n hx hb dL_thrown_640 rfl (lv_at hl 6 rfl) ?_
          refine lv_iload hx hb dL_thrown_641 (lv_at hl 1 rfl) ?_
          refine lv_iconst (v := -1) hx hb dL_thrown_643 (by decide) ?_
          refine va_calli (vx_runSW (As := [.ref h, .int (nI k), .int (-1)]) (rest := []) ⟨hx, hb, hml, hown, hts⟩ (cl_L_loadOf l hfl D G B0 X A h c0 c2 hS hn sv0 u1 fl (nI k) (-1) H.size) (vx_cwSW (hh := [(0, 6, 7, 30)]) 3 hts gl_300 rfl rfl rfl (by decide +kernel) ⟨Nat.le_of_ble_eq_true rfl, Nat.le_of_ble_eq_true rfl⟩) (ps_lw hK hW (hE.at hS0 hAB) (AH hA0 hS0) hAB) rfl rfl hl.1 rfl (lv_room (Nat.le_of_ble_eq_true rfl)) dL_thrown_644 ⟨(show (1439 + (150 - 50 * (m9 + 1))) + 10 + 2 ≤ 5000 by omega), (show (188870 + (900 - 300 * (m9 + 1))) + 60 + 12 ≤ 360000 by omega)⟩) hS0 (fun q _ h => h) (fun q h => h) (fun r u169 t9 H1 locs ht hvm hw hW hz1 hk1 hS0 => ?_)
          have hX : x_layer c0 (nI k) (-1) = 3 := ly_neg hM.1.1 hlt1
          rw [hX] at hw
          have hw : r = (-1001) := hw
          have hW : LW D G X A h c0 c2 hS hn sv0 u1 fl H1 := LW_h ht hW
          obtain ⟨H, rfl⟩ : ∃ z, z = H1 := ⟨_, rfl⟩
          rw [hw]
          refine W.widen (k := (1439 + (150 - 50 * (m9 + 1))) + 12) (n := (188870 + (900 - 300 * (m9 + 1))) + 72) (by omega) (by omega) ?_
          refine lv_sipush (v := -1001) hx hb dL_thrown_647 (by decide) ?_
          refine lv_icmp_ne (tgt := 657) hx hb dL_thrown_650 (by decide) (fun c_170 => absurd (by decide) c_170) (fun _ => ?_)
          refine lv_iconst (v := 1) hx hb dL_thrown_653 (by decide) ?_
          refine lv_goto (tgt := 658) hx hb dL_thrown_654 (by decide) ?_
          refine lv_istore (lv' := [(5, .int 1), (7, .int (nI (cLy c0 (nI k)))), (6, .int (nI k)), (4, .int (nI (nbg c0))), (3, .int (nI (cN c0))), (1, .long (ask_v c0)), (0, .ref h)]) hx hb dL_thrown_658 hl (by decide) rfl (fun ls hl => ?_)
          have J706 : ∀ (H : Heap) (locs : List Loc), LW D G X A h c0 c2 hS hn sv0 u1 fl H → va_S A s.heap H locs → ∀ ls : Array Slot, lv_has ls 9 [(5, .int 1), (6, .int (nI k)), (4, .int (nI (nbg c0))), (3, .int (nI (cN c0))), (1, .long (ask_v c0)), (0, .ref h)] → W p9 l e (headSpec (wA yL_thrown cL_thrown 9 (some .boolean)) ({ frames := 18, cells := 5000, slots := 360000, locals := 451 } : Room)).room s m ([.ref h] : List Value).toArray below meth c9 H locs ((1439 + (150 - 50 * (m9 + 1))) + 24) ((188870 + (900 - 300 * (m9 + 1))) + 144) (MQ below (va_Qi (fun (r : Int32) (_ : List Int32 × (Nat → Int32)) => r = 1) (fun u t9 => LW D G X A h c0 c2 hS hn svN u.1 u.2 t9.heap) A) ([.ref h] : List Value).toArray s 5000 360000 A) (F0 m 706 ls []) := by
            intro H locs hW hS0 ls hl
            refine lv_iinc (v := nI (k + 1)) (lv' := [(6, .int (nI (k + 1))), (5, .int 1), (4, .int (nI (nbg c0))), (3, .int (nI (cN c0))), (1, .long (ask_v c0)), (0, .ref h)]) hx hb dL_thrown_706 hl (k := 1) rfl (by exact nI_1 k) (by decide) rfl (fun ls hl => ?_)
            refine lv_goto (tgt := 564) hx hb dL_thrown_709 (by decide) ?_
            refine W.widen (k := (1439 + (150 - 50 * m9))) (n := (188870 + (900 - 300 * m9))) (by omega) (by omega) ?_
            exact ih1 (k + 1) (by omega) _ _ hW hS0 ls (lv_sub hl [0, 1, 2, 3, 4, 5] rfl)
          refine lv_iload hx hb dL_thrown_660 (lv_at hl 1 rfl) ?_
          refine lv_if_le (tgt := 706) hx hb dL_thrown_662 (by decide) (fun c_l => ?_) (fun c_l => ?_)
          · skip
            refine W.widen (k := (1439 + (150 - 50 * (m9 + 1))) + 24) (n := (188870 + (900 - 300 * (m9 + 1))) + 144) (by omega) (by omega) ?_
            exact J706 _ _ hW hS0 ls (lv_sub hl [0, 2, 3, 4, 5, 6] rfl)
          · skip
            have hcl : 0 < cLy c0 (nI k) := by
              rcases Nat.eq_zero_or_pos (cLy c0 (nI k)) with h9 | h9
              · exact absurd (by rw [h9]; decide) c_l
              · exact h9
            refine lv_iload hx hb dL_thrown_665 (lv_at hl 0 rfl) ?_
            refine lv_if_eq (tgt := 703) hx hb dL_thrown_667 (by decide) (fun c_171 => absurd c_171 (by decide)) (fun _ => ?_)
            refine lv_aload_n hx hb dL_thrown_670 rfl (lv_at hl 6 rfl) ?_
            refine lv_iload hx hb dL_thrown_671 (lv_at hl 2 rfl) ?_
            refine lv_iconst (v := 0) hx hb dL_thrown_673 (by decide) ?_
            refine lv_iconst (v := -1) hx hb dL_thrown_674 (by decide) ?_
            refine va_calli (vx_runSW (As := [.ref h, .int (nI k), .int 0, .int (-1)]) (rest := []) ⟨hx, hb, hml, hown, hts⟩ (cl_L_itemAt l hfl D G B0 X A h c0 c2 hS hn sv0 u1 fl (nI k) 0 (-1) H.size) (vx_cwSW (hh := [(0, 7, 8, 30), (0, 7, 14, 24)]) 4 hts gl_295 rfl rfl rfl (by decide +kernel) ⟨Nat.le_of_ble_eq_true rfl, Nat.le_of_ble_eq_true rfl⟩) (ps_lw hK hW (hE.at hS0 hAB) (AH hA0 hS0) hAB) rfl rfl hl.1 rfl (lv_room (Nat.le_of_ble_eq_true rfl)) dL_thrown_675 ⟨(show (1439 + (150 - 50 * (m9 + 1))) + 12 + 3 ≤ 5000 by omega), (show (188870 + (900 - 300 * (m9 + 1))) + 72 + 18 ≤ 360000 by omega)⟩) hS0 (fun q _ h => h) (fun q h => h) (fun r u172 t9 H1 locs ht hvm hw hW hz1 hk1 hS0 => ?_)
            have hX : x_place c0 (nI k) 0 (-1) = 2 := pl_out hM hlt1 hcl pp_m1
            rw [hX] at hw
            have hw : r = (-1002) := hw
            have hW : LW D G X A h c0 c2 hS hn sv0 u1 fl H1 := LW_h ht hW
            obtain ⟨H, rfl⟩ : ∃ z, z = H1 := ⟨_, rfl⟩
            rw [hw]
            refine W.widen (k := (1439 + (150 - 50 * (m9 + 1))) + 15) (n := (188870 + (900 - 300 * (m9 + 1))) + 90) (by omega) (by omega) ?_
            refine lv_sipush (v := -1002) hx hb dL_thrown_678 (by decide) ?_
            refine lv_icmp_ne (tgt := 703) hx hb dL_thrown_681 (by decide) (fun c_173 => absurd (by decide) c_173) (fun _ => ?_)
            refine lv_aload_n hx hb dL_thrown_684 rfl (lv_at hl 6 rfl) ?_
            refine lv_iload hx hb dL_thrown_685 (lv_at hl 2 rfl) ?_
            refine lv_iconst (v := 0) hx hb dL_thrown_687 (by decide) ?_
            refine lv_bipush (v := 10) hx hb dL_thrown_688 (by decide) ?_
            refine va_calli (vx_runSW (As := [.ref h, .int (nI k), .int 0, .int 10]) (rest := []) ⟨hx, hb, hml, hown, hts⟩ (cl_L_itemAt l hfl D G B0 X A h c0 c2 hS hn sv0 u1 fl (nI k) 0 10 H.size) (vx_cwSW (hh := [(0, 7, 8, 30), (0, 7, 14, 24)]) 4 hts gl_295 rfl rfl rfl (by decide +kernel) ⟨Nat.le_of_ble_eq_true rfl, Nat.le_of_ble_eq_true rfl⟩) (ps_lw hK hW (hE.at hS0 hAB) (AH hA0 hS0) hAB) rfl rfl hl.1 rfl (lv_room (Nat.le_of_ble_eq_true rfl)) dL_thrown_690 ⟨(show (1439 + (150 - 50 * (m9 + 1))) + 15 + 3 ≤ 5000 by omega), (show (188870 + (900 - 300 * (m9 + 1))) + 90 + 18 ≤ 360000 by omega)⟩) hS0 (fun q _ h => h) (fun q h => h) (fun r u174 t9 H1 locs ht hvm hw hW hz1 hk1 hS0 => ?_)
            have hX : x_place c0 (nI k) 0 10 = 2 := pl_out hM hlt1 hcl pp_10
            rw [hX] at hw
            have hw : r = (-1002) := hw
            have hW : LW D G X A h c0 c2 hS hn sv0 u1 fl H1 := LW_h ht hW
            obtain ⟨H, rfl⟩ : ∃ z, z = H1 := ⟨_, rfl⟩
            rw [hw]
            refine W.widen (k := (1439 + (150 - 50 * (m9 + 1))) + 18) (n := (188870 + (900 - 300 * (m9 + 1))) + 108) (by omega) (by omega) ?_
            refine lv_sipush (v := -1002) hx hb dL_thrown_693 (by decide) ?_
            refine lv_icmp_ne (tgt := 703) hx hb dL_thrown_696 (by decide) (fun c_175 => absurd (by decide) c_175) (fun _ => ?_)
            refine lv_iconst (v := 1) hx hb dL_thrown_699 (by decide) ?_
            refine lv_goto (tgt := 704) hx hb dL_thrown_700 (by decide) ?_
            refine lv_istore (lv' := [(5, .int 1), (7, .int (nI (cLy c0 (nI k)))), (6, .int (nI k)), (4, .int (nI (nbg c0))), (3, .int (nI (cN c0))), (1, .long (ask_v c0)), (0, .ref h)]) hx hb dL_thrown_704 hl (by decide) rfl (fun ls hl => ?_)
            refine W.widen (k := (1439 + (150 - 50 * (m9 + 1))) + 24) (n := (188870 + (900 - 300 * (m9 + 1))) + 144) (by omega) (by omega) ?_
            exact J706 _ _ hW hS0 ls (lv_sub hl [0, 2, 3, 4, 5, 6] rfl)
      refine W.widen (k := (1439 + (150 - 50 * (nbg c0)))) (n := (188870 + (900 - 300 * (nbg c0)))) (by omega) (by omega) ?_
      exact L564 (nbg c0) 0 (by omega) _ _ hW hS0 ls (lv_sub hl [0, 1, 2, 3, 4, 5] rfl)
    by_cases hp : s_hasPacked c0 = true
    · skip
      obtain ⟨t9, ht9, ht30, et9⟩ := low_pos hM
      refine lv_aload_n hx hb dL_thrown_537 rfl (lv_at hl 3 rfl) ?_
      refine va_calli (vx_runSW (As := [.ref h]) (rest := []) ⟨hx, hb, hml, hown, hts⟩ (cl_L_nextStop l hfl D G B0 X A h c0 c2 hS hn sv0 u1 fl H.size) (vx_cwSW (hh := [(0, 4, 5, 24)]) 1 hts gl_220 rfl rfl rfl (by decide +kernel) ⟨Nat.le_of_ble_eq_true rfl, Nat.le_of_ble_eq_true rfl⟩) (ps_lw hK hW (hE.at hS0 hAB) (AH hA0 hS0) hAB) rfl rfl hl.1 rfl (lv_room (Nat.le_of_ble_eq_true rfl)) dL_thrown_538 ⟨Nat.le_of_ble_eq_true rfl, Nat.le_of_ble_eq_true rfl⟩) hS0 (fun q _ h => h) (fun q h => h) (fun r u176 t9 H1 locs ht hvm hw hW hz1 hk1 hS0 => ?_)
      have hX : x_next c0 = 0 := nx_0 hp
      rw [hX] at hw
      have hw : r = s_lowest c0 := hw
      have hW : LW D G X A h c0 c2 hS hn sv0 u1 fl H1 := LW_h ht hW
      obtain ⟨H, rfl⟩ : ∃ z, z = H1 := ⟨_, rfl⟩
      rw [hw]
      refine W.widen (k := 1438) (n := 188864) (Nat.le_of_ble_eq_true rfl) (Nat.le_of_ble_eq_true rfl) ?_
      refine lv_if_gt (tgt := 554) hx hb dL_thrown_541 (by decide) (fun _ => ?_) (fun c_177 => absurd (by rw [et9]; exact nI_lt (a := 0) ht9 (by omega)) c_177)
      refine W.widen (k := 1439) (n := 188870) (Nat.le_of_ble_eq_true rfl) (Nat.le_of_ble_eq_true rfl) ?_
      exact J554 _ _ hW hS0 ls (lv_sub hl [0, 1, 2, 3] rfl)
    · skip
      refine lv_aload_n hx hb dL_thrown_537 rfl (lv_at hl 3 rfl) ?_
      refine va_calli (vx_runSW (As := [.ref h]) (rest := []) ⟨hx, hb, hml, hown, hts⟩ (cl_L_nextStop l hfl D G B0 X A h c0 c2 hS hn sv0 u1 fl H.size) (vx_cwSW (hh := [(0, 4, 5, 24)]) 1 hts gl_220 rfl rfl rfl (by decide +kernel) ⟨Nat.le_of_ble_eq_true rfl, Nat.le_of_ble_eq_true rfl⟩) (ps_lw hK hW (hE.at hS0 hAB) (AH hA0 hS0) hAB) rfl rfl hl.1 rfl (lv_room (Nat.le_of_ble_eq_true rfl)) dL_thrown_538 ⟨Nat.le_of_ble_eq_true rfl, Nat.le_of_ble_eq_true rfl⟩) hS0 (fun q _ h => h) (fun q h => h) (fun r u178 t9 H1 locs ht hvm hw hW hz1 hk1 hS0 => ?_)
      have hX : x_next c0 = 2 := (nx_2 hp).1
      rw [hX] at hw
      have hw : r = (-1001) := hw
      have hW : LW D G X A h c0 c2 hS hn sv0 u1 fl H1 := LW_h ht hW
      obtain ⟨H, rfl⟩ : ∃ z, z = H1 := ⟨_, rfl⟩
      rw [hw]
      refine W.widen (k := 1438) (n := 188864) (Nat.le_of_ble_eq_true rfl) (Nat.le_of_ble_eq_true rfl) ?_
      refine lv_if_gt (tgt := 554) hx hb dL_thrown_541 (by decide) (fun c_179 => absurd c_179 (by decide)) (fun _ => ?_)
      refine lv_aload_n hx hb dL_thrown_544 rfl (lv_at hl 3 rfl) ?_
      refine va_calli (vx_runSW (As := [.ref h]) (rest := []) ⟨hx, hb, hml, hown, hts⟩ (cl_L_deliver l hfl D G B0 X A h c0 c2 hS hn sv0 u1 fl hh H.size) (vx_cwSW (hh := [(0, 4, 5, 15)]) 1 hts gl_276 rfl rfl rfl (by decide +kernel) ⟨Nat.le_of_ble_eq_true rfl, Nat.le_of_ble_eq_true rfl⟩) (ps_lw hK hW (hE.at hS0 hAB) (AH hA0 hS0) hAB) rfl rfl hl.1 rfl (lv_room (Nat.le_of_ble_eq_true rfl)) dL_thrown_545 ⟨Nat.le_of_ble_eq_true rfl, Nat.le_of_ble_eq_true rfl⟩) hS0 (fun q _ h => h) (fun q h => h) (fun r u180 t9 H1 locs ht hvm hw hW hz1 hk1 hS0 => ?_)
      have hX : f_handOver c0 = 4 := (nx_2 hp).2
      rw [hX] at hw hW
      have hw : r = (-1001) := hw
      have hW : LW D G X A h c0 c2 hS hn sv0 u1 fl H1 := LW_h ht hW
      obtain ⟨H, rfl⟩ : ∃ z, z = H1 := ⟨_, rfl⟩
      rw [hw]
      refine W.widen (k := 1439) (n := 188870) (Nat.le_of_ble_eq_true rfl) (Nat.le_of_ble_eq_true rfl) ?_
      refine lv_sipush (v := -1001) hx hb dL_thrown_548 (by decide) ?_
      refine lv_icmp_ne (tgt := 558) hx hb dL_thrown_551 (by decide) (fun c_181 => absurd (by decide) c_181) (fun _ => ?_)
      refine W.widen (k := 1439) (n := 188870) (Nat.le_of_ble_eq_true rfl) (Nat.le_of_ble_eq_true rfl) ?_
      exact J554 _ _ hW hS0 ls (lv_sub hl [0, 1, 2, 3] rfl)
  refine lv_iload hx hb dL_thrown_39 (lv_at hl 0 rfl) ?_
  refine lv_iconst (v := 3) hx hb dL_thrown_41 (by decide) ?_
  refine lv_icmp_lt (tgt := 57) hx hb dL_thrown_42 (by decide) (fun c_m => ?_) (fun c_m => ?_)
  · skip
    refine W.widen (k := 1203) (n := 150018) (Nat.le_of_ble_eq_true rfl) (Nat.le_of_ble_eq_true rfl) ?_
    exact J57 _ _ hW hS0 ls (lv_sub hl [0, 1, 2, 3] rfl)
  · skip
    refine lv_aload_n hx hb dL_thrown_45 rfl (lv_at hl 3 rfl) ?_
    refine lv_bipush (v := 9) hx hb dL_thrown_46 (by decide) ?_
    refine va_calli (vx_runSW (As := [.ref h, .int 9]) (rest := []) ⟨hx, hb, hml, hown, hts⟩ (cl_L_addBag l hfl D G B0 X A h c0 c2 hS hn sv0 u1 fl 9 hh hM.1.1 H.size) (vx_cwSW (hh := [(0, 5, 6, 13), (0, 5, 11, 15)]) 2 hts gl_187 rfl rfl rfl (by decide +kernel) ⟨Nat.le_of_ble_eq_true rfl, Nat.le_of_ble_eq_true rfl⟩) (ps_lw hK hW (hE.at hS0 hAB) (AH hA0 hS0) hAB) rfl rfl hl.1 rfl (lv_room (Nat.le_of_ble_eq_true rfl)) dL_thrown_48 ⟨Nat.le_of_ble_eq_true rfl, Nat.le_of_ble_eq_true rfl⟩) hS0 (fun q _ h => h) (fun q h => h) (fun r u182 t9 H1 locs ht hvm hw hW hz1 hk1 hS0 => ?_)
    have hX : f_open c0 9 = 4 := by unfold f_open; rw [if_neg (by decide), if_pos (by decide), hM.1.1.1, if_neg c_m]
    rw [hX] at hw hW
    have hw : r = (-1002) := hw
    have hW : LW D G X A h c0 c2 hS hn sv0 u1 fl H1 := LW_h ht hW
    obtain ⟨H, rfl⟩ : ∃ z, z = H1 := ⟨_, rfl⟩
    rw [hw]
    refine W.widen (k := 1203) (n := 150018) (Nat.le_of_ble_eq_true rfl) (Nat.le_of_ble_eq_true rfl) ?_
    refine lv_sipush (v := -1002) hx hb dL_thrown_51 (by decide) ?_
    refine lv_icmp_ne (tgt := 558) hx hb dL_thrown_54 (by decide) (fun c_183 => absurd (by decide) c_183) (fun _ => ?_)
    refine W.widen (k := 1203) (n := 150018) (Nat.le_of_ble_eq_true rfl) (Nat.le_of_ble_eq_true rfl) ?_
    exact J57 _ _ hW hS0 ls (lv_sub hl [0, 1, 2, 3] rfl)
