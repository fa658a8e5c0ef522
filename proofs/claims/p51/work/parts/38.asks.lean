theorem LW_h {t : State} {H : Heap} {D : va_G} {G : GA} {X : Nat → Nat → Nat} {A : Nat → Prop} {h : Nat} {c0 c2 : CS} {hS : Nat → CS} {hn : Nat} {sv : SV} {lab : List Int32} {fl : Nat → Int32} (ht : t.heap = H) (hW : LW D G X A h c0 c2 hS hn sv lab fl t.heap) : LW D G X A h c0 c2 hS hn sv lab fl H := by rw [← ht]; exact hW
theorem LW_lab {H : Heap} {D : va_G} {G : GA} {X : Nat → Nat → Nat} {A : Nat → Prop} {h : Nat} {c0 c2 : CS} {hS : Nat → CS} {hn : Nat} {sv : SV} {lab : List Int32} {fl : Nat → Int32} (hW : LW D G X A h c0 c2 hS hn sv lab fl H) : lab.length ≤ 90 := by
  obtain ⟨ad, c1, lv, bs, -, h, -⟩ := hW
  exact h.2.2.2.2.2
theorem x_bag_in {c0 : CS} (hB : BG c0) {k : Nat} (hk : k < nbg c0) : x_bag c0 (nI k) = 0 := by
  have h3 := hB.2
  unfold x_bag
  rw [if_pos ?_]
  unfold s_hasBag
  rw [if_neg (nI_pos (by omega)), hB.1, if_neg (nI_ge hk (by omega))]
theorem x_lab_in {lab : List Int32} {i : Nat} (h : i < lab.length) (h9 : lab.length ≤ 90) : x_lab lab (nI i) = 0 := by
  unfold x_lab
  rw [if_neg (nI_pos (by omega)), if_pos (nI_lt h (by omega))]
def ask_h (c0 : CS) : Int64 := ((31 : Int64) * (((31 : Int64) * (((31 : Int64) * (((31 : Int64) * (((31 : Int64) * (((31 : Int64) * (((31 : Int64) * (dl (sel (x_share c0) (FP.ddiv (FP.i2d (s_packedWeight c0)) (FP.i2d (s_sumLimits c0))) 13875388141788987392))) + (Int32.toInt64 (sel (x_emp c0) (s_emptiest c0) (-1001))))) + (Int32.toInt64 (nI (cN c0))))) + (Int32.toInt64 (nI (nbg c0))))) + (Int32.toInt64 (s_countDepot c0)))) + (Int32.toInt64 (sel (x_next c0) (s_lowest c0) (-1001))))) + (Int32.toInt64 (c0.2.2 2)))) + (Int32.toInt64 (c0.2.2 3))
def ask_c (lab : List Int32) (i : Nat) (a : Int64) : Int64 := ((31 : Int64) * a) + (Int32.toInt64 (lab.getD (nI i).toNatClampNeg 0 &&& 255))
def ask_b (c0 : CS) (k : Nat) (a : Int64) : Int64 := lp (ask_c (s_desc c0 (nI k) (cLy c0 (nI k)))) (s_desc c0 (nI k) (cLy c0 (nI k))).length (((31 : Int64) * (((31 : Int64) * (((31 : Int64) * (((31 : Int64) * a) + (Int32.toInt64 (sel (x_bag c0 (nI k)) (s_limit c0 (nI k)) (-1001))))) + (Int32.toInt64 (sel (x_bag c0 (nI k)) (s_weightByItems c0 (nI k)) (-1001))))) + (Int32.toInt64 (sel (x_bag c0 (nI k)) (s_countLayers c0 (nI k)) (-1001))))) + (Int32.toInt64 (sel (x_bag c0 (nI k)) (s_bests c0 (nI k)) (-1001))))
def ask_r (c0 : CS) (k : Nat) (a : Int64) : Int64 := ((31 : Int64) * (((31 : Int64) * (((31 : Int64) * (((31 : Int64) * (((31 : Int64) * (((31 : Int64) * a) + (Int32.toInt64 (sel (x_rank c0 (nI k)) (itm c0 (s_findRank c0 (nI k)) 0) (-1001))))) + (Int32.toInt64 (sel (x_item c0 (sel (x_rank c0 (nI k)) (itm c0 (s_findRank c0 (nI k)) 0) (-1001))) (itm c0 (s_find c0 (sel (x_rank c0 (nI k)) (itm c0 (s_findRank c0 (nI k)) 0) (-1001))) 1) (-1001))))) + (Int32.toInt64 (sel (x_item c0 (sel (x_rank c0 (nI k)) (itm c0 (s_findRank c0 (nI k)) 0) (-1001))) (itm c0 (s_find c0 (sel (x_rank c0 (nI k)) (itm c0 (s_findRank c0 (nI k)) 0) (-1001))) 2) (-1001))))) + (Int32.toInt64 (sel (x_item c0 (sel (x_rank c0 (nI k)) (itm c0 (s_findRank c0 (nI k)) 0) (-1001))) (itm c0 (s_find c0 (sel (x_rank c0 (nI k)) (itm c0 (s_findRank c0 (nI k)) 0) (-1001))) 3) (-1001))))) + (Int32.toInt64 (sel (x_item c0 (sel (x_rank c0 (nI k)) (itm c0 (s_findRank c0 (nI k)) 0) (-1001))) (z01 (itm c0 (s_find c0 (sel (x_rank c0 (nI k)) (itm c0 (s_findRank c0 (nI k)) 0) (-1001))) 4)) (-1001))))) + (Int32.toInt64 (sel (x_packed c0 (sel (x_rank c0 (nI k)) (itm c0 (s_findRank c0 (nI k)) 0) (-1001))) (itm c0 (s_find c0 (sel (x_rank c0 (nI k)) (itm c0 (s_findRank c0 (nI k)) 0) (-1001))) 5) (-1001)))
def ask_v (c0 : CS) : Int64 := lp (ask_r c0) (cN c0) (lp (ask_b c0) (nbg c0) (ask_h c0))
theorem gw_L_197 : GoodIn tb (wsV RL 197 RX7 yX7_itemCount (wA yX7_itemCount cX7_itemCount 1 (some .int))) := gV kw_273 kw_274 kw_275 kw_24 kw_276
theorem gw_L_200 : GoodIn tb (wsV RL 200 RX7 yX7_bagCount (wA yX7_bagCount cX7_bagCount 1 (some .int))) := gV kw_306 kw_307 kw_308 kw_24 kw_309
theorem gl_205 : GoodIn tb (va_wsS RL 205 yL_shareUsed (wH yL_shareUsed cL_shareUsed 2 (some .double) [(0, 4, 5, 117)])) := gSW kw_934 kw_935 kw_23 kw_936
theorem gw_L_208 : GoodIn tb (va_wsS RL 208 yJxe99ae_doubleToLongBits_ccdee (wA yJxe99ae_doubleToLongBits_ccdee cJxe99ae_doubleToLongBits_ccdee 2 (some .long))) := gS kw_967 kw_968 kw_51 kw_969
theorem gl_214 : GoodIn tb (va_wsS RL 214 yL_emptiest (wH yL_emptiest cL_emptiest 2 (some .int) [(0, 4, 5, 24)])) := gSW kw_977 kw_978 kw_23 kw_979
theorem gw_L_217 : GoodIn tb (wsV RL 217 RX7 yX7_depotCount (wA yX7_depotCount cX7_depotCount 1 (some .int))) := gV kw_285 kw_286 kw_287 kw_24 kw_288
theorem gl_220 : GoodIn tb (va_wsS RL 220 yL_nextStop (wH yL_nextStop cL_nextStop 2 (some .int) [(0, 4, 5, 24)])) := gSW kw_988 kw_989 kw_23 kw_990
theorem gw_L_222 : GoodIn tb (wsV RL 222 RX7 yX7_deliveredCount (wA yX7_deliveredCount cX7_deliveredCount 1 (some .int))) := gV kw_265 kw_266 kw_267 kw_24 kw_268
theorem gw_L_225 : GoodIn tb (wsV RL 225 RX7 yX7_deliveredWeight (wA yX7_deliveredWeight cX7_deliveredWeight 1 (some .int))) := gV kw_269 kw_270 kw_271 kw_24 kw_272
theorem gl_236 : GoodIn tb (va_wsS RL 236 yL_itemAtRank (wH yL_itemAtRank cL_itemAtRank 3 (some .int) [(0, 5, 6, 30)])) := gSW kw_1303 kw_1304 kw_23 kw_1305
theorem gl_238 : GoodIn tb (va_wsS RL 238 yL_sizeOf (wH yL_sizeOf cL_sizeOf 3 (some .int) [(0, 5, 6, 24)])) := gSW kw_1312 kw_1313 kw_23 kw_1314
theorem gl_240 : GoodIn tb (va_wsS RL 240 yL_weightOf (wH yL_weightOf cL_weightOf 3 (some .int) [(0, 5, 6, 24)])) := gSW kw_1319 kw_1320 kw_23 kw_1321
theorem gl_242 : GoodIn tb (va_wsS RL 242 yL_stopOf (wH yL_stopOf cL_stopOf 3 (some .int) [(0, 5, 6, 24)])) := gSW kw_1326 kw_1327 kw_23 kw_1328
theorem gl_244 : GoodIn tb (va_wsS RL 244 yL_isFragile (wH yL_isFragile cL_isFragile 3 (some .int) [(0, 13, 14, 24)])) := gSW kw_1333 kw_1334 kw_23 kw_1335
theorem gl_246 : GoodIn tb (va_wsS RL 246 yL_bagOf (wH yL_bagOf cL_bagOf 3 (some .int) [(0, 5, 6, 24)])) := gSW kw_1340 kw_1341 kw_23 kw_1342
theorem gl_228 : GoodIn tb (va_wsS RL 228 yL_limitOf (wH yL_limitOf cL_limitOf 3 (some .int) [(0, 5, 6, 30)])) := gSW kw_998 kw_999 kw_23 kw_1000
theorem gl_230 : GoodIn tb (va_wsS RL 230 yL_weightIn (wH yL_weightIn cL_weightIn 3 (some .int) [(0, 5, 6, 30)])) := gSW kw_708 kw_709 kw_23 kw_710
theorem gl_232 : GoodIn tb (va_wsS RL 232 yL_layerCount (wH yL_layerCount cL_layerCount 3 (some .int) [(0, 5, 6, 30)])) := gSW kw_721 kw_722 kw_23 kw_723
theorem gl_234 : GoodIn tb (va_wsS RL 234 yL_bestLoad (wH yL_bestLoad cL_bestLoad 3 (some .int) [(0, 5, 6, 30)])) := gSW kw_1006 kw_1007 kw_23 kw_1008
theorem gl_175 : GoodIn tb (va_wsS RL 175 yL_writeLabel (wH yL_writeLabel cL_writeLabel 3 (some .int) [(0, 5, 6, 30)])) := gSW kw_1020 kw_1021 kw_23 kw_1022
theorem gl_178 : GoodIn tb (va_wsS RL 178 yL_labelAt (wH yL_labelAt cL_labelAt 3 (some .int) [(0, 5, 6, 30)])) := gSW kw_1285 kw_1286 kw_23 kw_1287
set_option maxRecDepth 100000 in
set_option maxHeartbeats 8000000 in
theorem cl_L_asks (l : Launch) (hfl : l.stackTraces = false) (D : va_G) (G : GA) (B0 : Nat) (X : Nat → Nat → Nat) (A : Nat → Prop) (h : Nat) (c0 c2 : CS) (hS : Nat → CS) (hn : Nat) (sv : SV) (lab : List Int32) (fl : Nat → Int32) (hBG : BG c0) (hid : IDok c0) (hLY : LYok c0) (sz : Nat) : Met l yL_asks (wA yL_asks cL_asks 8 (some .long)) ({ frames := 17, cells := 1200, slots := 150000, locals := 424 } : Room) (va_Pc [.ref h] (LWp D G B0 X A h c0 c2 hS hn sv lab fl sz)) (va_Ql (fun (r : Int64) (_ : List Int32) => r = ask_v c0) (fun u t9 => LW D G X A h c0 c2 hS hn sv u fl t9.heap) A) 1200 150000 A := by
  refine Met.ofW (cc := cL_asks) (maxL := 8) (ret := (some .long)) (by decide) rfl ?_
  intro p9 e s m args below meth c9 s₁ B hml hv
  obtain ⟨rfl, hsz, hW, hK, hE, hA0, hAB⟩ := hv
  subst hsz
  have hx := B.exec
  have hb := B.bytes
  have hr := B.returns
  have hts : ∀ w9 ∈ tb, w9.before ([.ref h] : List Value).toArray s = true := fun w9 h9 => atoms_spec (ws := (wA yL_asks cL_asks 8 (some .long))) B.pre w9 (List.mem_cons_of_mem _ h9)
  have hown : s.vm.findClass RL = some m.cls := findClass_of_methodNamed B.named
  have hlocks := B.notSynchronized
  have hS0 : va_S A s.heap s.heap [] := va_S.rf
  have hl := lv_entry ([.ref h]) (n := 8) (Nat.le_of_ble_eq_true rfl)
  rw [lg_entry_eq]
  generalize (lg_sl ([.ref h]) ++ List.replicate (8 - (lg_sl ([.ref h])).length) Slot.unset).toArray = ls at hl ⊢
  have hl : lv_has ls 8 [(0, .ref h)] := hl
  have hB3 := hBG.2
  have hN12 := cN_le c0
  refine lv_aload_n hx hb dL_asks_0 rfl (lv_at hl 0 rfl) ?_
  refine vp_callSi (va_runV (As := []) (rest := []) ⟨hx, hb, hml, hown, hts⟩ (cq_X7_itemCount l D G B0 X A h c0 c2 hS hn sv lab fl s.heap.size) (cwV 0 hts gw_L_197 rfl rfl rfl (by decide +kernel) ⟨Nat.le_of_ble_eq_true rfl, Nat.le_of_ble_eq_true rfl⟩) (pv_lw hK hW (hE.at hS0 hAB) (AH hA0 hS0) hAB) rfl rfl hl.1 rfl (lv_room (Nat.le_of_ble_eq_true rfl)) dL_asks_1 ⟨Nat.le_of_ble_eq_true rfl, Nat.le_of_ble_eq_true rfl⟩).run (nm_e ?_)
  rw [show s_countItems c0 = nI (cN c0) from cN_eq c0]
  refine lv_istore_n (lv' := [(1, .int (nI (cN c0))), (0, .ref h)]) hx hb dL_asks_4 rfl hl (by decide) rfl (fun ls hl => ?_)
  refine lv_aload_n hx hb dL_asks_5 rfl (lv_at hl 1 rfl) ?_
  refine vp_callSi (va_runV (As := []) (rest := []) ⟨hx, hb, hml, hown, hts⟩ (cq_X7_bagCount l D G B0 X A h c0 c2 hS hn sv lab fl s.heap.size) (cwV 0 hts gw_L_200 rfl rfl rfl (by decide +kernel) ⟨Nat.le_of_ble_eq_true rfl, Nat.le_of_ble_eq_true rfl⟩) (pv_lw hK hW (hE.at hS0 hAB) (AH hA0 hS0) hAB) rfl rfl hl.1 rfl (lv_room (Nat.le_of_ble_eq_true rfl)) dL_asks_6 ⟨Nat.le_of_ble_eq_true rfl, Nat.le_of_ble_eq_true rfl⟩).run (nm_e ?_)
  rw [show c0.2.2 1 = nI (nbg c0) from hBG.1]
  refine lv_istore_n (lv' := [(2, .int (nI (nbg c0))), (1, .int (nI (cN c0))), (0, .ref h)]) hx hb dL_asks_9 rfl hl (by decide) rfl (fun ls hl => ?_)
  refine lv_ldc2 hx hb hown (hts _ kw_933) dL_asks_10 ?_
  refine lv_aload_n hx hb dL_asks_13 rfl (lv_at hl 2 rfl) ?_
  refine va_calld (vx_runSW (As := [.ref h]) (rest := [.long (31 : Int64)]) ⟨hx, hb, hml, hown, hts⟩ (cl_L_shareUsed l hfl D G B0 X A h c0 c2 hS hn sv lab fl hBG s.heap.size) (vx_cwSW (hh := [(0, 4, 5, 117)]) 1 hts gl_205 rfl rfl rfl (by decide +kernel) ⟨Nat.le_of_ble_eq_true rfl, Nat.le_of_ble_eq_true rfl⟩) (ps_lw hK hW (hE.at hS0 hAB) (AH hA0 hS0) hAB) rfl rfl hl.1 rfl (lv_room (Nat.le_of_ble_eq_true rfl)) dL_asks_14 ⟨Nat.le_of_ble_eq_true rfl, Nat.le_of_ble_eq_true rfl⟩) hS0 (fun q _ h => h) (fun q h => h) (fun r u1 t9 H1 locs ht hvm hw hW hz1 hk1 hS0 => ?_)
  have hW : LW D G X A h c0 c2 hS hn sv lab fl H1 := LW_h ht hW
  obtain ⟨H, rfl⟩ : ∃ z, z = H1 := ⟨_, rfl⟩
  rw [hw]
  refine W.widen (k := 1) (n := 6) (Nat.le_of_ble_eq_true rfl) (Nat.le_of_ble_eq_true rfl) ?_
  refine vp_callSl (va_runS (As := [.double (sel (x_share c0) (FP.ddiv (FP.i2d (s_packedWeight c0)) (FP.i2d (s_sumLimits c0))) 13875388141788987392)]) (rest := [.long (31 : Int64)]) ⟨hx, hb, hml, hown, hts⟩ (cl_dlb l (sel (x_share c0) (FP.ddiv (FP.i2d (s_packedWeight c0)) (FP.i2d (s_sumLimits c0))) 13875388141788987392)) (va_cwS 1 hts gw_L_208 rfl rfl rfl (by decide +kernel) ⟨Nat.le_of_ble_eq_true rfl, Nat.le_of_ble_eq_true rfl⟩) ps_0 rfl rfl hl.1 rfl (lv_room (Nat.le_of_ble_eq_true rfl)) dL_asks_17 ⟨Nat.le_of_ble_eq_true rfl, Nat.le_of_ble_eq_true rfl⟩).run (nm_e ?_)
  refine lv_lmul hx hb dL_asks_20 ?_
  refine lv_aload_n hx hb dL_asks_21 rfl (lv_at hl 2 rfl) ?_
  refine va_calli (vx_runSW (As := [.ref h]) (rest := [.long ((31 : Int64) * (dl (sel (x_share c0) (FP.ddiv (FP.i2d (s_packedWeight c0)) (FP.i2d (s_sumLimits c0))) 13875388141788987392)))]) ⟨hx, hb, hml, hown, hts⟩ (cl_L_emptiest l hfl D G B0 X A h c0 c2 hS hn sv lab fl hBG H.size) (vx_cwSW (hh := [(0, 4, 5, 24)]) 1 hts gl_214 rfl rfl rfl (by decide +kernel) ⟨Nat.le_of_ble_eq_true rfl, Nat.le_of_ble_eq_true rfl⟩) (ps_lw hK hW (hE.at hS0 hAB) (AH hA0 hS0) hAB) rfl rfl hl.1 rfl (lv_room (Nat.le_of_ble_eq_true rfl)) dL_asks_22 ⟨Nat.le_of_ble_eq_true rfl, Nat.le_of_ble_eq_true rfl⟩) hS0 (fun q _ h => h) (fun q h => h) (fun r u2 t9 H1 locs ht hvm hw hW hz1 hk1 hS0 => ?_)
  have hW : LW D G X A h c0 c2 hS hn sv lab fl H1 := LW_h ht hW
  obtain ⟨H, rfl⟩ : ∃ z, z = H1 := ⟨_, rfl⟩
  rw [hw]
  refine W.widen (k := 2) (n := 12) (Nat.le_of_ble_eq_true rfl) (Nat.le_of_ble_eq_true rfl) ?_
  refine lv_i2l hx hb dL_asks_25 rfl ?_
  refine lv_ladd hx hb dL_asks_26 ?_
  refine lv_lstore_n (lv' := [(3, .long (((31 : Int64) * (dl (sel (x_share c0) (FP.ddiv (FP.i2d (s_packedWeight c0)) (FP.i2d (s_sumLimits c0))) 13875388141788987392))) + (Int32.toInt64 (sel (x_emp c0) (s_emptiest c0) (-1001))))), (2, .int (nI (nbg c0))), (1, .int (nI (cN c0))), (0, .ref h)]) hx hb dL_asks_27 rfl hl (by decide) rfl (fun ls hl => ?_)
  refine lv_ldc2 hx hb hown (hts _ kw_933) dL_asks_28 ?_
  refine lv_ldc2 hx hb hown (hts _ kw_933) dL_asks_31 ?_
  refine lv_ldc2 hx hb hown (hts _ kw_933) dL_asks_34 ?_
  refine lv_ldc2 hx hb hown (hts _ kw_933) dL_asks_37 ?_
  refine lv_ldc2 hx hb hown (hts _ kw_933) dL_asks_40 ?_
  refine lv_lload_n hx hb dL_asks_43 rfl (lv_at hl 0 rfl) ?_
  refine lv_lmul hx hb dL_asks_44 ?_
  refine lv_iload_n hx hb dL_asks_45 rfl (lv_at hl 2 rfl) ?_
  refine lv_i2l hx hb dL_asks_46 rfl ?_
  refine lv_ladd hx hb dL_asks_47 ?_
  refine lv_lmul hx hb dL_asks_48 ?_
  refine lv_iload_n hx hb dL_asks_49 rfl (lv_at hl 1 rfl) ?_
  refine lv_i2l hx hb dL_asks_50 rfl ?_
  refine lv_ladd hx hb dL_asks_51 ?_
  refine lv_lmul hx hb dL_asks_52 ?_
  refine lv_aload_n hx hb dL_asks_53 rfl (lv_at hl 3 rfl) ?_
  refine vp_callSi (va_runV (As := []) (rest := [.long ((31 : Int64) * (((31 : Int64) * (((31 : Int64) * (((31 : Int64) * (dl (sel (x_share c0) (FP.ddiv (FP.i2d (s_packedWeight c0)) (FP.i2d (s_sumLimits c0))) 13875388141788987392))) + (Int32.toInt64 (sel (x_emp c0) (s_emptiest c0) (-1001))))) + (Int32.toInt64 (nI (cN c0))))) + (Int32.toInt64 (nI (nbg c0))))), .long (31 : Int64), .long (31 : Int64)]) ⟨hx, hb, hml, hown, hts⟩ (cq_X7_depotCount l D G B0 X A h c0 c2 hS hn sv lab fl H.size) (cwV 0 hts gw_L_217 rfl rfl rfl (by decide +kernel) ⟨Nat.le_of_ble_eq_true rfl, Nat.le_of_ble_eq_true rfl⟩) (pv_lw hK hW (hE.at hS0 hAB) (AH hA0 hS0) hAB) rfl rfl hl.1 rfl (lv_room (Nat.le_of_ble_eq_true rfl)) dL_asks_54 ⟨Nat.le_of_ble_eq_true rfl, Nat.le_of_ble_eq_true rfl⟩).run (nm_e ?_)
  refine lv_i2l hx hb dL_asks_57 rfl ?_
  refine lv_ladd hx hb dL_asks_58 ?_
  refine lv_lmul hx hb dL_asks_59 ?_
  refine lv_aload_n hx hb dL_asks_60 rfl (lv_at hl 3 rfl) ?_
  refine va_calli (vx_runSW (As := [.ref h]) (rest := [.long ((31 : Int64) * (((31 : Int64) * (((31 : Int64) * (((31 : Int64) * (((31 : Int64) * (dl (sel (x_share c0) (FP.ddiv (FP.i2d (s_packedWeight c0)) (FP.i2d (s_sumLimits c0))) 13875388141788987392))) + (Int32.toInt64 (sel (x_emp c0) (s_emptiest c0) (-1001))))) + (Int32.toInt64 (nI (cN c0))))) + (Int32.toInt64 (nI (nbg c0))))) + (Int32.toInt64 (s_countDepot c0)))), .long (31 : Int64)]) ⟨hx, hb, hml, hown, hts⟩ (cl_L_nextStop l hfl D G B0 X A h c0 c2 hS hn sv lab fl H.size) (vx_cwSW (hh := [(0, 4, 5, 24)]) 1 hts gl_220 rfl rfl rfl (by decide +kernel) ⟨Nat.le_of_ble_eq_true rfl, Nat.le_of_ble_eq_true rfl⟩) (ps_lw hK hW (hE.at hS0 hAB) (AH hA0 hS0) hAB) rfl rfl hl.1 rfl (lv_room (Nat.le_of_ble_eq_true rfl)) dL_asks_61 ⟨Nat.le_of_ble_eq_true rfl, Nat.le_of_ble_eq_true rfl⟩) hS0 (fun q _ h => h) (fun q h => h) (fun r u3 t9 H1 locs ht hvm hw hW hz1 hk1 hS0 => ?_)
  have hW : LW D G X A h c0 c2 hS hn sv lab fl H1 := LW_h ht hW
  obtain ⟨H, rfl⟩ : ∃ z, z = H1 := ⟨_, rfl⟩
  rw [hw]
  refine W.widen (k := 3) (n := 18) (Nat.le_of_ble_eq_true rfl) (Nat.le_of_ble_eq_true rfl) ?_
  refine lv_i2l hx hb dL_asks_64 rfl ?_
  refine lv_ladd hx hb dL_asks_65 ?_
  refine lv_lmul hx hb dL_asks_66 ?_
  refine lv_aload_n hx hb dL_asks_67 rfl (lv_at hl 3 rfl) ?_
  refine vp_callSi (va_runV (As := []) (rest := [.long ((31 : Int64) * (((31 : Int64) * (((31 : Int64) * (((31 : Int64) * (((31 : Int64) * (((31 : Int64) * (dl (sel (x_share c0) (FP.ddiv (FP.i2d (s_packedWeight c0)) (FP.i2d (s_sumLimits c0))) 13875388141788987392))) + (Int32.toInt64 (sel (x_emp c0) (s_emptiest c0) (-1001))))) + (Int32.toInt64 (nI (cN c0))))) + (Int32.toInt64 (nI (nbg c0))))) + (Int32.toInt64 (s_countDepot c0)))) + (Int32.toInt64 (sel (x_next c0) (s_lowest c0) (-1001)))))]) ⟨hx, hb, hml, hown, hts⟩ (cq_X7_deliveredCount l D G B0 X A h c0 c2 hS hn sv lab fl H.size) (cwV 0 hts gw_L_222 rfl rfl rfl (by decide +kernel) ⟨Nat.le_of_ble_eq_true rfl, Nat.le_of_ble_eq_true rfl⟩) (pv_lw hK hW (hE.at hS0 hAB) (AH hA0 hS0) hAB) rfl rfl hl.1 rfl (lv_room (Nat.le_of_ble_eq_true rfl)) dL_asks_68 ⟨Nat.le_of_ble_eq_true rfl, Nat.le_of_ble_eq_true rfl⟩).run (nm_e ?_)
  refine lv_i2l hx hb dL_asks_71 rfl ?_
  refine lv_ladd hx hb dL_asks_72 ?_
  refine lv_lstore_n (lv' := [(3, .long (((31 : Int64) * (((31 : Int64) * (((31 : Int64) * (((31 : Int64) * (((31 : Int64) * (((31 : Int64) * (dl (sel (x_share c0) (FP.ddiv (FP.i2d (s_packedWeight c0)) (FP.i2d (s_sumLimits c0))) 13875388141788987392))) + (Int32.toInt64 (sel (x_emp c0) (s_emptiest c0) (-1001))))) + (Int32.toInt64 (nI (cN c0))))) + (Int32.toInt64 (nI (nbg c0))))) + (Int32.toInt64 (s_countDepot c0)))) + (Int32.toInt64 (sel (x_next c0) (s_lowest c0) (-1001))))) + (Int32.toInt64 (c0.2.2 2)))), (2, .int (nI (nbg c0))), (1, .int (nI (cN c0))), (0, .ref h)]) hx hb dL_asks_73 rfl hl (by decide) rfl (fun ls hl => ?_)
  refine lv_ldc2 hx hb hown (hts _ kw_933) dL_asks_74 ?_
  refine lv_lload_n hx hb dL_asks_77 rfl (lv_at hl 0 rfl) ?_
  refine lv_lmul hx hb dL_asks_78 ?_
  refine lv_aload_n hx hb dL_asks_79 rfl (lv_at hl 3 rfl) ?_
  refine vp_callSi (va_runV (As := []) (rest := [.long ((31 : Int64) * (((31 : Int64) * (((31 : Int64) * (((31 : Int64) * (((31 : Int64) * (((31 : Int64) * (((31 : Int64) * (dl (sel (x_share c0) (FP.ddiv (FP.i2d (s_packedWeight c0)) (FP.i2d (s_sumLimits c0))) 13875388141788987392))) + (Int32.toInt64 (sel (x_emp c0) (s_emptiest c0) (-1001))))) + (Int32.toInt64 (nI (cN c0))))) + (Int32.toInt64 (nI (nbg c0))))) + (Int32.toInt64 (s_countDepot c0)))) + (Int32.toInt64 (sel (x_next c0) (s_lowest c0) (-1001))))) + (Int32.toInt64 (c0.2.2 2))))]) ⟨hx, hb, hml, hown, hts⟩ (cq_X7_deliveredWeight l D G B0 X A h c0 c2 hS hn sv lab fl H.size) (cwV 0 hts gw_L_225 rfl rfl rfl (by decide +kernel) ⟨Nat.le_of_ble_eq_true rfl, Nat.le_of_ble_eq_true rfl⟩) (pv_lw hK hW (hE.at hS0 hAB) (AH hA0 hS0) hAB) rfl rfl hl.1 rfl (lv_room (Nat.le_of_ble_eq_true rfl)) dL_asks_80 ⟨Nat.le_of_ble_eq_true rfl, Nat.le_of_ble_eq_true rfl⟩).run (nm_e ?_)
  refine lv_i2l hx hb dL_asks_83 rfl ?_
  refine lv_ladd hx hb dL_asks_84 ?_
  refine lv_lstore_n (lv' := [(3, .long (((31 : Int64) * (((31 : Int64) * (((31 : Int64) * (((31 : Int64) * (((31 : Int64) * (((31 : Int64) * (((31 : Int64) * (dl (sel (x_share c0) (FP.ddiv (FP.i2d (s_packedWeight c0)) (FP.i2d (s_sumLimits c0))) 13875388141788987392))) + (Int32.toInt64 (sel (x_emp c0) (s_emptiest c0) (-1001))))) + (Int32.toInt64 (nI (cN c0))))) + (Int32.toInt64 (nI (nbg c0))))) + (Int32.toInt64 (s_countDepot c0)))) + (Int32.toInt64 (sel (x_next c0) (s_lowest c0) (-1001))))) + (Int32.toInt64 (c0.2.2 2)))) + (Int32.toInt64 (c0.2.2 3)))), (2, .int (nI (nbg c0))), (1, .int (nI (cN c0))), (0, .ref h)]) hx hb dL_asks_85 rfl hl (by decide) rfl (fun ls hl => ?_)
  refine lv_iconst (v := 0) hx hb dL_asks_86 (by decide) ?_
  refine lv_istore (lv' := [(5, .int 0), (3, .long (((31 : Int64) * (((31 : Int64) * (((31 : Int64) * (((31 : Int64) * (((31 : Int64) * (((31 : Int64) * (((31 : Int64) * (dl (sel (x_share c0) (FP.ddiv (FP.i2d (s_packedWeight c0)) (FP.i2d (s_sumLimits c0))) 13875388141788987392))) + (Int32.toInt64 (sel (x_emp c0) (s_emptiest c0) (-1001))))) + (Int32.toInt64 (nI (cN c0))))) + (Int32.toInt64 (nI (nbg c0))))) + (Int32.toInt64 (s_countDepot c0)))) + (Int32.toInt64 (sel (x_next c0) (s_lowest c0) (-1001))))) + (Int32.toInt64 (c0.2.2 2)))) + (Int32.toInt64 (c0.2.2 3)))), (2, .int (nI (nbg c0))), (1, .int (nI (cN c0))), (0, .ref h)]) hx hb dL_asks_87 hl (by decide) rfl (fun ls hl => ?_)
  have L89 : ∀ (m9 k : Nat), k + m9 = nbg c0 → ∀ (lab1 : List Int32) (H : Heap) (locs : List Loc), LW D G X A h c0 c2 hS hn sv lab1 fl H → va_S A s.heap H locs → ∀ ls : Array Slot, lv_has ls 8 [(5, .int (nI k)), (3, .long (lp (ask_b c0) k (ask_h c0))), (2, .int (nI (nbg c0))), (1, .int (nI (cN c0))), (0, .ref h)] → W p9 l e (headSpec (wA yL_asks cL_asks 8 (some .long)) ({ frames := 17, cells := 1200, slots := 150000, locals := 424 } : Room)).room s m ([.ref h] : List Value).toArray below meth c9 H locs (3 + (900 - 300 * m9)) (18 + (135000 - 45000 * m9)) (MQ below (va_Ql (fun (r : Int64) (_ : List Int32) => r = ask_v c0) (fun u t9 => LW D G X A h c0 c2 hS hn sv u fl t9.heap) A) ([.ref h] : List Value).toArray s 1200 150000 A) (F0 m 89 ls []) := by
    intro m9
    induction m9 with
    | zero =>
      intro k hk1 lab1 H locs  hW hS0 ls hl
      obtain rfl : k = nbg c0 := by omega
      refine W.widen (k := 903) (n := 135018) (by omega) (by omega) ?_
      refine lv_iload hx hb dL_asks_89 (lv_at hl 0 rfl) ?_
      refine lv_iload_n hx hb dL_asks_91 rfl (lv_at hl 2 rfl) ?_
      refine lv_icmp_ge (tgt := 189) hx hb dL_asks_92 (by decide) (fun _ => ?_) (fun c_4 => absurd (nI_le (a := (nbg c0)) (b := (nbg c0)) (by omega) (by omega)) c_4)
      refine lv_iconst (v := 0) hx hb dL_asks_189 (by decide) ?_
      refine lv_istore (lv' := [(5, .int 0), (3, .long (lp (ask_b c0) (nbg c0) (ask_h c0))), (2, .int (nI (nbg c0))), (1, .int (nI (cN c0))), (0, .ref h)]) hx hb dL_asks_190 hl (by decide) rfl (fun ls hl => ?_)
      have L192 : ∀ (m8 k : Nat), k + m8 = cN c0 → ∀ (H : Heap) (locs : List Loc), LW D G X A h c0 c2 hS hn sv lab1 fl H → va_S A s.heap H locs → ∀ ls : Array Slot, lv_has ls 8 [(5, .int (nI k)), (3, .long (lp (ask_r c0) k (lp (ask_b c0) (nbg c0) (ask_h c0)))), (2, .int (nI (nbg c0))), (1, .int (nI (cN c0))), (0, .ref h)] → W p9 l e (headSpec (wA yL_asks cL_asks 8 (some .long)) ({ frames := 17, cells := 1200, slots := 150000, locals := 424 } : Room)).room s m ([.ref h] : List Value).toArray below meth c9 H locs (903 + (96 - 8 * m8)) (135018 + (576 - 48 * m8)) (MQ below (va_Ql (fun (r : Int64) (_ : List Int32) => r = ask_v c0) (fun u t9 => LW D G X A h c0 c2 hS hn sv u fl t9.heap) A) ([.ref h] : List Value).toArray s 1200 150000 A) (F0 m 192 ls []) := by
        intro m8
        induction m8 with
        | zero =>
          intro k hk2  H locs  hW hS0 ls hl
          obtain rfl : k = cN c0 := by omega
          refine W.widen (k := 999) (n := 135594) (by omega) (by omega) ?_
          refine lv_iload hx hb dL_asks_192 (lv_at hl 0 rfl) ?_
          refine lv_iload_n hx hb dL_asks_194 rfl (lv_at hl 3 rfl) ?_
          refine lv_icmp_ge (tgt := 284) hx hb dL_asks_195 (by decide) (fun _ => ?_) (fun c_5 => absurd (nI_le (a := (cN c0)) (b := (cN c0)) (by omega) (by omega)) c_5)
          refine lv_lload_n hx hb dL_asks_284 rfl (lv_at hl 1 rfl) ?_
          refine W.widen (k := 1200) (n := 150000) (Nat.le_of_ble_eq_true rfl) (Nat.le_of_ble_eq_true rfl) ?_
          exact W.lret (v := lp (ask_r c0) (cN c0) (lp (ask_b c0) (nbg c0) (ask_h c0))) hx hb hr (fun t ht hWm => ⟨⟨_, lab1, rfl, rfl, LW_t ht hW⟩, hS0.F ht⟩) hS0.2.2 dL_asks_285
        | succ m8 ih2 =>
          intro k hk2  H locs  hW hS0 ls hl
          have hlt2 : k < cN c0 := by omega
          refine W.widen (k := (903 + (96 - 8 * (m8 + 1))) + 0) (n := (135018 + (576 - 48 * (m8 + 1))) + 0) (by omega) (by omega) ?_
          refine lv_iload hx hb dL_asks_192 (lv_at hl 0 rfl) ?_
          refine lv_iload_n hx hb dL_asks_194 rfl (lv_at hl 3 rfl) ?_
          refine lv_icmp_ge (tgt := 284) hx hb dL_asks_195 (by decide) (fun c_6 => absurd c_6 (nI_ge (a := k) (b := (cN c0)) (by omega) (by omega))) (fun _ => ?_)
          refine lv_aload_n hx hb dL_asks_198 rfl (lv_at hl 4 rfl) ?_
          refine lv_iload hx hb dL_asks_199 (lv_at hl 0 rfl) ?_
          refine va_calli (vx_runSW (As := [.ref h, .int (nI k)]) (rest := []) ⟨hx, hb, hml, hown, hts⟩ (cl_L_itemAtRank l hfl D G B0 X A h c0 c2 hS hn sv lab1 fl (nI k) H.size) (vx_cwSW (hh := [(0, 5, 6, 30)]) 2 hts gl_236 rfl rfl rfl (by decide +kernel) ⟨Nat.le_of_ble_eq_true rfl, Nat.le_of_ble_eq_true rfl⟩) (ps_lw hK hW (hE.at hS0 hAB) (AH hA0 hS0) hAB) rfl rfl hl.1 rfl (lv_room (Nat.le_of_ble_eq_true rfl)) dL_asks_201 ⟨(show (903 + (96 - 8 * (m8 + 1))) + 0 + 1 ≤ 1200 by omega), (show (135018 + (576 - 48 * (m8 + 1))) + 0 + 6 ≤ 150000 by omega)⟩) hS0 (fun q _ h => h) (fun q h => h) (fun r u7 t9 H1 locs ht hvm hw hW hz1 hk1 hS0 => ?_)
          have hW : LW D G X A h c0 c2 hS hn sv lab1 fl H1 := LW_h ht hW
          obtain ⟨H, rfl⟩ : ∃ z, z = H1 := ⟨_, rfl⟩
          rw [hw]
          refine W.widen (k := (903 + (96 - 8 * (m8 + 1))) + 1) (n := (135018 + (576 - 48 * (m8 + 1))) + 6) (by omega) (by omega) ?_
          refine lv_istore (lv' := [(6, .int (sel (x_rank c0 (nI k)) (itm c0 (s_findRank c0 (nI k)) 0) (-1001))), (5, .int (nI k)), (3, .long (lp (ask_r c0) k (lp (ask_b c0) (nbg c0) (ask_h c0)))), (2, .int (nI (nbg c0))), (1, .int (nI (cN c0))), (0, .ref h)]) hx hb dL_asks_204 hl (by decide) rfl (fun ls hl => ?_)
          refine lv_ldc2 hx hb hown (hts _ kw_933) dL_asks_206 ?_
          refine lv_ldc2 hx hb hown (hts _ kw_933) dL_asks_209 ?_
          refine lv_ldc2 hx hb hown (hts _ kw_933) dL_asks_212 ?_
          refine lv_ldc2 hx hb hown (hts _ kw_933) dL_asks_215 ?_
          refine lv_lload_n hx hb dL_asks_218 rfl (lv_at hl 2 rfl) ?_
          refine lv_lmul hx hb dL_asks_219 ?_
          refine lv_iload hx hb dL_asks_220 (lv_at hl 0 rfl) ?_
          refine lv_i2l hx hb dL_asks_222 rfl ?_
          refine lv_ladd hx hb dL_asks_223 ?_
          refine lv_lmul hx hb dL_asks_224 ?_
          refine lv_aload_n hx hb dL_asks_225 rfl (lv_at hl 5 rfl) ?_
          refine lv_iload hx hb dL_asks_226 (lv_at hl 0 rfl) ?_
          refine va_calli (vx_runSW (As := [.ref h, .int (sel (x_rank c0 (nI k)) (itm c0 (s_findRank c0 (nI k)) 0) (-1001))]) (rest := [.long ((31 : Int64) * (((31 : Int64) * (lp (ask_r c0) k (lp (ask_b c0) (nbg c0) (ask_h c0)))) + (Int32.toInt64 (sel (x_rank c0 (nI k)) (itm c0 (s_findRank c0 (nI k)) 0) (-1001))))), .long (31 : Int64), .long (31 : Int64)]) ⟨hx, hb, hml, hown, hts⟩ (cl_L_sizeOf l hfl D G B0 X A h c0 c2 hS hn sv lab1 fl (sel (x_rank c0 (nI k)) (itm c0 (s_findRank c0 (nI k)) 0) (-1001)) H.size) (vx_cwSW (hh := [(0, 5, 6, 24)]) 2 hts gl_238 rfl rfl rfl (by decide +kernel) ⟨Nat.le_of_ble_eq_true rfl, Nat.le_of_ble_eq_true rfl⟩) (ps_lw hK hW (hE.at hS0 hAB) (AH hA0 hS0) hAB) rfl rfl hl.1 rfl (lv_room (Nat.le_of_ble_eq_true rfl)) dL_asks_228 ⟨(show (903 + (96 - 8 * (m8 + 1))) + 1 + 1 ≤ 1200 by omega), (show (135018 + (576 - 48 * (m8 + 1))) + 6 + 6 ≤ 150000 by omega)⟩) hS0 (fun q _ h => h) (fun q h => h) (fun r u8 t9 H1 locs ht hvm hw hW hz1 hk1 hS0 => ?_)
          have hW : LW D G X A h c0 c2 hS hn sv lab1 fl H1 := LW_h ht hW
          obtain ⟨H, rfl⟩ : ∃ z, z = H1 := ⟨_, rfl⟩
          rw [hw]
          refine W.widen (k := (903 + (96 - 8 * (m8 + 1))) + 2) (n := (135018 + (576 - 48 * (m8 + 1))) + 12) (by omega) (by omega) ?_
          refine lv_i2l hx hb dL_asks_231 rfl ?_
          refine lv_ladd hx hb dL_asks_232 ?_
          refine lv_lmul hx hb dL_asks_233 ?_
          refine lv_aload_n hx hb dL_asks_234 rfl (lv_at hl 5 rfl) ?_
          refine lv_iload hx hb dL_asks_235 (lv_at hl 0 rfl) ?_
          refine va_calli (vx_runSW (As := [.ref h, .int (sel (x_rank c0 (nI k)) (itm c0 (s_findRank c0 (nI k)) 0) (-1001))]) (rest := [.long ((31 : Int64) * (((31 : Int64) * (((31 : Int64) * (lp (ask_r c0) k (lp (ask_b c0) (nbg c0) (ask_h c0)))) + (Int32.toInt64 (sel (x_rank c0 (nI k)) (itm c0 (s_findRank c0 (nI k)) 0) (-1001))))) + (Int32.toInt64 (sel (x_item c0 (sel (x_rank c0 (nI k)) (itm c0 (s_findRank c0 (nI k)) 0) (-1001))) (itm c0 (s_find c0 (sel (x_rank c0 (nI k)) (itm c0 (s_findRank c0 (nI k)) 0) (-1001))) 1) (-1001))))), .long (31 : Int64)]) ⟨hx, hb, hml, hown, hts⟩ (cl_L_weightOf l hfl D G B0 X A h c0 c2 hS hn sv lab1 fl (sel (x_rank c0 (nI k)) (itm c0 (s_findRank c0 (nI k)) 0) (-1001)) H.size) (vx_cwSW (hh := [(0, 5, 6, 24)]) 2 hts gl_240 rfl rfl rfl (by decide +kernel) ⟨Nat.le_of_ble_eq_true rfl, Nat.le_of_ble_eq_true rfl⟩) (ps_lw hK hW (hE.at hS0 hAB) (AH hA0 hS0) hAB) rfl rfl hl.1 rfl (lv_room (Nat.le_of_ble_eq_true rfl)) dL_asks_237 ⟨(show (903 + (96 - 8 * (m8 + 1))) + 2 + 1 ≤ 1200 by omega), (show (135018 + (576 - 48 * (m8 + 1))) + 12 + 6 ≤ 150000 by omega)⟩) hS0 (fun q _ h => h) (fun q h => h) (fun r u9 t9 H1 locs ht hvm hw hW hz1 hk1 hS0 => ?_)
          have hW : LW D G X A h c0 c2 hS hn sv lab1 fl H1 := LW_h ht hW
          obtain ⟨H, rfl⟩ : ∃ z, z = H1 := ⟨_, rfl⟩
          rw [hw]
          refine W.widen (k := (903 + (96 - 8 * (m8 + 1))) + 3) (n := (135018 + (576 - 48 * (m8 + 1))) + 18) (by omega) (by omega) ?_
          refine lv_i2l hx hb dL_asks_240 rfl ?_
          refine lv_ladd hx hb dL_asks_241 ?_
          refine lv_lmul hx hb dL_asks_242 ?_
          refine lv_aload_n hx hb dL_asks_243 rfl (lv_at hl 5 rfl) ?_
          refine lv_iload hx hb dL_asks_244 (lv_at hl 0 rfl) ?_
          refine va_calli (vx_runSW (As := [.ref h, .int (sel (x_rank c0 (nI k)) (itm c0 (s_findRank c0 (nI k)) 0) (-1001))]) (rest := [.long ((31 : Int64) * (((31 : Int64) * (((31 : Int64) * (((31 : Int64) * (lp (ask_r c0) k (lp (ask_b c0) (nbg c0) (ask_h c0)))) + (Int32.toInt64 (sel (x_rank c0 (nI k)) (itm c0 (s_findRank c0 (nI k)) 0) (-1001))))) + (Int32.toInt64 (sel (x_item c0 (sel (x_rank c0 (nI k)) (itm c0 (s_findRank c0 (nI k)) 0) (-1001))) (itm c0 (s_find c0 (sel (x_rank c0 (nI k)) (itm c0 (s_findRank c0 (nI k)) 0) (-1001))) 1) (-1001))))) + (Int32.toInt64 (sel (x_item c0 (sel (x_rank c0 (nI k)) (itm c0 (s_findRank c0 (nI k)) 0) (-1001))) (itm c0 (s_find c0 (sel (x_rank c0 (nI k)) (itm c0 (s_findRank c0 (nI k)) 0) (-1001))) 2) (-1001)))))]) ⟨hx, hb, hml, hown, hts⟩ (cl_L_stopOf l hfl D G B0 X A h c0 c2 hS hn sv lab1 fl (sel (x_rank c0 (nI k)) (itm c0 (s_findRank c0 (nI k)) 0) (-1001)) H.size) (vx_cwSW (hh := [(0, 5, 6, 24)]) 2 hts gl_242 rfl rfl rfl (by decide +kernel) ⟨Nat.le_of_ble_eq_true rfl, Nat.le_of_ble_eq_true rfl⟩) (ps_lw hK hW (hE.at hS0 hAB) (AH hA0 hS0) hAB) rfl rfl hl.1 rfl (lv_room (Nat.le_of_ble_eq_true rfl)) dL_asks_246 ⟨(show (903 + (96 - 8 * (m8 + 1))) + 3 + 1 ≤ 1200 by omega), (show (135018 + (576 - 48 * (m8 + 1))) + 18 + 6 ≤ 150000 by omega)⟩) hS0 (fun q _ h => h) (fun q h => h) (fun r u10 t9 H1 locs ht hvm hw hW hz1 hk1 hS0 => ?_)
          have hW : LW D G X A h c0 c2 hS hn sv lab1 fl H1 := LW_h ht hW
          obtain ⟨H, rfl⟩ : ∃ z, z = H1 := ⟨_, rfl⟩
          rw [hw]
          refine W.widen (k := (903 + (96 - 8 * (m8 + 1))) + 4) (n := (135018 + (576 - 48 * (m8 + 1))) + 24) (by omega) (by omega) ?_
          refine lv_i2l hx hb dL_asks_249 rfl ?_
          refine lv_ladd hx hb dL_asks_250 ?_
          refine lv_lstore_n (lv' := [(3, .long (((31 : Int64) * (((31 : Int64) * (((31 : Int64) * (((31 : Int64) * (lp (ask_r c0) k (lp (ask_b c0) (nbg c0) (ask_h c0)))) + (Int32.toInt64 (sel (x_rank c0 (nI k)) (itm c0 (s_findRank c0 (nI k)) 0) (-1001))))) + (Int32.toInt64 (sel (x_item c0 (sel (x_rank c0 (nI k)) (itm c0 (s_findRank c0 (nI k)) 0) (-1001))) (itm c0 (s_find c0 (sel (x_rank c0 (nI k)) (itm c0 (s_findRank c0 (nI k)) 0) (-1001))) 1) (-1001))))) + (Int32.toInt64 (sel (x_item c0 (sel (x_rank c0 (nI k)) (itm c0 (s_findRank c0 (nI k)) 0) (-1001))) (itm c0 (s_find c0 (sel (x_rank c0 (nI k)) (itm c0 (s_findRank c0 (nI k)) 0) (-1001))) 2) (-1001))))) + (Int32.toInt64 (sel (x_item c0 (sel (x_rank c0 (nI k)) (itm c0 (s_findRank c0 (nI k)) 0) (-1001))) (itm c0 (s_find c0 (sel (x_rank c0 (nI k)) (itm c0 (s_findRank c0 (nI k)) 0) (-1001))) 3) (-1001))))), (6, .int (sel (x_rank c0 (nI k)) (itm c0 (s_findRank c0 (nI k)) 0) (-1001))), (5, .int (nI k)), (2, .int (nI (nbg c0))), (1, .int (nI (cN c0))), (0, .ref h)]) hx hb dL_asks_251 rfl hl (by decide) rfl (fun ls hl => ?_)
          refine lv_ldc2 hx hb hown (hts _ kw_933) dL_asks_252 ?_
          refine lv_ldc2 hx hb hown (hts _ kw_933) dL_asks_255 ?_
          refine lv_lload_n hx hb dL_asks_258 rfl (lv_at hl 0 rfl) ?_
          refine lv_lmul hx hb dL_asks_259 ?_
          refine lv_aload_n hx hb dL_asks_260 rfl (lv_at hl 5 rfl) ?_
          refine lv_iload hx hb dL_asks_261 (lv_at hl 1 rfl) ?_
          refine va_calli (vx_runSW (As := [.ref h, .int (sel (x_rank c0 (nI k)) (itm c0 (s_findRank c0 (nI k)) 0) (-1001))]) (rest := [.long ((31 : Int64) * (((31 : Int64) * (((31 : Int64) * (((31 : Int64) * (((31 : Int64) * (lp (ask_r c0) k (lp (ask_b c0) (nbg c0) (ask_h c0)))) + (Int32.toInt64 (sel (x_rank c0 (nI k)) (itm c0 (s_findRank c0 (nI k)) 0) (-1001))))) + (Int32.toInt64 (sel (x_item c0 (sel (x_rank c0 (nI k)) (itm c0 (s_findRank c0 (nI k)) 0) (-1001))) (itm c0 (s_find c0 (sel (x_rank c0 (nI k)) (itm c0 (s_findRank c0 (nI k)) 0) (-1001))) 1) (-1001))))) + (Int32.toInt64 (sel (x_item c0 (sel (x_rank c0 (nI k)) (itm c0 (s_findRank c0 (nI k)) 0) (-1001))) (itm c0 (s_find c0 (sel (x_rank c0 (nI k)) (itm c0 (s_findRank c0 (nI k)) 0) (-1001))) 2) (-1001))))) + (Int32.toInt64 (sel (x_item c0 (sel (x_rank c0 (nI k)) (itm c0 (s_findRank c0 (nI k)) 0) (-1001))) (itm c0 (s_find c0 (sel (x_rank c0 (nI k)) (itm c0 (s_findRank c0 (nI k)) 0) (-1001))) 3) (-1001))))), .long (31 : Int64)]) ⟨hx, hb, hml, hown, hts⟩ (cl_L_isFragile l hfl D G B0 X A h c0 c2 hS hn sv lab1 fl (sel (x_rank c0 (nI k)) (itm c0 (s_findRank c0 (nI k)) 0) (-1001)) H.size) (vx_cwSW (hh := [(0, 13, 14, 24)]) 2 hts gl_244 rfl rfl rfl (by decide +kernel) ⟨Nat.le_of_ble_eq_true rfl, Nat.le_of_ble_eq_true rfl⟩) (ps_lw hK hW (hE.at hS0 hAB) (AH hA0 hS0) hAB) rfl rfl hl.1 rfl (lv_room (Nat.le_of_ble_eq_true rfl)) dL_asks_263 ⟨(show (903 + (96 - 8 * (m8 + 1))) + 4 + 1 ≤ 1200 by omega), (show (135018 + (576 - 48 * (m8 + 1))) + 24 + 6 ≤ 150000 by omega)⟩) hS0 (fun q _ h => h) (fun q h => h) (fun r u11 t9 H1 locs ht hvm hw hW hz1 hk1 hS0 => ?_)
          have hW : LW D G X A h c0 c2 hS hn sv lab1 fl H1 := LW_h ht hW
          obtain ⟨H, rfl⟩ : ∃ z, z = H1 := ⟨_, rfl⟩
          rw [hw]
          refine W.widen (k := (903 + (96 - 8 * (m8 + 1))) + 5) (n := (135018 + (576 - 48 * (m8 + 1))) + 30) (by omega) (by omega) ?_
          refine lv_i2l hx hb dL_asks_266 rfl ?_
          refine lv_ladd hx hb dL_asks_267 ?_
          refine lv_lmul hx hb dL_asks_268 ?_
          refine lv_aload_n hx hb dL_asks_269 rfl (lv_at hl 5 rfl) ?_
          refine lv_iload hx hb dL_asks_270 (lv_at hl 1 rfl) ?_
          refine va_calli (vx_runSW (As := [.ref h, .int (sel (x_rank c0 (nI k)) (itm c0 (s_findRank c0 (nI k)) 0) (-1001))]) (rest := [.long ((31 : Int64) * (((31 : Int64) * (((31 : Int64) * (((31 : Int64) * (((31 : Int64) * (((31 : Int64) * (lp (ask_r c0) k (lp (ask_b c0) (nbg c0) (ask_h c0)))) + (Int32.toInt64 (sel (x_rank c0 (nI k)) (itm c0 (s_findRank c0 (nI k)) 0) (-1001))))) + (Int32.toInt64 (sel (x_item c0 (sel (x_rank c0 (nI k)) (itm c0 (s_findRank c0 (nI k)) 0) (-1001))) (itm c0 (s_find c0 (sel (x_rank c0 (nI k)) (itm c0 (s_findRank c0 (nI k)) 0) (-1001))) 1) (-1001))))) + (Int32.toInt64 (sel (x_item c0 (sel (x_rank c0 (nI k)) (itm c0 (s_findRank c0 (nI k)) 0) (-1001))) (itm c0 (s_find c0 (sel (x_rank c0 (nI k)) (itm c0 (s_findRank c0 (nI k)) 0) (-1001))) 2) (-1001))))) + (Int32.toInt64 (sel (x_item c0 (sel (x_rank c0 (nI k)) (itm c0 (s_findRank c0 (nI k)) 0) (-1001))) (itm c0 (s_find c0 (sel (x_rank c0 (nI k)) (itm c0 (s_findRank c0 (nI k)) 0) (-1001))) 3) (-1001))))) + (Int32.toInt64 (sel (x_item c0 (sel (x_rank c0 (nI k)) (itm c0 (s_findRank c0 (nI k)) 0) (-1001))) (z01 (itm c0 (s_find c0 (sel (x_rank c0 (nI k)) (itm c0 (s_findRank c0 (nI k)) 0) (-1001))) 4)) (-1001)))))]) ⟨hx, hb, hml, hown, hts⟩ (cl_L_bagOf l hfl D G B0 X A h c0 c2 hS hn sv lab1 fl (sel (x_rank c0 (nI k)) (itm c0 (s_findRank c0 (nI k)) 0) (-1001)) H.size) (vx_cwSW (hh := [(0, 5, 6, 24)]) 2 hts gl_246 rfl rfl rfl (by decide +kernel) ⟨Nat.le_of_ble_eq_true rfl, Nat.le_of_ble_eq_true rfl⟩) (ps_lw hK hW (hE.at hS0 hAB) (AH hA0 hS0) hAB) rfl rfl hl.1 rfl (lv_room (Nat.le_of_ble_eq_true rfl)) dL_asks_272 ⟨(show (903 + (96 - 8 * (m8 + 1))) + 5 + 1 ≤ 1200 by omega), (show (135018 + (576 - 48 * (m8 + 1))) + 30 + 6 ≤ 150000 by omega)⟩) hS0 (fun q _ h => h) (fun q h => h) (fun r u12 t9 H1 locs ht hvm hw hW hz1 hk1 hS0 => ?_)
          have hW : LW D G X A h c0 c2 hS hn sv lab1 fl H1 := LW_h ht hW
          obtain ⟨H, rfl⟩ : ∃ z, z = H1 := ⟨_, rfl⟩
          rw [hw]
          refine W.widen (k := (903 + (96 - 8 * (m8 + 1))) + 6) (n := (135018 + (576 - 48 * (m8 + 1))) + 36) (by omega) (by omega) ?_
          refine lv_i2l hx hb dL_asks_275 rfl ?_
          refine lv_ladd hx hb dL_asks_276 ?_
          refine lv_lstore_n (lv' := [(3, .long (((31 : Int64) * (((31 : Int64) * (((31 : Int64) * (((31 : Int64) * (((31 : Int64) * (((31 : Int64) * (lp (ask_r c0) k (lp (ask_b c0) (nbg c0) (ask_h c0)))) + (Int32.toInt64 (sel (x_rank c0 (nI k)) (itm c0 (s_findRank c0 (nI k)) 0) (-1001))))) + (Int32.toInt64 (sel (x_item c0 (sel (x_rank c0 (nI k)) (itm c0 (s_findRank c0 (nI k)) 0) (-1001))) (itm c0 (s_find c0 (sel (x_rank c0 (nI k)) (itm c0 (s_findRank c0 (nI k)) 0) (-1001))) 1) (-1001))))) + (Int32.toInt64 (sel (x_item c0 (sel (x_rank c0 (nI k)) (itm c0 (s_findRank c0 (nI k)) 0) (-1001))) (itm c0 (s_find c0 (sel (x_rank c0 (nI k)) (itm c0 (s_findRank c0 (nI k)) 0) (-1001))) 2) (-1001))))) + (Int32.toInt64 (sel (x_item c0 (sel (x_rank c0 (nI k)) (itm c0 (s_findRank c0 (nI k)) 0) (-1001))) (itm c0 (s_find c0 (sel (x_rank c0 (nI k)) (itm c0 (s_findRank c0 (nI k)) 0) (-1001))) 3) (-1001))))) + (Int32.toInt64 (sel (x_item c0 (sel (x_rank c0 (nI k)) (itm c0 (s_findRank c0 (nI k)) 0) (-1001))) (z01 (itm c0 (s_find c0 (sel (x_rank c0 (nI k)) (itm c0 (s_findRank c0 (nI k)) 0) (-1001))) 4)) (-1001))))) + (Int32.toInt64 (sel (x_packed c0 (sel (x_rank c0 (nI k)) (itm c0 (s_findRank c0 (nI k)) 0) (-1001))) (itm c0 (s_find c0 (sel (x_rank c0 (nI k)) (itm c0 (s_findRank c0 (nI k)) 0) (-1001))) 5) (-1001))))), (6, .int (sel (x_rank c0 (nI k)) (itm c0 (s_findRank c0 (nI k)) 0) (-1001))), (5, .int (nI k)), (2, .int (nI (nbg c0))), (1, .int (nI (cN c0))), (0, .ref h)]) hx hb dL_asks_277 rfl hl (by decide) rfl (fun ls hl => ?_)
          refine lv_iinc (v := nI (k + 1)) (lv' := [(5, .int (nI (k + 1))), (3, .long (((31 : Int64) * (((31 : Int64) * (((31 : Int64) * (((31 : Int64) * (((31 : Int64) * (((31 : Int64) * (lp (ask_r c0) k (lp (ask_b c0) (nbg c0) (ask_h c0)))) + (Int32.toInt64 (sel (x_rank c0 (nI k)) (itm c0 (s_findRank c0 (nI k)) 0) (-1001))))) + (Int32.toInt64 (sel (x_item c0 (sel (x_rank c0 (nI k)) (itm c0 (s_findRank c0 (nI k)) 0) (-1001))) (itm c0 (s_find c0 (sel (x_rank c0 (nI k)) (itm c0 (s_findRank c0 (nI k)) 0) (-1001))) 1) (-1001))))) + (Int32.toInt64 (sel (x_item c0 (sel (x_rank c0 (nI k)) (itm c0 (s_findRank c0 (nI k)) 0) (-1001))) (itm c0 (s_find c0 (sel (x_rank c0 (nI k)) (itm c0 (s_findRank c0 (nI k)) 0) (-1001))) 2) (-1001))))) + (Int32.toInt64 (sel (x_item c0 (sel (x_rank c0 (nI k)) (itm c0 (s_findRank c0 (nI k)) 0) (-1001))) (itm c0 (s_find c0 (sel (x_rank c0 (nI k)) (itm c0 (s_findRank c0 (nI k)) 0) (-1001))) 3) (-1001))))) + (Int32.toInt64 (sel (x_item c0 (sel (x_rank c0 (nI k)) (itm c0 (s_findRank c0 (nI k)) 0) (-1001))) (z01 (itm c0 (s_find c0 (sel (x_rank c0 (nI k)) (itm c0 (s_findRank c0 (nI k)) 0) (-1001))) 4)) (-1001))))) + (Int32.toInt64 (sel (x_packed c0 (sel (x_rank c0 (nI k)) (itm c0 (s_findRank c0 (nI k)) 0) (-1001))) (itm c0 (s_find c0 (sel (x_rank c0 (nI k)) (itm c0 (s_findRank c0 (nI k)) 0) (-1001))) 5) (-1001))))), (6, .int (sel (x_rank c0 (nI k)) (itm c0 (s_findRank c0 (nI k)) 0) (-1001))), (2, .int (nI (nbg c0))), (1, .int (nI (cN c0))), (0, .ref h)]) hx hb dL_asks_278 hl (k := 2) rfl (by exact nI_1 k) (by decide) rfl (fun ls hl => ?_)
          refine lv_goto (tgt := 192) hx hb dL_asks_281 (by decide) ?_
          refine W.widen (k := (903 + (96 - 8 * m8))) (n := (135018 + (576 - 48 * m8))) (by omega) (by omega) ?_
          exact ih2 (k + 1) (by omega) _ _ hW hS0 ls (by rw [lp_s, ask_r]; exact lv_sub hl [0, 1, 3, 4, 5] rfl)
      refine W.widen (k := (903 + (96 - 8 * (cN c0)))) (n := (135018 + (576 - 48 * (cN c0)))) (by omega) (by omega) ?_
      exact L192 (cN c0) 0 (by omega) _ _ hW hS0 ls (lv_sub hl [0, 1, 2, 3, 4] rfl)
    | succ m9 ih1 =>
      intro k hk1 lab1 H locs  hW hS0 ls hl
      have hlt1 : k < nbg c0 := by omega
      refine W.widen (k := (3 + (900 - 300 * (m9 + 1))) + 0) (n := (18 + (135000 - 45000 * (m9 + 1))) + 0) (by omega) (by omega) ?_
      refine lv_iload hx hb dL_asks_89 (lv_at hl 0 rfl) ?_
      refine lv_iload_n hx hb dL_asks_91 rfl (lv_at hl 2 rfl) ?_
      refine lv_icmp_ge (tgt := 189) hx hb dL_asks_92 (by decide) (fun c_13 => absurd c_13 (nI_ge (a := k) (b := (nbg c0)) (by omega) (by omega))) (fun _ => ?_)
      refine lv_ldc2 hx hb hown (hts _ kw_933) dL_asks_95 ?_
      refine lv_ldc2 hx hb hown (hts _ kw_933) dL_asks_98 ?_
      refine lv_ldc2 hx hb hown (hts _ kw_933) dL_asks_101 ?_
      refine lv_ldc2 hx hb hown (hts _ kw_933) dL_asks_104 ?_
      refine lv_lload_n hx hb dL_asks_107 rfl (lv_at hl 1 rfl) ?_
      refine lv_lmul hx hb dL_asks_108 ?_
      refine lv_aload_n hx hb dL_asks_109 rfl (lv_at hl 4 rfl) ?_
      refine lv_iload hx hb dL_asks_110 (lv_at hl 0 rfl) ?_
      refine va_calli (vx_runSW (As := [.ref h, .int (nI k)]) (rest := [.long ((31 : Int64) * (lp (ask_b c0) k (ask_h c0))), .long (31 : Int64), .long (31 : Int64), .long (31 : Int64)]) ⟨hx, hb, hml, hown, hts⟩ (cl_L_limitOf l hfl D G B0 X A h c0 c2 hS hn sv lab1 fl (nI k) H.size) (vx_cwSW (hh := [(0, 5, 6, 30)]) 2 hts gl_228 rfl rfl rfl (by decide +kernel) ⟨Nat.le_of_ble_eq_true rfl, Nat.le_of_ble_eq_true rfl⟩) (ps_lw hK hW (hE.at hS0 hAB) (AH hA0 hS0) hAB) rfl rfl hl.1 rfl (lv_room (Nat.le_of_ble_eq_true rfl)) dL_asks_112 ⟨(show (3 + (900 - 300 * (m9 + 1))) + 0 + 1 ≤ 1200 by omega), (show (18 + (135000 - 45000 * (m9 + 1))) + 0 + 6 ≤ 150000 by omega)⟩) hS0 (fun q _ h => h) (fun q h => h) (fun r u14 t9 H1 locs ht hvm hw hW hz1 hk1 hS0 => ?_)
      have hW : LW D G X A h c0 c2 hS hn sv lab1 fl H1 := LW_h ht hW
      obtain ⟨H, rfl⟩ : ∃ z, z = H1 := ⟨_, rfl⟩
      rw [hw]
      refine W.widen (k := (3 + (900 - 300 * (m9 + 1))) + 1) (n := (18 + (135000 - 45000 * (m9 + 1))) + 6) (by omega) (by omega) ?_
      refine lv_i2l hx hb dL_asks_115 rfl ?_
      refine lv_ladd hx hb dL_asks_116 ?_
      refine lv_lmul hx hb dL_asks_117 ?_
      refine lv_aload_n hx hb dL_asks_118 rfl (lv_at hl 4 rfl) ?_
      refine lv_iload hx hb dL_asks_119 (lv_at hl 0 rfl) ?_
      refine va_calli (vx_runSW (As := [.ref h, .int (nI k)]) (rest := [.long ((31 : Int64) * (((31 : Int64) * (lp (ask_b c0) k (ask_h c0))) + (Int32.toInt64 (sel (x_bag c0 (nI k)) (s_limit c0 (nI k)) (-1001))))), .long (31 : Int64), .long (31 : Int64)]) ⟨hx, hb, hml, hown, hts⟩ (cl_L_weightIn l hfl D G B0 X A h c0 c2 hS hn sv lab1 fl (nI k) H.size) (vx_cwSW (hh := [(0, 5, 6, 30)]) 2 hts gl_230 rfl rfl rfl (by decide +kernel) ⟨Nat.le_of_ble_eq_true rfl, Nat.le_of_ble_eq_true rfl⟩) (ps_lw hK hW (hE.at hS0 hAB) (AH hA0 hS0) hAB) rfl rfl hl.1 rfl (lv_room (Nat.le_of_ble_eq_true rfl)) dL_asks_121 ⟨(show (3 + (900 - 300 * (m9 + 1))) + 1 + 1 ≤ 1200 by omega), (show (18 + (135000 - 45000 * (m9 + 1))) + 6 + 6 ≤ 150000 by omega)⟩) hS0 (fun q _ h => h) (fun q h => h) (fun r u15 t9 H1 locs ht hvm hw hW hz1 hk1 hS0 => ?_)
      have hW : LW D G X A h c0 c2 hS hn sv lab1 fl H1 := LW_h ht hW
      obtain ⟨H, rfl⟩ : ∃ z, z = H1 := ⟨_, rfl⟩
      rw [hw]
      refine W.widen (k := (3 + (900 - 300 * (m9 + 1))) + 2) (n := (18 + (135000 - 45000 * (m9 + 1))) + 12) (by omega) (by omega) ?_
      refine lv_i2l hx hb dL_asks_124 rfl ?_
      refine lv_ladd hx hb dL_asks_125 ?_
      refine lv_lmul hx hb dL_asks_126 ?_
      refine lv_aload_n hx hb dL_asks_127 rfl (lv_at hl 4 rfl) ?_
      refine lv_iload hx hb dL_asks_128 (lv_at hl 0 rfl) ?_
      refine va_calli (vx_runSW (As := [.ref h, .int (nI k)]) (rest := [.long ((31 : Int64) * (((31 : Int64) * (((31 : Int64) * (lp (ask_b c0) k (ask_h c0))) + (Int32.toInt64 (sel (x_bag c0 (nI k)) (s_limit c0 (nI k)) (-1001))))) + (Int32.toInt64 (sel (x_bag c0 (nI k)) (s_weightByItems c0 (nI k)) (-1001))))), .long (31 : Int64)]) ⟨hx, hb, hml, hown, hts⟩ (cl_L_layerCount l hfl D G B0 X A h c0 c2 hS hn sv lab1 fl (nI k) H.size) (vx_cwSW (hh := [(0, 5, 6, 30)]) 2 hts gl_232 rfl rfl rfl (by decide +kernel) ⟨Nat.le_of_ble_eq_true rfl, Nat.le_of_ble_eq_true rfl⟩) (ps_lw hK hW (hE.at hS0 hAB) (AH hA0 hS0) hAB) rfl rfl hl.1 rfl (lv_room (Nat.le_of_ble_eq_true rfl)) dL_asks_130 ⟨(show (3 + (900 - 300 * (m9 + 1))) + 2 + 1 ≤ 1200 by omega), (show (18 + (135000 - 45000 * (m9 + 1))) + 12 + 6 ≤ 150000 by omega)⟩) hS0 (fun q _ h => h) (fun q h => h) (fun r u16 t9 H1 locs ht hvm hw hW hz1 hk1 hS0 => ?_)
      have hW : LW D G X A h c0 c2 hS hn sv lab1 fl H1 := LW_h ht hW
      obtain ⟨H, rfl⟩ : ∃ z, z = H1 := ⟨_, rfl⟩
      rw [hw]
      refine W.widen (k := (3 + (900 - 300 * (m9 + 1))) + 3) (n := (18 + (135000 - 45000 * (m9 + 1))) + 18) (by omega) (by omega) ?_
      refine lv_i2l hx hb dL_asks_133 rfl ?_
      refine lv_ladd hx hb dL_asks_134 ?_
      refine lv_lmul hx hb dL_asks_135 ?_
      refine lv_aload_n hx hb dL_asks_136 rfl (lv_at hl 4 rfl) ?_
      refine lv_iload hx hb dL_asks_137 (lv_at hl 0 rfl) ?_
      refine va_calli (vx_runSW (As := [.ref h, .int (nI k)]) (rest := [.long ((31 : Int64) * (((31 : Int64) * (((31 : Int64) * (((31 : Int64) * (lp (ask_b c0) k (ask_h c0))) + (Int32.toInt64 (sel (x_bag c0 (nI k)) (s_limit c0 (nI k)) (-1001))))) + (Int32.toInt64 (sel (x_bag c0 (nI k)) (s_weightByItems c0 (nI k)) (-1001))))) + (Int32.toInt64 (sel (x_bag c0 (nI k)) (s_countLayers c0 (nI k)) (-1001)))))]) ⟨hx, hb, hml, hown, hts⟩ (cl_L_bestLoad l hfl D G B0 X A h c0 c2 hS hn sv lab1 fl (nI k) H.size) (vx_cwSW (hh := [(0, 5, 6, 30)]) 2 hts gl_234 rfl rfl rfl (by decide +kernel) ⟨Nat.le_of_ble_eq_true rfl, Nat.le_of_ble_eq_true rfl⟩) (ps_lw hK hW (hE.at hS0 hAB) (AH hA0 hS0) hAB) rfl rfl hl.1 rfl (lv_room (Nat.le_of_ble_eq_true rfl)) dL_asks_139 ⟨(show (3 + (900 - 300 * (m9 + 1))) + 3 + 1 ≤ 1200 by omega), (show (18 + (135000 - 45000 * (m9 + 1))) + 18 + 6 ≤ 150000 by omega)⟩) hS0 (fun q _ h => h) (fun q h => h) (fun r u17 t9 H1 locs ht hvm hw hW hz1 hk1 hS0 => ?_)
      have hW : LW D G X A h c0 c2 hS hn sv lab1 fl H1 := LW_h ht hW
      obtain ⟨H, rfl⟩ : ∃ z, z = H1 := ⟨_, rfl⟩
      rw [hw]
      refine W.widen (k := (3 + (900 - 300 * (m9 + 1))) + 4) (n := (18 + (135000 - 45000 * (m9 + 1))) + 24) (by omega) (by omega) ?_
      refine lv_i2l hx hb dL_asks_142 rfl ?_
      refine lv_ladd hx hb dL_asks_143 ?_
      refine lv_lstore_n (lv' := [(3, .long (((31 : Int64) * (((31 : Int64) * (((31 : Int64) * (((31 : Int64) * (lp (ask_b c0) k (ask_h c0))) + (Int32.toInt64 (sel (x_bag c0 (nI k)) (s_limit c0 (nI k)) (-1001))))) + (Int32.toInt64 (sel (x_bag c0 (nI k)) (s_weightByItems c0 (nI k)) (-1001))))) + (Int32.toInt64 (sel (x_bag c0 (nI k)) (s_countLayers c0 (nI k)) (-1001))))) + (Int32.toInt64 (sel (x_bag c0 (nI k)) (s_bests c0 (nI k)) (-1001))))), (5, .int (nI k)), (2, .int (nI (nbg c0))), (1, .int (nI (cN c0))), (0, .ref h)]) hx hb dL_asks_144 rfl hl (by decide) rfl (fun ls hl => ?_)
      refine lv_aload_n hx hb dL_asks_145 rfl (lv_at hl 4 rfl) ?_
      refine lv_iload hx hb dL_asks_146 (lv_at hl 1 rfl) ?_
      refine va_calli (vx_runSW (As := [.ref h, .int (nI k)]) (rest := []) ⟨hx, hb, hml, hown, hts⟩ (cl_L_writeLabel l hfl D G B0 X A h c0 c2 hS hn sv lab1 fl (nI k) hid hLY H.size) (vx_cwSW (hh := [(0, 5, 6, 30)]) 2 hts gl_175 rfl rfl rfl (by decide +kernel) ⟨Nat.le_of_ble_eq_true rfl, Nat.le_of_ble_eq_true rfl⟩) (ps_lw hK hW (hE.at hS0 hAB) (AH hA0 hS0) hAB) rfl rfl hl.1 rfl (lv_room (Nat.le_of_ble_eq_true rfl)) dL_asks_148 ⟨(show (3 + (900 - 300 * (m9 + 1))) + 4 + 192 ≤ 1200 by omega), (show (18 + (135000 - 45000 * (m9 + 1))) + 24 + 38588 ≤ 150000 by omega)⟩) hS0 (fun q _ h => h) (fun q h => h) (fun r u18 t9 H1 locs ht hvm hw hW hz1 hk1 hS0 => ?_)
      have hX : x_bag c0 (nI k) = 0 := x_bag_in hBG hlt1
      rw [hX] at hw hW
      have hw : r = nI (s_desc c0 (nI k) (cLy c0 (nI k))).length := hw
      have hW : LW D G X A h c0 c2 hS hn sv (s_desc c0 (nI k) (cLy c0 (nI k))) fl H1 := LW_h ht hW
      obtain ⟨H, rfl⟩ : ∃ z, z = H1 := ⟨_, rfl⟩
      rw [hw]
      refine W.widen (k := (3 + (900 - 300 * (m9 + 1))) + 196) (n := (18 + (135000 - 45000 * (m9 + 1))) + 38612) (by omega) (by omega) ?_
      refine lv_istore (lv' := [(6, .int (nI (s_desc c0 (nI k) (cLy c0 (nI k))).length)), (3, .long (((31 : Int64) * (((31 : Int64) * (((31 : Int64) * (((31 : Int64) * (lp (ask_b c0) k (ask_h c0))) + (Int32.toInt64 (sel (x_bag c0 (nI k)) (s_limit c0 (nI k)) (-1001))))) + (Int32.toInt64 (sel (x_bag c0 (nI k)) (s_weightByItems c0 (nI k)) (-1001))))) + (Int32.toInt64 (sel (x_bag c0 (nI k)) (s_countLayers c0 (nI k)) (-1001))))) + (Int32.toInt64 (sel (x_bag c0 (nI k)) (s_bests c0 (nI k)) (-1001))))), (5, .int (nI k)), (2, .int (nI (nbg c0))), (1, .int (nI (cN c0))), (0, .ref h)]) hx hb dL_asks_151 hl (by decide) rfl (fun ls hl => ?_)
      refine lv_iconst (v := 0) hx hb dL_asks_153 (by decide) ?_
      refine lv_istore (lv' := [(7, .int 0), (6, .int (nI (s_desc c0 (nI k) (cLy c0 (nI k))).length)), (3, .long (((31 : Int64) * (((31 : Int64) * (((31 : Int64) * (((31 : Int64) * (lp (ask_b c0) k (ask_h c0))) + (Int32.toInt64 (sel (x_bag c0 (nI k)) (s_limit c0 (nI k)) (-1001))))) + (Int32.toInt64 (sel (x_bag c0 (nI k)) (s_weightByItems c0 (nI k)) (-1001))))) + (Int32.toInt64 (sel (x_bag c0 (nI k)) (s_countLayers c0 (nI k)) (-1001))))) + (Int32.toInt64 (sel (x_bag c0 (nI k)) (s_bests c0 (nI k)) (-1001))))), (5, .int (nI k)), (2, .int (nI (nbg c0))), (1, .int (nI (cN c0))), (0, .ref h)]) hx hb dL_asks_154 hl (by decide) rfl (fun ls hl => ?_)
      have hlen9 := desc_len c0 (nI k) (cLy c0 (nI k)) (cLy_ok hLY _).2
      have L156 : ∀ (m7 i : Nat), i + m7 = (s_desc c0 (nI k) (cLy c0 (nI k))).length → ∀ (H : Heap) (locs : List Loc), LW D G X A h c0 c2 hS hn sv (s_desc c0 (nI k) (cLy c0 (nI k))) fl H → va_S A s.heap H locs → ∀ ls : Array Slot, lv_has ls 8 [(7, .int (nI i)), (6, .int (nI (s_desc c0 (nI k) (cLy c0 (nI k))).length)), (3, .long (lp (ask_c (s_desc c0 (nI k) (cLy c0 (nI k)))) i (((31 : Int64) * (((31 : Int64) * (((31 : Int64) * (((31 : Int64) * (lp (ask_b c0) k (ask_h c0))) + (Int32.toInt64 (sel (x_bag c0 (nI k)) (s_limit c0 (nI k)) (-1001))))) + (Int32.toInt64 (sel (x_bag c0 (nI k)) (s_weightByItems c0 (nI k)) (-1001))))) + (Int32.toInt64 (sel (x_bag c0 (nI k)) (s_countLayers c0 (nI k)) (-1001))))) + (Int32.toInt64 (sel (x_bag c0 (nI k)) (s_bests c0 (nI k)) (-1001)))))), (5, .int (nI k)), (2, .int (nI (nbg c0))), (1, .int (nI (cN c0))), (0, .ref h)] → W p9 l e (headSpec (wA yL_asks cL_asks 8 (some .long)) ({ frames := 17, cells := 1200, slots := 150000, locals := 424 } : Room)).room s m ([.ref h] : List Value).toArray below meth c9 H locs ((3 + (900 - 300 * (m9 + 1))) + 196 + (58 - 1 * m7)) ((18 + (135000 - 45000 * (m9 + 1))) + 38612 + (348 - 6 * m7)) (MQ below (va_Ql (fun (r : Int64) (_ : List Int32) => r = ask_v c0) (fun u t9 => LW D G X A h c0 c2 hS hn sv u fl t9.heap) A) ([.ref h] : List Value).toArray s 1200 150000 A) (F0 m 156 ls []) := by
        intro m7
        induction m7 with
        | zero =>
          intro i hk3  H locs  hW hS0 ls hl
          obtain rfl : i = (s_desc c0 (nI k) (cLy c0 (nI k))).length := by omega
          refine W.widen (k := (3 + (900 - 300 * (m9 + 1))) + 254) (n := (18 + (135000 - 45000 * (m9 + 1))) + 38960) (by omega) (by omega) ?_
          refine lv_iload hx hb dL_asks_156 (lv_at hl 0 rfl) ?_
          refine lv_iload hx hb dL_asks_158 (lv_at hl 1 rfl) ?_
          refine lv_icmp_ge (tgt := 183) hx hb dL_asks_160 (by decide) (fun _ => ?_) (fun c_19 => absurd (nI_le (a := ((s_desc c0 (nI k) (cLy c0 (nI k))).length)) (b := ((s_desc c0 (nI k) (cLy c0 (nI k))).length)) (by omega) (by omega)) c_19)
          refine lv_iinc (v := nI (k + 1)) (lv' := [(5, .int (nI (k + 1))), (7, .int (nI ((s_desc c0 (nI k) (cLy c0 (nI k))).length))), (6, .int (nI (s_desc c0 (nI k) (cLy c0 (nI k))).length)), (3, .long (lp (ask_c (s_desc c0 (nI k) (cLy c0 (nI k)))) ((s_desc c0 (nI k) (cLy c0 (nI k))).length) (((31 : Int64) * (((31 : Int64) * (((31 : Int64) * (((31 : Int64) * (lp (ask_b c0) k (ask_h c0))) + (Int32.toInt64 (sel (x_bag c0 (nI k)) (s_limit c0 (nI k)) (-1001))))) + (Int32.toInt64 (sel (x_bag c0 (nI k)) (s_weightByItems c0 (nI k)) (-1001))))) + (Int32.toInt64 (sel (x_bag c0 (nI k)) (s_countLayers c0 (nI k)) (-1001))))) + (Int32.toInt64 (sel (x_bag c0 (nI k)) (s_bests c0 (nI k)) (-1001)))))), (2, .int (nI (nbg c0))), (1, .int (nI (cN c0))), (0, .ref h)]) hx hb dL_asks_183 hl (k := 3) rfl (by exact nI_1 k) (by decide) rfl (fun ls hl => ?_)
          refine lv_goto (tgt := 89) hx hb dL_asks_186 (by decide) ?_
          refine W.widen (k := (3 + (900 - 300 * m9))) (n := (18 + (135000 - 45000 * m9))) (by omega) (by omega) ?_
          exact ih1 (k + 1) (by omega) (s_desc c0 (nI k) (cLy c0 (nI k))) _ _ hW hS0 ls (by rw [lp_s, ask_b]; exact lv_sub hl [0, 3, 4, 5, 6] rfl)
        | succ m7 ih3 =>
          intro i hk3  H locs  hW hS0 ls hl
          have hlt3 : i < (s_desc c0 (nI k) (cLy c0 (nI k))).length := by omega
          refine W.widen (k := ((3 + (900 - 300 * (m9 + 1))) + 196 + (58 - 1 * (m7 + 1))) + 0) (n := ((18 + (135000 - 45000 * (m9 + 1))) + 38612 + (348 - 6 * (m7 + 1))) + 0) (by omega) (by omega) ?_
          refine lv_iload hx hb dL_asks_156 (lv_at hl 0 rfl) ?_
          refine lv_iload hx hb dL_asks_158 (lv_at hl 1 rfl) ?_
          refine lv_icmp_ge (tgt := 183) hx hb dL_asks_160 (by decide) (fun c_20 => absurd c_20 (nI_ge (a := i) (b := ((s_desc c0 (nI k) (cLy c0 (nI k))).length)) (by omega) (by omega))) (fun _ => ?_)
          refine lv_ldc2 hx hb hown (hts _ kw_933) dL_asks_163 ?_
          refine lv_lload_n hx hb dL_asks_166 rfl (lv_at hl 2 rfl) ?_
          refine lv_lmul hx hb dL_asks_167 ?_
          refine lv_aload_n hx hb dL_asks_168 rfl (lv_at hl 6 rfl) ?_
          refine lv_iload hx hb dL_asks_169 (lv_at hl 0 rfl) ?_
          refine va_calli (vx_runSW (As := [.ref h, .int (nI i)]) (rest := [.long ((31 : Int64) * (lp (ask_c (s_desc c0 (nI k) (cLy c0 (nI k)))) i (((31 : Int64) * (((31 : Int64) * (((31 : Int64) * (((31 : Int64) * (lp (ask_b c0) k (ask_h c0))) + (Int32.toInt64 (sel (x_bag c0 (nI k)) (s_limit c0 (nI k)) (-1001))))) + (Int32.toInt64 (sel (x_bag c0 (nI k)) (s_weightByItems c0 (nI k)) (-1001))))) + (Int32.toInt64 (sel (x_bag c0 (nI k)) (s_countLayers c0 (nI k)) (-1001))))) + (Int32.toInt64 (sel (x_bag c0 (nI k)) (s_bests c0 (nI k)) (-1001))))))]) ⟨hx, hb, hml, hown, hts⟩ (cl_L_labelAt l hfl D G B0 X A h c0 c2 hS hn sv (s_desc c0 (nI k) (cLy c0 (nI k))) fl (nI i) H.size) (vx_cwSW (hh := [(0, 5, 6, 30)]) 2 hts gl_178 rfl rfl rfl (by decide +kernel) ⟨Nat.le_of_ble_eq_true rfl, Nat.le_of_ble_eq_true rfl⟩) (ps_lw hK hW (hE.at hS0 hAB) (AH hA0 hS0) hAB) rfl rfl hl.1 rfl (lv_room (Nat.le_of_ble_eq_true rfl)) dL_asks_171 ⟨(show ((3 + (900 - 300 * (m9 + 1))) + 196 + (58 - 1 * (m7 + 1))) + 0 + 1 ≤ 1200 by omega), (show ((18 + (135000 - 45000 * (m9 + 1))) + 38612 + (348 - 6 * (m7 + 1))) + 0 + 6 ≤ 150000 by omega)⟩) hS0 (fun q _ h => h) (fun q h => h) (fun r u21 t9 H1 locs ht hvm hw hW hz1 hk1 hS0 => ?_)
          have hX : x_lab (s_desc c0 (nI k) (cLy c0 (nI k))) (nI i) = 0 := x_lab_in hlt3 (LW_lab hW)
          rw [hX] at hw
          have hw : r = (s_desc c0 (nI k) (cLy c0 (nI k))).getD (nI i).toNatClampNeg 0 &&& 255 := hw
          have hW : LW D G X A h c0 c2 hS hn sv (s_desc c0 (nI k) (cLy c0 (nI k))) fl H1 := LW_h ht hW
          obtain ⟨H, rfl⟩ : ∃ z, z = H1 := ⟨_, rfl⟩
          rw [hw]
          refine W.widen (k := ((3 + (900 - 300 * (m9 + 1))) + 196 + (58 - 1 * (m7 + 1))) + 1) (n := ((18 + (135000 - 45000 * (m9 + 1))) + 38612 + (348 - 6 * (m7 + 1))) + 6) (by omega) (by omega) ?_
          refine lv_i2l hx hb dL_asks_174 rfl ?_
          refine lv_ladd hx hb dL_asks_175 ?_
          refine lv_lstore_n (lv' := [(3, .long (((31 : Int64) * (lp (ask_c (s_desc c0 (nI k) (cLy c0 (nI k)))) i (((31 : Int64) * (((31 : Int64) * (((31 : Int64) * (((31 : Int64) * (lp (ask_b c0) k (ask_h c0))) + (Int32.toInt64 (sel (x_bag c0 (nI k)) (s_limit c0 (nI k)) (-1001))))) + (Int32.toInt64 (sel (x_bag c0 (nI k)) (s_weightByItems c0 (nI k)) (-1001))))) + (Int32.toInt64 (sel (x_bag c0 (nI k)) (s_countLayers c0 (nI k)) (-1001))))) + (Int32.toInt64 (sel (x_bag c0 (nI k)) (s_bests c0 (nI k)) (-1001)))))) + (Int32.toInt64 ((s_desc c0 (nI k) (cLy c0 (nI k))).getD (nI i).toNatClampNeg 0 &&& 255)))), (7, .int (nI i)), (6, .int (nI (s_desc c0 (nI k) (cLy c0 (nI k))).length)), (5, .int (nI k)), (2, .int (nI (nbg c0))), (1, .int (nI (cN c0))), (0, .ref h)]) hx hb dL_asks_176 rfl hl (by decide) rfl (fun ls hl => ?_)
          refine lv_iinc (v := nI (i + 1)) (lv' := [(7, .int (nI (i + 1))), (3, .long (((31 : Int64) * (lp (ask_c (s_desc c0 (nI k) (cLy c0 (nI k)))) i (((31 : Int64) * (((31 : Int64) * (((31 : Int64) * (((31 : Int64) * (lp (ask_b c0) k (ask_h c0))) + (Int32.toInt64 (sel (x_bag c0 (nI k)) (s_limit c0 (nI k)) (-1001))))) + (Int32.toInt64 (sel (x_bag c0 (nI k)) (s_weightByItems c0 (nI k)) (-1001))))) + (Int32.toInt64 (sel (x_bag c0 (nI k)) (s_countLayers c0 (nI k)) (-1001))))) + (Int32.toInt64 (sel (x_bag c0 (nI k)) (s_bests c0 (nI k)) (-1001)))))) + (Int32.toInt64 ((s_desc c0 (nI k) (cLy c0 (nI k))).getD (nI i).toNatClampNeg 0 &&& 255)))), (6, .int (nI (s_desc c0 (nI k) (cLy c0 (nI k))).length)), (5, .int (nI k)), (2, .int (nI (nbg c0))), (1, .int (nI (cN c0))), (0, .ref h)]) hx hb dL_asks_177 hl (k := 1) rfl (by exact nI_1 i) (by decide) rfl (fun ls hl => ?_)
          refine lv_goto (tgt := 156) hx hb dL_asks_180 (by decide) ?_
          refine W.widen (k := ((3 + (900 - 300 * (m9 + 1))) + 196 + (58 - 1 * m7))) (n := ((18 + (135000 - 45000 * (m9 + 1))) + 38612 + (348 - 6 * m7))) (by omega) (by omega) ?_
          exact ih3 (i + 1) (by omega) _ _ hW hS0 ls (by rw [lp_s, ask_c]; exact lv_sub hl [0, 2, 1, 3, 4, 5, 6] rfl)
      refine W.widen (k := ((3 + (900 - 300 * (m9 + 1))) + 196 + (58 - 1 * ((s_desc c0 (nI k) (cLy c0 (nI k))).length)))) (n := ((18 + (135000 - 45000 * (m9 + 1))) + 38612 + (348 - 6 * ((s_desc c0 (nI k) (cLy c0 (nI k))).length)))) (by omega) (by omega) ?_
      exact L156 ((s_desc c0 (nI k) (cLy c0 (nI k))).length) 0 (by omega) _ _ hW hS0 ls (lv_sub hl [0, 1, 2, 3, 4, 5, 6] rfl)
  refine W.widen (k := (3 + (900 - 300 * (nbg c0)))) (n := (18 + (135000 - 45000 * (nbg c0)))) (by omega) (by omega) ?_
  exact L89 (nbg c0) 0 (by omega) lab _ _ hW hS0 ls (lv_sub hl [0, 1, 2, 3, 4] rfl)
