/-! A PACKER'S METHODS: what is thrown, by number (0 nothing) -/
def exN : Nat → String := fun k => if k = 1 then iae else if k = 2 then nse else if k = 3 then iob else if k = 4 then ise else if k = 5 then uoe else are
abbrev CBp (D : va_G) (G : GA) (B0 : Nat) (X : Nat → Nat → Nat) (ad : AD) (c0 c1 c2 : CS) (hS : Nat → CS) (hn : Nat) (sv : SV) (lv : LV) (bs fl : Nat → Int32) (sz : Nat) (U : State) : Prop :=
  U.heap.size = sz ∧ va_P D vwCl (CBL G X ad c0 c1 c2 hS hn sv lv bs fl).flatten U.heap ∧ KK D G U ∧ va_D (bA B0) (CBL G X ad c0 c1 c2 hS hn sv lv bs fl).flatten ∧ EN B0 X U U.heap
abbrev CQp (D : va_G) (G : GA) (B0 : Nat) (X : Nat → Nat → Nat) (ad : AD) (c0 c1 c2 : CS) (hS : Nat → CS) (hn : Nat) (sv : SV) (lv : LV) (bs fl : Nat → Int32) (U : State) : Prop :=
  va_P D vwCl (CBL G X ad c0 c1 c2 hS hn sv lv bs fl).flatten U.heap ∧ KK D G U ∧ EN B0 X U U.heap
section PVB
variable {s : State} {H : Heap} {D : va_G} {G : GA} {B0 : Nat} {X : Nat → Nat → Nat} {ad : AD} {c0 c1 c2 : CS} {hS : Nat → CS} {hn : Nat} {sv : SV} {lv : LV} {bs fl : Nat → Int32}
theorem pv_cq {As : List Value} (hK : KK D G s) (hP : va_P D vwCl (CBL G X ad c0 c1 c2 hS hn sv lv bs fl).flatten H) (hE : EN B0 X s H) : PreV s H RX7 (ad.1 3 0) (va_Pc (.ref (ad.1 3 0) :: As) (CQp D G B0 X ad c0 c1 c2 hS hn sv lv bs fl)) As :=
  ⟨fun A U g mk q => ⟨q.1, q.2.1, va_K.moved (Vm.Alike.refl U.vm) q.2.2.1, EN.warm (s := U) (State.WarmedH.refl U) q.2.2.2⟩, va_recv hK (P_blk hP (i := 0) rfl) (ci := 8) (q0 := 0) rfl rfl, fun U hU hW => ⟨rfl, by rw [hU]; exact hP, va_K.moved hW.alike hK, by rw [hU]; exact hE.warm hW⟩⟩
theorem pv_cb {A : Nat → Prop} {As : List Value} (hK : KK D G s) (hP : va_P D vwCl (CBL G X ad c0 c1 c2 hS hn sv lv bs fl).flatten H) (hD : va_D A (CBL G X ad c0 c1 c2 hS hn sv lv bs fl).flatten) (hAB : ∀ q, A q → B0 ≤ q) (hE : EN B0 X s H) : PreV s H RX7 (ad.1 3 0) (va_Pc (.ref (ad.1 3 0) :: As) (CBp D G B0 X ad c0 c1 c2 hS hn sv lv bs fl H.size)) As :=
  ⟨fun A U g mk q => ⟨q.1, q.2.1, q.2.2.1, va_K.moved (Vm.Alike.refl U.vm) q.2.2.2.1, q.2.2.2.2.1, EN.warm (s := U) (State.WarmedH.refl U) q.2.2.2.2.2⟩, va_recv hK (P_blk hP (i := 0) rfl) (ci := 8) (q0 := 0) rfl rfl, fun U hU hW => ⟨rfl, by rw [hU], by rw [hU]; exact hP, va_K.moved hW.alike hK, hD.weaken (fun _ q _ h => hAB q.1 h), by rw [hU]; exact hE.warm hW⟩⟩
end PVB
abbrev RZp (B0 : Nat) (X : Nat → Nat → Nat) (U : State) : Prop := EN B0 X U U.heap
theorem ps_rz {s : State} {H : Heap} {B0 : Nat} {X : Nat → Nat → Nat} {As : List Value} (hE : EN B0 X s H) : PreS s H (va_Pc As (RZp B0 X)) As :=
  ⟨fun A U g mk q => ⟨q.1, EN.warm (s := U) (State.WarmedH.refl U) q.2⟩, fun U hU hW => ⟨rfl, by show EN B0 X U U.heap; rw [hU]; exact hE.warm hW⟩⟩
/-- nothing old has changed -/
theorem F_none {s t : State} {A : Nat → Prop} (hz : s.heap.size ≤ t.heap.size) (hk : ∀ q : Nat, q < s.heap.size → t.heap[q]? = s.heap[q]?) : va_F A s t := ⟨hz, fun q h _ => hk q h⟩
theorem S_F {s t : State} {A : Nat → Prop} {H : Heap} {locs : List Loc} (hS : va_S A s.heap H locs) (hz : H.size ≤ t.heap.size) (hk : ∀ q : Nat, q < H.size → t.heap[q]? = H[q]?) : va_F A s t :=
  ⟨Nat.le_trans hS.1 hz, fun q h1 h2 => by rw [hk q (Nat.lt_of_lt_of_le h1 hS.1)]; exact hS.2.1 q h1 h2⟩
section BXR
variable {p : Program} {l : Launch} {e : Env} {R : Room} {s : State} {m : MethodId} {args : Array Value} {below : List Frame} {meth : Method} {c : Code} {H : Heap} {locs : List Loc} {cells slots : Nat} {Q : State → Prop}
variable {pc : Nat} {ls : Array Slot} {rest st0 : List Value} {a : Array Value} {A0 A1 : Nat → Prop} {H0 : Heap} {mc ms : Nat} {free : Addr → Prop}
/-- a callee that answers an object, or throws -/
theorem bx_callr {S SX : Type} {post : S → Prop} {px : SX → Prop} {B : S → Nat → State → Prop} {BX : String → SX → State → Prop} {AX : Nat → Prop} (hr : vx_Run p l e R s m args below meth c H locs cells slots mc ms (F0 m pc ls st0) rest (va_Qr post B A1 a) (vx_X px BX AX) free) (hS : va_S A0 H0 H locs) (hA : ∀ q, q < H.size → A1 q → A0 q) (hf : ∀ q, free q → A0 q) (hAX : ∀ q, q < H.size → AX q → A0 q)
    (kx : ∀ (E : String) (ce : Cell) (q9 : Addr) (u : SX) (t : State) (H1 : Heap) (locs1 : List Loc), t.heap = H1 → s.vm.Alike t.vm → px u → BX E u t → H.size ≤ H1.size → (∀ q : Nat, q < H.size → ¬ AX q → H1[q]? = H[q]?) → va_S A0 H0 H1 locs1 → H1[q9]? = some ce → ce.vm = .none → s.vm.findClass E = some ce.cls → vx_W p l e R s m args below meth c H1 locs1 (cells + mc) (slots + ms) Q (F0 m pc ls rest) q9)
    (kk : ∀ (u : S) (ra : Nat) (t : State) (H1 : Heap) (locs1 : List Loc), t.heap = H1 → s.vm.Alike t.vm → post u → B u ra t → H.size ≤ H1.size → (∀ q : Nat, q < H.size → ¬ A1 q → H1[q]? = H[q]?) → va_S A0 H0 H1 locs1 → W p l e R s m args below meth c H1 locs1 (cells + mc) (slots + ms) Q (F0 m (pc + 3) ls (.ref ra :: rest))) : W p l e R s m args below meth c H locs cells slots Q (F0 m pc ls st0) := by
  intro T hT Z
  rcases hr T hT Z with ⟨v, st₀, t, T', L, h0, Z', hL, e1, e2, ⟨⟨u, ra, hv, hp, hb⟩, hF⟩, st⟩ | ⟨q, st₀, t, T', L, E, ce, h0, Z', hL, e1, e2, ⟨u, hp, hb, hF⟩, hce, hcv, hcl, st⟩
  · cases hv
    obtain ⟨k1, k2, k3⟩ := vx_keep h0 e1 hS hA hf hL hF
    obtain ⟨t2, a1, b1⟩ := kk u ra t T'.heap (locs ++ L) e1.symm (by rw [← e2]; exact Z'.warmed.alike) hp hb k1 k2 k3 T' rfl Z'
    exact ⟨t2, st t2 a1, b1⟩
  · obtain ⟨k1, k2, k3⟩ := vx_keep h0 e1 hS hAX hf hL hF
    obtain ⟨t2, a1, b1⟩ := kx E ce q u t T'.heap (locs ++ L) e1.symm (by rw [← e2]; exact Z'.warmed.alike) hp hb k1 k2 k3 (by rw [e1]; exact hce) hcv hcl T' rfl Z'
    exact ⟨t2, st.trans a1, b1⟩
end BXR
def x_bag (c0 : CS) (b : Int32) : Nat := if s_hasBag c0 b = true then 0 else 3
def x_item (c0 : CS) (id : Int32) : Nat := if p_there (itm c0 (s_find c0 id)) = true then 0 else 2
def x_packed (c0 : CS) (id : Int32) : Nat := if p_inbag (itm c0 (s_find c0 id)) = true then 0 else 2
def x_layer (c0 : CS) (b w : Int32) : Nat := if x_bag c0 b = 0 then (if w < 0 then 3 else if w < s_countLayers c0 b then 0 else 3) else x_bag c0 b
def x_rank (c0 : CS) (i : Int32) : Nat := if p_there (itm c0 (s_findRank c0 i)) = true then 0 else 3
def x_place (c0 : CS) (b w i : Int32) : Nat := if x_layer c0 b w = 0 then (if p_there (itm c0 (s_findPlace c0 b w i)) = true then 0 else 2) else x_layer c0 b w
def x_next (c0 : CS) : Nat := if s_hasPacked c0 = true then 0 else 2
def x_emp (c0 : CS) : Nat := if c0.2.2 1 = 0 then 2 else 0
def x_reason (fl : Nat → Int32) : Nat := if fl 1 = 0 then 2 else 0
def x_errp (fl : Nat → Int32) : Nat := if fl 3 = -1 then 2 else 0
def x_fail (fl : Nat → Int32) : Nat := if fl 4 = -1 then 2 else 0
def x_best (c0 : CS) (b : Int32) : Nat := x_bag c0 b
theorem gw_X7_156 : GoodIn tb (wsV RX7 156 RX1 yX1_countItems (wA yX1_countItems cX1_countItems 6 (some .int))) := gV kw_277 kw_278 kw_279 kw_25 kw_280
theorem gw_X7_159 : GoodIn tb (wsV RX7 159 RX1 yX1_countDepot (wA yX1_countDepot cX1_countDepot 6 (some .int))) := gV kw_289 kw_290 kw_291 kw_25 kw_292
theorem gw_X7_162 : GoodIn tb (wsV RX7 162 RX1 yX1_find (wA yX1_find cX1_find 6 (some (.object "CourierBags$Item")))) := gV kw_301 kw_302 kw_303 kw_25 kw_304
theorem gw_X7_165 : GoodIn tb (wsV RX7 165 RX4 yX4_isThere (wA yX4_isThere cX4_isThere 1 (some .boolean))) := gV kw_305 kw_282 kw_283 kw_26 kw_284
theorem gw_X7_369 : GoodIn tb (wsV RX7 369 RX1 yX1_hasBag (wA yX1_hasBag cX1_hasBag 2 (some .boolean))) := gV kw_719 kw_609 kw_610 kw_25 kw_611
theorem gw_X7_183 : GoodIn tb (wsV RX7 183 RX4 yX4_isInBag (wA yX4_isInBag cX4_isInBag 1 (some .boolean))) := gV kw_707 kw_539 kw_540 kw_26 kw_541
theorem gw_X7_102 : GoodIn tb (wsV RX7 102 RX7 yX7_requireItem (wA yX7_requireItem cX7_requireItem 3 (some (.object "CourierBags$Item")))) := gV kw_703 kw_705 kw_9 kw_24 kw_706
theorem gw_X7_186 : GoodIn tb (wsV RX7 186 RX7 yX7_requirePacked (wA yX7_requirePacked cX7_requirePacked 3 (some (.object "CourierBags$Item")))) := gV kw_1347 kw_1349 kw_20 kw_24 kw_1350
theorem gw_X7_195 : GoodIn tb (wsV RX7 195 RX1 yX1_findRank (wA yX1_findRank cX1_findRank 6 (some (.object "CourierBags$Item")))) := gV kw_1310 kw_618 kw_619 kw_25 kw_620
theorem gw_X7_106 : GoodIn tb (wsV RX7 106 RX7 yX7_requireBag (wA yX7_requireBag cX7_requireBag 2 none)) := gV kw_715 kw_717 kw_10 kw_24 kw_718
theorem gw_X7_209 : GoodIn tb (wsV RX7 209 RX1 yX1_limit (wA yX1_limit cX1_limit 2 (some .int))) := gV kw_1005 kw_646 kw_647 kw_25 kw_648
theorem gw_X7_212 : GoodIn tb (wsV RX7 212 RX1 yX1_weightByItems (wA yX1_weightByItems cX1_weightByItems 7 (some .int))) := gV kw_720 kw_650 kw_651 kw_25 kw_652
theorem gw_X7_215 : GoodIn tb (wsV RX7 215 RX1 yX1_weightByLayers (wA yX1_weightByLayers cX1_weightByLayers 2 (some .int))) := gV kw_1392 kw_1393 kw_1394 kw_25 kw_1395
theorem gw_X7_218 : GoodIn tb (wsV RX7 218 RX1 yX1_roomIn (wA yX1_roomIn cX1_roomIn 2 (some .int))) := gV kw_1407 kw_642 kw_643 kw_25 kw_644
theorem gw_X7_221 : GoodIn tb (wsV RX7 221 RX1 yX1_countLayers (wA yX1_countLayers cX1_countLayers 7 (some .int))) := gV kw_728 kw_558 kw_559 kw_25 kw_560
theorem gw_X7_243 : GoodIn tb (wsV RX7 243 RX1 yX1_bestBySets (wA yX1_bestBySets cX1_bestBySets 2 (some .int))) := gV kw_1013 kw_1014 kw_1015 kw_25 kw_1016
theorem gw_X7_224 : GoodIn tb (wsV RX7 224 RX7 yX7_requireLayer (wA yX7_requireLayer cX7_requireLayer 3 none)) := gV kw_1415 kw_1417 kw_22 kw_24 kw_1418
theorem gw_X7_228 : GoodIn tb (wsV RX7 228 RX1 yX1_countInLayer (wA yX1_countInLayer cX1_countInLayer 8 (some .int))) := gV kw_1420 kw_573 kw_574 kw_25 kw_575
theorem gw_X7_237 : GoodIn tb (wsV RX7 237 RX1 yX1_sizeOfLayer (wA yX1_sizeOfLayer cX1_sizeOfLayer 8 (some .int))) := gV kw_1437 kw_638 kw_639 kw_25 kw_640
theorem gw_X7_240 : GoodIn tb (wsV RX7 240 RX1 yX1_loadOn (wA yX1_loadOn cX1_loadOn 8 (some .int))) := gV kw_1445 kw_662 kw_663 kw_25 kw_664
theorem gw_X7_231 : GoodIn tb (wsV RX7 231 RX1 yX1_findPlace (wA yX1_findPlace cX1_findPlace 8 (some (.object "CourierBags$Item")))) := gV kw_1428 kw_1280 kw_1281 kw_25 kw_1282
theorem gw_X7_136 : GoodIn tb (wsV RX7 136 RX1 yX1_hasPackedItem (wA yX1_hasPackedItem cX1_hasPackedItem 1 (some .boolean))) := gV kw_995 kw_681 kw_682 kw_25 kw_683
theorem gw_X7_147 : GoodIn tb (wsV RX7 147 RX1 yX1_lowestPackedStop (wA yX1_lowestPackedStop cX1_lowestPackedStop 6 (some .int))) := gV kw_997 kw_690 kw_691 kw_25 kw_692
theorem gw_X7_252 : GoodIn tb (wsV RX7 252 RX1 yX1_findEmptiest (wA yX1_findEmptiest cX1_findEmptiest 3 (some .int))) := gV kw_984 kw_985 kw_986 kw_25 kw_987
set_option maxRecDepth 100000 in
set_option maxHeartbeats 4000000 in
theorem c_X7_itemCount (l : Launch) (D : va_G) (G : GA) (B0 : Nat) (X : Nat → Nat → Nat) (ad : AD) (c0 c1 c2 : CS) (hS : Nat → CS) (hn : Nat) (sv : SV) (lv : LV) (bs fl : Nat → Int32) : Met l yX7_itemCount (wA yX7_itemCount cX7_itemCount 1 (some .int)) ({ frames := 2, cells := 0, slots := 0, locals := 45 } : Room) (va_Pc [.ref (ad.1 3 0)] (CQp D G B0 X ad c0 c1 c2 hS hn sv lv bs fl)) (vp_Si (fun r => r = s_countItems c0)) 0 0 (fun _ => False) := by
  refine Met.ofW (cc := cX7_itemCount) (maxL := 1) (ret := (some .int)) (by decide) rfl ?_
  intro p9 e s m args below meth c9 s₁ B hml hv
  obtain ⟨rfl, hP, hK, hE⟩ := hv
  have hx := B.exec
  have hb := B.bytes
  have hr := B.returns
  have hts : ∀ w9 ∈ tb, w9.before ([.ref (ad.1 3 0)] : List Value).toArray s = true := fun w9 h9 => atoms_spec (ws := (wA yX7_itemCount cX7_itemCount 1 (some .int))) B.pre w9 (List.mem_cons_of_mem _ h9)
  have hown : s.vm.findClass RX7 = some m.cls := findClass_of_methodNamed B.named
  have hlocks := B.notSynchronized
  have hAB : ∀ q : Nat, (fun _ : Nat => False) q → B0 ≤ q := fun _ h => h.elim
  have hS0 : va_S (fun _ => False) s.heap s.heap [] := va_S.rf
  have hl := lv_entry ([.ref (ad.1 3 0)]) (n := 1) (Nat.le_of_ble_eq_true rfl)
  rw [lg_entry_eq]
  generalize (lg_sl ([.ref (ad.1 3 0)]) ++ List.replicate (1 - (lg_sl ([.ref (ad.1 3 0)])).length) Slot.unset).toArray = ls at hl ⊢
  have hl : lv_has ls 1 [(0, .ref (ad.1 3 0))] := hl
  refine lv_aload_n hx hb dX7_itemCount_0 rfl (lv_at hl 0 rfl) ?_
  refine va_get (D := D) (ci := 8) (v := .ref (ad.1 0 0)) (C := RX7) (T := TX7) (N := 12) hx hb hts i_X7 hown hK (P_blk hP (i := 0) rfl) 0 rfl rfl 0 (by decide) (hts _ kw_228) (fun _ h9 => h9) rfl dX7_itemCount_1 ?_
  have hPc : va_P D vwCl (cw G (ad.1 0) c0) s.heap := P_blk hP (i := 1) rfl
  refine vp_callSi (va_runV (As := []) (rest := []) ⟨hx, hb, hml, hown, hts⟩ (c_X1_countItems l D G (ad.1 0) c0) (cwV 0 hts gw_X7_156 rfl rfl rfl (by decide +kernel) ⟨Nat.le_of_ble_eq_true rfl, Nat.le_of_ble_eq_true rfl⟩) (pv_cw hK hPc) rfl rfl hl.1 rfl (lv_room (Nat.le_of_ble_eq_true rfl)) dX7_itemCount_4 ⟨Nat.le_of_ble_eq_true rfl, Nat.le_of_ble_eq_true rfl⟩).run (nm_e ?_)
  exact W.iret (v := (s_countItems c0)) hx hb hr (fun t ht hW => ⟨(s_countItems c0), rfl, rfl, ht⟩) (fun q h => absurd h List.not_mem_nil) dX7_itemCount_7
set_option maxRecDepth 100000 in
set_option maxHeartbeats 4000000 in
theorem c_X7_depotCount (l : Launch) (D : va_G) (G : GA) (B0 : Nat) (X : Nat → Nat → Nat) (ad : AD) (c0 c1 c2 : CS) (hS : Nat → CS) (hn : Nat) (sv : SV) (lv : LV) (bs fl : Nat → Int32) : Met l yX7_depotCount (wA yX7_depotCount cX7_depotCount 1 (some .int)) ({ frames := 2, cells := 0, slots := 0, locals := 45 } : Room) (va_Pc [.ref (ad.1 3 0)] (CQp D G B0 X ad c0 c1 c2 hS hn sv lv bs fl)) (vp_Si (fun r => r = s_countDepot c0)) 0 0 (fun _ => False) := by
  refine Met.ofW (cc := cX7_depotCount) (maxL := 1) (ret := (some .int)) (by decide) rfl ?_
  intro p9 e s m args below meth c9 s₁ B hml hv
  obtain ⟨rfl, hP, hK, hE⟩ := hv
  have hx := B.exec
  have hb := B.bytes
  have hr := B.returns
  have hts : ∀ w9 ∈ tb, w9.before ([.ref (ad.1 3 0)] : List Value).toArray s = true := fun w9 h9 => atoms_spec (ws := (wA yX7_depotCount cX7_depotCount 1 (some .int))) B.pre w9 (List.mem_cons_of_mem _ h9)
  have hown : s.vm.findClass RX7 = some m.cls := findClass_of_methodNamed B.named
  have hlocks := B.notSynchronized
  have hAB : ∀ q : Nat, (fun _ : Nat => False) q → B0 ≤ q := fun _ h => h.elim
  have hS0 : va_S (fun _ => False) s.heap s.heap [] := va_S.rf
  have hl := lv_entry ([.ref (ad.1 3 0)]) (n := 1) (Nat.le_of_ble_eq_true rfl)
  rw [lg_entry_eq]
  generalize (lg_sl ([.ref (ad.1 3 0)]) ++ List.replicate (1 - (lg_sl ([.ref (ad.1 3 0)])).length) Slot.unset).toArray = ls at hl ⊢
  have hl : lv_has ls 1 [(0, .ref (ad.1 3 0))] := hl
  refine lv_aload_n hx hb dX7_depotCount_0 rfl (lv_at hl 0 rfl) ?_
  refine va_get (D := D) (ci := 8) (v := .ref (ad.1 0 0)) (C := RX7) (T := TX7) (N := 12) hx hb hts i_X7 hown hK (P_blk hP (i := 0) rfl) 0 rfl rfl 0 (by decide) (hts _ kw_228) (fun _ h9 => h9) rfl dX7_depotCount_1 ?_
  have hPc : va_P D vwCl (cw G (ad.1 0) c0) s.heap := P_blk hP (i := 1) rfl
  refine vp_callSi (va_runV (As := []) (rest := []) ⟨hx, hb, hml, hown, hts⟩ (c_X1_countDepot l D G (ad.1 0) c0) (cwV 0 hts gw_X7_159 rfl rfl rfl (by decide +kernel) ⟨Nat.le_of_ble_eq_true rfl, Nat.le_of_ble_eq_true rfl⟩) (pv_cw hK hPc) rfl rfl hl.1 rfl (lv_room (Nat.le_of_ble_eq_true rfl)) dX7_depotCount_4 ⟨Nat.le_of_ble_eq_true rfl, Nat.le_of_ble_eq_true rfl⟩).run (nm_e ?_)
  exact W.iret (v := (s_countDepot c0)) hx hb hr (fun t ht hW => ⟨(s_countDepot c0), rfl, rfl, ht⟩) (fun q h => absurd h List.not_mem_nil) dX7_depotCount_7
set_option maxRecDepth 100000 in
set_option maxHeartbeats 4000000 in
theorem c_X7_exists (l : Launch) (D : va_G) (G : GA) (B0 : Nat) (X : Nat → Nat → Nat) (ad : AD) (c0 c1 c2 : CS) (hS : Nat → CS) (hn : Nat) (sv : SV) (lv : LV) (bs fl : Nat → Int32) (id : Int32) : Met l yX7_exists (wA yX7_exists cX7_exists 2 (some .boolean)) ({ frames := 2, cells := 0, slots := 0, locals := 45 } : Room) (va_Pc [.ref (ad.1 3 0), .int id] (CQp D G B0 X ad c0 c1 c2 hS hn sv lv bs fl)) (vp_Si (fun r => r = bi (p_there (itm c0 (s_find c0 id))))) 0 0 (fun _ => False) := by
  refine Met.ofW (cc := cX7_exists) (maxL := 2) (ret := (some .boolean)) (by decide) rfl ?_
  intro p9 e s m args below meth c9 s₁ B hml hv
  obtain ⟨rfl, hP, hK, hE⟩ := hv
  have hx := B.exec
  have hb := B.bytes
  have hr := B.returns
  have hts : ∀ w9 ∈ tb, w9.before ([.ref (ad.1 3 0), .int id] : List Value).toArray s = true := fun w9 h9 => atoms_spec (ws := (wA yX7_exists cX7_exists 2 (some .boolean))) B.pre w9 (List.mem_cons_of_mem _ h9)
  have hown : s.vm.findClass RX7 = some m.cls := findClass_of_methodNamed B.named
  have hlocks := B.notSynchronized
  have hAB : ∀ q : Nat, (fun _ : Nat => False) q → B0 ≤ q := fun _ h => h.elim
  have hS0 : va_S (fun _ => False) s.heap s.heap [] := va_S.rf
  have hl := lv_entry ([.ref (ad.1 3 0), .int id]) (n := 2) (Nat.le_of_ble_eq_true rfl)
  rw [lg_entry_eq]
  generalize (lg_sl ([.ref (ad.1 3 0), .int id]) ++ List.replicate (2 - (lg_sl ([.ref (ad.1 3 0), .int id])).length) Slot.unset).toArray = ls at hl ⊢
  have hl : lv_has ls 2 [(0, .ref (ad.1 3 0)), (1, .int id)] := hl
  refine lv_aload_n hx hb dX7_exists_0 rfl (lv_at hl 0 rfl) ?_
  refine va_get (D := D) (ci := 8) (v := .ref (ad.1 0 0)) (C := RX7) (T := TX7) (N := 12) hx hb hts i_X7 hown hK (P_blk hP (i := 0) rfl) 0 rfl rfl 0 (by decide) (hts _ kw_228) (fun _ h9 => h9) rfl dX7_exists_1 ?_
  refine lv_iload_n hx hb dX7_exists_4 rfl (lv_at hl 1 rfl) ?_
  have hPc : va_P D vwCl (cw G (ad.1 0) c0) s.heap := P_blk hP (i := 1) rfl
  refine va_csr (va_runV (As := [.int id]) (rest := []) ⟨hx, hb, hml, hown, hts⟩ (c_X1_find l D G (ad.1 0) c0 id) (cwV 1 hts gw_X7_162 rfl rfl rfl (by decide +kernel) ⟨Nat.le_of_ble_eq_true rfl, Nat.le_of_ble_eq_true rfl⟩) (pv_cw hK hPc) rfl rfl hl.1 rfl (lv_room (Nat.le_of_ble_eq_true rfl)) dX7_exists_5 ⟨Nat.le_of_ble_eq_true rfl, Nat.le_of_ble_eq_true rfl⟩).run (nm_e ?_)
  have hPc : va_P D vwCl (cw G (ad.1 0) c0) s.heap := P_blk hP (i := 1) rfl
  refine vp_callSi (va_runV (As := []) (rest := []) ⟨hx, hb, hml, hown, hts⟩ (c_X4_isThere l D G (ad.1 0 (3 + (s_find c0 id))) (itm c0 (s_find c0 id))) (cwV 0 hts gw_X7_165 rfl rfl rfl (by decide +kernel) ⟨Nat.le_of_ble_eq_true rfl, Nat.le_of_ble_eq_true rfl⟩) (pv_it hK hPc (cw_it G (ad.1 0) c0 (s_find_lt c0 id))) rfl rfl hl.1 rfl (lv_room (Nat.le_of_ble_eq_true rfl)) dX7_exists_8 ⟨Nat.le_of_ble_eq_true rfl, Nat.le_of_ble_eq_true rfl⟩).run (nm_e ?_)
  exact W.zret (ty := .boolean) (v := bi (p_there (itm c0 (s_find c0 id)))) hx hb hr (bi_nar _) (fun t ht hW => ⟨bi (p_there (itm c0 (s_find c0 id))), rfl, rfl, ht⟩) (fun q h => absurd h List.not_mem_nil) dX7_exists_11
set_option maxRecDepth 100000 in
set_option maxHeartbeats 4000000 in
theorem c_X7_deliveredCount (l : Launch) (D : va_G) (G : GA) (B0 : Nat) (X : Nat → Nat → Nat) (ad : AD) (c0 c1 c2 : CS) (hS : Nat → CS) (hn : Nat) (sv : SV) (lv : LV) (bs fl : Nat → Int32) : Met l yX7_deliveredCount (wA yX7_deliveredCount cX7_deliveredCount 1 (some .int)) ({ frames := 0, cells := 0, slots := 0, locals := 0 } : Room) (va_Pc [.ref (ad.1 3 0)] (CQp D G B0 X ad c0 c1 c2 hS hn sv lv bs fl)) (vp_Si (fun r => r = c0.2.2 2)) 0 0 (fun _ => False) := by
  refine Met.ofW (cc := cX7_deliveredCount) (maxL := 1) (ret := (some .int)) (by decide) rfl ?_
  intro p9 e s m args below meth c9 s₁ B hml hv
  obtain ⟨rfl, hP, hK, hE⟩ := hv
  have hx := B.exec
  have hb := B.bytes
  have hr := B.returns
  have hts : ∀ w9 ∈ tb, w9.before ([.ref (ad.1 3 0)] : List Value).toArray s = true := fun w9 h9 => atoms_spec (ws := (wA yX7_deliveredCount cX7_deliveredCount 1 (some .int))) B.pre w9 (List.mem_cons_of_mem _ h9)
  have hown : s.vm.findClass RX7 = some m.cls := findClass_of_methodNamed B.named
  have hlocks := B.notSynchronized
  have hAB : ∀ q : Nat, (fun _ : Nat => False) q → B0 ≤ q := fun _ h => h.elim
  have hS0 : va_S (fun _ => False) s.heap s.heap [] := va_S.rf
  have hl := lv_entry ([.ref (ad.1 3 0)]) (n := 1) (Nat.le_of_ble_eq_true rfl)
  rw [lg_entry_eq]
  generalize (lg_sl ([.ref (ad.1 3 0)]) ++ List.replicate (1 - (lg_sl ([.ref (ad.1 3 0)])).length) Slot.unset).toArray = ls at hl ⊢
  have hl : lv_has ls 1 [(0, .ref (ad.1 3 0))] := hl
  refine lv_aload_n hx hb dX7_deliveredCount_0 rfl (lv_at hl 0 rfl) ?_
  refine va_get (D := D) (ci := 8) (v := .ref (ad.1 0 0)) (C := RX7) (T := TX7) (N := 12) hx hb hts i_X7 hown hK (P_blk hP (i := 0) rfl) 0 rfl rfl 0 (by decide) (hts _ kw_228) (fun _ h9 => h9) rfl dX7_deliveredCount_1 ?_
  refine va_getN (D := D) (ci := 4) (v := .int (c0.2.2 2)) (C := RX1) (T := TX1) (N := 7) hx hb hts i_X1 hown hK (P_blk hP (i := 1) rfl) 0 rfl rfl 5 (by decide) (va_Nw.use rfl (nw_125 hE.nw)) (fun _ h9 => h9) rfl dX7_deliveredCount_4 ?_
  exact W.iret (v := c0.2.2 2) hx hb hr (fun t ht hW => ⟨c0.2.2 2, rfl, rfl, ht⟩) (fun q h => absurd h List.not_mem_nil) dX7_deliveredCount_7
set_option maxRecDepth 100000 in
set_option maxHeartbeats 4000000 in
theorem c_X7_deliveredWeight (l : Launch) (D : va_G) (G : GA) (B0 : Nat) (X : Nat → Nat → Nat) (ad : AD) (c0 c1 c2 : CS) (hS : Nat → CS) (hn : Nat) (sv : SV) (lv : LV) (bs fl : Nat → Int32) : Met l yX7_deliveredWeight (wA yX7_deliveredWeight cX7_deliveredWeight 1 (some .int)) ({ frames := 0, cells := 0, slots := 0, locals := 0 } : Room) (va_Pc [.ref (ad.1 3 0)] (CQp D G B0 X ad c0 c1 c2 hS hn sv lv bs fl)) (vp_Si (fun r => r = c0.2.2 3)) 0 0 (fun _ => False) := by
  refine Met.ofW (cc := cX7_deliveredWeight) (maxL := 1) (ret := (some .int)) (by decide) rfl ?_
  intro p9 e s m args below meth c9 s₁ B hml hv
  obtain ⟨rfl, hP, hK, hE⟩ := hv
  have hx := B.exec
  have hb := B.bytes
  have hr := B.returns
  have hts : ∀ w9 ∈ tb, w9.before ([.ref (ad.1 3 0)] : List Value).toArray s = true := fun w9 h9 => atoms_spec (ws := (wA yX7_deliveredWeight cX7_deliveredWeight 1 (some .int))) B.pre w9 (List.mem_cons_of_mem _ h9)
  have hown : s.vm.findClass RX7 = some m.cls := findClass_of_methodNamed B.named
  have hlocks := B.notSynchronized
  have hAB : ∀ q : Nat, (fun _ : Nat => False) q → B0 ≤ q := fun _ h => h.elim
  have hS0 : va_S (fun _ => False) s.heap s.heap [] := va_S.rf
  have hl := lv_entry ([.ref (ad.1 3 0)]) (n := 1) (Nat.le_of_ble_eq_true rfl)
  rw [lg_entry_eq]
  generalize (lg_sl ([.ref (ad.1 3 0)]) ++ List.replicate (1 - (lg_sl ([.ref (ad.1 3 0)])).length) Slot.unset).toArray = ls at hl ⊢
  have hl : lv_has ls 1 [(0, .ref (ad.1 3 0))] := hl
  refine lv_aload_n hx hb dX7_deliveredWeight_0 rfl (lv_at hl 0 rfl) ?_
  refine va_get (D := D) (ci := 8) (v := .ref (ad.1 0 0)) (C := RX7) (T := TX7) (N := 12) hx hb hts i_X7 hown hK (P_blk hP (i := 0) rfl) 0 rfl rfl 0 (by decide) (hts _ kw_228) (fun _ h9 => h9) rfl dX7_deliveredWeight_1 ?_
  refine va_getN (D := D) (ci := 4) (v := .int (c0.2.2 3)) (C := RX1) (T := TX1) (N := 7) hx hb hts i_X1 hown hK (P_blk hP (i := 1) rfl) 0 rfl rfl 6 (by decide) (va_Nw.use rfl (nw_127 hE.nw)) (fun _ h9 => h9) rfl dX7_deliveredWeight_4 ?_
  exact W.iret (v := c0.2.2 3) hx hb hr (fun t ht hW => ⟨c0.2.2 3, rfl, rfl, ht⟩) (fun q h => absurd h List.not_mem_nil) dX7_deliveredWeight_7
set_option maxRecDepth 100000 in
set_option maxHeartbeats 4000000 in
theorem c_X7_bagCount (l : Launch) (D : va_G) (G : GA) (B0 : Nat) (X : Nat → Nat → Nat) (ad : AD) (c0 c1 c2 : CS) (hS : Nat → CS) (hn : Nat) (sv : SV) (lv : LV) (bs fl : Nat → Int32) : Met l yX7_bagCount (wA yX7_bagCount cX7_bagCount 1 (some .int)) ({ frames := 0, cells := 0, slots := 0, locals := 0 } : Room) (va_Pc [.ref (ad.1 3 0)] (CQp D G B0 X ad c0 c1 c2 hS hn sv lv bs fl)) (vp_Si (fun r => r = c0.2.2 1)) 0 0 (fun _ => False) := by
  refine Met.ofW (cc := cX7_bagCount) (maxL := 1) (ret := (some .int)) (by decide) rfl ?_
  intro p9 e s m args below meth c9 s₁ B hml hv
  obtain ⟨rfl, hP, hK, hE⟩ := hv
  have hx := B.exec
  have hb := B.bytes
  have hr := B.returns
  have hts : ∀ w9 ∈ tb, w9.before ([.ref (ad.1 3 0)] : List Value).toArray s = true := fun w9 h9 => atoms_spec (ws := (wA yX7_bagCount cX7_bagCount 1 (some .int))) B.pre w9 (List.mem_cons_of_mem _ h9)
  have hown : s.vm.findClass RX7 = some m.cls := findClass_of_methodNamed B.named
  have hlocks := B.notSynchronized
  have hAB : ∀ q : Nat, (fun _ : Nat => False) q → B0 ≤ q := fun _ h => h.elim
  have hS0 : va_S (fun _ => False) s.heap s.heap [] := va_S.rf
  have hl := lv_entry ([.ref (ad.1 3 0)]) (n := 1) (Nat.le_of_ble_eq_true rfl)
  rw [lg_entry_eq]
  generalize (lg_sl ([.ref (ad.1 3 0)]) ++ List.replicate (1 - (lg_sl ([.ref (ad.1 3 0)])).length) Slot.unset).toArray = ls at hl ⊢
  have hl : lv_has ls 1 [(0, .ref (ad.1 3 0))] := hl
  refine lv_aload_n hx hb dX7_bagCount_0 rfl (lv_at hl 0 rfl) ?_
  refine va_get (D := D) (ci := 8) (v := .ref (ad.1 0 0)) (C := RX7) (T := TX7) (N := 12) hx hb hts i_X7 hown hK (P_blk hP (i := 0) rfl) 0 rfl rfl 0 (by decide) (hts _ kw_228) (fun _ h9 => h9) rfl dX7_bagCount_1 ?_
  refine va_getN (D := D) (ci := 4) (v := .int (c0.2.2 1)) (C := RX1) (T := TX1) (N := 7) hx hb hts i_X1 hown hK (P_blk hP (i := 1) rfl) 0 rfl rfl 4 (by decide) (va_Nw.use rfl (nw_123 hE.nw)) (fun _ h9 => h9) rfl dX7_bagCount_4 ?_
  exact W.iret (v := c0.2.2 1) hx hb hr (fun t ht hW => ⟨c0.2.2 1, rfl, rfl, ht⟩) (fun q h => absurd h List.not_mem_nil) dX7_bagCount_7
set_option maxRecDepth 100000 in
set_option maxHeartbeats 4000000 in
theorem c_X7_requireBag (l : Launch) (hfl : l.stackTraces = false) (D : va_G) (G : GA) (B0 : Nat) (X : Nat → Nat → Nat) (ad : AD) (c0 c1 c2 : CS) (hS : Nat → CS) (hn : Nat) (sv : SV) (lv : LV) (bs fl : Nat → Int32) (b : Int32) : vx_Met l yX7_requireBag (wA yX7_requireBag cX7_requireBag 2 none) ({ frames := 6, cells := 1, slots := 6, locals := 90 } : Room) (va_Pc [.ref (ad.1 3 0), .int b] (CQp D G B0 X ad c0 c1 c2 hS hn sv lv bs fl)) (va_Qv (fun _ : Unit => x_bag c0 b = 0) (fun _ _ => True) (fun _ => False)) (vx_X (fun _ : Unit => x_bag c0 b ≠ 0) (fun E _ _ => E = exN (x_bag c0 b)) (fun _ => False)) 1 6 (fun _ => False) := by
  refine vx_ofW (cc := cX7_requireBag) (maxL := 2) (ret := none) (by decide) rfl ?_
  intro p9 e s m args below meth c9 s₁ B hml hxt hv
  obtain ⟨rfl, hP, hK, hE⟩ := hv
  have hx := B.exec
  have hb := B.bytes
  have hr := B.returns
  have hts : ∀ w9 ∈ tb, w9.before ([.ref (ad.1 3 0), .int b] : List Value).toArray s = true := fun w9 h9 => atoms_spec (ws := (wA yX7_requireBag cX7_requireBag 2 none)) B.pre w9 (List.mem_cons_of_mem _ h9)
  have hown : s.vm.findClass RX7 = some m.cls := findClass_of_methodNamed B.named
  have hlocks := B.notSynchronized
  have hAB : ∀ q : Nat, (fun _ : Nat => False) q → B0 ≤ q := fun _ h => h.elim
  have hS0 : va_S (fun _ => False) s.heap s.heap [] := va_S.rf
  have hl := lv_entry ([.ref (ad.1 3 0), .int b]) (n := 2) (Nat.le_of_ble_eq_true rfl)
  rw [lg_entry_eq]
  generalize (lg_sl ([.ref (ad.1 3 0), .int b]) ++ List.replicate (2 - (lg_sl ([.ref (ad.1 3 0), .int b])).length) Slot.unset).toArray = ls at hl ⊢
  have hl : lv_has ls 2 [(0, .ref (ad.1 3 0)), (1, .int b)] := hl
  refine lv_aload_n hx hb dX7_requireBag_0 rfl (lv_at hl 0 rfl) ?_
  refine va_get (D := D) (ci := 8) (v := .ref (ad.1 0 0)) (C := RX7) (T := TX7) (N := 12) hx hb hts i_X7 hown hK (P_blk hP (i := 0) rfl) 0 rfl rfl 0 (by decide) (hts _ kw_228) (fun _ h9 => h9) rfl dX7_requireBag_1 ?_
  refine lv_iload_n hx hb dX7_requireBag_4 rfl (lv_at hl 1 rfl) ?_
  have hPc : va_P D vwCl (cw G (ad.1 0) c0) s.heap := P_blk hP (i := 1) rfl
  refine vp_callSi (va_runV (As := [.int b]) (rest := []) ⟨hx, hb, hml, hown, hts⟩ (c_X1_hasBag l D G (ad.1 0) c0 b) (cwV 1 hts gw_X7_369 rfl rfl rfl (by decide +kernel) ⟨Nat.le_of_ble_eq_true rfl, Nat.le_of_ble_eq_true rfl⟩) (pv_cw hK hPc) rfl rfl hl.1 rfl (lv_room (Nat.le_of_ble_eq_true rfl)) dX7_requireBag_5 ⟨Nat.le_of_ble_eq_true rfl, Nat.le_of_ble_eq_true rfl⟩).run (nm_e ?_)
  cases hb_1 : s_hasBag c0 b
  case true =>
    refine lv_if_ne (tgt := 22) hx hb dX7_requireBag_8 (by decide) (fun _ => ?_) (fun c_2 => absurd c_2 (by decide))
    refine W.widen (k := 1) (n := 6) (Nat.le_of_ble_eq_true rfl) (Nat.le_of_ble_eq_true rfl) ?_
    exact vx_ret (W.vret hx hb hr (fun t ht hW => ⟨⟨(), rfl, (by simp only [x_bag, if_pos hb_1]), trivial⟩, hS0.F ht⟩) hS0.2.2 dX7_requireBag_22)
  case false =>
    refine lv_if_ne (tgt := 22) hx hb dX7_requireBag_8 (by decide) (fun c_3 => absurd (by decide) c_3) (fun _ => ?_)
    exact tw_iob hx hb hfl hts hown hE hAB (hE.s.1 2 ("CourierBags", 352, "there is no such bag") rfl) hS0 (hml.trans hl.1.symm).symm dX7_requireBag_11 dX7_requireBag_14 (Or.inr ⟨dX7_requireBag_15, rfl⟩) dX7_requireBag_18 dX7_requireBag_21 hxt (Nat.le_of_ble_eq_true rfl) (Nat.le_of_ble_eq_true rfl) (Nat.le_of_ble_eq_true rfl) (Nat.le_of_ble_eq_true rfl) hlocks (fun t hv hz hk => ⟨(), by rw [(show x_bag c0 b = 3 from by simp only [x_bag, if_neg (bf hb_1)])]; decide, by rw [(show x_bag c0 b = 3 from by simp only [x_bag, if_neg (bf hb_1)])]; rfl, S_F hS0 hz hk⟩) hS0.2.2 (Nat.le_of_ble_eq_true rfl) (Nat.le_of_ble_eq_true rfl)
set_option maxRecDepth 100000 in
set_option maxHeartbeats 4000000 in
theorem c_X7_requireItem (l : Launch) (hfl : l.stackTraces = false) (D : va_G) (G : GA) (B0 : Nat) (X : Nat → Nat → Nat) (ad : AD) (c0 c1 c2 : CS) (hS : Nat → CS) (hn : Nat) (sv : SV) (lv : LV) (bs fl : Nat → Int32) (id : Int32) : vx_Met l yX7_requireItem (wA yX7_requireItem cX7_requireItem 3 (some (.object "CourierBags$Item"))) ({ frames := 6, cells := 1, slots := 6, locals := 90 } : Room) (va_Pc [.ref (ad.1 3 0), .int id] (CQp D G B0 X ad c0 c1 c2 hS hn sv lv bs fl)) (va_Qr (fun _ : Unit => x_item c0 id = 0) (fun _ q9 _ => q9 = ad.1 0 (3 + (s_find c0 id))) (fun _ => False)) (vx_X (fun _ : Unit => x_item c0 id ≠ 0) (fun E _ _ => E = exN (x_item c0 id)) (fun _ => False)) 1 6 (fun _ => False) := by
  refine vx_ofW (cc := cX7_requireItem) (maxL := 3) (ret := (some (.object "CourierBags$Item"))) (by decide) rfl ?_
  intro p9 e s m args below meth c9 s₁ B hml hxt hv
  obtain ⟨rfl, hP, hK, hE⟩ := hv
  have hx := B.exec
  have hb := B.bytes
  have hr := B.returns
  have hts : ∀ w9 ∈ tb, w9.before ([.ref (ad.1 3 0), .int id] : List Value).toArray s = true := fun w9 h9 => atoms_spec (ws := (wA yX7_requireItem cX7_requireItem 3 (some (.object "CourierBags$Item")))) B.pre w9 (List.mem_cons_of_mem _ h9)
  have hown : s.vm.findClass RX7 = some m.cls := findClass_of_methodNamed B.named
  have hlocks := B.notSynchronized
  have hAB : ∀ q : Nat, (fun _ : Nat => False) q → B0 ≤ q := fun _ h => h.elim
  have hS0 : va_S (fun _ => False) s.heap s.heap [] := va_S.rf
  have hl := lv_entry ([.ref (ad.1 3 0), .int id]) (n := 3) (Nat.le_of_ble_eq_true rfl)
  rw [lg_entry_eq]
  generalize (lg_sl ([.ref (ad.1 3 0), .int id]) ++ List.replicate (3 - (lg_sl ([.ref (ad.1 3 0), .int id])).length) Slot.unset).toArray = ls at hl ⊢
  have hl : lv_has ls 3 [(0, .ref (ad.1 3 0)), (1, .int id)] := hl
  refine lv_aload_n hx hb dX7_requireItem_0 rfl (lv_at hl 0 rfl) ?_
  refine va_get (D := D) (ci := 8) (v := .ref (ad.1 0 0)) (C := RX7) (T := TX7) (N := 12) hx hb hts i_X7 hown hK (P_blk hP (i := 0) rfl) 0 rfl rfl 0 (by decide) (hts _ kw_228) (fun _ h9 => h9) rfl dX7_requireItem_1 ?_
  refine lv_iload_n hx hb dX7_requireItem_4 rfl (lv_at hl 1 rfl) ?_
  have hPc : va_P D vwCl (cw G (ad.1 0) c0) s.heap := P_blk hP (i := 1) rfl
  refine va_csr (va_runV (As := [.int id]) (rest := []) ⟨hx, hb, hml, hown, hts⟩ (c_X1_find l D G (ad.1 0) c0 id) (cwV 1 hts gw_X7_162 rfl rfl rfl (by decide +kernel) ⟨Nat.le_of_ble_eq_true rfl, Nat.le_of_ble_eq_true rfl⟩) (pv_cw hK hPc) rfl rfl hl.1 rfl (lv_room (Nat.le_of_ble_eq_true rfl)) dX7_requireItem_5 ⟨Nat.le_of_ble_eq_true rfl, Nat.le_of_ble_eq_true rfl⟩).run (nm_e ?_)
  refine lv_astore_n (x := (ad.1 0 (3 + (s_find c0 id)))) (lv' := [(2, .ref (ad.1 0 (3 + (s_find c0 id)))), (0, .ref (ad.1 3 0)), (1, .int id)]) hx hb dX7_requireItem_8 rfl hl (by decide) rfl (fun ls hl => ?_)
  refine lv_aload_n hx hb dX7_requireItem_9 rfl (lv_at hl 0 rfl) ?_
  have hPc : va_P D vwCl (cw G (ad.1 0) c0) s.heap := P_blk hP (i := 1) rfl
  refine vp_callSi (va_runV (As := []) (rest := []) ⟨hx, hb, hml, hown, hts⟩ (c_X4_isThere l D G (ad.1 0 (3 + (s_find c0 id))) (itm c0 (s_find c0 id))) (cwV 0 hts gw_X7_165 rfl rfl rfl (by decide +kernel) ⟨Nat.le_of_ble_eq_true rfl, Nat.le_of_ble_eq_true rfl⟩) (pv_it hK hPc (cw_it G (ad.1 0) c0 (s_find_lt c0 id))) rfl rfl hl.1 rfl (lv_room (Nat.le_of_ble_eq_true rfl)) dX7_requireItem_10 ⟨Nat.le_of_ble_eq_true rfl, Nat.le_of_ble_eq_true rfl⟩).run (nm_e ?_)
  cases hb_1 : p_there (itm c0 (s_find c0 id))
  case true =>
    refine lv_if_ne (tgt := 27) hx hb dX7_requireItem_13 (by decide) (fun _ => ?_) (fun c_2 => absurd c_2 (by decide))
    refine lv_aload_n hx hb dX7_requireItem_27 rfl (lv_at hl 0 rfl) ?_
    refine W.widen (k := 1) (n := 6) (Nat.le_of_ble_eq_true rfl) (Nat.le_of_ble_eq_true rfl) ?_
    exact vx_ret (W.aret (v := .ref (ad.1 0 (3 + (s_find c0 id)))) hx hb hr (Or.inl ⟨_, rfl⟩) (Or.inr ⟨_, rfl⟩) (fun t ht hW => ⟨⟨(), (ad.1 0 (3 + (s_find c0 id))), rfl, (by simp only [x_item, if_pos hb_1]), rfl⟩, hS0.F ht⟩) hS0.2.2 dX7_requireItem_28)
  case false =>
    refine lv_if_ne (tgt := 27) hx hb dX7_requireItem_13 (by decide) (fun c_3 => absurd (by decide) c_3) (fun _ => ?_)
    exact tw_nse hx hb hfl hts hown hE hAB (hE.s.1 1 ("CourierBags", 347, "no item has this id") rfl) hS0 (hml.trans hl.1.symm).symm dX7_requireItem_16 dX7_requireItem_19 (Or.inr ⟨dX7_requireItem_20, rfl⟩) dX7_requireItem_23 dX7_requireItem_26 hxt (Nat.le_of_ble_eq_true rfl) (Nat.le_of_ble_eq_true rfl) (Nat.le_of_ble_eq_true rfl) (Nat.le_of_ble_eq_true rfl) hlocks (fun t hv hz hk => ⟨(), by rw [(show x_item c0 id = 2 from by simp only [x_item, if_neg (bf hb_1)])]; decide, by rw [(show x_item c0 id = 2 from by simp only [x_item, if_neg (bf hb_1)])]; rfl, S_F hS0 hz hk⟩) hS0.2.2 (Nat.le_of_ble_eq_true rfl) (Nat.le_of_ble_eq_true rfl)
set_option maxRecDepth 100000 in
set_option maxHeartbeats 4000000 in
theorem c_X7_requirePacked (l : Launch) (hfl : l.stackTraces = false) (D : va_G) (G : GA) (B0 : Nat) (X : Nat → Nat → Nat) (ad : AD) (c0 c1 c2 : CS) (hS : Nat → CS) (hn : Nat) (sv : SV) (lv : LV) (bs fl : Nat → Int32) (id : Int32) : vx_Met l yX7_requirePacked (wA yX7_requirePacked cX7_requirePacked 3 (some (.object "CourierBags$Item"))) ({ frames := 6, cells := 1, slots := 6, locals := 90 } : Room) (va_Pc [.ref (ad.1 3 0), .int id] (CQp D G B0 X ad c0 c1 c2 hS hn sv lv bs fl)) (va_Qr (fun _ : Unit => x_packed c0 id = 0) (fun _ q9 _ => q9 = ad.1 0 (3 + (s_find c0 id))) (fun _ => False)) (vx_X (fun _ : Unit => x_packed c0 id ≠ 0) (fun E _ _ => E = exN (x_packed c0 id)) (fun _ => False)) 1 6 (fun _ => False) := by
  refine vx_ofW (cc := cX7_requirePacked) (maxL := 3) (ret := (some (.object "CourierBags$Item"))) (by decide) rfl ?_
  intro p9 e s m args below meth c9 s₁ B hml hxt hv
  obtain ⟨rfl, hP, hK, hE⟩ := hv
  have hx := B.exec
  have hb := B.bytes
  have hr := B.returns
  have hts : ∀ w9 ∈ tb, w9.before ([.ref (ad.1 3 0), .int id] : List Value).toArray s = true := fun w9 h9 => atoms_spec (ws := (wA yX7_requirePacked cX7_requirePacked 3 (some (.object "CourierBags$Item")))) B.pre w9 (List.mem_cons_of_mem _ h9)
  have hown : s.vm.findClass RX7 = some m.cls := findClass_of_methodNamed B.named
  have hlocks := B.notSynchronized
  have hAB : ∀ q : Nat, (fun _ : Nat => False) q → B0 ≤ q := fun _ h => h.elim
  have hS0 : va_S (fun _ => False) s.heap s.heap [] := va_S.rf
  have hl := lv_entry ([.ref (ad.1 3 0), .int id]) (n := 3) (Nat.le_of_ble_eq_true rfl)
  rw [lg_entry_eq]
  generalize (lg_sl ([.ref (ad.1 3 0), .int id]) ++ List.replicate (3 - (lg_sl ([.ref (ad.1 3 0), .int id])).length) Slot.unset).toArray = ls at hl ⊢
  have hl : lv_has ls 3 [(0, .ref (ad.1 3 0)), (1, .int id)] := hl
  refine lv_aload_n hx hb dX7_requirePacked_0 rfl (lv_at hl 0 rfl) ?_
  refine va_get (D := D) (ci := 8) (v := .ref (ad.1 0 0)) (C := RX7) (T := TX7) (N := 12) hx hb hts i_X7 hown hK (P_blk hP (i := 0) rfl) 0 rfl rfl 0 (by decide) (hts _ kw_228) (fun _ h9 => h9) rfl dX7_requirePacked_1 ?_
  refine lv_iload_n hx hb dX7_requirePacked_4 rfl (lv_at hl 1 rfl) ?_
  have hPc : va_P D vwCl (cw G (ad.1 0) c0) s.heap := P_blk hP (i := 1) rfl
  refine va_csr (va_runV (As := [.int id]) (rest := []) ⟨hx, hb, hml, hown, hts⟩ (c_X1_find l D G (ad.1 0) c0 id) (cwV 1 hts gw_X7_162 rfl rfl rfl (by decide +kernel) ⟨Nat.le_of_ble_eq_true rfl, Nat.le_of_ble_eq_true rfl⟩) (pv_cw hK hPc) rfl rfl hl.1 rfl (lv_room (Nat.le_of_ble_eq_true rfl)) dX7_requirePacked_5 ⟨Nat.le_of_ble_eq_true rfl, Nat.le_of_ble_eq_true rfl⟩).run (nm_e ?_)
  refine lv_astore_n (x := (ad.1 0 (3 + (s_find c0 id)))) (lv' := [(2, .ref (ad.1 0 (3 + (s_find c0 id)))), (0, .ref (ad.1 3 0)), (1, .int id)]) hx hb dX7_requirePacked_8 rfl hl (by decide) rfl (fun ls hl => ?_)
  refine lv_aload_n hx hb dX7_requirePacked_9 rfl (lv_at hl 0 rfl) ?_
  have hPc : va_P D vwCl (cw G (ad.1 0) c0) s.heap := P_blk hP (i := 1) rfl
  refine vp_callSi (va_runV (As := []) (rest := []) ⟨hx, hb, hml, hown, hts⟩ (c_X4_isInBag l D G (ad.1 0 (3 + (s_find c0 id))) (itm c0 (s_find c0 id))) (cwV 0 hts gw_X7_183 rfl rfl rfl (by decide +kernel) ⟨Nat.le_of_ble_eq_true rfl, Nat.le_of_ble_eq_true rfl⟩) (pv_it hK hPc (cw_it G (ad.1 0) c0 (s_find_lt c0 id))) rfl rfl hl.1 rfl (lv_room (Nat.le_of_ble_eq_true rfl)) dX7_requirePacked_10 ⟨Nat.le_of_ble_eq_true rfl, Nat.le_of_ble_eq_true rfl⟩).run (nm_e ?_)
  cases hb_1 : p_inbag (itm c0 (s_find c0 id))
  case true =>
    refine lv_if_ne (tgt := 27) hx hb dX7_requirePacked_13 (by decide) (fun _ => ?_) (fun c_2 => absurd c_2 (by decide))
    refine lv_aload_n hx hb dX7_requirePacked_27 rfl (lv_at hl 0 rfl) ?_
    refine W.widen (k := 1) (n := 6) (Nat.le_of_ble_eq_true rfl) (Nat.le_of_ble_eq_true rfl) ?_
    exact vx_ret (W.aret (v := .ref (ad.1 0 (3 + (s_find c0 id)))) hx hb hr (Or.inl ⟨_, rfl⟩) (Or.inr ⟨_, rfl⟩) (fun t ht hW => ⟨⟨(), (ad.1 0 (3 + (s_find c0 id))), rfl, (by simp only [x_packed, if_pos hb_1]), rfl⟩, hS0.F ht⟩) hS0.2.2 dX7_requirePacked_28)
  case false =>
    refine lv_if_ne (tgt := 27) hx hb dX7_requirePacked_13 (by decide) (fun c_3 => absurd (by decide) c_3) (fun _ => ?_)
    exact tw_nse hx hb hfl hts hown hE hAB (hE.s.1 22 ("CourierBags", 367, "no packed item has this id") rfl) hS0 (hml.trans hl.1.symm).symm dX7_requirePacked_16 dX7_requirePacked_19 (Or.inr ⟨dX7_requirePacked_20, rfl⟩) dX7_requirePacked_23 dX7_requirePacked_26 hxt (Nat.le_of_ble_eq_true rfl) (Nat.le_of_ble_eq_true rfl) (Nat.le_of_ble_eq_true rfl) (Nat.le_of_ble_eq_true rfl) hlocks (fun t hv hz hk => ⟨(), by rw [(show x_packed c0 id = 2 from by simp only [x_packed, if_neg (bf hb_1)])]; decide, by rw [(show x_packed c0 id = 2 from by simp only [x_packed, if_neg (bf hb_1)])]; rfl, S_F hS0 hz hk⟩) hS0.2.2 (Nat.le_of_ble_eq_true rfl) (Nat.le_of_ble_eq_true rfl)
set_option maxRecDepth 100000 in
set_option maxHeartbeats 4000000 in
theorem c_X7_sizeOf (l : Launch) (hfl : l.stackTraces = false) (D : va_G) (G : GA) (B0 : Nat) (X : Nat → Nat → Nat) (ad : AD) (c0 c1 c2 : CS) (hS : Nat → CS) (hn : Nat) (sv : SV) (lv : LV) (bs fl : Nat → Int32) (id : Int32) : vx_Met l yX7_sizeOf (wA yX7_sizeOf cX7_sizeOf 2 (some .int)) ({ frames := 7, cells := 1, slots := 6, locals := 112 } : Room) (va_Pc [.ref (ad.1 3 0), .int id] (CQp D G B0 X ad c0 c1 c2 hS hn sv lv bs fl)) (va_Qi (fun (r : Int32) (_ : Unit) => x_item c0 id = 0 ∧ r = itm c0 (s_find c0 id) 1) (fun _ _ => True) (fun _ => False)) (vx_X (fun _ : Unit => x_item c0 id ≠ 0) (fun E _ _ => E = exN (x_item c0 id)) (fun _ => False)) 1 6 (fun _ => False) := by
  refine vx_ofW (cc := cX7_sizeOf) (maxL := 2) (ret := (some .int)) (by decide) rfl ?_
  intro p9 e s m args below meth c9 s₁ B hml hxt hv
  obtain ⟨rfl, hP, hK, hE⟩ := hv
  have hx := B.exec
  have hb := B.bytes
  have hr := B.returns
  have hts : ∀ w9 ∈ tb, w9.before ([.ref (ad.1 3 0), .int id] : List Value).toArray s = true := fun w9 h9 => atoms_spec (ws := (wA yX7_sizeOf cX7_sizeOf 2 (some .int))) B.pre w9 (List.mem_cons_of_mem _ h9)
  have hown : s.vm.findClass RX7 = some m.cls := findClass_of_methodNamed B.named
  have hlocks := B.notSynchronized
  have hAB : ∀ q : Nat, (fun _ : Nat => False) q → B0 ≤ q := fun _ h => h.elim
  have hS0 : va_S (fun _ => False) s.heap s.heap [] := va_S.rf
  have hl := lv_entry ([.ref (ad.1 3 0), .int id]) (n := 2) (Nat.le_of_ble_eq_true rfl)
  rw [lg_entry_eq]
  generalize (lg_sl ([.ref (ad.1 3 0), .int id]) ++ List.replicate (2 - (lg_sl ([.ref (ad.1 3 0), .int id])).length) Slot.unset).toArray = ls at hl ⊢
  have hl : lv_has ls 2 [(0, .ref (ad.1 3 0)), (1, .int id)] := hl
  refine lv_aload_n hx hb dX7_sizeOf_0 rfl (lv_at hl 0 rfl) ?_
  refine lv_iload_n hx hb dX7_sizeOf_1 rfl (lv_at hl 1 rfl) ?_
  refine bx_callr (vx_runV (As := [.int id]) (rest := []) ⟨hx, hb, hml, hown, hts⟩ (c_X7_requireItem l hfl D G B0 X ad c0 c1 c2 hS hn sv lv bs fl id) (cwV 1 hts gw_X7_102 rfl rfl rfl (by decide +kernel) ⟨Nat.le_of_ble_eq_true rfl, Nat.le_of_ble_eq_true rfl⟩) (pv_cq hK hP (hE.at hS0 hAB)) rfl rfl hl.1 rfl (lv_room (Nat.le_of_ble_eq_true rfl)) dX7_sizeOf_2 ⟨Nat.le_of_ble_eq_true rfl, Nat.le_of_ble_eq_true rfl⟩) hS0 (fun _ _ h => h.elim) (fun _ h => h.elim) (fun _ _ h => h.elim) ?_ ?_
  · intro E ce q9 u t9 H9 locs9 ht hvm hq_1 hBX hz1 hk1 hS9 hce hcv hcl
    exact vx_out (fun x hx => (hxt x hx).elim) hlocks hce hcv hcl (fun t8 ht8 hv8 => ⟨(), hq_1, hBX, hS9.F ht8⟩) hS9.2.2 (Nat.le_of_ble_eq_true rfl) (Nat.le_of_ble_eq_true rfl)
  · intro u q9 t9 H9 locs9 ht hvm hq_1 hB hz1 hk1 hS9
    have hP : va_P D vwCl (CBL G X ad c0 c1 c2 hS hn sv lv bs fl).flatten H9 := P_keep hP hk1 (fun _ _ h => h.elim)
    clear hS0
    obtain ⟨H, rfl⟩ : ∃ z, z = H9 := ⟨_, rfl⟩
    have hS0 := hS9
    have hB := hB.symm
    subst hB
    refine va_get (D := D) (ci := 6) (v := .int (itm c0 (s_find c0 id) 1)) (C := RX4) (T := TX4) (N := 8) hx hb hts i_X4 hown hK (P_blk hP (i := 1) rfl) (3 + (s_find c0 id)) (cw_it G (ad.1 0) c0 (s_find_lt c0 id)) rfl 1 (by decide) (hts _ kw_83) (fun _ h9 => h9) rfl dX7_sizeOf_5 ?_
    refine W.widen (k := 1) (n := 6) (Nat.le_of_ble_eq_true rfl) (Nat.le_of_ble_eq_true rfl) ?_
    exact vx_ret (W.iret (v := itm c0 (s_find c0 id) 1) hx hb hr (fun t ht hW => ⟨⟨itm c0 (s_find c0 id) 1, (), rfl, ⟨hq_1, rfl⟩, trivial⟩, hS0.F ht⟩) hS0.2.2 dX7_sizeOf_8)
set_option maxRecDepth 100000 in
set_option maxHeartbeats 4000000 in
theorem c_X7_weightOf (l : Launch) (hfl : l.stackTraces = false) (D : va_G) (G : GA) (B0 : Nat) (X : Nat → Nat → Nat) (ad : AD) (c0 c1 c2 : CS) (hS : Nat → CS) (hn : Nat) (sv : SV) (lv : LV) (bs fl : Nat → Int32) (id : Int32) : vx_Met l yX7_weightOf (wA yX7_weightOf cX7_weightOf 2 (some .int)) ({ frames := 7, cells := 1, slots := 6, locals := 112 } : Room) (va_Pc [.ref (ad.1 3 0), .int id] (CQp D G B0 X ad c0 c1 c2 hS hn sv lv bs fl)) (va_Qi (fun (r : Int32) (_ : Unit) => x_item c0 id = 0 ∧ r = itm c0 (s_find c0 id) 2) (fun _ _ => True) (fun _ => False)) (vx_X (fun _ : Unit => x_item c0 id ≠ 0) (fun E _ _ => E = exN (x_item c0 id)) (fun _ => False)) 1 6 (fun _ => False) := by
  refine vx_ofW (cc := cX7_weightOf) (maxL := 2) (ret := (some .int)) (by decide) rfl ?_
  intro p9 e s m args below meth c9 s₁ B hml hxt hv
  obtain ⟨rfl, hP, hK, hE⟩ := hv
  have hx := B.exec
  have hb := B.bytes
  have hr := B.returns
  have hts : ∀ w9 ∈ tb, w9.before ([.ref (ad.1 3 0), .int id] : List Value).toArray s = true := fun w9 h9 => atoms_spec (ws := (wA yX7_weightOf cX7_weightOf 2 (some .int))) B.pre w9 (List.mem_cons_of_mem _ h9)
  have hown : s.vm.findClass RX7 = some m.cls := findClass_of_methodNamed B.named
  have hlocks := B.notSynchronized
  have hAB : ∀ q : Nat, (fun _ : Nat => False) q → B0 ≤ q := fun _ h => h.elim
  have hS0 : va_S (fun _ => False) s.heap s.heap [] := va_S.rf
  have hl := lv_entry ([.ref (ad.1 3 0), .int id]) (n := 2) (Nat.le_of_ble_eq_true rfl)
  rw [lg_entry_eq]
  generalize (lg_sl ([.ref (ad.1 3 0), .int id]) ++ List.replicate (2 - (lg_sl ([.ref (ad.1 3 0), .int id])).length) Slot.unset).toArray = ls at hl ⊢
  have hl : lv_has ls 2 [(0, .ref (ad.1 3 0)), (1, .int id)] := hl
  refine lv_aload_n hx hb dX7_weightOf_0 rfl (lv_at hl 0 rfl) ?_
  refine lv_iload_n hx hb dX7_weightOf_1 rfl (lv_at hl 1 rfl) ?_
  refine bx_callr (vx_runV (As := [.int id]) (rest := []) ⟨hx, hb, hml, hown, hts⟩ (c_X7_requireItem l hfl D G B0 X ad c0 c1 c2 hS hn sv lv bs fl id) (cwV 1 hts gw_X7_102 rfl rfl rfl (by decide +kernel) ⟨Nat.le_of_ble_eq_true rfl, Nat.le_of_ble_eq_true rfl⟩) (pv_cq hK hP (hE.at hS0 hAB)) rfl rfl hl.1 rfl (lv_room (Nat.le_of_ble_eq_true rfl)) dX7_weightOf_2 ⟨Nat.le_of_ble_eq_true rfl, Nat.le_of_ble_eq_true rfl⟩) hS0 (fun _ _ h => h.elim) (fun _ h => h.elim) (fun _ _ h => h.elim) ?_ ?_
  · intro E ce q9 u t9 H9 locs9 ht hvm hq_1 hBX hz1 hk1 hS9 hce hcv hcl
    exact vx_out (fun x hx => (hxt x hx).elim) hlocks hce hcv hcl (fun t8 ht8 hv8 => ⟨(), hq_1, hBX, hS9.F ht8⟩) hS9.2.2 (Nat.le_of_ble_eq_true rfl) (Nat.le_of_ble_eq_true rfl)
  · intro u q9 t9 H9 locs9 ht hvm hq_1 hB hz1 hk1 hS9
    have hP : va_P D vwCl (CBL G X ad c0 c1 c2 hS hn sv lv bs fl).flatten H9 := P_keep hP hk1 (fun _ _ h => h.elim)
    clear hS0
    obtain ⟨H, rfl⟩ : ∃ z, z = H9 := ⟨_, rfl⟩
    have hS0 := hS9
    have hB := hB.symm
    subst hB
    refine va_get (D := D) (ci := 6) (v := .int (itm c0 (s_find c0 id) 2)) (C := RX4) (T := TX4) (N := 8) hx hb hts i_X4 hown hK (P_blk hP (i := 1) rfl) (3 + (s_find c0 id)) (cw_it G (ad.1 0) c0 (s_find_lt c0 id)) rfl 2 (by decide) (hts _ kw_86) (fun _ h9 => h9) rfl dX7_weightOf_5 ?_
    refine W.widen (k := 1) (n := 6) (Nat.le_of_ble_eq_true rfl) (Nat.le_of_ble_eq_true rfl) ?_
    exact vx_ret (W.iret (v := itm c0 (s_find c0 id) 2) hx hb hr (fun t ht hW => ⟨⟨itm c0 (s_find c0 id) 2, (), rfl, ⟨hq_1, rfl⟩, trivial⟩, hS0.F ht⟩) hS0.2.2 dX7_weightOf_8)
set_option maxRecDepth 100000 in
set_option maxHeartbeats 4000000 in
theorem c_X7_stopOf (l : Launch) (hfl : l.stackTraces = false) (D : va_G) (G : GA) (B0 : Nat) (X : Nat → Nat → Nat) (ad : AD) (c0 c1 c2 : CS) (hS : Nat → CS) (hn : Nat) (sv : SV) (lv : LV) (bs fl : Nat → Int32) (id : Int32) : vx_Met l yX7_stopOf (wA yX7_stopOf cX7_stopOf 2 (some .int)) ({ frames := 7, cells := 1, slots := 6, locals := 112 } : Room) (va_Pc [.ref (ad.1 3 0), .int id] (CQp D G B0 X ad c0 c1 c2 hS hn sv lv bs fl)) (va_Qi (fun (r : Int32) (_ : Unit) => x_item c0 id = 0 ∧ r = itm c0 (s_find c0 id) 3) (fun _ _ => True) (fun _ => False)) (vx_X (fun _ : Unit => x_item c0 id ≠ 0) (fun E _ _ => E = exN (x_item c0 id)) (fun _ => False)) 1 6 (fun _ => False) := by
  refine vx_ofW (cc := cX7_stopOf) (maxL := 2) (ret := (some .int)) (by decide) rfl ?_
  intro p9 e s m args below meth c9 s₁ B hml hxt hv
  obtain ⟨rfl, hP, hK, hE⟩ := hv
  have hx := B.exec
  have hb := B.bytes
  have hr := B.returns
  have hts : ∀ w9 ∈ tb, w9.before ([.ref (ad.1 3 0), .int id] : List Value).toArray s = true := fun w9 h9 => atoms_spec (ws := (wA yX7_stopOf cX7_stopOf 2 (some .int))) B.pre w9 (List.mem_cons_of_mem _ h9)
  have hown : s.vm.findClass RX7 = some m.cls := findClass_of_methodNamed B.named
  have hlocks := B.notSynchronized
  have hAB : ∀ q : Nat, (fun _ : Nat => False) q → B0 ≤ q := fun _ h => h.elim
  have hS0 : va_S (fun _ => False) s.heap s.heap [] := va_S.rf
  have hl := lv_entry ([.ref (ad.1 3 0), .int id]) (n := 2) (Nat.le_of_ble_eq_true rfl)
  rw [lg_entry_eq]
  generalize (lg_sl ([.ref (ad.1 3 0), .int id]) ++ List.replicate (2 - (lg_sl ([.ref (ad.1 3 0), .int id])).length) Slot.unset).toArray = ls at hl ⊢
  have hl : lv_has ls 2 [(0, .ref (ad.1 3 0)), (1, .int id)] := hl
  refine lv_aload_n hx hb dX7_stopOf_0 rfl (lv_at hl 0 rfl) ?_
  refine lv_iload_n hx hb dX7_stopOf_1 rfl (lv_at hl 1 rfl) ?_
  refine bx_callr (vx_runV (As := [.int id]) (rest := []) ⟨hx, hb, hml, hown, hts⟩ (c_X7_requireItem l hfl D G B0 X ad c0 c1 c2 hS hn sv lv bs fl id) (cwV 1 hts gw_X7_102 rfl rfl rfl (by decide +kernel) ⟨Nat.le_of_ble_eq_true rfl, Nat.le_of_ble_eq_true rfl⟩) (pv_cq hK hP (hE.at hS0 hAB)) rfl rfl hl.1 rfl (lv_room (Nat.le_of_ble_eq_true rfl)) dX7_stopOf_2 ⟨Nat.le_of_ble_eq_true rfl, Nat.le_of_ble_eq_true rfl⟩) hS0 (fun _ _ h => h.elim) (fun _ h => h.elim) (fun _ _ h => h.elim) ?_ ?_
  · intro E ce q9 u t9 H9 locs9 ht hvm hq_1 hBX hz1 hk1 hS9 hce hcv hcl
    exact vx_out (fun x hx => (hxt x hx).elim) hlocks hce hcv hcl (fun t8 ht8 hv8 => ⟨(), hq_1, hBX, hS9.F ht8⟩) hS9.2.2 (Nat.le_of_ble_eq_true rfl) (Nat.le_of_ble_eq_true rfl)
  · intro u q9 t9 H9 locs9 ht hvm hq_1 hB hz1 hk1 hS9
    have hP : va_P D vwCl (CBL G X ad c0 c1 c2 hS hn sv lv bs fl).flatten H9 := P_keep hP hk1 (fun _ _ h => h.elim)
    clear hS0
    obtain ⟨H, rfl⟩ : ∃ z, z = H9 := ⟨_, rfl⟩
    have hS0 := hS9
    have hB := hB.symm
    subst hB
    refine va_get (D := D) (ci := 6) (v := .int (itm c0 (s_find c0 id) 3)) (C := RX4) (T := TX4) (N := 8) hx hb hts i_X4 hown hK (P_blk hP (i := 1) rfl) (3 + (s_find c0 id)) (cw_it G (ad.1 0) c0 (s_find_lt c0 id)) rfl 3 (by decide) (hts _ kw_89) (fun _ h9 => h9) rfl dX7_stopOf_5 ?_
    refine W.widen (k := 1) (n := 6) (Nat.le_of_ble_eq_true rfl) (Nat.le_of_ble_eq_true rfl) ?_
    exact vx_ret (W.iret (v := itm c0 (s_find c0 id) 3) hx hb hr (fun t ht hW => ⟨⟨itm c0 (s_find c0 id) 3, (), rfl, ⟨hq_1, rfl⟩, trivial⟩, hS0.F ht⟩) hS0.2.2 dX7_stopOf_8)
set_option maxRecDepth 100000 in
set_option maxHeartbeats 4000000 in
theorem c_X7_isFragile (l : Launch) (hfl : l.stackTraces = false) (D : va_G) (G : GA) (B0 : Nat) (X : Nat → Nat → Nat) (ad : AD) (c0 c1 c2 : CS) (hS : Nat → CS) (hn : Nat) (sv : SV) (lv : LV) (bs fl : Nat → Int32) (id : Int32) : vx_Met l yX7_isFragile (wA yX7_isFragile cX7_isFragile 2 (some .boolean)) ({ frames := 7, cells := 1, slots := 6, locals := 112 } : Room) (va_Pc [.ref (ad.1 3 0), .int id] (CQp D G B0 X ad c0 c1 c2 hS hn sv lv bs fl)) (va_Qi (fun (r : Int32) (_ : Unit) => x_item c0 id = 0 ∧ r = z01 (itm c0 (s_find c0 id) 4)) (fun _ _ => True) (fun _ => False)) (vx_X (fun _ : Unit => x_item c0 id ≠ 0) (fun E _ _ => E = exN (x_item c0 id)) (fun _ => False)) 1 6 (fun _ => False) := by
  refine vx_ofW (cc := cX7_isFragile) (maxL := 2) (ret := (some .boolean)) (by decide) rfl ?_
  intro p9 e s m args below meth c9 s₁ B hml hxt hv
  obtain ⟨rfl, hP, hK, hE⟩ := hv
  have hx := B.exec
  have hb := B.bytes
  have hr := B.returns
  have hts : ∀ w9 ∈ tb, w9.before ([.ref (ad.1 3 0), .int id] : List Value).toArray s = true := fun w9 h9 => atoms_spec (ws := (wA yX7_isFragile cX7_isFragile 2 (some .boolean))) B.pre w9 (List.mem_cons_of_mem _ h9)
  have hown : s.vm.findClass RX7 = some m.cls := findClass_of_methodNamed B.named
  have hlocks := B.notSynchronized
  have hAB : ∀ q : Nat, (fun _ : Nat => False) q → B0 ≤ q := fun _ h => h.elim
  have hS0 : va_S (fun _ => False) s.heap s.heap [] := va_S.rf
  have hl := lv_entry ([.ref (ad.1 3 0), .int id]) (n := 2) (Nat.le_of_ble_eq_true rfl)
  rw [lg_entry_eq]
  generalize (lg_sl ([.ref (ad.1 3 0), .int id]) ++ List.replicate (2 - (lg_sl ([.ref (ad.1 3 0), .int id])).length) Slot.unset).toArray = ls at hl ⊢
  have hl : lv_has ls 2 [(0, .ref (ad.1 3 0)), (1, .int id)] := hl
  refine lv_aload_n hx hb dX7_isFragile_0 rfl (lv_at hl 0 rfl) ?_
  refine lv_iload_n hx hb dX7_isFragile_1 rfl (lv_at hl 1 rfl) ?_
  refine bx_callr (vx_runV (As := [.int id]) (rest := []) ⟨hx, hb, hml, hown, hts⟩ (c_X7_requireItem l hfl D G B0 X ad c0 c1 c2 hS hn sv lv bs fl id) (cwV 1 hts gw_X7_102 rfl rfl rfl (by decide +kernel) ⟨Nat.le_of_ble_eq_true rfl, Nat.le_of_ble_eq_true rfl⟩) (pv_cq hK hP (hE.at hS0 hAB)) rfl rfl hl.1 rfl (lv_room (Nat.le_of_ble_eq_true rfl)) dX7_isFragile_2 ⟨Nat.le_of_ble_eq_true rfl, Nat.le_of_ble_eq_true rfl⟩) hS0 (fun _ _ h => h.elim) (fun _ h => h.elim) (fun _ _ h => h.elim) ?_ ?_
  · intro E ce q9 u t9 H9 locs9 ht hvm hq_1 hBX hz1 hk1 hS9 hce hcv hcl
    exact vx_out (fun x hx => (hxt x hx).elim) hlocks hce hcv hcl (fun t8 ht8 hv8 => ⟨(), hq_1, hBX, hS9.F ht8⟩) hS9.2.2 (Nat.le_of_ble_eq_true rfl) (Nat.le_of_ble_eq_true rfl)
  · intro u q9 t9 H9 locs9 ht hvm hq_1 hB hz1 hk1 hS9
    have hP : va_P D vwCl (CBL G X ad c0 c1 c2 hS hn sv lv bs fl).flatten H9 := P_keep hP hk1 (fun _ _ h => h.elim)
    clear hS0
    obtain ⟨H, rfl⟩ : ∃ z, z = H9 := ⟨_, rfl⟩
    have hS0 := hS9
    have hB := hB.symm
    subst hB
    refine va_get (D := D) (ci := 6) (v := .int (z01 (itm c0 (s_find c0 id) 4))) (C := RX4) (T := TX4) (N := 8) hx hb hts i_X4 hown hK (P_blk hP (i := 1) rfl) (3 + (s_find c0 id)) (cw_it G (ad.1 0) c0 (s_find_lt c0 id)) rfl 4 (by decide) (hts _ kw_92) (fun _ h9 => h9) rfl dX7_isFragile_5 ?_
    refine W.widen (k := 1) (n := 6) (Nat.le_of_ble_eq_true rfl) (Nat.le_of_ble_eq_true rfl) ?_
    exact vx_ret (W.zret (ty := .boolean) (v := z01 (itm c0 (s_find c0 id) 4)) hx hb hr (z01_nar _) (fun t ht hW => ⟨⟨z01 (itm c0 (s_find c0 id) 4), (), rfl, ⟨hq_1, rfl⟩, trivial⟩, hS0.F ht⟩) hS0.2.2 dX7_isFragile_8)
set_option maxRecDepth 100000 in
set_option maxHeartbeats 4000000 in
theorem c_X7_isPacked (l : Launch) (hfl : l.stackTraces = false) (D : va_G) (G : GA) (B0 : Nat) (X : Nat → Nat → Nat) (ad : AD) (c0 c1 c2 : CS) (hS : Nat → CS) (hn : Nat) (sv : SV) (lv : LV) (bs fl : Nat → Int32) (id : Int32) : vx_Met l yX7_isPacked (wA yX7_isPacked cX7_isPacked 2 (some .boolean)) ({ frames := 7, cells := 1, slots := 6, locals := 112 } : Room) (va_Pc [.ref (ad.1 3 0), .int id] (CQp D G B0 X ad c0 c1 c2 hS hn sv lv bs fl)) (va_Qi (fun (r : Int32) (_ : Unit) => x_item c0 id = 0 ∧ r = bi (p_inbag (itm c0 (s_find c0 id)))) (fun _ _ => True) (fun _ => False)) (vx_X (fun _ : Unit => x_item c0 id ≠ 0) (fun E _ _ => E = exN (x_item c0 id)) (fun _ => False)) 1 6 (fun _ => False) := by
  refine vx_ofW (cc := cX7_isPacked) (maxL := 2) (ret := (some .boolean)) (by decide) rfl ?_
  intro p9 e s m args below meth c9 s₁ B hml hxt hv
  obtain ⟨rfl, hP, hK, hE⟩ := hv
  have hx := B.exec
  have hb := B.bytes
  have hr := B.returns
  have hts : ∀ w9 ∈ tb, w9.before ([.ref (ad.1 3 0), .int id] : List Value).toArray s = true := fun w9 h9 => atoms_spec (ws := (wA yX7_isPacked cX7_isPacked 2 (some .boolean))) B.pre w9 (List.mem_cons_of_mem _ h9)
  have hown : s.vm.findClass RX7 = some m.cls := findClass_of_methodNamed B.named
  have hlocks := B.notSynchronized
  have hAB : ∀ q : Nat, (fun _ : Nat => False) q → B0 ≤ q := fun _ h => h.elim
  have hS0 : va_S (fun _ => False) s.heap s.heap [] := va_S.rf
  have hl := lv_entry ([.ref (ad.1 3 0), .int id]) (n := 2) (Nat.le_of_ble_eq_true rfl)
  rw [lg_entry_eq]
  generalize (lg_sl ([.ref (ad.1 3 0), .int id]) ++ List.replicate (2 - (lg_sl ([.ref (ad.1 3 0), .int id])).length) Slot.unset).toArray = ls at hl ⊢
  have hl : lv_has ls 2 [(0, .ref (ad.1 3 0)), (1, .int id)] := hl
  refine lv_aload_n hx hb dX7_isPacked_0 rfl (lv_at hl 0 rfl) ?_
  refine lv_iload_n hx hb dX7_isPacked_1 rfl (lv_at hl 1 rfl) ?_
  refine bx_callr (vx_runV (As := [.int id]) (rest := []) ⟨hx, hb, hml, hown, hts⟩ (c_X7_requireItem l hfl D G B0 X ad c0 c1 c2 hS hn sv lv bs fl id) (cwV 1 hts gw_X7_102 rfl rfl rfl (by decide +kernel) ⟨Nat.le_of_ble_eq_true rfl, Nat.le_of_ble_eq_true rfl⟩) (pv_cq hK hP (hE.at hS0 hAB)) rfl rfl hl.1 rfl (lv_room (Nat.le_of_ble_eq_true rfl)) dX7_isPacked_2 ⟨Nat.le_of_ble_eq_true rfl, Nat.le_of_ble_eq_true rfl⟩) hS0 (fun _ _ h => h.elim) (fun _ h => h.elim) (fun _ _ h => h.elim) ?_ ?_
  · intro E ce q9 u t9 H9 locs9 ht hvm hq_1 hBX hz1 hk1 hS9 hce hcv hcl
    exact vx_out (fun x hx => (hxt x hx).elim) hlocks hce hcv hcl (fun t8 ht8 hv8 => ⟨(), hq_1, hBX, hS9.F ht8⟩) hS9.2.2 (Nat.le_of_ble_eq_true rfl) (Nat.le_of_ble_eq_true rfl)
  · intro u q9 t9 H9 locs9 ht hvm hq_1 hB hz1 hk1 hS9
    have hP : va_P D vwCl (CBL G X ad c0 c1 c2 hS hn sv lv bs fl).flatten H9 := P_keep hP hk1 (fun _ _ h => h.elim)
    clear hS0
    obtain ⟨H, rfl⟩ : ∃ z, z = H9 := ⟨_, rfl⟩
    have hS0 := hS9
    have hB := hB.symm
    subst hB
    have hPc : va_P D vwCl (cw G (ad.1 0) c0) H := P_blk hP (i := 1) rfl
    refine vp_callSi (va_runV (As := []) (rest := []) ⟨hx, hb, hml, hown, hts⟩ (c_X4_isInBag l D G (ad.1 0 (3 + (s_find c0 id))) (itm c0 (s_find c0 id))) (cwV 0 hts gw_X7_183 rfl rfl rfl (by decide +kernel) ⟨Nat.le_of_ble_eq_true rfl, Nat.le_of_ble_eq_true rfl⟩) (pv_it hK hPc (cw_it G (ad.1 0) c0 (s_find_lt c0 id))) rfl rfl hl.1 rfl (lv_room (Nat.le_of_ble_eq_true rfl)) dX7_isPacked_5 ⟨Nat.le_of_ble_eq_true rfl, Nat.le_of_ble_eq_true rfl⟩).run (nm_e ?_)
    refine W.widen (k := 1) (n := 6) (Nat.le_of_ble_eq_true rfl) (Nat.le_of_ble_eq_true rfl) ?_
    exact vx_ret (W.zret (ty := .boolean) (v := bi (p_inbag (itm c0 (s_find c0 id)))) hx hb hr (bi_nar _) (fun t ht hW => ⟨⟨bi (p_inbag (itm c0 (s_find c0 id))), (), rfl, ⟨hq_1, rfl⟩, trivial⟩, hS0.F ht⟩) hS0.2.2 dX7_isPacked_8)
set_option maxRecDepth 100000 in
set_option maxHeartbeats 4000000 in
theorem c_X7_bagOf (l : Launch) (hfl : l.stackTraces = false) (D : va_G) (G : GA) (B0 : Nat) (X : Nat → Nat → Nat) (ad : AD) (c0 c1 c2 : CS) (hS : Nat → CS) (hn : Nat) (sv : SV) (lv : LV) (bs fl : Nat → Int32) (id : Int32) : vx_Met l yX7_bagOf (wA yX7_bagOf cX7_bagOf 2 (some .int)) ({ frames := 7, cells := 1, slots := 6, locals := 112 } : Room) (va_Pc [.ref (ad.1 3 0), .int id] (CQp D G B0 X ad c0 c1 c2 hS hn sv lv bs fl)) (va_Qi (fun (r : Int32) (_ : Unit) => x_packed c0 id = 0 ∧ r = itm c0 (s_find c0 id) 5) (fun _ _ => True) (fun _ => False)) (vx_X (fun _ : Unit => x_packed c0 id ≠ 0) (fun E _ _ => E = exN (x_packed c0 id)) (fun _ => False)) 1 6 (fun _ => False) := by
  refine vx_ofW (cc := cX7_bagOf) (maxL := 2) (ret := (some .int)) (by decide) rfl ?_
  intro p9 e s m args below meth c9 s₁ B hml hxt hv
  obtain ⟨rfl, hP, hK, hE⟩ := hv
  have hx := B.exec
  have hb := B.bytes
  have hr := B.returns
  have hts : ∀ w9 ∈ tb, w9.before ([.ref (ad.1 3 0), .int id] : List Value).toArray s = true := fun w9 h9 => atoms_spec (ws := (wA yX7_bagOf cX7_bagOf 2 (some .int))) B.pre w9 (List.mem_cons_of_mem _ h9)
  have hown : s.vm.findClass RX7 = some m.cls := findClass_of_methodNamed B.named
  have hlocks := B.notSynchronized
  have hAB : ∀ q : Nat, (fun _ : Nat => False) q → B0 ≤ q := fun _ h => h.elim
  have hS0 : va_S (fun _ => False) s.heap s.heap [] := va_S.rf
  have hl := lv_entry ([.ref (ad.1 3 0), .int id]) (n := 2) (Nat.le_of_ble_eq_true rfl)
  rw [lg_entry_eq]
  generalize (lg_sl ([.ref (ad.1 3 0), .int id]) ++ List.replicate (2 - (lg_sl ([.ref (ad.1 3 0), .int id])).length) Slot.unset).toArray = ls at hl ⊢
  have hl : lv_has ls 2 [(0, .ref (ad.1 3 0)), (1, .int id)] := hl
  refine lv_aload_n hx hb dX7_bagOf_0 rfl (lv_at hl 0 rfl) ?_
  refine lv_iload_n hx hb dX7_bagOf_1 rfl (lv_at hl 1 rfl) ?_
  refine bx_callr (vx_runV (As := [.int id]) (rest := []) ⟨hx, hb, hml, hown, hts⟩ (c_X7_requirePacked l hfl D G B0 X ad c0 c1 c2 hS hn sv lv bs fl id) (cwV 1 hts gw_X7_186 rfl rfl rfl (by decide +kernel) ⟨Nat.le_of_ble_eq_true rfl, Nat.le_of_ble_eq_true rfl⟩) (pv_cq hK hP (hE.at hS0 hAB)) rfl rfl hl.1 rfl (lv_room (Nat.le_of_ble_eq_true rfl)) dX7_bagOf_2 ⟨Nat.le_of_ble_eq_true rfl, Nat.le_of_ble_eq_true rfl⟩) hS0 (fun _ _ h => h.elim) (fun _ h => h.elim) (fun _ _ h => h.elim) ?_ ?_
  · intro E ce q9 u t9 H9 locs9 ht hvm hq_1 hBX hz1 hk1 hS9 hce hcv hcl
    exact vx_out (fun x hx => (hxt x hx).elim) hlocks hce hcv hcl (fun t8 ht8 hv8 => ⟨(), hq_1, hBX, hS9.F ht8⟩) hS9.2.2 (Nat.le_of_ble_eq_true rfl) (Nat.le_of_ble_eq_true rfl)
  · intro u q9 t9 H9 locs9 ht hvm hq_1 hB hz1 hk1 hS9
    have hP : va_P D vwCl (CBL G X ad c0 c1 c2 hS hn sv lv bs fl).flatten H9 := P_keep hP hk1 (fun _ _ h => h.elim)
    clear hS0
    obtain ⟨H, rfl⟩ : ∃ z, z = H9 := ⟨_, rfl⟩
    have hS0 := hS9
    have hB := hB.symm
    subst hB
    refine va_get (D := D) (ci := 6) (v := .int (itm c0 (s_find c0 id) 5)) (C := RX4) (T := TX4) (N := 8) hx hb hts i_X4 hown hK (P_blk hP (i := 1) rfl) (3 + (s_find c0 id)) (cw_it G (ad.1 0) c0 (s_find_lt c0 id)) rfl 5 (by decide) (hts _ kw_95) (fun _ h9 => h9) rfl dX7_bagOf_5 ?_
    refine W.widen (k := 1) (n := 6) (Nat.le_of_ble_eq_true rfl) (Nat.le_of_ble_eq_true rfl) ?_
    exact vx_ret (W.iret (v := itm c0 (s_find c0 id) 5) hx hb hr (fun t ht hW => ⟨⟨itm c0 (s_find c0 id) 5, (), rfl, ⟨hq_1, rfl⟩, trivial⟩, hS0.F ht⟩) hS0.2.2 dX7_bagOf_8)
set_option maxRecDepth 100000 in
set_option maxHeartbeats 4000000 in
theorem c_X7_layerOf (l : Launch) (hfl : l.stackTraces = false) (D : va_G) (G : GA) (B0 : Nat) (X : Nat → Nat → Nat) (ad : AD) (c0 c1 c2 : CS) (hS : Nat → CS) (hn : Nat) (sv : SV) (lv : LV) (bs fl : Nat → Int32) (id : Int32) : vx_Met l yX7_layerOf (wA yX7_layerOf cX7_layerOf 2 (some .int)) ({ frames := 7, cells := 1, slots := 6, locals := 112 } : Room) (va_Pc [.ref (ad.1 3 0), .int id] (CQp D G B0 X ad c0 c1 c2 hS hn sv lv bs fl)) (va_Qi (fun (r : Int32) (_ : Unit) => x_packed c0 id = 0 ∧ r = itm c0 (s_find c0 id) 6) (fun _ _ => True) (fun _ => False)) (vx_X (fun _ : Unit => x_packed c0 id ≠ 0) (fun E _ _ => E = exN (x_packed c0 id)) (fun _ => False)) 1 6 (fun _ => False) := by
  refine vx_ofW (cc := cX7_layerOf) (maxL := 2) (ret := (some .int)) (by decide) rfl ?_
  intro p9 e s m args below meth c9 s₁ B hml hxt hv
  obtain ⟨rfl, hP, hK, hE⟩ := hv
  have hx := B.exec
  have hb := B.bytes
  have hr := B.returns
  have hts : ∀ w9 ∈ tb, w9.before ([.ref (ad.1 3 0), .int id] : List Value).toArray s = true := fun w9 h9 => atoms_spec (ws := (wA yX7_layerOf cX7_layerOf 2 (some .int))) B.pre w9 (List.mem_cons_of_mem _ h9)
  have hown : s.vm.findClass RX7 = some m.cls := findClass_of_methodNamed B.named
  have hlocks := B.notSynchronized
  have hAB : ∀ q : Nat, (fun _ : Nat => False) q → B0 ≤ q := fun _ h => h.elim
  have hS0 : va_S (fun _ => False) s.heap s.heap [] := va_S.rf
  have hl := lv_entry ([.ref (ad.1 3 0), .int id]) (n := 2) (Nat.le_of_ble_eq_true rfl)
  rw [lg_entry_eq]
  generalize (lg_sl ([.ref (ad.1 3 0), .int id]) ++ List.replicate (2 - (lg_sl ([.ref (ad.1 3 0), .int id])).length) Slot.unset).toArray = ls at hl ⊢
  have hl : lv_has ls 2 [(0, .ref (ad.1 3 0)), (1, .int id)] := hl
  refine lv_aload_n hx hb dX7_layerOf_0 rfl (lv_at hl 0 rfl) ?_
  refine lv_iload_n hx hb dX7_layerOf_1 rfl (lv_at hl 1 rfl) ?_
  refine bx_callr (vx_runV (As := [.int id]) (rest := []) ⟨hx, hb, hml, hown, hts⟩ (c_X7_requirePacked l hfl D G B0 X ad c0 c1 c2 hS hn sv lv bs fl id) (cwV 1 hts gw_X7_186 rfl rfl rfl (by decide +kernel) ⟨Nat.le_of_ble_eq_true rfl, Nat.le_of_ble_eq_true rfl⟩) (pv_cq hK hP (hE.at hS0 hAB)) rfl rfl hl.1 rfl (lv_room (Nat.le_of_ble_eq_true rfl)) dX7_layerOf_2 ⟨Nat.le_of_ble_eq_true rfl, Nat.le_of_ble_eq_true rfl⟩) hS0 (fun _ _ h => h.elim) (fun _ h => h.elim) (fun _ _ h => h.elim) ?_ ?_
  · intro E ce q9 u t9 H9 locs9 ht hvm hq_1 hBX hz1 hk1 hS9 hce hcv hcl
    exact vx_out (fun x hx => (hxt x hx).elim) hlocks hce hcv hcl (fun t8 ht8 hv8 => ⟨(), hq_1, hBX, hS9.F ht8⟩) hS9.2.2 (Nat.le_of_ble_eq_true rfl) (Nat.le_of_ble_eq_true rfl)
  · intro u q9 t9 H9 locs9 ht hvm hq_1 hB hz1 hk1 hS9
    have hP : va_P D vwCl (CBL G X ad c0 c1 c2 hS hn sv lv bs fl).flatten H9 := P_keep hP hk1 (fun _ _ h => h.elim)
    clear hS0
    obtain ⟨H, rfl⟩ : ∃ z, z = H9 := ⟨_, rfl⟩
    have hS0 := hS9
    have hB := hB.symm
    subst hB
    refine va_get (D := D) (ci := 6) (v := .int (itm c0 (s_find c0 id) 6)) (C := RX4) (T := TX4) (N := 8) hx hb hts i_X4 hown hK (P_blk hP (i := 1) rfl) (3 + (s_find c0 id)) (cw_it G (ad.1 0) c0 (s_find_lt c0 id)) rfl 6 (by decide) (hts _ kw_98) (fun _ h9 => h9) rfl dX7_layerOf_5 ?_
    refine W.widen (k := 1) (n := 6) (Nat.le_of_ble_eq_true rfl) (Nat.le_of_ble_eq_true rfl) ?_
    exact vx_ret (W.iret (v := itm c0 (s_find c0 id) 6) hx hb hr (fun t ht hW => ⟨⟨itm c0 (s_find c0 id) 6, (), rfl, ⟨hq_1, rfl⟩, trivial⟩, hS0.F ht⟩) hS0.2.2 dX7_layerOf_8)
set_option maxRecDepth 100000 in
set_option maxHeartbeats 4000000 in
theorem c_X7_itemAtRank (l : Launch) (hfl : l.stackTraces = false) (D : va_G) (G : GA) (B0 : Nat) (X : Nat → Nat → Nat) (ad : AD) (c0 c1 c2 : CS) (hS : Nat → CS) (hn : Nat) (sv : SV) (lv : LV) (bs fl : Nat → Int32) (i : Int32) : vx_Met l yX7_itemAtRank (wA yX7_itemAtRank cX7_itemAtRank 3 (some .int)) ({ frames := 6, cells := 1, slots := 6, locals := 90 } : Room) (va_Pc [.ref (ad.1 3 0), .int i] (CQp D G B0 X ad c0 c1 c2 hS hn sv lv bs fl)) (va_Qi (fun (r : Int32) (_ : Unit) => x_rank c0 i = 0 ∧ r = itm c0 (s_findRank c0 i) 0) (fun _ _ => True) (fun _ => False)) (vx_X (fun _ : Unit => x_rank c0 i ≠ 0) (fun E _ _ => E = exN (x_rank c0 i)) (fun _ => False)) 1 6 (fun _ => False) := by
  refine vx_ofW (cc := cX7_itemAtRank) (maxL := 3) (ret := (some .int)) (by decide) rfl ?_
  intro p9 e s m args below meth c9 s₁ B hml hxt hv
  obtain ⟨rfl, hP, hK, hE⟩ := hv
  have hx := B.exec
  have hb := B.bytes
  have hr := B.returns
  have hts : ∀ w9 ∈ tb, w9.before ([.ref (ad.1 3 0), .int i] : List Value).toArray s = true := fun w9 h9 => atoms_spec (ws := (wA yX7_itemAtRank cX7_itemAtRank 3 (some .int))) B.pre w9 (List.mem_cons_of_mem _ h9)
  have hown : s.vm.findClass RX7 = some m.cls := findClass_of_methodNamed B.named
  have hlocks := B.notSynchronized
  have hAB : ∀ q : Nat, (fun _ : Nat => False) q → B0 ≤ q := fun _ h => h.elim
  have hS0 : va_S (fun _ => False) s.heap s.heap [] := va_S.rf
  have hl := lv_entry ([.ref (ad.1 3 0), .int i]) (n := 3) (Nat.le_of_ble_eq_true rfl)
  rw [lg_entry_eq]
  generalize (lg_sl ([.ref (ad.1 3 0), .int i]) ++ List.replicate (3 - (lg_sl ([.ref (ad.1 3 0), .int i])).length) Slot.unset).toArray = ls at hl ⊢
  have hl : lv_has ls 3 [(0, .ref (ad.1 3 0)), (1, .int i)] := hl
  refine lv_aload_n hx hb dX7_itemAtRank_0 rfl (lv_at hl 0 rfl) ?_
  refine va_get (D := D) (ci := 8) (v := .ref (ad.1 0 0)) (C := RX7) (T := TX7) (N := 12) hx hb hts i_X7 hown hK (P_blk hP (i := 0) rfl) 0 rfl rfl 0 (by decide) (hts _ kw_228) (fun _ h9 => h9) rfl dX7_itemAtRank_1 ?_
  refine lv_iload_n hx hb dX7_itemAtRank_4 rfl (lv_at hl 1 rfl) ?_
  have hPc : va_P D vwCl (cw G (ad.1 0) c0) s.heap := P_blk hP (i := 1) rfl
  refine va_csr (va_runV (As := [.int i]) (rest := []) ⟨hx, hb, hml, hown, hts⟩ (c_X1_findRank l D G (ad.1 0) c0 i) (cwV 1 hts gw_X7_195 rfl rfl rfl (by decide +kernel) ⟨Nat.le_of_ble_eq_true rfl, Nat.le_of_ble_eq_true rfl⟩) (pv_cw hK hPc) rfl rfl hl.1 rfl (lv_room (Nat.le_of_ble_eq_true rfl)) dX7_itemAtRank_5 ⟨Nat.le_of_ble_eq_true rfl, Nat.le_of_ble_eq_true rfl⟩).run (nm_e ?_)
  refine lv_astore_n (x := (ad.1 0 (3 + (s_findRank c0 i)))) (lv' := [(2, .ref (ad.1 0 (3 + (s_findRank c0 i)))), (0, .ref (ad.1 3 0)), (1, .int i)]) hx hb dX7_itemAtRank_8 rfl hl (by decide) rfl (fun ls hl => ?_)
  refine lv_aload_n hx hb dX7_itemAtRank_9 rfl (lv_at hl 0 rfl) ?_
  have hPc : va_P D vwCl (cw G (ad.1 0) c0) s.heap := P_blk hP (i := 1) rfl
  refine vp_callSi (va_runV (As := []) (rest := []) ⟨hx, hb, hml, hown, hts⟩ (c_X4_isThere l D G (ad.1 0 (3 + (s_findRank c0 i))) (itm c0 (s_findRank c0 i))) (cwV 0 hts gw_X7_165 rfl rfl rfl (by decide +kernel) ⟨Nat.le_of_ble_eq_true rfl, Nat.le_of_ble_eq_true rfl⟩) (pv_it hK hPc (cw_it G (ad.1 0) c0 (s_findRank_lt c0 i))) rfl rfl hl.1 rfl (lv_room (Nat.le_of_ble_eq_true rfl)) dX7_itemAtRank_10 ⟨Nat.le_of_ble_eq_true rfl, Nat.le_of_ble_eq_true rfl⟩).run (nm_e ?_)
  cases hb_1 : p_there (itm c0 (s_findRank c0 i))
  case true =>
    refine lv_if_ne (tgt := 26) hx hb dX7_itemAtRank_13 (by decide) (fun _ => ?_) (fun c_2 => absurd c_2 (by decide))
    refine lv_aload_n hx hb dX7_itemAtRank_26 rfl (lv_at hl 0 rfl) ?_
    refine va_get (D := D) (ci := 6) (v := .int (itm c0 (s_findRank c0 i) 0)) (C := RX4) (T := TX4) (N := 8) hx hb hts i_X4 hown hK (P_blk hP (i := 1) rfl) (3 + (s_findRank c0 i)) (cw_it G (ad.1 0) c0 (s_findRank_lt c0 i)) rfl 0 (by decide) (hts _ kw_80) (fun _ h9 => h9) rfl dX7_itemAtRank_27 ?_
    refine W.widen (k := 1) (n := 6) (Nat.le_of_ble_eq_true rfl) (Nat.le_of_ble_eq_true rfl) ?_
    exact vx_ret (W.iret (v := itm c0 (s_findRank c0 i) 0) hx hb hr (fun t ht hW => ⟨⟨itm c0 (s_findRank c0 i) 0, (), rfl, ⟨(by simp only [x_rank, if_pos hb_1]), rfl⟩, trivial⟩, hS0.F ht⟩) hS0.2.2 dX7_itemAtRank_30)
  case false =>
    refine lv_if_ne (tgt := 26) hx hb dX7_itemAtRank_13 (by decide) (fun c_3 => absurd (by decide) c_3) (fun _ => ?_)
    exact tw_iob hx hb hfl hts hown hE hAB (hE.s.1 21 ("CourierBags", 200, "there is no such rank") rfl) hS0 (hml.trans hl.1.symm).symm dX7_itemAtRank_16 dX7_itemAtRank_19 (Or.inl ⟨dX7_itemAtRank_20, rfl⟩) dX7_itemAtRank_22 dX7_itemAtRank_25 hxt (Nat.le_of_ble_eq_true rfl) (Nat.le_of_ble_eq_true rfl) (Nat.le_of_ble_eq_true rfl) (Nat.le_of_ble_eq_true rfl) hlocks (fun t hv hz hk => ⟨(), by rw [(show x_rank c0 i = 3 from by simp only [x_rank, if_neg (bf hb_1)])]; decide, by rw [(show x_rank c0 i = 3 from by simp only [x_rank, if_neg (bf hb_1)])]; rfl, S_F hS0 hz hk⟩) hS0.2.2 (Nat.le_of_ble_eq_true rfl) (Nat.le_of_ble_eq_true rfl)
set_option maxRecDepth 100000 in
set_option maxHeartbeats 4000000 in
theorem c_X7_limitOf (l : Launch) (hfl : l.stackTraces = false) (D : va_G) (G : GA) (B0 : Nat) (X : Nat → Nat → Nat) (ad : AD) (c0 c1 c2 : CS) (hS : Nat → CS) (hn : Nat) (sv : SV) (lv : LV) (bs fl : Nat → Int32) (b : Int32) : vx_Met l yX7_limitOf (wA yX7_limitOf cX7_limitOf 2 (some .int)) ({ frames := 7, cells := 1, slots := 6, locals := 111 } : Room) (va_Pc [.ref (ad.1 3 0), .int b] (CQp D G B0 X ad c0 c1 c2 hS hn sv lv bs fl)) (va_Qi (fun (r : Int32) (_ : Unit) => x_bag c0 b = 0 ∧ r = s_limit c0 b) (fun _ _ => True) (fun _ => False)) (vx_X (fun _ : Unit => x_bag c0 b ≠ 0) (fun E _ _ => E = exN (x_bag c0 b)) (fun _ => False)) 1 6 (fun _ => False) := by
  refine vx_ofW (cc := cX7_limitOf) (maxL := 2) (ret := (some .int)) (by decide) rfl ?_
  intro p9 e s m args below meth c9 s₁ B hml hxt hv
  obtain ⟨rfl, hP, hK, hE⟩ := hv
  have hx := B.exec
  have hb := B.bytes
  have hr := B.returns
  have hts : ∀ w9 ∈ tb, w9.before ([.ref (ad.1 3 0), .int b] : List Value).toArray s = true := fun w9 h9 => atoms_spec (ws := (wA yX7_limitOf cX7_limitOf 2 (some .int))) B.pre w9 (List.mem_cons_of_mem _ h9)
  have hown : s.vm.findClass RX7 = some m.cls := findClass_of_methodNamed B.named
  have hlocks := B.notSynchronized
  have hAB : ∀ q : Nat, (fun _ : Nat => False) q → B0 ≤ q := fun _ h => h.elim
  have hS0 : va_S (fun _ => False) s.heap s.heap [] := va_S.rf
  have hl := lv_entry ([.ref (ad.1 3 0), .int b]) (n := 2) (Nat.le_of_ble_eq_true rfl)
  rw [lg_entry_eq]
  generalize (lg_sl ([.ref (ad.1 3 0), .int b]) ++ List.replicate (2 - (lg_sl ([.ref (ad.1 3 0), .int b])).length) Slot.unset).toArray = ls at hl ⊢
  have hl : lv_has ls 2 [(0, .ref (ad.1 3 0)), (1, .int b)] := hl
  refine lv_aload_n hx hb dX7_limitOf_0 rfl (lv_at hl 0 rfl) ?_
  refine lv_iload_n hx hb dX7_limitOf_1 rfl (lv_at hl 1 rfl) ?_
  refine vx_callv (vx_runV (As := [.int b]) (rest := []) ⟨hx, hb, hml, hown, hts⟩ (c_X7_requireBag l hfl D G B0 X ad c0 c1 c2 hS hn sv lv bs fl b) (cwV 1 hts gw_X7_106 rfl rfl rfl (by decide +kernel) ⟨Nat.le_of_ble_eq_true rfl, Nat.le_of_ble_eq_true rfl⟩) (pv_cq hK hP (hE.at hS0 hAB)) rfl rfl hl.1 rfl (lv_room (Nat.le_of_ble_eq_true rfl)) dX7_limitOf_2 ⟨Nat.le_of_ble_eq_true rfl, Nat.le_of_ble_eq_true rfl⟩) hS0 (fun _ _ h => h.elim) (fun _ h => h.elim) (fun _ _ h => h.elim) ?_ ?_
  · intro E ce q9 u t9 H9 locs9 ht hvm hq_1 hBX hz1 hk1 hS9 hce hcv hcl
    exact vx_out (fun x hx => (hxt x hx).elim) hlocks hce hcv hcl (fun t8 ht8 hv8 => ⟨(), hq_1, hBX, hS9.F ht8⟩) hS9.2.2 (Nat.le_of_ble_eq_true rfl) (Nat.le_of_ble_eq_true rfl)
  · intro u t9 H9 locs9 ht hvm hq_1 hB hz1 hk1 hS9
    have hP : va_P D vwCl (CBL G X ad c0 c1 c2 hS hn sv lv bs fl).flatten H9 := P_keep hP hk1 (fun _ _ h => h.elim)
    clear hS0
    obtain ⟨H, rfl⟩ : ∃ z, z = H9 := ⟨_, rfl⟩
    have hS0 := hS9
    refine lv_aload_n hx hb dX7_limitOf_5 rfl (lv_at hl 0 rfl) ?_
    refine va_get (D := D) (ci := 8) (v := .ref (ad.1 0 0)) (C := RX7) (T := TX7) (N := 12) hx hb hts i_X7 hown hK (P_blk hP (i := 0) rfl) 0 rfl rfl 0 (by decide) (hts _ kw_228) (fun _ h9 => h9) rfl dX7_limitOf_6 ?_
    refine lv_iload_n hx hb dX7_limitOf_9 rfl (lv_at hl 1 rfl) ?_
    have hPc : va_P D vwCl (cw G (ad.1 0) c0) H := P_blk hP (i := 1) rfl
    refine vp_callSi (va_runV (As := [.int b]) (rest := []) ⟨hx, hb, hml, hown, hts⟩ (c_X1_limit l D G (ad.1 0) c0 b) (cwV 1 hts gw_X7_209 rfl rfl rfl (by decide +kernel) ⟨Nat.le_of_ble_eq_true rfl, Nat.le_of_ble_eq_true rfl⟩) (pv_cw hK hPc) rfl rfl hl.1 rfl (lv_room (Nat.le_of_ble_eq_true rfl)) dX7_limitOf_10 ⟨Nat.le_of_ble_eq_true rfl, Nat.le_of_ble_eq_true rfl⟩).run (nm_e ?_)
    refine W.widen (k := 1) (n := 6) (Nat.le_of_ble_eq_true rfl) (Nat.le_of_ble_eq_true rfl) ?_
    exact vx_ret (W.iret (v := (s_limit c0 b)) hx hb hr (fun t ht hW => ⟨⟨(s_limit c0 b), (), rfl, ⟨hq_1, rfl⟩, trivial⟩, hS0.F ht⟩) hS0.2.2 dX7_limitOf_13)
set_option maxRecDepth 100000 in
set_option maxHeartbeats 4000000 in
theorem c_X7_weightIn (l : Launch) (hfl : l.stackTraces = false) (D : va_G) (G : GA) (B0 : Nat) (X : Nat → Nat → Nat) (ad : AD) (c0 c1 c2 : CS) (hS : Nat → CS) (hn : Nat) (sv : SV) (lv : LV) (bs fl : Nat → Int32) (b : Int32) : vx_Met l yX7_weightIn (wA yX7_weightIn cX7_weightIn 2 (some .int)) ({ frames := 7, cells := 1, slots := 6, locals := 111 } : Room) (va_Pc [.ref (ad.1 3 0), .int b] (CQp D G B0 X ad c0 c1 c2 hS hn sv lv bs fl)) (va_Qi (fun (r : Int32) (_ : Unit) => x_bag c0 b = 0 ∧ r = s_weightByItems c0 b) (fun _ _ => True) (fun _ => False)) (vx_X (fun _ : Unit => x_bag c0 b ≠ 0) (fun E _ _ => E = exN (x_bag c0 b)) (fun _ => False)) 1 6 (fun _ => False) := by
  refine vx_ofW (cc := cX7_weightIn) (maxL := 2) (ret := (some .int)) (by decide) rfl ?_
  intro p9 e s m args below meth c9 s₁ B hml hxt hv
  obtain ⟨rfl, hP, hK, hE⟩ := hv
  have hx := B.exec
  have hb := B.bytes
  have hr := B.returns
  have hts : ∀ w9 ∈ tb, w9.before ([.ref (ad.1 3 0), .int b] : List Value).toArray s = true := fun w9 h9 => atoms_spec (ws := (wA yX7_weightIn cX7_weightIn 2 (some .int))) B.pre w9 (List.mem_cons_of_mem _ h9)
  have hown : s.vm.findClass RX7 = some m.cls := findClass_of_methodNamed B.named
  have hlocks := B.notSynchronized
  have hAB : ∀ q : Nat, (fun _ : Nat => False) q → B0 ≤ q := fun _ h => h.elim
  have hS0 : va_S (fun _ => False) s.heap s.heap [] := va_S.rf
  have hl := lv_entry ([.ref (ad.1 3 0), .int b]) (n := 2) (Nat.le_of_ble_eq_true rfl)
  rw [lg_entry_eq]
  generalize (lg_sl ([.ref (ad.1 3 0), .int b]) ++ List.replicate (2 - (lg_sl ([.ref (ad.1 3 0), .int b])).length) Slot.unset).toArray = ls at hl ⊢
  have hl : lv_has ls 2 [(0, .ref (ad.1 3 0)), (1, .int b)] := hl
  refine lv_aload_n hx hb dX7_weightIn_0 rfl (lv_at hl 0 rfl) ?_
  refine lv_iload_n hx hb dX7_weightIn_1 rfl (lv_at hl 1 rfl) ?_
  refine vx_callv (vx_runV (As := [.int b]) (rest := []) ⟨hx, hb, hml, hown, hts⟩ (c_X7_requireBag l hfl D G B0 X ad c0 c1 c2 hS hn sv lv bs fl b) (cwV 1 hts gw_X7_106 rfl rfl rfl (by decide +kernel) ⟨Nat.le_of_ble_eq_true rfl, Nat.le_of_ble_eq_true rfl⟩) (pv_cq hK hP (hE.at hS0 hAB)) rfl rfl hl.1 rfl (lv_room (Nat.le_of_ble_eq_true rfl)) dX7_weightIn_2 ⟨Nat.le_of_ble_eq_true rfl, Nat.le_of_ble_eq_true rfl⟩) hS0 (fun _ _ h => h.elim) (fun _ h => h.elim) (fun _ _ h => h.elim) ?_ ?_
  · intro E ce q9 u t9 H9 locs9 ht hvm hq_1 hBX hz1 hk1 hS9 hce hcv hcl
    exact vx_out (fun x hx => (hxt x hx).elim) hlocks hce hcv hcl (fun t8 ht8 hv8 => ⟨(), hq_1, hBX, hS9.F ht8⟩) hS9.2.2 (Nat.le_of_ble_eq_true rfl) (Nat.le_of_ble_eq_true rfl)
  · intro u t9 H9 locs9 ht hvm hq_1 hB hz1 hk1 hS9
    have hP : va_P D vwCl (CBL G X ad c0 c1 c2 hS hn sv lv bs fl).flatten H9 := P_keep hP hk1 (fun _ _ h => h.elim)
    clear hS0
    obtain ⟨H, rfl⟩ : ∃ z, z = H9 := ⟨_, rfl⟩
    have hS0 := hS9
    refine lv_aload_n hx hb dX7_weightIn_5 rfl (lv_at hl 0 rfl) ?_
    refine va_get (D := D) (ci := 8) (v := .ref (ad.1 0 0)) (C := RX7) (T := TX7) (N := 12) hx hb hts i_X7 hown hK (P_blk hP (i := 0) rfl) 0 rfl rfl 0 (by decide) (hts _ kw_228) (fun _ h9 => h9) rfl dX7_weightIn_6 ?_
    refine lv_iload_n hx hb dX7_weightIn_9 rfl (lv_at hl 1 rfl) ?_
    have hPc : va_P D vwCl (cw G (ad.1 0) c0) H := P_blk hP (i := 1) rfl
    refine vp_callSi (va_runV (As := [.int b]) (rest := []) ⟨hx, hb, hml, hown, hts⟩ (c_X1_weightByItems l D G (ad.1 0) c0 b) (cwV 1 hts gw_X7_212 rfl rfl rfl (by decide +kernel) ⟨Nat.le_of_ble_eq_true rfl, Nat.le_of_ble_eq_true rfl⟩) (pv_cw hK hPc) rfl rfl hl.1 rfl (lv_room (Nat.le_of_ble_eq_true rfl)) dX7_weightIn_10 ⟨Nat.le_of_ble_eq_true rfl, Nat.le_of_ble_eq_true rfl⟩).run (nm_e ?_)
    refine W.widen (k := 1) (n := 6) (Nat.le_of_ble_eq_true rfl) (Nat.le_of_ble_eq_true rfl) ?_
    exact vx_ret (W.iret (v := (s_weightByItems c0 b)) hx hb hr (fun t ht hW => ⟨⟨(s_weightByItems c0 b), (), rfl, ⟨hq_1, rfl⟩, trivial⟩, hS0.F ht⟩) hS0.2.2 dX7_weightIn_13)
set_option maxRecDepth 100000 in
set_option maxHeartbeats 4000000 in
theorem c_X7_weightInByLayers (l : Launch) (hfl : l.stackTraces = false) (D : va_G) (G : GA) (B0 : Nat) (X : Nat → Nat → Nat) (ad : AD) (c0 c1 c2 : CS) (hS : Nat → CS) (hn : Nat) (sv : SV) (lv : LV) (bs fl : Nat → Int32) (b : Int32) : vx_Met l yX7_weightInByLayers (wA yX7_weightInByLayers cX7_weightInByLayers 2 (some .int)) ({ frames := 7, cells := 1, slots := 6, locals := 111 } : Room) (va_Pc [.ref (ad.1 3 0), .int b] (CQp D G B0 X ad c0 c1 c2 hS hn sv lv bs fl)) (va_Qi (fun (r : Int32) (_ : Unit) => x_bag c0 b = 0 ∧ r = s_weightByLayers c0 b) (fun _ _ => True) (fun _ => False)) (vx_X (fun _ : Unit => x_bag c0 b ≠ 0) (fun E _ _ => E = exN (x_bag c0 b)) (fun _ => False)) 1 6 (fun _ => False) := by
  refine vx_ofW (cc := cX7_weightInByLayers) (maxL := 2) (ret := (some .int)) (by decide) rfl ?_
  intro p9 e s m args below meth c9 s₁ B hml hxt hv
  obtain ⟨rfl, hP, hK, hE⟩ := hv
  have hx := B.exec
  have hb := B.bytes
  have hr := B.returns
  have hts : ∀ w9 ∈ tb, w9.before ([.ref (ad.1 3 0), .int b] : List Value).toArray s = true := fun w9 h9 => atoms_spec (ws := (wA yX7_weightInByLayers cX7_weightInByLayers 2 (some .int))) B.pre w9 (List.mem_cons_of_mem _ h9)
  have hown : s.vm.findClass RX7 = some m.cls := findClass_of_methodNamed B.named
  have hlocks := B.notSynchronized
  have hAB : ∀ q : Nat, (fun _ : Nat => False) q → B0 ≤ q := fun _ h => h.elim
  have hS0 : va_S (fun _ => False) s.heap s.heap [] := va_S.rf
  have hl := lv_entry ([.ref (ad.1 3 0), .int b]) (n := 2) (Nat.le_of_ble_eq_true rfl)
  rw [lg_entry_eq]
  generalize (lg_sl ([.ref (ad.1 3 0), .int b]) ++ List.replicate (2 - (lg_sl ([.ref (ad.1 3 0), .int b])).length) Slot.unset).toArray = ls at hl ⊢
  have hl : lv_has ls 2 [(0, .ref (ad.1 3 0)), (1, .int b)] := hl
  refine lv_aload_n hx hb dX7_weightInByLayers_0 rfl (lv_at hl 0 rfl) ?_
  refine lv_iload_n hx hb dX7_weightInByLayers_1 rfl (lv_at hl 1 rfl) ?_
  refine vx_callv (vx_runV (As := [.int b]) (rest := []) ⟨hx, hb, hml, hown, hts⟩ (c_X7_requireBag l hfl D G B0 X ad c0 c1 c2 hS hn sv lv bs fl b) (cwV 1 hts gw_X7_106 rfl rfl rfl (by decide +kernel) ⟨Nat.le_of_ble_eq_true rfl, Nat.le_of_ble_eq_true rfl⟩) (pv_cq hK hP (hE.at hS0 hAB)) rfl rfl hl.1 rfl (lv_room (Nat.le_of_ble_eq_true rfl)) dX7_weightInByLayers_2 ⟨Nat.le_of_ble_eq_true rfl, Nat.le_of_ble_eq_true rfl⟩) hS0 (fun _ _ h => h.elim) (fun _ h => h.elim) (fun _ _ h => h.elim) ?_ ?_
  · intro E ce q9 u t9 H9 locs9 ht hvm hq_1 hBX hz1 hk1 hS9 hce hcv hcl
    exact vx_out (fun x hx => (hxt x hx).elim) hlocks hce hcv hcl (fun t8 ht8 hv8 => ⟨(), hq_1, hBX, hS9.F ht8⟩) hS9.2.2 (Nat.le_of_ble_eq_true rfl) (Nat.le_of_ble_eq_true rfl)
  · intro u t9 H9 locs9 ht hvm hq_1 hB hz1 hk1 hS9
    have hP : va_P D vwCl (CBL G X ad c0 c1 c2 hS hn sv lv bs fl).flatten H9 := P_keep hP hk1 (fun _ _ h => h.elim)
    clear hS0
    obtain ⟨H, rfl⟩ : ∃ z, z = H9 := ⟨_, rfl⟩
    have hS0 := hS9
    refine lv_aload_n hx hb dX7_weightInByLayers_5 rfl (lv_at hl 0 rfl) ?_
    refine va_get (D := D) (ci := 8) (v := .ref (ad.1 0 0)) (C := RX7) (T := TX7) (N := 12) hx hb hts i_X7 hown hK (P_blk hP (i := 0) rfl) 0 rfl rfl 0 (by decide) (hts _ kw_228) (fun _ h9 => h9) rfl dX7_weightInByLayers_6 ?_
    refine lv_iload_n hx hb dX7_weightInByLayers_9 rfl (lv_at hl 1 rfl) ?_
    have hPc : va_P D vwCl (cw G (ad.1 0) c0) H := P_blk hP (i := 1) rfl
    refine vp_callSi (va_runV (As := [.int b]) (rest := []) ⟨hx, hb, hml, hown, hts⟩ (c_X1_weightByLayers l D G (ad.1 0) c0 b) (cwV 1 hts gw_X7_215 rfl rfl rfl (by decide +kernel) ⟨Nat.le_of_ble_eq_true rfl, Nat.le_of_ble_eq_true rfl⟩) (pv_cw hK hPc) rfl rfl hl.1 rfl (lv_room (Nat.le_of_ble_eq_true rfl)) dX7_weightInByLayers_10 ⟨Nat.le_of_ble_eq_true rfl, Nat.le_of_ble_eq_true rfl⟩).run (nm_e ?_)
    refine W.widen (k := 1) (n := 6) (Nat.le_of_ble_eq_true rfl) (Nat.le_of_ble_eq_true rfl) ?_
    exact vx_ret (W.iret (v := (s_weightByLayers c0 b)) hx hb hr (fun t ht hW => ⟨⟨(s_weightByLayers c0 b), (), rfl, ⟨hq_1, rfl⟩, trivial⟩, hS0.F ht⟩) hS0.2.2 dX7_weightInByLayers_13)
set_option maxRecDepth 100000 in
set_option maxHeartbeats 4000000 in
theorem c_X7_weightLeft (l : Launch) (hfl : l.stackTraces = false) (D : va_G) (G : GA) (B0 : Nat) (X : Nat → Nat → Nat) (ad : AD) (c0 c1 c2 : CS) (hS : Nat → CS) (hn : Nat) (sv : SV) (lv : LV) (bs fl : Nat → Int32) (b : Int32) : vx_Met l yX7_weightLeft (wA yX7_weightLeft cX7_weightLeft 2 (some .int)) ({ frames := 7, cells := 1, slots := 6, locals := 111 } : Room) (va_Pc [.ref (ad.1 3 0), .int b] (CQp D G B0 X ad c0 c1 c2 hS hn sv lv bs fl)) (va_Qi (fun (r : Int32) (_ : Unit) => x_bag c0 b = 0 ∧ r = s_roomIn c0 b) (fun _ _ => True) (fun _ => False)) (vx_X (fun _ : Unit => x_bag c0 b ≠ 0) (fun E _ _ => E = exN (x_bag c0 b)) (fun _ => False)) 1 6 (fun _ => False) := by
  refine vx_ofW (cc := cX7_weightLeft) (maxL := 2) (ret := (some .int)) (by decide) rfl ?_
  intro p9 e s m args below meth c9 s₁ B hml hxt hv
  obtain ⟨rfl, hP, hK, hE⟩ := hv
  have hx := B.exec
  have hb := B.bytes
  have hr := B.returns
  have hts : ∀ w9 ∈ tb, w9.before ([.ref (ad.1 3 0), .int b] : List Value).toArray s = true := fun w9 h9 => atoms_spec (ws := (wA yX7_weightLeft cX7_weightLeft 2 (some .int))) B.pre w9 (List.mem_cons_of_mem _ h9)
  have hown : s.vm.findClass RX7 = some m.cls := findClass_of_methodNamed B.named
  have hlocks := B.notSynchronized
  have hAB : ∀ q : Nat, (fun _ : Nat => False) q → B0 ≤ q := fun _ h => h.elim
  have hS0 : va_S (fun _ => False) s.heap s.heap [] := va_S.rf
  have hl := lv_entry ([.ref (ad.1 3 0), .int b]) (n := 2) (Nat.le_of_ble_eq_true rfl)
  rw [lg_entry_eq]
  generalize (lg_sl ([.ref (ad.1 3 0), .int b]) ++ List.replicate (2 - (lg_sl ([.ref (ad.1 3 0), .int b])).length) Slot.unset).toArray = ls at hl ⊢
  have hl : lv_has ls 2 [(0, .ref (ad.1 3 0)), (1, .int b)] := hl
  refine lv_aload_n hx hb dX7_weightLeft_0 rfl (lv_at hl 0 rfl) ?_
  refine lv_iload_n hx hb dX7_weightLeft_1 rfl (lv_at hl 1 rfl) ?_
  refine vx_callv (vx_runV (As := [.int b]) (rest := []) ⟨hx, hb, hml, hown, hts⟩ (c_X7_requireBag l hfl D G B0 X ad c0 c1 c2 hS hn sv lv bs fl b) (cwV 1 hts gw_X7_106 rfl rfl rfl (by decide +kernel) ⟨Nat.le_of_ble_eq_true rfl, Nat.le_of_ble_eq_true rfl⟩) (pv_cq hK hP (hE.at hS0 hAB)) rfl rfl hl.1 rfl (lv_room (Nat.le_of_ble_eq_true rfl)) dX7_weightLeft_2 ⟨Nat.le_of_ble_eq_true rfl, Nat.le_of_ble_eq_true rfl⟩) hS0 (fun _ _ h => h.elim) (fun _ h => h.elim) (fun _ _ h => h.elim) ?_ ?_
  · intro E ce q9 u t9 H9 locs9 ht hvm hq_1 hBX hz1 hk1 hS9 hce hcv hcl
    exact vx_out (fun x hx => (hxt x hx).elim) hlocks hce hcv hcl (fun t8 ht8 hv8 => ⟨(), hq_1, hBX, hS9.F ht8⟩) hS9.2.2 (Nat.le_of_ble_eq_true rfl) (Nat.le_of_ble_eq_true rfl)
  · intro u t9 H9 locs9 ht hvm hq_1 hB hz1 hk1 hS9
    have hP : va_P D vwCl (CBL G X ad c0 c1 c2 hS hn sv lv bs fl).flatten H9 := P_keep hP hk1 (fun _ _ h => h.elim)
    clear hS0
    obtain ⟨H, rfl⟩ : ∃ z, z = H9 := ⟨_, rfl⟩
    have hS0 := hS9
    refine lv_aload_n hx hb dX7_weightLeft_5 rfl (lv_at hl 0 rfl) ?_
    refine va_get (D := D) (ci := 8) (v := .ref (ad.1 0 0)) (C := RX7) (T := TX7) (N := 12) hx hb hts i_X7 hown hK (P_blk hP (i := 0) rfl) 0 rfl rfl 0 (by decide) (hts _ kw_228) (fun _ h9 => h9) rfl dX7_weightLeft_6 ?_
    refine lv_iload_n hx hb dX7_weightLeft_9 rfl (lv_at hl 1 rfl) ?_
    have hPc : va_P D vwCl (cw G (ad.1 0) c0) H := P_blk hP (i := 1) rfl
    refine vp_callSi (va_runV (As := [.int b]) (rest := []) ⟨hx, hb, hml, hown, hts⟩ (c_X1_roomIn l D G (ad.1 0) c0 b) (cwV 1 hts gw_X7_218 rfl rfl rfl (by decide +kernel) ⟨Nat.le_of_ble_eq_true rfl, Nat.le_of_ble_eq_true rfl⟩) (pv_cw hK hPc) rfl rfl hl.1 rfl (lv_room (Nat.le_of_ble_eq_true rfl)) dX7_weightLeft_10 ⟨Nat.le_of_ble_eq_true rfl, Nat.le_of_ble_eq_true rfl⟩).run (nm_e ?_)
    refine W.widen (k := 1) (n := 6) (Nat.le_of_ble_eq_true rfl) (Nat.le_of_ble_eq_true rfl) ?_
    exact vx_ret (W.iret (v := (s_roomIn c0 b)) hx hb hr (fun t ht hW => ⟨⟨(s_roomIn c0 b), (), rfl, ⟨hq_1, rfl⟩, trivial⟩, hS0.F ht⟩) hS0.2.2 dX7_weightLeft_13)
set_option maxRecDepth 100000 in
set_option maxHeartbeats 4000000 in
theorem c_X7_layerCount (l : Launch) (hfl : l.stackTraces = false) (D : va_G) (G : GA) (B0 : Nat) (X : Nat → Nat → Nat) (ad : AD) (c0 c1 c2 : CS) (hS : Nat → CS) (hn : Nat) (sv : SV) (lv : LV) (bs fl : Nat → Int32) (b : Int32) : vx_Met l yX7_layerCount (wA yX7_layerCount cX7_layerCount 2 (some .int)) ({ frames := 7, cells := 1, slots := 6, locals := 111 } : Room) (va_Pc [.ref (ad.1 3 0), .int b] (CQp D G B0 X ad c0 c1 c2 hS hn sv lv bs fl)) (va_Qi (fun (r : Int32) (_ : Unit) => x_bag c0 b = 0 ∧ r = s_countLayers c0 b) (fun _ _ => True) (fun _ => False)) (vx_X (fun _ : Unit => x_bag c0 b ≠ 0) (fun E _ _ => E = exN (x_bag c0 b)) (fun _ => False)) 1 6 (fun _ => False) := by
  refine vx_ofW (cc := cX7_layerCount) (maxL := 2) (ret := (some .int)) (by decide) rfl ?_
  intro p9 e s m args below meth c9 s₁ B hml hxt hv
  obtain ⟨rfl, hP, hK, hE⟩ := hv
  have hx := B.exec
  have hb := B.bytes
  have hr := B.returns
  have hts : ∀ w9 ∈ tb, w9.before ([.ref (ad.1 3 0), .int b] : List Value).toArray s = true := fun w9 h9 => atoms_spec (ws := (wA yX7_layerCount cX7_layerCount 2 (some .int))) B.pre w9 (List.mem_cons_of_mem _ h9)
  have hown : s.vm.findClass RX7 = some m.cls := findClass_of_methodNamed B.named
  have hlocks := B.notSynchronized
  have hAB : ∀ q : Nat, (fun _ : Nat => False) q → B0 ≤ q := fun _ h => h.elim
  have hS0 : va_S (fun _ => False) s.heap s.heap [] := va_S.rf
  have hl := lv_entry ([.ref (ad.1 3 0), .int b]) (n := 2) (Nat.le_of_ble_eq_true rfl)
  rw [lg_entry_eq]
  generalize (lg_sl ([.ref (ad.1 3 0), .int b]) ++ List.replicate (2 - (lg_sl ([.ref (ad.1 3 0), .int b])).length) Slot.unset).toArray = ls at hl ⊢
  have hl : lv_has ls 2 [(0, .ref (ad.1 3 0)), (1, .int b)] := hl
  refine lv_aload_n hx hb dX7_layerCount_0 rfl (lv_at hl 0 rfl) ?_
  refine lv_iload_n hx hb dX7_layerCount_1 rfl (lv_at hl 1 rfl) ?_
  refine vx_callv (vx_runV (As := [.int b]) (rest := []) ⟨hx, hb, hml, hown, hts⟩ (c_X7_requireBag l hfl D G B0 X ad c0 c1 c2 hS hn sv lv bs fl b) (cwV 1 hts gw_X7_106 rfl rfl rfl (by decide +kernel) ⟨Nat.le_of_ble_eq_true rfl, Nat.le_of_ble_eq_true rfl⟩) (pv_cq hK hP (hE.at hS0 hAB)) rfl rfl hl.1 rfl (lv_room (Nat.le_of_ble_eq_true rfl)) dX7_layerCount_2 ⟨Nat.le_of_ble_eq_true rfl, Nat.le_of_ble_eq_true rfl⟩) hS0 (fun _ _ h => h.elim) (fun _ h => h.elim) (fun _ _ h => h.elim) ?_ ?_
  · intro E ce q9 u t9 H9 locs9 ht hvm hq_1 hBX hz1 hk1 hS9 hce hcv hcl
    exact vx_out (fun x hx => (hxt x hx).elim) hlocks hce hcv hcl (fun t8 ht8 hv8 => ⟨(), hq_1, hBX, hS9.F ht8⟩) hS9.2.2 (Nat.le_of_ble_eq_true rfl) (Nat.le_of_ble_eq_true rfl)
  · intro u t9 H9 locs9 ht hvm hq_1 hB hz1 hk1 hS9
    have hP : va_P D vwCl (CBL G X ad c0 c1 c2 hS hn sv lv bs fl).flatten H9 := P_keep hP hk1 (fun _ _ h => h.elim)
    clear hS0
    obtain ⟨H, rfl⟩ : ∃ z, z = H9 := ⟨_, rfl⟩
    have hS0 := hS9
    refine lv_aload_n hx hb dX7_layerCount_5 rfl (lv_at hl 0 rfl) ?_
    refine va_get (D := D) (ci := 8) (v := .ref (ad.1 0 0)) (C := RX7) (T := TX7) (N := 12) hx hb hts i_X7 hown hK (P_blk hP (i := 0) rfl) 0 rfl rfl 0 (by decide) (hts _ kw_228) (fun _ h9 => h9) rfl dX7_layerCount_6 ?_
    refine lv_iload_n hx hb dX7_layerCount_9 rfl (lv_at hl 1 rfl) ?_
    have hPc : va_P D vwCl (cw G (ad.1 0) c0) H := P_blk hP (i := 1) rfl
    refine vp_callSi (va_runV (As := [.int b]) (rest := []) ⟨hx, hb, hml, hown, hts⟩ (c_X1_countLayers l D G (ad.1 0) c0 b) (cwV 1 hts gw_X7_221 rfl rfl rfl (by decide +kernel) ⟨Nat.le_of_ble_eq_true rfl, Nat.le_of_ble_eq_true rfl⟩) (pv_cw hK hPc) rfl rfl hl.1 rfl (lv_room (Nat.le_of_ble_eq_true rfl)) dX7_layerCount_10 ⟨Nat.le_of_ble_eq_true rfl, Nat.le_of_ble_eq_true rfl⟩).run (nm_e ?_)
    refine W.widen (k := 1) (n := 6) (Nat.le_of_ble_eq_true rfl) (Nat.le_of_ble_eq_true rfl) ?_
    exact vx_ret (W.iret (v := (s_countLayers c0 b)) hx hb hr (fun t ht hW => ⟨⟨(s_countLayers c0 b), (), rfl, ⟨hq_1, rfl⟩, trivial⟩, hS0.F ht⟩) hS0.2.2 dX7_layerCount_13)
set_option maxRecDepth 100000 in
set_option maxHeartbeats 4000000 in
theorem c_X7_bestLoad (l : Launch) (hfl : l.stackTraces = false) (D : va_G) (G : GA) (B0 : Nat) (X : Nat → Nat → Nat) (ad : AD) (c0 c1 c2 : CS) (hS : Nat → CS) (hn : Nat) (sv : SV) (lv : LV) (bs fl : Nat → Int32) (b : Int32) : vx_Met l yX7_bestLoad (wA yX7_bestLoad cX7_bestLoad 2 (some .int)) ({ frames := 15, cells := 1, slots := 6, locals := 381 } : Room) (va_Pc [.ref (ad.1 3 0), .int b] (CQp D G B0 X ad c0 c1 c2 hS hn sv lv bs fl)) (va_Qi (fun (r : Int32) (_ : Unit) => x_bag c0 b = 0 ∧ r = s_bests c0 b) (fun _ _ => True) (fun _ => False)) (vx_X (fun _ : Unit => x_bag c0 b ≠ 0) (fun E _ _ => E = exN (x_bag c0 b)) (fun _ => False)) 1 6 (fun _ => False) := by
  refine vx_ofW (cc := cX7_bestLoad) (maxL := 2) (ret := (some .int)) (by decide) rfl ?_
  intro p9 e s m args below meth c9 s₁ B hml hxt hv
  obtain ⟨rfl, hP, hK, hE⟩ := hv
  have hx := B.exec
  have hb := B.bytes
  have hr := B.returns
  have hts : ∀ w9 ∈ tb, w9.before ([.ref (ad.1 3 0), .int b] : List Value).toArray s = true := fun w9 h9 => atoms_spec (ws := (wA yX7_bestLoad cX7_bestLoad 2 (some .int))) B.pre w9 (List.mem_cons_of_mem _ h9)
  have hown : s.vm.findClass RX7 = some m.cls := findClass_of_methodNamed B.named
  have hlocks := B.notSynchronized
  have hAB : ∀ q : Nat, (fun _ : Nat => False) q → B0 ≤ q := fun _ h => h.elim
  have hS0 : va_S (fun _ => False) s.heap s.heap [] := va_S.rf
  have hl := lv_entry ([.ref (ad.1 3 0), .int b]) (n := 2) (Nat.le_of_ble_eq_true rfl)
  rw [lg_entry_eq]
  generalize (lg_sl ([.ref (ad.1 3 0), .int b]) ++ List.replicate (2 - (lg_sl ([.ref (ad.1 3 0), .int b])).length) Slot.unset).toArray = ls at hl ⊢
  have hl : lv_has ls 2 [(0, .ref (ad.1 3 0)), (1, .int b)] := hl
  refine lv_aload_n hx hb dX7_bestLoad_0 rfl (lv_at hl 0 rfl) ?_
  refine lv_iload_n hx hb dX7_bestLoad_1 rfl (lv_at hl 1 rfl) ?_
  refine vx_callv (vx_runV (As := [.int b]) (rest := []) ⟨hx, hb, hml, hown, hts⟩ (c_X7_requireBag l hfl D G B0 X ad c0 c1 c2 hS hn sv lv bs fl b) (cwV 1 hts gw_X7_106 rfl rfl rfl (by decide +kernel) ⟨Nat.le_of_ble_eq_true rfl, Nat.le_of_ble_eq_true rfl⟩) (pv_cq hK hP (hE.at hS0 hAB)) rfl rfl hl.1 rfl (lv_room (Nat.le_of_ble_eq_true rfl)) dX7_bestLoad_2 ⟨Nat.le_of_ble_eq_true rfl, Nat.le_of_ble_eq_true rfl⟩) hS0 (fun _ _ h => h.elim) (fun _ h => h.elim) (fun _ _ h => h.elim) ?_ ?_
  · intro E ce q9 u t9 H9 locs9 ht hvm hq_1 hBX hz1 hk1 hS9 hce hcv hcl
    exact vx_out (fun x hx => (hxt x hx).elim) hlocks hce hcv hcl (fun t8 ht8 hv8 => ⟨(), hq_1, hBX, hS9.F ht8⟩) hS9.2.2 (Nat.le_of_ble_eq_true rfl) (Nat.le_of_ble_eq_true rfl)
  · intro u t9 H9 locs9 ht hvm hq_1 hB hz1 hk1 hS9
    have hP : va_P D vwCl (CBL G X ad c0 c1 c2 hS hn sv lv bs fl).flatten H9 := P_keep hP hk1 (fun _ _ h => h.elim)
    clear hS0
    obtain ⟨H, rfl⟩ : ∃ z, z = H9 := ⟨_, rfl⟩
    have hS0 := hS9
    refine lv_aload_n hx hb dX7_bestLoad_5 rfl (lv_at hl 0 rfl) ?_
    refine va_get (D := D) (ci := 8) (v := .ref (ad.1 0 0)) (C := RX7) (T := TX7) (N := 12) hx hb hts i_X7 hown hK (P_blk hP (i := 0) rfl) 0 rfl rfl 0 (by decide) (hts _ kw_228) (fun _ h9 => h9) rfl dX7_bestLoad_6 ?_
    refine lv_iload_n hx hb dX7_bestLoad_9 rfl (lv_at hl 1 rfl) ?_
    have hPc : va_P D vwCl (cw G (ad.1 0) c0) H := P_blk hP (i := 1) rfl
    refine vp_callSi (va_runV (As := [.int b]) (rest := []) ⟨hx, hb, hml, hown, hts⟩ (c_X1_bestBySets l D G (ad.1 0) c0 b) (cwV 1 hts gw_X7_243 rfl rfl rfl (by decide +kernel) ⟨Nat.le_of_ble_eq_true rfl, Nat.le_of_ble_eq_true rfl⟩) (pv_cw hK hPc) rfl rfl hl.1 rfl (lv_room (Nat.le_of_ble_eq_true rfl)) dX7_bestLoad_10 ⟨Nat.le_of_ble_eq_true rfl, Nat.le_of_ble_eq_true rfl⟩).run (nm_e ?_)
    refine W.widen (k := 1) (n := 6) (Nat.le_of_ble_eq_true rfl) (Nat.le_of_ble_eq_true rfl) ?_
    exact vx_ret (W.iret (v := (s_bests c0 b)) hx hb hr (fun t ht hW => ⟨⟨(s_bests c0 b), (), rfl, ⟨hq_1, rfl⟩, trivial⟩, hS0.F ht⟩) hS0.2.2 dX7_bestLoad_13)
set_option maxRecDepth 100000 in
set_option maxHeartbeats 4000000 in
theorem c_X7_requireLayer (l : Launch) (hfl : l.stackTraces = false) (D : va_G) (G : GA) (B0 : Nat) (X : Nat → Nat → Nat) (ad : AD) (c0 c1 c2 : CS) (hS : Nat → CS) (hn : Nat) (sv : SV) (lv : LV) (bs fl : Nat → Int32) (b : Int32) (w : Int32) : vx_Met l yX7_requireLayer (wA yX7_requireLayer cX7_requireLayer 3 none) ({ frames := 7, cells := 2, slots := 12, locals := 111 } : Room) (va_Pc [.ref (ad.1 3 0), .int b, .int w] (CQp D G B0 X ad c0 c1 c2 hS hn sv lv bs fl)) (va_Qv (fun _ : Unit => x_layer c0 b w = 0) (fun _ _ => True) (fun _ => False)) (vx_X (fun _ : Unit => x_layer c0 b w ≠ 0) (fun E _ _ => E = exN (x_layer c0 b w)) (fun _ => False)) 2 12 (fun _ => False) := by
  refine vx_ofW (cc := cX7_requireLayer) (maxL := 3) (ret := none) (by decide) rfl ?_
  intro p9 e s m args below meth c9 s₁ B hml hxt hv
  obtain ⟨rfl, hP, hK, hE⟩ := hv
  have hx := B.exec
  have hb := B.bytes
  have hr := B.returns
  have hts : ∀ w9 ∈ tb, w9.before ([.ref (ad.1 3 0), .int b, .int w] : List Value).toArray s = true := fun w9 h9 => atoms_spec (ws := (wA yX7_requireLayer cX7_requireLayer 3 none)) B.pre w9 (List.mem_cons_of_mem _ h9)
  have hown : s.vm.findClass RX7 = some m.cls := findClass_of_methodNamed B.named
  have hlocks := B.notSynchronized
  have hAB : ∀ q : Nat, (fun _ : Nat => False) q → B0 ≤ q := fun _ h => h.elim
  have hS0 : va_S (fun _ => False) s.heap s.heap [] := va_S.rf
  have hl := lv_entry ([.ref (ad.1 3 0), .int b, .int w]) (n := 3) (Nat.le_of_ble_eq_true rfl)
  rw [lg_entry_eq]
  generalize (lg_sl ([.ref (ad.1 3 0), .int b, .int w]) ++ List.replicate (3 - (lg_sl ([.ref (ad.1 3 0), .int b, .int w])).length) Slot.unset).toArray = ls at hl ⊢
  have hl : lv_has ls 3 [(0, .ref (ad.1 3 0)), (1, .int b), (2, .int w)] := hl
  refine lv_aload_n hx hb dX7_requireLayer_0 rfl (lv_at hl 0 rfl) ?_
  refine lv_iload_n hx hb dX7_requireLayer_1 rfl (lv_at hl 1 rfl) ?_
  refine vx_callv (vx_runV (As := [.int b]) (rest := []) ⟨hx, hb, hml, hown, hts⟩ (c_X7_requireBag l hfl D G B0 X ad c0 c1 c2 hS hn sv lv bs fl b) (cwV 1 hts gw_X7_106 rfl rfl rfl (by decide +kernel) ⟨Nat.le_of_ble_eq_true rfl, Nat.le_of_ble_eq_true rfl⟩) (pv_cq hK hP (hE.at hS0 hAB)) rfl rfl hl.1 rfl (lv_room (Nat.le_of_ble_eq_true rfl)) dX7_requireLayer_2 ⟨Nat.le_of_ble_eq_true rfl, Nat.le_of_ble_eq_true rfl⟩) hS0 (fun _ _ h => h.elim) (fun _ h => h.elim) (fun _ _ h => h.elim) ?_ ?_
  · intro E ce q9 u t9 H9 locs9 ht hvm hq_1 hBX hz1 hk1 hS9 hce hcv hcl
    exact vx_out (fun x hx => (hxt x hx).elim) hlocks hce hcv hcl (fun t8 ht8 hv8 => ⟨(), by rw [(show x_layer c0 b w = x_bag c0 b from by simp only [x_layer, if_neg hq_1])]; exact hq_1, by rw [(show x_layer c0 b w = x_bag c0 b from by simp only [x_layer, if_neg hq_1])]; exact hBX, hS9.F ht8⟩) hS9.2.2 (Nat.le_of_ble_eq_true rfl) (Nat.le_of_ble_eq_true rfl)
  · intro u t9 H9 locs9 ht hvm hq_1 hB hz1 hk1 hS9
    have hP : va_P D vwCl (CBL G X ad c0 c1 c2 hS hn sv lv bs fl).flatten H9 := P_keep hP hk1 (fun _ _ h => h.elim)
    clear hS0
    obtain ⟨H, rfl⟩ : ∃ z, z = H9 := ⟨_, rfl⟩
    have hS0 := hS9
    refine lv_iload_n hx hb dX7_requireLayer_5 rfl (lv_at hl 2 rfl) ?_
    refine lv_if_lt (tgt := 21) hx hb dX7_requireLayer_6 (by decide) (fun c_2 => ?_) (fun c_2 => ?_)
    · skip
      exact tw_iob hx hb hfl hts hown hE hAB (hE.s.1 26 ("CourierBags", 373, "there is no such layer") rfl) hS0 (hml.trans hl.1.symm).symm dX7_requireLayer_21 dX7_requireLayer_24 (Or.inr ⟨dX7_requireLayer_25, rfl⟩) dX7_requireLayer_28 dX7_requireLayer_31 hxt (Nat.le_of_ble_eq_true rfl) (Nat.le_of_ble_eq_true rfl) (Nat.le_of_ble_eq_true rfl) (Nat.le_of_ble_eq_true rfl) hlocks (fun t hv hz hk => ⟨(), by rw [(show x_layer c0 b w = 3 from by simp only [x_layer, if_pos hq_1, if_pos c_2])]; decide, by rw [(show x_layer c0 b w = 3 from by simp only [x_layer, if_pos hq_1, if_pos c_2])]; rfl, S_F hS0 hz hk⟩) hS0.2.2 (Nat.le_of_ble_eq_true rfl) (Nat.le_of_ble_eq_true rfl)
    · skip
      refine lv_iload_n hx hb dX7_requireLayer_9 rfl (lv_at hl 2 rfl) ?_
      refine lv_aload_n hx hb dX7_requireLayer_10 rfl (lv_at hl 0 rfl) ?_
      refine va_get (D := D) (ci := 8) (v := .ref (ad.1 0 0)) (C := RX7) (T := TX7) (N := 12) hx hb hts i_X7 hown hK (P_blk hP (i := 0) rfl) 0 rfl rfl 0 (by decide) (hts _ kw_228) (fun _ h9 => h9) rfl dX7_requireLayer_11 ?_
      refine lv_iload_n hx hb dX7_requireLayer_14 rfl (lv_at hl 1 rfl) ?_
      have hPc : va_P D vwCl (cw G (ad.1 0) c0) H := P_blk hP (i := 1) rfl
      refine vp_callSi (va_runV (As := [.int b]) (rest := [.int w]) ⟨hx, hb, hml, hown, hts⟩ (c_X1_countLayers l D G (ad.1 0) c0 b) (cwV 1 hts gw_X7_221 rfl rfl rfl (by decide +kernel) ⟨Nat.le_of_ble_eq_true rfl, Nat.le_of_ble_eq_true rfl⟩) (pv_cw hK hPc) rfl rfl hl.1 rfl (lv_room (Nat.le_of_ble_eq_true rfl)) dX7_requireLayer_15 ⟨Nat.le_of_ble_eq_true rfl, Nat.le_of_ble_eq_true rfl⟩).run (nm_e ?_)
      refine lv_icmp_lt (tgt := 32) hx hb dX7_requireLayer_18 (by decide) (fun c_3 => ?_) (fun c_3 => ?_)
      · skip
        refine W.widen (k := 2) (n := 12) (Nat.le_of_ble_eq_true rfl) (Nat.le_of_ble_eq_true rfl) ?_
        exact vx_ret (W.vret hx hb hr (fun t ht hW => ⟨⟨(), rfl, (by simp only [x_layer, if_pos hq_1, if_neg c_2, if_pos c_3]), trivial⟩, hS0.F ht⟩) hS0.2.2 dX7_requireLayer_32)
      · skip
        exact tw_iob hx hb hfl hts hown hE hAB (hE.s.1 26 ("CourierBags", 373, "there is no such layer") rfl) hS0 (hml.trans hl.1.symm).symm dX7_requireLayer_21 dX7_requireLayer_24 (Or.inr ⟨dX7_requireLayer_25, rfl⟩) dX7_requireLayer_28 dX7_requireLayer_31 hxt (Nat.le_of_ble_eq_true rfl) (Nat.le_of_ble_eq_true rfl) (Nat.le_of_ble_eq_true rfl) (Nat.le_of_ble_eq_true rfl) hlocks (fun t hv hz hk => ⟨(), by rw [(show x_layer c0 b w = 3 from by simp only [x_layer, if_pos hq_1, if_neg c_2, if_neg c_3])]; decide, by rw [(show x_layer c0 b w = 3 from by simp only [x_layer, if_pos hq_1, if_neg c_2, if_neg c_3])]; rfl, S_F hS0 hz hk⟩) hS0.2.2 (Nat.le_of_ble_eq_true rfl) (Nat.le_of_ble_eq_true rfl)
set_option maxRecDepth 100000 in
set_option maxHeartbeats 4000000 in
theorem c_X7_itemsInLayer (l : Launch) (hfl : l.stackTraces = false) (D : va_G) (G : GA) (B0 : Nat) (X : Nat → Nat → Nat) (ad : AD) (c0 c1 c2 : CS) (hS : Nat → CS) (hn : Nat) (sv : SV) (lv : LV) (bs fl : Nat → Int32) (b : Int32) (w : Int32) : vx_Met l yX7_itemsInLayer (wA yX7_itemsInLayer cX7_itemsInLayer 3 (some .int)) ({ frames := 8, cells := 2, slots := 12, locals := 133 } : Room) (va_Pc [.ref (ad.1 3 0), .int b, .int w] (CQp D G B0 X ad c0 c1 c2 hS hn sv lv bs fl)) (va_Qi (fun (r : Int32) (_ : Unit) => x_layer c0 b w = 0 ∧ r = s_countInLayer c0 b w) (fun _ _ => True) (fun _ => False)) (vx_X (fun _ : Unit => x_layer c0 b w ≠ 0) (fun E _ _ => E = exN (x_layer c0 b w)) (fun _ => False)) 2 12 (fun _ => False) := by
  refine vx_ofW (cc := cX7_itemsInLayer) (maxL := 3) (ret := (some .int)) (by decide) rfl ?_
  intro p9 e s m args below meth c9 s₁ B hml hxt hv
  obtain ⟨rfl, hP, hK, hE⟩ := hv
  have hx := B.exec
  have hb := B.bytes
  have hr := B.returns
  have hts : ∀ w9 ∈ tb, w9.before ([.ref (ad.1 3 0), .int b, .int w] : List Value).toArray s = true := fun w9 h9 => atoms_spec (ws := (wA yX7_itemsInLayer cX7_itemsInLayer 3 (some .int))) B.pre w9 (List.mem_cons_of_mem _ h9)
  have hown : s.vm.findClass RX7 = some m.cls := findClass_of_methodNamed B.named
  have hlocks := B.notSynchronized
  have hAB : ∀ q : Nat, (fun _ : Nat => False) q → B0 ≤ q := fun _ h => h.elim
  have hS0 : va_S (fun _ => False) s.heap s.heap [] := va_S.rf
  have hl := lv_entry ([.ref (ad.1 3 0), .int b, .int w]) (n := 3) (Nat.le_of_ble_eq_true rfl)
  rw [lg_entry_eq]
  generalize (lg_sl ([.ref (ad.1 3 0), .int b, .int w]) ++ List.replicate (3 - (lg_sl ([.ref (ad.1 3 0), .int b, .int w])).length) Slot.unset).toArray = ls at hl ⊢
  have hl : lv_has ls 3 [(0, .ref (ad.1 3 0)), (1, .int b), (2, .int w)] := hl
  refine lv_aload_n hx hb dX7_itemsInLayer_0 rfl (lv_at hl 0 rfl) ?_
  refine lv_iload_n hx hb dX7_itemsInLayer_1 rfl (lv_at hl 1 rfl) ?_
  refine lv_iload_n hx hb dX7_itemsInLayer_2 rfl (lv_at hl 2 rfl) ?_
  refine vx_callv (vx_runV (As := [.int b, .int w]) (rest := []) ⟨hx, hb, hml, hown, hts⟩ (c_X7_requireLayer l hfl D G B0 X ad c0 c1 c2 hS hn sv lv bs fl b w) (cwV 2 hts gw_X7_224 rfl rfl rfl (by decide +kernel) ⟨Nat.le_of_ble_eq_true rfl, Nat.le_of_ble_eq_true rfl⟩) (pv_cq hK hP (hE.at hS0 hAB)) rfl rfl hl.1 rfl (lv_room (Nat.le_of_ble_eq_true rfl)) dX7_itemsInLayer_3 ⟨Nat.le_of_ble_eq_true rfl, Nat.le_of_ble_eq_true rfl⟩) hS0 (fun _ _ h => h.elim) (fun _ h => h.elim) (fun _ _ h => h.elim) ?_ ?_
  · intro E ce q9 u t9 H9 locs9 ht hvm hq_1 hBX hz1 hk1 hS9 hce hcv hcl
    exact vx_out (fun x hx => (hxt x hx).elim) hlocks hce hcv hcl (fun t8 ht8 hv8 => ⟨(), hq_1, hBX, hS9.F ht8⟩) hS9.2.2 (Nat.le_of_ble_eq_true rfl) (Nat.le_of_ble_eq_true rfl)
  · intro u t9 H9 locs9 ht hvm hq_1 hB hz1 hk1 hS9
    have hP : va_P D vwCl (CBL G X ad c0 c1 c2 hS hn sv lv bs fl).flatten H9 := P_keep hP hk1 (fun _ _ h => h.elim)
    clear hS0
    obtain ⟨H, rfl⟩ : ∃ z, z = H9 := ⟨_, rfl⟩
    have hS0 := hS9
    refine lv_aload_n hx hb dX7_itemsInLayer_6 rfl (lv_at hl 0 rfl) ?_
    refine va_get (D := D) (ci := 8) (v := .ref (ad.1 0 0)) (C := RX7) (T := TX7) (N := 12) hx hb hts i_X7 hown hK (P_blk hP (i := 0) rfl) 0 rfl rfl 0 (by decide) (hts _ kw_228) (fun _ h9 => h9) rfl dX7_itemsInLayer_7 ?_
    refine lv_iload_n hx hb dX7_itemsInLayer_10 rfl (lv_at hl 1 rfl) ?_
    refine lv_iload_n hx hb dX7_itemsInLayer_11 rfl (lv_at hl 2 rfl) ?_
    have hPc : va_P D vwCl (cw G (ad.1 0) c0) H := P_blk hP (i := 1) rfl
    refine vp_callSi (va_runV (As := [.int b, .int w]) (rest := []) ⟨hx, hb, hml, hown, hts⟩ (c_X1_countInLayer l D G (ad.1 0) c0 b w) (cwV 2 hts gw_X7_228 rfl rfl rfl (by decide +kernel) ⟨Nat.le_of_ble_eq_true rfl, Nat.le_of_ble_eq_true rfl⟩) (pv_cw hK hPc) rfl rfl hl.1 rfl (lv_room (Nat.le_of_ble_eq_true rfl)) dX7_itemsInLayer_12 ⟨Nat.le_of_ble_eq_true rfl, Nat.le_of_ble_eq_true rfl⟩).run (nm_e ?_)
    refine W.widen (k := 2) (n := 12) (Nat.le_of_ble_eq_true rfl) (Nat.le_of_ble_eq_true rfl) ?_
    exact vx_ret (W.iret (v := (s_countInLayer c0 b w)) hx hb hr (fun t ht hW => ⟨⟨(s_countInLayer c0 b w), (), rfl, ⟨hq_1, rfl⟩, trivial⟩, hS0.F ht⟩) hS0.2.2 dX7_itemsInLayer_15)
set_option maxRecDepth 100000 in
set_option maxHeartbeats 4000000 in
theorem c_X7_sizeUsed (l : Launch) (hfl : l.stackTraces = false) (D : va_G) (G : GA) (B0 : Nat) (X : Nat → Nat → Nat) (ad : AD) (c0 c1 c2 : CS) (hS : Nat → CS) (hn : Nat) (sv : SV) (lv : LV) (bs fl : Nat → Int32) (b : Int32) (w : Int32) : vx_Met l yX7_sizeUsed (wA yX7_sizeUsed cX7_sizeUsed 3 (some .int)) ({ frames := 8, cells := 2, slots := 12, locals := 133 } : Room) (va_Pc [.ref (ad.1 3 0), .int b, .int w] (CQp D G B0 X ad c0 c1 c2 hS hn sv lv bs fl)) (va_Qi (fun (r : Int32) (_ : Unit) => x_layer c0 b w = 0 ∧ r = s_sizeOfLayer c0 b w) (fun _ _ => True) (fun _ => False)) (vx_X (fun _ : Unit => x_layer c0 b w ≠ 0) (fun E _ _ => E = exN (x_layer c0 b w)) (fun _ => False)) 2 12 (fun _ => False) := by
  refine vx_ofW (cc := cX7_sizeUsed) (maxL := 3) (ret := (some .int)) (by decide) rfl ?_
  intro p9 e s m args below meth c9 s₁ B hml hxt hv
  obtain ⟨rfl, hP, hK, hE⟩ := hv
  have hx := B.exec
  have hb := B.bytes
  have hr := B.returns
  have hts : ∀ w9 ∈ tb, w9.before ([.ref (ad.1 3 0), .int b, .int w] : List Value).toArray s = true := fun w9 h9 => atoms_spec (ws := (wA yX7_sizeUsed cX7_sizeUsed 3 (some .int))) B.pre w9 (List.mem_cons_of_mem _ h9)
  have hown : s.vm.findClass RX7 = some m.cls := findClass_of_methodNamed B.named
  have hlocks := B.notSynchronized
  have hAB : ∀ q : Nat, (fun _ : Nat => False) q → B0 ≤ q := fun _ h => h.elim
  have hS0 : va_S (fun _ => False) s.heap s.heap [] := va_S.rf
  have hl := lv_entry ([.ref (ad.1 3 0), .int b, .int w]) (n := 3) (Nat.le_of_ble_eq_true rfl)
  rw [lg_entry_eq]
  generalize (lg_sl ([.ref (ad.1 3 0), .int b, .int w]) ++ List.replicate (3 - (lg_sl ([.ref (ad.1 3 0), .int b, .int w])).length) Slot.unset).toArray = ls at hl ⊢
  have hl : lv_has ls 3 [(0, .ref (ad.1 3 0)), (1, .int b), (2, .int w)] := hl
  refine lv_aload_n hx hb dX7_sizeUsed_0 rfl (lv_at hl 0 rfl) ?_
  refine lv_iload_n hx hb dX7_sizeUsed_1 rfl (lv_at hl 1 rfl) ?_
  refine lv_iload_n hx hb dX7_sizeUsed_2 rfl (lv_at hl 2 rfl) ?_
  refine vx_callv (vx_runV (As := [.int b, .int w]) (rest := []) ⟨hx, hb, hml, hown, hts⟩ (c_X7_requireLayer l hfl D G B0 X ad c0 c1 c2 hS hn sv lv bs fl b w) (cwV 2 hts gw_X7_224 rfl rfl rfl (by decide +kernel) ⟨Nat.le_of_ble_eq_true rfl, Nat.le_of_ble_eq_true rfl⟩) (pv_cq hK hP (hE.at hS0 hAB)) rfl rfl hl.1 rfl (lv_room (Nat.le_of_ble_eq_true rfl)) dX7_sizeUsed_3 ⟨Nat.le_of_ble_eq_true rfl, Nat.le_of_ble_eq_true rfl⟩) hS0 (fun _ _ h => h.elim) (fun _ h => h.elim) (fun _ _ h => h.elim) ?_ ?_
  · intro E ce q9 u t9 H9 locs9 ht hvm hq_1 hBX hz1 hk1 hS9 hce hcv hcl
    exact vx_out (fun x hx => (hxt x hx).elim) hlocks hce hcv hcl (fun t8 ht8 hv8 => ⟨(), hq_1, hBX, hS9.F ht8⟩) hS9.2.2 (Nat.le_of_ble_eq_true rfl) (Nat.le_of_ble_eq_true rfl)
  · intro u t9 H9 locs9 ht hvm hq_1 hB hz1 hk1 hS9
    have hP : va_P D vwCl (CBL G X ad c0 c1 c2 hS hn sv lv bs fl).flatten H9 := P_keep hP hk1 (fun _ _ h => h.elim)
    clear hS0
    obtain ⟨H, rfl⟩ : ∃ z, z = H9 := ⟨_, rfl⟩
    have hS0 := hS9
    refine lv_aload_n hx hb dX7_sizeUsed_6 rfl (lv_at hl 0 rfl) ?_
    refine va_get (D := D) (ci := 8) (v := .ref (ad.1 0 0)) (C := RX7) (T := TX7) (N := 12) hx hb hts i_X7 hown hK (P_blk hP (i := 0) rfl) 0 rfl rfl 0 (by decide) (hts _ kw_228) (fun _ h9 => h9) rfl dX7_sizeUsed_7 ?_
    refine lv_iload_n hx hb dX7_sizeUsed_10 rfl (lv_at hl 1 rfl) ?_
    refine lv_iload_n hx hb dX7_sizeUsed_11 rfl (lv_at hl 2 rfl) ?_
    have hPc : va_P D vwCl (cw G (ad.1 0) c0) H := P_blk hP (i := 1) rfl
    refine vp_callSi (va_runV (As := [.int b, .int w]) (rest := []) ⟨hx, hb, hml, hown, hts⟩ (c_X1_sizeOfLayer l D G (ad.1 0) c0 b w) (cwV 2 hts gw_X7_237 rfl rfl rfl (by decide +kernel) ⟨Nat.le_of_ble_eq_true rfl, Nat.le_of_ble_eq_true rfl⟩) (pv_cw hK hPc) rfl rfl hl.1 rfl (lv_room (Nat.le_of_ble_eq_true rfl)) dX7_sizeUsed_12 ⟨Nat.le_of_ble_eq_true rfl, Nat.le_of_ble_eq_true rfl⟩).run (nm_e ?_)
    refine W.widen (k := 2) (n := 12) (Nat.le_of_ble_eq_true rfl) (Nat.le_of_ble_eq_true rfl) ?_
    exact vx_ret (W.iret (v := (s_sizeOfLayer c0 b w)) hx hb hr (fun t ht hW => ⟨⟨(s_sizeOfLayer c0 b w), (), rfl, ⟨hq_1, rfl⟩, trivial⟩, hS0.F ht⟩) hS0.2.2 dX7_sizeUsed_15)
set_option maxRecDepth 100000 in
set_option maxHeartbeats 4000000 in
theorem c_X7_loadOf (l : Launch) (hfl : l.stackTraces = false) (D : va_G) (G : GA) (B0 : Nat) (X : Nat → Nat → Nat) (ad : AD) (c0 c1 c2 : CS) (hS : Nat → CS) (hn : Nat) (sv : SV) (lv : LV) (bs fl : Nat → Int32) (b : Int32) (w : Int32) : vx_Met l yX7_loadOf (wA yX7_loadOf cX7_loadOf 3 (some .int)) ({ frames := 8, cells := 2, slots := 12, locals := 133 } : Room) (va_Pc [.ref (ad.1 3 0), .int b, .int w] (CQp D G B0 X ad c0 c1 c2 hS hn sv lv bs fl)) (va_Qi (fun (r : Int32) (_ : Unit) => x_layer c0 b w = 0 ∧ r = s_loadOn c0 b w) (fun _ _ => True) (fun _ => False)) (vx_X (fun _ : Unit => x_layer c0 b w ≠ 0) (fun E _ _ => E = exN (x_layer c0 b w)) (fun _ => False)) 2 12 (fun _ => False) := by
  refine vx_ofW (cc := cX7_loadOf) (maxL := 3) (ret := (some .int)) (by decide) rfl ?_
  intro p9 e s m args below meth c9 s₁ B hml hxt hv
  obtain ⟨rfl, hP, hK, hE⟩ := hv
  have hx := B.exec
  have hb := B.bytes
  have hr := B.returns
  have hts : ∀ w9 ∈ tb, w9.before ([.ref (ad.1 3 0), .int b, .int w] : List Value).toArray s = true := fun w9 h9 => atoms_spec (ws := (wA yX7_loadOf cX7_loadOf 3 (some .int))) B.pre w9 (List.mem_cons_of_mem _ h9)
  have hown : s.vm.findClass RX7 = some m.cls := findClass_of_methodNamed B.named
  have hlocks := B.notSynchronized
  have hAB : ∀ q : Nat, (fun _ : Nat => False) q → B0 ≤ q := fun _ h => h.elim
  have hS0 : va_S (fun _ => False) s.heap s.heap [] := va_S.rf
  have hl := lv_entry ([.ref (ad.1 3 0), .int b, .int w]) (n := 3) (Nat.le_of_ble_eq_true rfl)
  rw [lg_entry_eq]
  generalize (lg_sl ([.ref (ad.1 3 0), .int b, .int w]) ++ List.replicate (3 - (lg_sl ([.ref (ad.1 3 0), .int b, .int w])).length) Slot.unset).toArray = ls at hl ⊢
  have hl : lv_has ls 3 [(0, .ref (ad.1 3 0)), (1, .int b), (2, .int w)] := hl
  refine lv_aload_n hx hb dX7_loadOf_0 rfl (lv_at hl 0 rfl) ?_
  refine lv_iload_n hx hb dX7_loadOf_1 rfl (lv_at hl 1 rfl) ?_
  refine lv_iload_n hx hb dX7_loadOf_2 rfl (lv_at hl 2 rfl) ?_
  refine vx_callv (vx_runV (As := [.int b, .int w]) (rest := []) ⟨hx, hb, hml, hown, hts⟩ (c_X7_requireLayer l hfl D G B0 X ad c0 c1 c2 hS hn sv lv bs fl b w) (cwV 2 hts gw_X7_224 rfl rfl rfl (by decide +kernel) ⟨Nat.le_of_ble_eq_true rfl, Nat.le_of_ble_eq_true rfl⟩) (pv_cq hK hP (hE.at hS0 hAB)) rfl rfl hl.1 rfl (lv_room (Nat.le_of_ble_eq_true rfl)) dX7_loadOf_3 ⟨Nat.le_of_ble_eq_true rfl, Nat.le_of_ble_eq_true rfl⟩) hS0 (fun _ _ h => h.elim) (fun _ h => h.elim) (fun _ _ h => h.elim) ?_ ?_
  · intro E ce q9 u t9 H9 locs9 ht hvm hq_1 hBX hz1 hk1 hS9 hce hcv hcl
    exact vx_out (fun x hx => (hxt x hx).elim) hlocks hce hcv hcl (fun t8 ht8 hv8 => ⟨(), hq_1, hBX, hS9.F ht8⟩) hS9.2.2 (Nat.le_of_ble_eq_true rfl) (Nat.le_of_ble_eq_true rfl)
  · intro u t9 H9 locs9 ht hvm hq_1 hB hz1 hk1 hS9
    have hP : va_P D vwCl (CBL G X ad c0 c1 c2 hS hn sv lv bs fl).flatten H9 := P_keep hP hk1 (fun _ _ h => h.elim)
    clear hS0
    obtain ⟨H, rfl⟩ : ∃ z, z = H9 := ⟨_, rfl⟩
    have hS0 := hS9
    refine lv_aload_n hx hb dX7_loadOf_6 rfl (lv_at hl 0 rfl) ?_
    refine va_get (D := D) (ci := 8) (v := .ref (ad.1 0 0)) (C := RX7) (T := TX7) (N := 12) hx hb hts i_X7 hown hK (P_blk hP (i := 0) rfl) 0 rfl rfl 0 (by decide) (hts _ kw_228) (fun _ h9 => h9) rfl dX7_loadOf_7 ?_
    refine lv_iload_n hx hb dX7_loadOf_10 rfl (lv_at hl 1 rfl) ?_
    refine lv_iload_n hx hb dX7_loadOf_11 rfl (lv_at hl 2 rfl) ?_
    have hPc : va_P D vwCl (cw G (ad.1 0) c0) H := P_blk hP (i := 1) rfl
    refine vp_callSi (va_runV (As := [.int b, .int w]) (rest := []) ⟨hx, hb, hml, hown, hts⟩ (c_X1_loadOn l D G (ad.1 0) c0 b w) (cwV 2 hts gw_X7_240 rfl rfl rfl (by decide +kernel) ⟨Nat.le_of_ble_eq_true rfl, Nat.le_of_ble_eq_true rfl⟩) (pv_cw hK hPc) rfl rfl hl.1 rfl (lv_room (Nat.le_of_ble_eq_true rfl)) dX7_loadOf_12 ⟨Nat.le_of_ble_eq_true rfl, Nat.le_of_ble_eq_true rfl⟩).run (nm_e ?_)
    refine W.widen (k := 2) (n := 12) (Nat.le_of_ble_eq_true rfl) (Nat.le_of_ble_eq_true rfl) ?_
    exact vx_ret (W.iret (v := (s_loadOn c0 b w)) hx hb hr (fun t ht hW => ⟨⟨(s_loadOn c0 b w), (), rfl, ⟨hq_1, rfl⟩, trivial⟩, hS0.F ht⟩) hS0.2.2 dX7_loadOf_15)
set_option maxRecDepth 100000 in
set_option maxHeartbeats 4000000 in
theorem c_X7_itemAt (l : Launch) (hfl : l.stackTraces = false) (D : va_G) (G : GA) (B0 : Nat) (X : Nat → Nat → Nat) (ad : AD) (c0 c1 c2 : CS) (hS : Nat → CS) (hn : Nat) (sv : SV) (lv : LV) (bs fl : Nat → Int32) (b : Int32) (w : Int32) (i : Int32) : vx_Met l yX7_itemAt (wA yX7_itemAt cX7_itemAt 5 (some .int)) ({ frames := 8, cells := 3, slots := 18, locals := 133 } : Room) (va_Pc [.ref (ad.1 3 0), .int b, .int w, .int i] (CQp D G B0 X ad c0 c1 c2 hS hn sv lv bs fl)) (va_Qi (fun (r : Int32) (_ : Unit) => x_place c0 b w i = 0 ∧ r = itm c0 (s_findPlace c0 b w i) 0) (fun _ _ => True) (fun _ => False)) (vx_X (fun _ : Unit => x_place c0 b w i ≠ 0) (fun E _ _ => E = exN (x_place c0 b w i)) (fun _ => False)) 3 18 (fun _ => False) := by
  refine vx_ofW (cc := cX7_itemAt) (maxL := 5) (ret := (some .int)) (by decide) rfl ?_
  intro p9 e s m args below meth c9 s₁ B hml hxt hv
  obtain ⟨rfl, hP, hK, hE⟩ := hv
  have hx := B.exec
  have hb := B.bytes
  have hr := B.returns
  have hts : ∀ w9 ∈ tb, w9.before ([.ref (ad.1 3 0), .int b, .int w, .int i] : List Value).toArray s = true := fun w9 h9 => atoms_spec (ws := (wA yX7_itemAt cX7_itemAt 5 (some .int))) B.pre w9 (List.mem_cons_of_mem _ h9)
  have hown : s.vm.findClass RX7 = some m.cls := findClass_of_methodNamed B.named
  have hlocks := B.notSynchronized
  have hAB : ∀ q : Nat, (fun _ : Nat => False) q → B0 ≤ q := fun _ h => h.elim
  have hS0 : va_S (fun _ => False) s.heap s.heap [] := va_S.rf
  have hl := lv_entry ([.ref (ad.1 3 0), .int b, .int w, .int i]) (n := 5) (Nat.le_of_ble_eq_true rfl)
  rw [lg_entry_eq]
  generalize (lg_sl ([.ref (ad.1 3 0), .int b, .int w, .int i]) ++ List.replicate (5 - (lg_sl ([.ref (ad.1 3 0), .int b, .int w, .int i])).length) Slot.unset).toArray = ls at hl ⊢
  have hl : lv_has ls 5 [(0, .ref (ad.1 3 0)), (1, .int b), (2, .int w), (3, .int i)] := hl
  refine lv_aload_n hx hb dX7_itemAt_0 rfl (lv_at hl 0 rfl) ?_
  refine lv_iload_n hx hb dX7_itemAt_1 rfl (lv_at hl 1 rfl) ?_
  refine lv_iload_n hx hb dX7_itemAt_2 rfl (lv_at hl 2 rfl) ?_
  refine vx_callv (vx_runV (As := [.int b, .int w]) (rest := []) ⟨hx, hb, hml, hown, hts⟩ (c_X7_requireLayer l hfl D G B0 X ad c0 c1 c2 hS hn sv lv bs fl b w) (cwV 2 hts gw_X7_224 rfl rfl rfl (by decide +kernel) ⟨Nat.le_of_ble_eq_true rfl, Nat.le_of_ble_eq_true rfl⟩) (pv_cq hK hP (hE.at hS0 hAB)) rfl rfl hl.1 rfl (lv_room (Nat.le_of_ble_eq_true rfl)) dX7_itemAt_3 ⟨Nat.le_of_ble_eq_true rfl, Nat.le_of_ble_eq_true rfl⟩) hS0 (fun _ _ h => h.elim) (fun _ h => h.elim) (fun _ _ h => h.elim) ?_ ?_
  · intro E ce q9 u t9 H9 locs9 ht hvm hq_1 hBX hz1 hk1 hS9 hce hcv hcl
    exact vx_out (fun x hx => (hxt x hx).elim) hlocks hce hcv hcl (fun t8 ht8 hv8 => ⟨(), by rw [(show x_place c0 b w i = x_layer c0 b w from by simp only [x_place, if_neg hq_1])]; exact hq_1, by rw [(show x_place c0 b w i = x_layer c0 b w from by simp only [x_place, if_neg hq_1])]; exact hBX, hS9.F ht8⟩) hS9.2.2 (Nat.le_of_ble_eq_true rfl) (Nat.le_of_ble_eq_true rfl)
  · intro u t9 H9 locs9 ht hvm hq_1 hB hz1 hk1 hS9
    have hP : va_P D vwCl (CBL G X ad c0 c1 c2 hS hn sv lv bs fl).flatten H9 := P_keep hP hk1 (fun _ _ h => h.elim)
    clear hS0
    obtain ⟨H, rfl⟩ : ∃ z, z = H9 := ⟨_, rfl⟩
    have hS0 := hS9
    refine lv_aload_n hx hb dX7_itemAt_6 rfl (lv_at hl 0 rfl) ?_
    refine va_get (D := D) (ci := 8) (v := .ref (ad.1 0 0)) (C := RX7) (T := TX7) (N := 12) hx hb hts i_X7 hown hK (P_blk hP (i := 0) rfl) 0 rfl rfl 0 (by decide) (hts _ kw_228) (fun _ h9 => h9) rfl dX7_itemAt_7 ?_
    refine lv_iload_n hx hb dX7_itemAt_10 rfl (lv_at hl 1 rfl) ?_
    refine lv_iload_n hx hb dX7_itemAt_11 rfl (lv_at hl 2 rfl) ?_
    refine lv_iload_n hx hb dX7_itemAt_12 rfl (lv_at hl 3 rfl) ?_
    have hPc : va_P D vwCl (cw G (ad.1 0) c0) H := P_blk hP (i := 1) rfl
    refine va_csr (va_runV (As := [.int b, .int w, .int i]) (rest := []) ⟨hx, hb, hml, hown, hts⟩ (c_X1_findPlace l D G (ad.1 0) c0 b w i) (cwV 3 hts gw_X7_231 rfl rfl rfl (by decide +kernel) ⟨Nat.le_of_ble_eq_true rfl, Nat.le_of_ble_eq_true rfl⟩) (pv_cw hK hPc) rfl rfl hl.1 rfl (lv_room (Nat.le_of_ble_eq_true rfl)) dX7_itemAt_13 ⟨Nat.le_of_ble_eq_true rfl, Nat.le_of_ble_eq_true rfl⟩).run (nm_e ?_)
    refine lv_astore (x := (ad.1 0 (3 + (s_findPlace c0 b w i)))) (lv' := [(4, .ref (ad.1 0 (3 + (s_findPlace c0 b w i)))), (0, .ref (ad.1 3 0)), (1, .int b), (2, .int w), (3, .int i)]) hx hb dX7_itemAt_16 hl (by decide) rfl (fun ls hl => ?_)
    refine lv_aload hx hb dX7_itemAt_18 (lv_at hl 0 rfl) ?_
    have hPc : va_P D vwCl (cw G (ad.1 0) c0) H := P_blk hP (i := 1) rfl
    refine vp_callSi (va_runV (As := []) (rest := []) ⟨hx, hb, hml, hown, hts⟩ (c_X4_isThere l D G (ad.1 0 (3 + (s_findPlace c0 b w i))) (itm c0 (s_findPlace c0 b w i))) (cwV 0 hts gw_X7_165 rfl rfl rfl (by decide +kernel) ⟨Nat.le_of_ble_eq_true rfl, Nat.le_of_ble_eq_true rfl⟩) (pv_it hK hPc (cw_it G (ad.1 0) c0 (s_findPlace_lt c0 b w i))) rfl rfl hl.1 rfl (lv_room (Nat.le_of_ble_eq_true rfl)) dX7_itemAt_20 ⟨Nat.le_of_ble_eq_true rfl, Nat.le_of_ble_eq_true rfl⟩).run (nm_e ?_)
    cases hb_2 : p_there (itm c0 (s_findPlace c0 b w i))
    case true =>
      refine lv_if_ne (tgt := 36) hx hb dX7_itemAt_23 (by decide) (fun _ => ?_) (fun c_3 => absurd c_3 (by decide))
      refine lv_aload hx hb dX7_itemAt_36 (lv_at hl 0 rfl) ?_
      refine va_get (D := D) (ci := 6) (v := .int (itm c0 (s_findPlace c0 b w i) 0)) (C := RX4) (T := TX4) (N := 8) hx hb hts i_X4 hown hK (P_blk hP (i := 1) rfl) (3 + (s_findPlace c0 b w i)) (cw_it G (ad.1 0) c0 (s_findPlace_lt c0 b w i)) rfl 0 (by decide) (hts _ kw_80) (fun _ h9 => h9) rfl dX7_itemAt_38 ?_
      refine W.widen (k := 3) (n := 18) (Nat.le_of_ble_eq_true rfl) (Nat.le_of_ble_eq_true rfl) ?_
      exact vx_ret (W.iret (v := itm c0 (s_findPlace c0 b w i) 0) hx hb hr (fun t ht hW => ⟨⟨itm c0 (s_findPlace c0 b w i) 0, (), rfl, ⟨(by simp only [x_place, if_pos hq_1, if_pos hb_2]), rfl⟩, trivial⟩, hS0.F ht⟩) hS0.2.2 dX7_itemAt_41)
    case false =>
      refine lv_if_ne (tgt := 36) hx hb dX7_itemAt_23 (by decide) (fun c_4 => absurd (by decide) c_4) (fun _ => ?_)
      exact tw_nse hx hb hfl hts hown hE hAB (hE.s.1 27 ("CourierBags", 235, "there is no such position") rfl) hS0 (hml.trans hl.1.symm).symm dX7_itemAt_26 dX7_itemAt_29 (Or.inl ⟨dX7_itemAt_30, rfl⟩) dX7_itemAt_32 dX7_itemAt_35 hxt (Nat.le_of_ble_eq_true rfl) (Nat.le_of_ble_eq_true rfl) (Nat.le_of_ble_eq_true rfl) (Nat.le_of_ble_eq_true rfl) hlocks (fun t hv hz hk => ⟨(), by rw [(show x_place c0 b w i = 2 from by simp only [x_place, if_pos hq_1, if_neg (bf hb_2)])]; decide, by rw [(show x_place c0 b w i = 2 from by simp only [x_place, if_pos hq_1, if_neg (bf hb_2)])]; rfl, S_F hS0 hz hk⟩) hS0.2.2 (Nat.le_of_ble_eq_true rfl) (Nat.le_of_ble_eq_true rfl)
set_option maxRecDepth 100000 in
set_option maxHeartbeats 4000000 in
theorem c_X7_nextStop (l : Launch) (hfl : l.stackTraces = false) (D : va_G) (G : GA) (B0 : Nat) (X : Nat → Nat → Nat) (ad : AD) (c0 c1 c2 : CS) (hS : Nat → CS) (hn : Nat) (sv : SV) (lv : LV) (bs fl : Nat → Int32) : vx_Met l yX7_nextStop (wA yX7_nextStop cX7_nextStop 1 (some .int)) ({ frames := 6, cells := 1, slots := 6, locals := 90 } : Room) (va_Pc [.ref (ad.1 3 0)] (CQp D G B0 X ad c0 c1 c2 hS hn sv lv bs fl)) (va_Qi (fun (r : Int32) (_ : Unit) => x_next c0 = 0 ∧ r = s_lowest c0) (fun _ _ => True) (fun _ => False)) (vx_X (fun _ : Unit => x_next c0 ≠ 0) (fun E _ _ => E = exN (x_next c0)) (fun _ => False)) 1 6 (fun _ => False) := by
  refine vx_ofW (cc := cX7_nextStop) (maxL := 1) (ret := (some .int)) (by decide) rfl ?_
  intro p9 e s m args below meth c9 s₁ B hml hxt hv
  obtain ⟨rfl, hP, hK, hE⟩ := hv
  have hx := B.exec
  have hb := B.bytes
  have hr := B.returns
  have hts : ∀ w9 ∈ tb, w9.before ([.ref (ad.1 3 0)] : List Value).toArray s = true := fun w9 h9 => atoms_spec (ws := (wA yX7_nextStop cX7_nextStop 1 (some .int))) B.pre w9 (List.mem_cons_of_mem _ h9)
  have hown : s.vm.findClass RX7 = some m.cls := findClass_of_methodNamed B.named
  have hlocks := B.notSynchronized
  have hAB : ∀ q : Nat, (fun _ : Nat => False) q → B0 ≤ q := fun _ h => h.elim
  have hS0 : va_S (fun _ => False) s.heap s.heap [] := va_S.rf
  have hl := lv_entry ([.ref (ad.1 3 0)]) (n := 1) (Nat.le_of_ble_eq_true rfl)
  rw [lg_entry_eq]
  generalize (lg_sl ([.ref (ad.1 3 0)]) ++ List.replicate (1 - (lg_sl ([.ref (ad.1 3 0)])).length) Slot.unset).toArray = ls at hl ⊢
  have hl : lv_has ls 1 [(0, .ref (ad.1 3 0))] := hl
  refine lv_aload_n hx hb dX7_nextStop_0 rfl (lv_at hl 0 rfl) ?_
  refine va_get (D := D) (ci := 8) (v := .ref (ad.1 0 0)) (C := RX7) (T := TX7) (N := 12) hx hb hts i_X7 hown hK (P_blk hP (i := 0) rfl) 0 rfl rfl 0 (by decide) (hts _ kw_228) (fun _ h9 => h9) rfl dX7_nextStop_1 ?_
  have hPc : va_P D vwCl (cw G (ad.1 0) c0) s.heap := P_blk hP (i := 1) rfl
  refine vp_callSi (va_runV (As := []) (rest := []) ⟨hx, hb, hml, hown, hts⟩ (c_X1_hasPackedItem l D G (ad.1 0) c0) (cwV 0 hts gw_X7_136 rfl rfl rfl (by decide +kernel) ⟨Nat.le_of_ble_eq_true rfl, Nat.le_of_ble_eq_true rfl⟩) (pv_cw hK hPc) rfl rfl hl.1 rfl (lv_room (Nat.le_of_ble_eq_true rfl)) dX7_nextStop_4 ⟨Nat.le_of_ble_eq_true rfl, Nat.le_of_ble_eq_true rfl⟩).run (nm_e ?_)
  cases hb_1 : s_hasPacked c0
  case true =>
    refine lv_if_ne (tgt := 20) hx hb dX7_nextStop_7 (by decide) (fun _ => ?_) (fun c_2 => absurd c_2 (by decide))
    refine lv_aload_n hx hb dX7_nextStop_20 rfl (lv_at hl 0 rfl) ?_
    refine va_get (D := D) (ci := 8) (v := .ref (ad.1 0 0)) (C := RX7) (T := TX7) (N := 12) hx hb hts i_X7 hown hK (P_blk hP (i := 0) rfl) 0 rfl rfl 0 (by decide) (hts _ kw_228) (fun _ h9 => h9) rfl dX7_nextStop_21 ?_
    have hPc : va_P D vwCl (cw G (ad.1 0) c0) s.heap := P_blk hP (i := 1) rfl
    refine vp_callSi (va_runV (As := []) (rest := []) ⟨hx, hb, hml, hown, hts⟩ (c_X1_lowestPackedStop l D G (ad.1 0) c0) (cwV 0 hts gw_X7_147 rfl rfl rfl (by decide +kernel) ⟨Nat.le_of_ble_eq_true rfl, Nat.le_of_ble_eq_true rfl⟩) (pv_cw hK hPc) rfl rfl hl.1 rfl (lv_room (Nat.le_of_ble_eq_true rfl)) dX7_nextStop_24 ⟨Nat.le_of_ble_eq_true rfl, Nat.le_of_ble_eq_true rfl⟩).run (nm_e ?_)
    refine W.widen (k := 1) (n := 6) (Nat.le_of_ble_eq_true rfl) (Nat.le_of_ble_eq_true rfl) ?_
    exact vx_ret (W.iret (v := (s_lowest c0)) hx hb hr (fun t ht hW => ⟨⟨(s_lowest c0), (), rfl, ⟨(by simp only [x_next, if_pos hb_1]), rfl⟩, trivial⟩, hS0.F ht⟩) hS0.2.2 dX7_nextStop_27)
  case false =>
    refine lv_if_ne (tgt := 20) hx hb dX7_nextStop_7 (by decide) (fun c_3 => absurd (by decide) c_3) (fun _ => ?_)
    exact tw_nse hx hb hfl hts hown hE hAB (hE.s.1 13 ("CourierBags", 142, "no item is packed") rfl) hS0 (hml.trans hl.1.symm).symm dX7_nextStop_10 dX7_nextStop_13 (Or.inl ⟨dX7_nextStop_14, rfl⟩) dX7_nextStop_16 dX7_nextStop_19 hxt (Nat.le_of_ble_eq_true rfl) (Nat.le_of_ble_eq_true rfl) (Nat.le_of_ble_eq_true rfl) (Nat.le_of_ble_eq_true rfl) hlocks (fun t hv hz hk => ⟨(), by rw [(show x_next c0 = 2 from by simp only [x_next, if_neg (bf hb_1)])]; decide, by rw [(show x_next c0 = 2 from by simp only [x_next, if_neg (bf hb_1)])]; rfl, S_F hS0 hz hk⟩) hS0.2.2 (Nat.le_of_ble_eq_true rfl) (Nat.le_of_ble_eq_true rfl)
set_option maxRecDepth 100000 in
set_option maxHeartbeats 4000000 in
theorem c_X7_emptiestBag (l : Launch) (hfl : l.stackTraces = false) (D : va_G) (G : GA) (B0 : Nat) (X : Nat → Nat → Nat) (ad : AD) (c0 c1 c2 : CS) (hS : Nat → CS) (hn : Nat) (sv : SV) (lv : LV) (bs fl : Nat → Int32) (hB : c0.2.2 1 = nI (nbg c0)) (hB3 : nbg c0 ≤ 3) : vx_Met l yX7_emptiestBag (wA yX7_emptiestBag cX7_emptiestBag 1 (some .int)) ({ frames := 6, cells := 1, slots := 6, locals := 90 } : Room) (va_Pc [.ref (ad.1 3 0)] (CQp D G B0 X ad c0 c1 c2 hS hn sv lv bs fl)) (va_Qi (fun (r : Int32) (_ : Unit) => x_emp c0 = 0 ∧ r = s_emptiest c0) (fun _ _ => True) (fun _ => False)) (vx_X (fun _ : Unit => x_emp c0 ≠ 0) (fun E _ _ => E = exN (x_emp c0)) (fun _ => False)) 1 6 (fun _ => False) := by
  refine vx_ofW (cc := cX7_emptiestBag) (maxL := 1) (ret := (some .int)) (by decide) rfl ?_
  intro p9 e s m args below meth c9 s₁ B hml hxt hv
  obtain ⟨rfl, hP, hK, hE⟩ := hv
  have hx := B.exec
  have hb := B.bytes
  have hr := B.returns
  have hts : ∀ w9 ∈ tb, w9.before ([.ref (ad.1 3 0)] : List Value).toArray s = true := fun w9 h9 => atoms_spec (ws := (wA yX7_emptiestBag cX7_emptiestBag 1 (some .int))) B.pre w9 (List.mem_cons_of_mem _ h9)
  have hown : s.vm.findClass RX7 = some m.cls := findClass_of_methodNamed B.named
  have hlocks := B.notSynchronized
  have hAB : ∀ q : Nat, (fun _ : Nat => False) q → B0 ≤ q := fun _ h => h.elim
  have hS0 : va_S (fun _ => False) s.heap s.heap [] := va_S.rf
  have hl := lv_entry ([.ref (ad.1 3 0)]) (n := 1) (Nat.le_of_ble_eq_true rfl)
  rw [lg_entry_eq]
  generalize (lg_sl ([.ref (ad.1 3 0)]) ++ List.replicate (1 - (lg_sl ([.ref (ad.1 3 0)])).length) Slot.unset).toArray = ls at hl ⊢
  have hl : lv_has ls 1 [(0, .ref (ad.1 3 0))] := hl
  refine lv_aload_n hx hb dX7_emptiestBag_0 rfl (lv_at hl 0 rfl) ?_
  refine va_get (D := D) (ci := 8) (v := .ref (ad.1 0 0)) (C := RX7) (T := TX7) (N := 12) hx hb hts i_X7 hown hK (P_blk hP (i := 0) rfl) 0 rfl rfl 0 (by decide) (hts _ kw_228) (fun _ h9 => h9) rfl dX7_emptiestBag_1 ?_
  refine va_getN (D := D) (ci := 4) (v := .int (c0.2.2 1)) (C := RX1) (T := TX1) (N := 7) hx hb hts i_X1 hown hK (P_blk hP (i := 1) rfl) 0 rfl rfl 4 (by decide) (va_Nw.use rfl (nw_123 hE.nw)) (fun _ h9 => h9) rfl dX7_emptiestBag_4 ?_
  refine lv_if_ne (tgt := 20) hx hb dX7_emptiestBag_7 (by decide) (fun c_1 => ?_) (fun c_1 => ?_)
  · skip
    refine lv_aload_n hx hb dX7_emptiestBag_20 rfl (lv_at hl 0 rfl) ?_
    refine va_get (D := D) (ci := 8) (v := .ref (ad.1 0 0)) (C := RX7) (T := TX7) (N := 12) hx hb hts i_X7 hown hK (P_blk hP (i := 0) rfl) 0 rfl rfl 0 (by decide) (hts _ kw_228) (fun _ h9 => h9) rfl dX7_emptiestBag_21 ?_
    have hPc : va_P D vwCl (cw G (ad.1 0) c0) s.heap := P_blk hP (i := 1) rfl
    refine vp_callSi (va_runV (As := []) (rest := []) ⟨hx, hb, hml, hown, hts⟩ (c_X1_findEmptiest l D G (ad.1 0) c0 hB hB3) (cwV 0 hts gw_X7_252 rfl rfl rfl (by decide +kernel) ⟨Nat.le_of_ble_eq_true rfl, Nat.le_of_ble_eq_true rfl⟩) (pv_cw hK hPc) rfl rfl hl.1 rfl (lv_room (Nat.le_of_ble_eq_true rfl)) dX7_emptiestBag_24 ⟨Nat.le_of_ble_eq_true rfl, Nat.le_of_ble_eq_true rfl⟩).run (nm_e ?_)
    refine W.widen (k := 1) (n := 6) (Nat.le_of_ble_eq_true rfl) (Nat.le_of_ble_eq_true rfl) ?_
    exact vx_ret (W.iret (v := (s_emptiest c0)) hx hb hr (fun t ht hW => ⟨⟨(s_emptiest c0), (), rfl, ⟨(by simp only [x_emp, if_neg c_1]), rfl⟩, trivial⟩, hS0.F ht⟩) hS0.2.2 dX7_emptiestBag_27)
  · skip
    exact tw_nse hx hb hfl hts hown hE hAB (hE.s.1 12 ("CourierBags", 250, "there are no bags") rfl) hS0 (hml.trans hl.1.symm).symm dX7_emptiestBag_10 dX7_emptiestBag_13 (Or.inl ⟨dX7_emptiestBag_14, rfl⟩) dX7_emptiestBag_16 dX7_emptiestBag_19 hxt (Nat.le_of_ble_eq_true rfl) (Nat.le_of_ble_eq_true rfl) (Nat.le_of_ble_eq_true rfl) (Nat.le_of_ble_eq_true rfl) hlocks (fun t hv hz hk => ⟨(), by rw [(show x_emp c0 = 2 from by simp only [x_emp, if_pos c_1])]; decide, by rw [(show x_emp c0 = 2 from by simp only [x_emp, if_pos c_1])]; rfl, S_F hS0 hz hk⟩) hS0.2.2 (Nat.le_of_ble_eq_true rfl) (Nat.le_of_ble_eq_true rfl)
set_option maxRecDepth 100000 in
set_option maxHeartbeats 4000000 in
theorem c_X7_refusalReason (l : Launch) (hfl : l.stackTraces = false) (D : va_G) (G : GA) (B0 : Nat) (X : Nat → Nat → Nat) (ad : AD) (c0 c1 c2 : CS) (hS : Nat → CS) (hn : Nat) (sv : SV) (lv : LV) (bs fl : Nat → Int32) : vx_Met l yX7_refusalReason (wA yX7_refusalReason cX7_refusalReason 1 (some .int)) ({ frames := 6, cells := 1, slots := 6, locals := 90 } : Room) (va_Pc [.ref (ad.1 3 0)] (CQp D G B0 X ad c0 c1 c2 hS hn sv lv bs fl)) (va_Qi (fun (r : Int32) (_ : Unit) => x_reason fl = 0 ∧ r = fl 1) (fun _ _ => True) (fun _ => False)) (vx_X (fun _ : Unit => x_reason fl ≠ 0) (fun E _ _ => E = exN (x_reason fl)) (fun _ => False)) 1 6 (fun _ => False) := by
  refine vx_ofW (cc := cX7_refusalReason) (maxL := 1) (ret := (some .int)) (by decide) rfl ?_
  intro p9 e s m args below meth c9 s₁ B hml hxt hv
  obtain ⟨rfl, hP, hK, hE⟩ := hv
  have hx := B.exec
  have hb := B.bytes
  have hr := B.returns
  have hts : ∀ w9 ∈ tb, w9.before ([.ref (ad.1 3 0)] : List Value).toArray s = true := fun w9 h9 => atoms_spec (ws := (wA yX7_refusalReason cX7_refusalReason 1 (some .int))) B.pre w9 (List.mem_cons_of_mem _ h9)
  have hown : s.vm.findClass RX7 = some m.cls := findClass_of_methodNamed B.named
  have hlocks := B.notSynchronized
  have hAB : ∀ q : Nat, (fun _ : Nat => False) q → B0 ≤ q := fun _ h => h.elim
  have hS0 : va_S (fun _ => False) s.heap s.heap [] := va_S.rf
  have hl := lv_entry ([.ref (ad.1 3 0)]) (n := 1) (Nat.le_of_ble_eq_true rfl)
  rw [lg_entry_eq]
  generalize (lg_sl ([.ref (ad.1 3 0)]) ++ List.replicate (1 - (lg_sl ([.ref (ad.1 3 0)])).length) Slot.unset).toArray = ls at hl ⊢
  have hl : lv_has ls 1 [(0, .ref (ad.1 3 0))] := hl
  refine lv_aload_n hx hb dX7_refusalReason_0 rfl (lv_at hl 0 rfl) ?_
  refine va_get (D := D) (ci := 8) (v := .int (fl 1)) (C := RX7) (T := TX7) (N := 12) hx hb hts i_X7 hown hK (P_blk hP (i := 0) rfl) 0 rfl rfl 8 (by decide) (hts _ kw_236) (fun _ h9 => h9) rfl dX7_refusalReason_1 ?_
  refine lv_if_ne (tgt := 18) hx hb dX7_refusalReason_4 (by decide) (fun c_1 => ?_) (fun c_1 => ?_)
  · skip
    refine lv_aload_n hx hb dX7_refusalReason_18 rfl (lv_at hl 0 rfl) ?_
    refine va_get (D := D) (ci := 8) (v := .int (fl 1)) (C := RX7) (T := TX7) (N := 12) hx hb hts i_X7 hown hK (P_blk hP (i := 0) rfl) 0 rfl rfl 8 (by decide) (hts _ kw_236) (fun _ h9 => h9) rfl dX7_refusalReason_19 ?_
    refine W.widen (k := 1) (n := 6) (Nat.le_of_ble_eq_true rfl) (Nat.le_of_ble_eq_true rfl) ?_
    exact vx_ret (W.iret (v := fl 1) hx hb hr (fun t ht hW => ⟨⟨fl 1, (), rfl, ⟨(by simp only [x_reason, if_neg c_1]), rfl⟩, trivial⟩, hS0.F ht⟩) hS0.2.2 dX7_refusalReason_22)
  · skip
    exact tw_nse hx hb hfl hts hown hE hAB (hE.s.1 28 ("CourierBags", 267, "no packing was refused so far") rfl) hS0 (hml.trans hl.1.symm).symm dX7_refusalReason_7 dX7_refusalReason_10 (Or.inr ⟨dX7_refusalReason_11, rfl⟩) dX7_refusalReason_14 dX7_refusalReason_17 hxt (Nat.le_of_ble_eq_true rfl) (Nat.le_of_ble_eq_true rfl) (Nat.le_of_ble_eq_true rfl) (Nat.le_of_ble_eq_true rfl) hlocks (fun t hv hz hk => ⟨(), by rw [(show x_reason fl = 2 from by simp only [x_reason, if_pos c_1])]; decide, by rw [(show x_reason fl = 2 from by simp only [x_reason, if_pos c_1])]; rfl, S_F hS0 hz hk⟩) hS0.2.2 (Nat.le_of_ble_eq_true rfl) (Nat.le_of_ble_eq_true rfl)
set_option maxRecDepth 100000 in
set_option maxHeartbeats 4000000 in
theorem c_X7_refusedItem (l : Launch) (hfl : l.stackTraces = false) (D : va_G) (G : GA) (B0 : Nat) (X : Nat → Nat → Nat) (ad : AD) (c0 c1 c2 : CS) (hS : Nat → CS) (hn : Nat) (sv : SV) (lv : LV) (bs fl : Nat → Int32) : vx_Met l yX7_refusedItem (wA yX7_refusedItem cX7_refusedItem 1 (some .int)) ({ frames := 6, cells := 1, slots := 6, locals := 90 } : Room) (va_Pc [.ref (ad.1 3 0)] (CQp D G B0 X ad c0 c1 c2 hS hn sv lv bs fl)) (va_Qi (fun (r : Int32) (_ : Unit) => x_reason fl = 0 ∧ r = fl 2) (fun _ _ => True) (fun _ => False)) (vx_X (fun _ : Unit => x_reason fl ≠ 0) (fun E _ _ => E = exN (x_reason fl)) (fun _ => False)) 1 6 (fun _ => False) := by
  refine vx_ofW (cc := cX7_refusedItem) (maxL := 1) (ret := (some .int)) (by decide) rfl ?_
  intro p9 e s m args below meth c9 s₁ B hml hxt hv
  obtain ⟨rfl, hP, hK, hE⟩ := hv
  have hx := B.exec
  have hb := B.bytes
  have hr := B.returns
  have hts : ∀ w9 ∈ tb, w9.before ([.ref (ad.1 3 0)] : List Value).toArray s = true := fun w9 h9 => atoms_spec (ws := (wA yX7_refusedItem cX7_refusedItem 1 (some .int))) B.pre w9 (List.mem_cons_of_mem _ h9)
  have hown : s.vm.findClass RX7 = some m.cls := findClass_of_methodNamed B.named
  have hlocks := B.notSynchronized
  have hAB : ∀ q : Nat, (fun _ : Nat => False) q → B0 ≤ q := fun _ h => h.elim
  have hS0 : va_S (fun _ => False) s.heap s.heap [] := va_S.rf
  have hl := lv_entry ([.ref (ad.1 3 0)]) (n := 1) (Nat.le_of_ble_eq_true rfl)
  rw [lg_entry_eq]
  generalize (lg_sl ([.ref (ad.1 3 0)]) ++ List.replicate (1 - (lg_sl ([.ref (ad.1 3 0)])).length) Slot.unset).toArray = ls at hl ⊢
  have hl : lv_has ls 1 [(0, .ref (ad.1 3 0))] := hl
  refine lv_aload_n hx hb dX7_refusedItem_0 rfl (lv_at hl 0 rfl) ?_
  refine va_get (D := D) (ci := 8) (v := .int (fl 1)) (C := RX7) (T := TX7) (N := 12) hx hb hts i_X7 hown hK (P_blk hP (i := 0) rfl) 0 rfl rfl 8 (by decide) (hts _ kw_236) (fun _ h9 => h9) rfl dX7_refusedItem_1 ?_
  refine lv_if_ne (tgt := 18) hx hb dX7_refusedItem_4 (by decide) (fun c_1 => ?_) (fun c_1 => ?_)
  · skip
    refine lv_aload_n hx hb dX7_refusedItem_18 rfl (lv_at hl 0 rfl) ?_
    refine va_get (D := D) (ci := 8) (v := .int (fl 2)) (C := RX7) (T := TX7) (N := 12) hx hb hts i_X7 hown hK (P_blk hP (i := 0) rfl) 0 rfl rfl 9 (by decide) (hts _ kw_237) (fun _ h9 => h9) rfl dX7_refusedItem_19 ?_
    refine W.widen (k := 1) (n := 6) (Nat.le_of_ble_eq_true rfl) (Nat.le_of_ble_eq_true rfl) ?_
    exact vx_ret (W.iret (v := fl 2) hx hb hr (fun t ht hW => ⟨⟨fl 2, (), rfl, ⟨(by simp only [x_reason, if_neg c_1]), rfl⟩, trivial⟩, hS0.F ht⟩) hS0.2.2 dX7_refusedItem_22)
  · skip
    exact tw_nse hx hb hfl hts hown hE hAB (hE.s.1 28 ("CourierBags", 267, "no packing was refused so far") rfl) hS0 (hml.trans hl.1.symm).symm dX7_refusedItem_7 dX7_refusedItem_10 (Or.inr ⟨dX7_refusedItem_11, rfl⟩) dX7_refusedItem_14 dX7_refusedItem_17 hxt (Nat.le_of_ble_eq_true rfl) (Nat.le_of_ble_eq_true rfl) (Nat.le_of_ble_eq_true rfl) (Nat.le_of_ble_eq_true rfl) hlocks (fun t hv hz hk => ⟨(), by rw [(show x_reason fl = 2 from by simp only [x_reason, if_pos c_1])]; decide, by rw [(show x_reason fl = 2 from by simp only [x_reason, if_pos c_1])]; rfl, S_F hS0 hz hk⟩) hS0.2.2 (Nat.le_of_ble_eq_true rfl) (Nat.le_of_ble_eq_true rfl)
set_option maxRecDepth 100000 in
set_option maxHeartbeats 4000000 in
theorem c_X7_errorPosition (l : Launch) (hfl : l.stackTraces = false) (D : va_G) (G : GA) (B0 : Nat) (X : Nat → Nat → Nat) (ad : AD) (c0 c1 c2 : CS) (hS : Nat → CS) (hn : Nat) (sv : SV) (lv : LV) (bs fl : Nat → Int32) : vx_Met l yX7_errorPosition (wA yX7_errorPosition cX7_errorPosition 1 (some .int)) ({ frames := 6, cells := 1, slots := 6, locals := 90 } : Room) (va_Pc [.ref (ad.1 3 0)] (CQp D G B0 X ad c0 c1 c2 hS hn sv lv bs fl)) (va_Qi (fun (r : Int32) (_ : Unit) => x_errp fl = 0 ∧ r = fl 3) (fun _ _ => True) (fun _ => False)) (vx_X (fun _ : Unit => x_errp fl ≠ 0) (fun E _ _ => E = exN (x_errp fl)) (fun _ => False)) 1 6 (fun _ => False) := by
  refine vx_ofW (cc := cX7_errorPosition) (maxL := 1) (ret := (some .int)) (by decide) rfl ?_
  intro p9 e s m args below meth c9 s₁ B hml hxt hv
  obtain ⟨rfl, hP, hK, hE⟩ := hv
  have hx := B.exec
  have hb := B.bytes
  have hr := B.returns
  have hts : ∀ w9 ∈ tb, w9.before ([.ref (ad.1 3 0)] : List Value).toArray s = true := fun w9 h9 => atoms_spec (ws := (wA yX7_errorPosition cX7_errorPosition 1 (some .int))) B.pre w9 (List.mem_cons_of_mem _ h9)
  have hown : s.vm.findClass RX7 = some m.cls := findClass_of_methodNamed B.named
  have hlocks := B.notSynchronized
  have hAB : ∀ q : Nat, (fun _ : Nat => False) q → B0 ≤ q := fun _ h => h.elim
  have hS0 : va_S (fun _ => False) s.heap s.heap [] := va_S.rf
  have hl := lv_entry ([.ref (ad.1 3 0)]) (n := 1) (Nat.le_of_ble_eq_true rfl)
  rw [lg_entry_eq]
  generalize (lg_sl ([.ref (ad.1 3 0)]) ++ List.replicate (1 - (lg_sl ([.ref (ad.1 3 0)])).length) Slot.unset).toArray = ls at hl ⊢
  have hl : lv_has ls 1 [(0, .ref (ad.1 3 0))] := hl
  refine lv_aload_n hx hb dX7_errorPosition_0 rfl (lv_at hl 0 rfl) ?_
  refine va_get (D := D) (ci := 8) (v := .int (fl 3)) (C := RX7) (T := TX7) (N := 12) hx hb hts i_X7 hown hK (P_blk hP (i := 0) rfl) 0 rfl rfl 10 (by decide) (hts _ kw_238) (fun _ h9 => h9) rfl dX7_errorPosition_1 ?_
  refine lv_iconst (v := -1) hx hb dX7_errorPosition_4 (by decide) ?_
  refine lv_icmp_ne (tgt := 19) hx hb dX7_errorPosition_5 (by decide) (fun c_1 => ?_) (fun c_1 => ?_)
  · skip
    refine lv_aload_n hx hb dX7_errorPosition_19 rfl (lv_at hl 0 rfl) ?_
    refine va_get (D := D) (ci := 8) (v := .int (fl 3)) (C := RX7) (T := TX7) (N := 12) hx hb hts i_X7 hown hK (P_blk hP (i := 0) rfl) 0 rfl rfl 10 (by decide) (hts _ kw_238) (fun _ h9 => h9) rfl dX7_errorPosition_20 ?_
    refine W.widen (k := 1) (n := 6) (Nat.le_of_ble_eq_true rfl) (Nat.le_of_ble_eq_true rfl) ?_
    exact vx_ret (W.iret (v := fl 3) hx hb hr (fun t ht hW => ⟨⟨fl 3, (), rfl, ⟨(by simp only [x_errp, if_neg c_1]), rfl⟩, trivial⟩, hS0.F ht⟩) hS0.2.2 dX7_errorPosition_23)
  · skip
    exact tw_nse hx hb hfl hts hown hE hAB (hE.s.1 9 ("CourierBags", 321, "no program was malformed so far") rfl) hS0 (hml.trans hl.1.symm).symm dX7_errorPosition_8 dX7_errorPosition_11 (Or.inr ⟨dX7_errorPosition_12, rfl⟩) dX7_errorPosition_15 dX7_errorPosition_18 hxt (Nat.le_of_ble_eq_true rfl) (Nat.le_of_ble_eq_true rfl) (Nat.le_of_ble_eq_true rfl) (Nat.le_of_ble_eq_true rfl) hlocks (fun t hv hz hk => ⟨(), by rw [(show x_errp fl = 2 from by simp only [x_errp, if_pos c_1])]; decide, by rw [(show x_errp fl = 2 from by simp only [x_errp, if_pos c_1])]; rfl, S_F hS0 hz hk⟩) hS0.2.2 (Nat.le_of_ble_eq_true rfl) (Nat.le_of_ble_eq_true rfl)
set_option maxRecDepth 100000 in
set_option maxHeartbeats 4000000 in
theorem c_X7_failedCommand (l : Launch) (hfl : l.stackTraces = false) (D : va_G) (G : GA) (B0 : Nat) (X : Nat → Nat → Nat) (ad : AD) (c0 c1 c2 : CS) (hS : Nat → CS) (hn : Nat) (sv : SV) (lv : LV) (bs fl : Nat → Int32) : vx_Met l yX7_failedCommand (wA yX7_failedCommand cX7_failedCommand 1 (some .int)) ({ frames := 6, cells := 1, slots := 6, locals := 90 } : Room) (va_Pc [.ref (ad.1 3 0)] (CQp D G B0 X ad c0 c1 c2 hS hn sv lv bs fl)) (va_Qi (fun (r : Int32) (_ : Unit) => x_fail fl = 0 ∧ r = fl 4) (fun _ _ => True) (fun _ => False)) (vx_X (fun _ : Unit => x_fail fl ≠ 0) (fun E _ _ => E = exN (x_fail fl)) (fun _ => False)) 1 6 (fun _ => False) := by
  refine vx_ofW (cc := cX7_failedCommand) (maxL := 1) (ret := (some .int)) (by decide) rfl ?_
  intro p9 e s m args below meth c9 s₁ B hml hxt hv
  obtain ⟨rfl, hP, hK, hE⟩ := hv
  have hx := B.exec
  have hb := B.bytes
  have hr := B.returns
  have hts : ∀ w9 ∈ tb, w9.before ([.ref (ad.1 3 0)] : List Value).toArray s = true := fun w9 h9 => atoms_spec (ws := (wA yX7_failedCommand cX7_failedCommand 1 (some .int))) B.pre w9 (List.mem_cons_of_mem _ h9)
  have hown : s.vm.findClass RX7 = some m.cls := findClass_of_methodNamed B.named
  have hlocks := B.notSynchronized
  have hAB : ∀ q : Nat, (fun _ : Nat => False) q → B0 ≤ q := fun _ h => h.elim
  have hS0 : va_S (fun _ => False) s.heap s.heap [] := va_S.rf
  have hl := lv_entry ([.ref (ad.1 3 0)]) (n := 1) (Nat.le_of_ble_eq_true rfl)
  rw [lg_entry_eq]
  generalize (lg_sl ([.ref (ad.1 3 0)]) ++ List.replicate (1 - (lg_sl ([.ref (ad.1 3 0)])).length) Slot.unset).toArray = ls at hl ⊢
  have hl : lv_has ls 1 [(0, .ref (ad.1 3 0))] := hl
  refine lv_aload_n hx hb dX7_failedCommand_0 rfl (lv_at hl 0 rfl) ?_
  refine va_get (D := D) (ci := 8) (v := .int (fl 4)) (C := RX7) (T := TX7) (N := 12) hx hb hts i_X7 hown hK (P_blk hP (i := 0) rfl) 0 rfl rfl 11 (by decide) (hts _ kw_239) (fun _ h9 => h9) rfl dX7_failedCommand_1 ?_
  refine lv_iconst (v := -1) hx hb dX7_failedCommand_4 (by decide) ?_
  refine lv_icmp_ne (tgt := 19) hx hb dX7_failedCommand_5 (by decide) (fun c_1 => ?_) (fun c_1 => ?_)
  · skip
    refine lv_aload_n hx hb dX7_failedCommand_19 rfl (lv_at hl 0 rfl) ?_
    refine va_get (D := D) (ci := 8) (v := .int (fl 4)) (C := RX7) (T := TX7) (N := 12) hx hb hts i_X7 hown hK (P_blk hP (i := 0) rfl) 0 rfl rfl 11 (by decide) (hts _ kw_239) (fun _ h9 => h9) rfl dX7_failedCommand_20 ?_
    refine W.widen (k := 1) (n := 6) (Nat.le_of_ble_eq_true rfl) (Nat.le_of_ble_eq_true rfl) ?_
    exact vx_ret (W.iret (v := fl 4) hx hb hr (fun t ht hW => ⟨⟨fl 4, (), rfl, ⟨(by simp only [x_fail, if_neg c_1]), rfl⟩, trivial⟩, hS0.F ht⟩) hS0.2.2 dX7_failedCommand_23)
  · skip
    exact tw_nse hx hb hfl hts hown hE hAB (hE.s.1 31 ("CourierBags", 323, "no command failed so far") rfl) hS0 (hml.trans hl.1.symm).symm dX7_failedCommand_8 dX7_failedCommand_11 (Or.inr ⟨dX7_failedCommand_12, rfl⟩) dX7_failedCommand_15 dX7_failedCommand_18 hxt (Nat.le_of_ble_eq_true rfl) (Nat.le_of_ble_eq_true rfl) (Nat.le_of_ble_eq_true rfl) (Nat.le_of_ble_eq_true rfl) hlocks (fun t hv hz hk => ⟨(), by rw [(show x_fail fl = 2 from by simp only [x_fail, if_pos c_1])]; decide, by rw [(show x_fail fl = 2 from by simp only [x_fail, if_pos c_1])]; rfl, S_F hS0 hz hk⟩) hS0.2.2 (Nat.le_of_ble_eq_true rfl) (Nat.le_of_ble_eq_true rfl)
