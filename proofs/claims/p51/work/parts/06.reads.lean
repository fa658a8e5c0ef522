/-! WHAT THE READS OF A CARGO ANSWER: st the state, g and k places of items, b a bag, w a layer -/
theorem fi_hit {p : Nat → Bool} {d n k : Nat} (h : p k = true) : fi p d (n + 1) k = k := by simp only [fi, if_pos h]
theorem fi_miss {p : Nat → Bool} {d n k : Nat} (h : p k = false) : fi p d (n + 1) k = fi p d n (k + 1) := by simp only [fi, if_neg (bf h)]
theorem exs_hit {p : Nat → Bool} {n k : Nat} (h : p k = true) : exs p (n + 1) k = true := by simp only [exs, if_pos h]
theorem exs_miss {p : Nat → Bool} {n k : Nat} (h : p k = false) : exs p (n + 1) k = exs p n (k + 1) := by simp only [exs, if_neg (bf h)]
theorem lim_in {b : Int32} (h0 : ¬ b < 0) (h1 : ¬ nI 3 ≤ b) : vp_in b 3 := by
  rcases pk_ix b (n := 3) (by decide) with h | h | ⟨j, hj, rfl⟩
  · exact absurd h h0
  · exact absurd h h1
  · exact vp_in_nI hj (by decide)
def p_there (f : Nat → Int32) : Bool := if f 5 = (-2) then false else true
def p_depot (f : Nat → Int32) : Bool := if f 5 = (-1) then true else false
def p_inbag (f : Nat → Int32) : Bool := if f 5 < 0 then false else true
def p_before (f f' : Nat → Int32) : Bool := if f 3 = f' 3 then (if f 2 = f' 2 then (if f' 0 ≤ f 0 then false else true) else (if f 2 ≤ f' 2 then false else true)) else (if f 3 ≤ f' 3 then false else true)
def nbg (st : CS) : Nat := (st.2.2 1).toNatClampNeg
def q_find (st : CS) (id : Int32) (k : Nat) : Bool := if p_there (itm st k) = true then (if itm st k 0 = id then true else false) else false
def s_find (st : CS) (id : Int32) : Nat := fi (q_find st id) 12 12 0
theorem s_find_lt (st : CS) (id : Int32) : s_find st id < 13 := Nat.lt_succ_of_le (fi_le 12 0 (by decide))
def q_rankOf (st : CS) (g k : Nat) (acc : Int32) : Int32 := if p_there (itm st k) = true then (if p_before (itm st k) (itm st g) = true then acc + 1 else acc) else acc
def s_rankOf (st : CS) (g : Nat) : Int32 := lp (q_rankOf st g) 12 0
def q_findRank (st : CS) (r : Int32) (k : Nat) : Bool := if p_there (itm st k) = true then (if s_rankOf st k = r then true else false) else false
def s_findRank (st : CS) (r : Int32) : Nat := fi (q_findRank st r) 12 12 0
theorem s_findRank_lt (st : CS) (r : Int32) : s_findRank st r < 13 := Nat.lt_succ_of_le (fi_le 12 0 (by decide))
def q_findPlace (st : CS) (b w i : Int32) (k : Nat) : Bool := if itm st k 5 = b then (if itm st k 6 = w then (if itm st k 7 = i then true else false) else false) else false
def s_findPlace (st : CS) (b w i : Int32) : Nat := fi (q_findPlace st b w i) 12 12 0
theorem s_findPlace_lt (st : CS) (b w i : Int32) : s_findPlace st b w i < 13 := Nat.lt_succ_of_le (fi_le 12 0 (by decide))
def q_findFree (st : CS) (k : Nat) : Bool := if p_there (itm st k) = true then false else true
def s_findFree (st : CS) : Nat := fi (q_findFree st) 12 12 0
theorem s_findFree_lt (st : CS) : s_findFree st < 13 := Nat.lt_succ_of_le (fi_le 12 0 (by decide))
def q_countItems (st : CS) (k : Nat) (acc : Int32) : Int32 := if p_there (itm st k) = true then acc + 1 else acc
def s_countItems (st : CS) : Int32 := lp (q_countItems st) 12 0
def q_countDepot (st : CS) (k : Nat) (acc : Int32) : Int32 := if p_depot (itm st k) = true then acc + 1 else acc
def s_countDepot (st : CS) : Int32 := lp (q_countDepot st) 12 0
def s_hasPacked (st : CS) : Bool := if s_countItems st ≤ s_countDepot st then false else true
def q_lowest (st : CS) (k : Nat) (acc : Int32) : Int32 := if p_inbag (itm st k) = true then (if itm st k 3 < acc then itm st k 3 else acc) else acc
def s_lowest (st : CS) : Int32 := lp (q_lowest st) 12 30
def q_packedWeight (st : CS) (k : Nat) (acc : Int32) : Int32 := if p_inbag (itm st k) = true then acc + itm st k 2 else acc
def s_packedWeight (st : CS) : Int32 := lp (q_packedWeight st) 12 0
def s_hasBag (st : CS) (b : Int32) : Bool := if b < 0 then false else if st.2.2 1 ≤ b then false else true
def s_limit (st : CS) (b : Int32) : Int32 := if b < 0 then 0 else if nI 3 ≤ b then 0 else st.2.1 b.toNatClampNeg
def q_sumLimits (st : CS) (k : Nat) (acc : Int32) : Int32 := acc + s_limit st (nI k)
def s_sumLimits (st : CS) : Int32 := lp (q_sumLimits st) (nbg st) 0
def q_weightByItems (st : CS) (b : Int32) (k : Nat) (acc : Int32) : Int32 := if itm st k 5 = b then acc + itm st k 2 else acc
def s_weightByItems (st : CS) (b : Int32) : Int32 := lp (q_weightByItems st b) 12 0
def q_countLayers (st : CS) (b : Int32) (k : Nat) (acc : Int32) : Int32 := if itm st k 5 = b then (if acc < itm st k 6 + 1 then itm st k 6 + 1 else acc) else acc
def s_countLayers (st : CS) (b : Int32) : Int32 := lp (q_countLayers st b) 12 0
def q_countInLayer (st : CS) (b w : Int32) (k : Nat) (acc : Int32) : Int32 := if itm st k 5 = b then (if itm st k 6 = w then acc + 1 else acc) else acc
def s_countInLayer (st : CS) (b w : Int32) : Int32 := lp (q_countInLayer st b w) 12 0
def q_sizeOfLayer (st : CS) (b w : Int32) (k : Nat) (acc : Int32) : Int32 := if itm st k 5 = b then (if itm st k 6 = w then acc + itm st k 1 else acc) else acc
def s_sizeOfLayer (st : CS) (b w : Int32) : Int32 := lp (q_sizeOfLayer st b w) 12 0
def q_weightOfLayer (st : CS) (b w : Int32) (k : Nat) (acc : Int32) : Int32 := if itm st k 5 = b then (if itm st k 6 = w then acc + itm st k 2 else acc) else acc
def s_weightOfLayer (st : CS) (b w : Int32) : Int32 := lp (q_weightOfLayer st b w) 12 0
def q_loadOn (st : CS) (b w : Int32) (k : Nat) (acc : Int32) : Int32 := if itm st k 5 = b then (if itm st k 6 ≤ w then acc else acc + itm st k 2) else acc
def s_loadOn (st : CS) (b w : Int32) : Int32 := lp (q_loadOn st b w) 12 0
def s_weightByLayers (st : CS) (b : Int32) : Int32 := s_loadOn st b 0 + s_weightOfLayer st b 0
def s_roomIn (st : CS) (b : Int32) : Int32 := s_limit st b - s_weightByItems st b
def q_emptiest (st : CS) (k : Nat) (acc : Int32) : Int32 := if s_roomIn st (nI (k + 1)) ≤ s_roomIn st acc then acc else nI (k + 1)
def s_emptiest (st : CS) : Int32 := lp (q_emptiest st) (nbg st - 1) 0
def s_target (st : CS) (g : Nat) (b : Int32) : Int32 := if s_countLayers st b ≤ 0 then s_countLayers st b else if 10 < s_sizeOfLayer st b (s_countLayers st b - 1) + itm st g 1 then s_countLayers st b else s_countLayers st b - 1
def q_earlier (st : CS) (g : Nat) (b w : Int32) (k : Nat) : Bool := if itm st k 5 = b then (if w ≤ itm st k 6 then false else if itm st g 3 ≤ itm st k 3 then false else true) else false
def s_earlier (st : CS) (g : Nat) (b w : Int32) : Bool := exs (q_earlier st g b w) 12 0
def q_crushes (st : CS) (g : Nat) (b w : Int32) (k : Nat) : Bool := if itm st k 5 = b then (if w ≤ itm st k 6 then false else if z01 (itm st k 4) = 0 then false else if s_loadOn st b (itm st k 6) + itm st g 2 ≤ 8 then false else true) else false
def s_crushes (st : CS) (g : Nat) (b w : Int32) : Bool := exs (q_crushes st g b w) 12 0
def s_refusal (st : CS) (g : Nat) (b : Int32) : Int32 := if itm st g 2 ≤ s_roomIn st b then (if s_target st g b < 5 then (if s_earlier st g b (s_target st g b) = true then 3 else if s_crushes st g b (s_target st g b) = true then 4 else 0) else 2) else 1
theorem i_X1 : ∀ w ∈ u_ws RX1 TX1 7, w ∈ tb := by decide +kernel
theorem i_X4 : ∀ w ∈ u_ws RX4 TX4 8, w ∈ tb := by decide +kernel
theorem gw_X1_86 : GoodIn tb (wsV RX1 86 RX4 yX4_isThere (wA yX4_isThere cX4_isThere 1 (some .boolean))) := gV kw_281 kw_282 kw_283 kw_26 kw_284
theorem gw_X1_127 : GoodIn tb (wsV RX1 127 RX4 yX4_isInDepot (wA yX4_isInDepot cX4_isInDepot 1 (some .boolean))) := gV kw_293 kw_294 kw_295 kw_26 kw_296
theorem gw_X1_170 : GoodIn tb (wsV RX1 170 RX1 yX1_countDepot (wA yX1_countDepot cX1_countDepot 6 (some .int))) := gV kw_684 kw_290 kw_291 kw_25 kw_292
theorem gw_X1_55 : GoodIn tb (wsV RX1 55 RX1 yX1_countItems (wA yX1_countItems cX1_countItems 6 (some .int))) := gV kw_515 kw_278 kw_279 kw_25 kw_280
theorem gw_X1_93 : GoodIn tb (wsV RX1 93 RX4 yX4_isInBag (wA yX4_isInBag cX4_isInBag 1 (some .boolean))) := gV kw_538 kw_539 kw_540 kw_26 kw_541
theorem gw_X1_166 : GoodIn tb (wsV RX1 166 RX4 yX4_ranksBefore (wA yX4_ranksBefore cX4_ranksBefore 2 (some .boolean))) := gV kw_625 kw_626 kw_627 kw_26 kw_628
theorem gw_X1_162 : GoodIn tb (wsV RX1 162 RX1 yX1_rankOf (wA yX1_rankOf cX1_rankOf 7 (some .int))) := gV kw_621 kw_623 kw_4 kw_25 kw_624
theorem gw_X1_178 : GoodIn tb (wsV RX1 178 RX1 yX1_limit (wA yX1_limit cX1_limit 2 (some .int))) := gV kw_645 kw_646 kw_647 kw_25 kw_648
theorem gw_X1_159 : GoodIn tb (wsV RX1 159 RX1 yX1_loadOn (wA yX1_loadOn cX1_loadOn 8 (some .int))) := gV kw_661 kw_662 kw_663 kw_25 kw_664
theorem gw_X1_181 : GoodIn tb (wsV RX1 181 RX1 yX1_weightOfLayer (wA yX1_weightOfLayer cX1_weightOfLayer 8 (some .int))) := gV kw_1396 kw_1398 kw_21 kw_25 kw_1399
theorem gw_X1_184 : GoodIn tb (wsV RX1 184 RX1 yX1_weightByItems (wA yX1_weightByItems cX1_weightByItems 7 (some .int))) := gV kw_649 kw_650 kw_651 kw_25 kw_652
theorem gw_X1_146 : GoodIn tb (wsV RX1 146 RX1 yX1_roomIn (wA yX1_roomIn cX1_roomIn 2 (some .int))) := gV kw_641 kw_642 kw_643 kw_25 kw_644
theorem gw_X1_117 : GoodIn tb (wsV RX1 117 RX1 yX1_countLayers (wA yX1_countLayers cX1_countLayers 7 (some .int))) := gV kw_557 kw_558 kw_559 kw_25 kw_560
theorem gw_X1_156 : GoodIn tb (wsV RX1 156 RX1 yX1_sizeOfLayer (wA yX1_sizeOfLayer cX1_sizeOfLayer 8 (some .int))) := gV kw_637 kw_638 kw_639 kw_25 kw_640
theorem gw_X1_136 : GoodIn tb (wsV RX1 136 RX1 yX1_targetLayer (wA yX1_targetLayer cX1_targetLayer 5 (some .int))) := gV kw_633 kw_635 kw_5 kw_25 kw_636
theorem gw_X1_149 : GoodIn tb (wsV RX1 149 RX1 yX1_hasEarlierStopBelow (wA yX1_hasEarlierStopBelow cX1_hasEarlierStopBelow 8 (some .boolean))) := gV kw_653 kw_655 kw_6 kw_25 kw_656
theorem gw_X1_153 : GoodIn tb (wsV RX1 153 RX1 yX1_crushesBelow (wA yX1_crushesBelow cX1_crushesBelow 8 (some .boolean))) := gV kw_657 kw_659 kw_7 kw_25 kw_660
set_option maxRecDepth 100000 in
set_option maxHeartbeats 4000000 in
theorem c_X4_isThere (l : Launch) (D : va_G) (G : GA) (h : Nat) (f : Nat → Int32) : Met l yX4_isThere (wA yX4_isThere cX4_isThere 1 (some .boolean)) ({ frames := 0, cells := 0, slots := 0, locals := 0 } : Room) (va_Pc [.ref h] (ITp D G h f)) (vp_Si (fun r => r = bi (p_there f))) 0 0 (fun _ => False) := by
  refine Met.ofW (cc := cX4_isThere) (maxL := 1) (ret := (some .boolean)) (by decide) rfl ?_
  intro p e s m args below meth c s₁ B hml hv
  obtain ⟨rfl, hP, hK⟩ := hv
  have hx := B.exec
  have hb := B.bytes
  have hr := B.returns
  have hts : ∀ w9 ∈ tb, w9.before ([.ref h] : List Value).toArray s = true := fun w9 h9 => atoms_spec (ws := (wA yX4_isThere cX4_isThere 1 (some .boolean))) B.pre w9 (List.mem_cons_of_mem _ h9)
  have hown : s.vm.findClass RX4 = some m.cls := findClass_of_methodNamed B.named
  have hlocks := B.notSynchronized
  have hl := lv_entry ([.ref h]) (n := 1) (Nat.le_of_ble_eq_true rfl)
  rw [lg_entry_eq]
  generalize (lg_sl ([.ref h]) ++ List.replicate (1 - (lg_sl ([.ref h])).length) Slot.unset).toArray = ls at hl ⊢
  have hl : lv_has ls 1 [(0, .ref h)] := hl
  refine lv_aload_n hx hb dX4_isThere_0 rfl (lv_at hl 0 rfl) ?_
  refine va_get (D := D) (ci := 6) (v := .int (f 5)) (C := RX4) (T := TX4) (N := 8) hx hb hts i_X4 hown hK hP 0 rfl rfl 5 (by decide) (hts _ kw_93) (fun _ h9 => h9) rfl dX4_isThere_1 ?_
  refine lv_bipush (v := -2) hx hb dX4_isThere_4 (by decide) ?_
  refine lv_icmp_eq (tgt := 13) hx hb dX4_isThere_6 (by decide) (fun c_1 => ?_) (fun c_1 => ?_)
  · skip
    refine lv_iconst (v := 0) hx hb dX4_isThere_13 (by decide) ?_
    exact W.zret (ty := .boolean) (v := 0) hx hb hr (by decide) (fun t ht hW => ⟨0, rfl, (by simp only [p_there, if_pos c_1] <;> rfl), ht⟩) (fun q h => absurd h List.not_mem_nil) dX4_isThere_14
  · skip
    refine lv_iconst (v := 1) hx hb dX4_isThere_9 (by decide) ?_
    refine lv_goto (tgt := 14) hx hb dX4_isThere_10 (by decide) ?_
    exact W.zret (ty := .boolean) (v := 1) hx hb hr (by decide) (fun t ht hW => ⟨1, rfl, (by simp only [p_there, if_neg c_1] <;> rfl), ht⟩) (fun q h => absurd h List.not_mem_nil) dX4_isThere_14
set_option maxRecDepth 100000 in
set_option maxHeartbeats 4000000 in
theorem c_X4_isInDepot (l : Launch) (D : va_G) (G : GA) (h : Nat) (f : Nat → Int32) : Met l yX4_isInDepot (wA yX4_isInDepot cX4_isInDepot 1 (some .boolean)) ({ frames := 0, cells := 0, slots := 0, locals := 0 } : Room) (va_Pc [.ref h] (ITp D G h f)) (vp_Si (fun r => r = bi (p_depot f))) 0 0 (fun _ => False) := by
  refine Met.ofW (cc := cX4_isInDepot) (maxL := 1) (ret := (some .boolean)) (by decide) rfl ?_
  intro p e s m args below meth c s₁ B hml hv
  obtain ⟨rfl, hP, hK⟩ := hv
  have hx := B.exec
  have hb := B.bytes
  have hr := B.returns
  have hts : ∀ w9 ∈ tb, w9.before ([.ref h] : List Value).toArray s = true := fun w9 h9 => atoms_spec (ws := (wA yX4_isInDepot cX4_isInDepot 1 (some .boolean))) B.pre w9 (List.mem_cons_of_mem _ h9)
  have hown : s.vm.findClass RX4 = some m.cls := findClass_of_methodNamed B.named
  have hlocks := B.notSynchronized
  have hl := lv_entry ([.ref h]) (n := 1) (Nat.le_of_ble_eq_true rfl)
  rw [lg_entry_eq]
  generalize (lg_sl ([.ref h]) ++ List.replicate (1 - (lg_sl ([.ref h])).length) Slot.unset).toArray = ls at hl ⊢
  have hl : lv_has ls 1 [(0, .ref h)] := hl
  refine lv_aload_n hx hb dX4_isInDepot_0 rfl (lv_at hl 0 rfl) ?_
  refine va_get (D := D) (ci := 6) (v := .int (f 5)) (C := RX4) (T := TX4) (N := 8) hx hb hts i_X4 hown hK hP 0 rfl rfl 5 (by decide) (hts _ kw_93) (fun _ h9 => h9) rfl dX4_isInDepot_1 ?_
  refine lv_iconst (v := -1) hx hb dX4_isInDepot_4 (by decide) ?_
  refine lv_icmp_ne (tgt := 12) hx hb dX4_isInDepot_5 (by decide) (fun c_1 => ?_) (fun c_1 => ?_)
  · skip
    refine lv_iconst (v := 0) hx hb dX4_isInDepot_12 (by decide) ?_
    exact W.zret (ty := .boolean) (v := 0) hx hb hr (by decide) (fun t ht hW => ⟨0, rfl, (by simp only [p_depot, if_neg c_1] <;> rfl), ht⟩) (fun q h => absurd h List.not_mem_nil) dX4_isInDepot_13
  · skip
    refine lv_iconst (v := 1) hx hb dX4_isInDepot_8 (by decide) ?_
    refine lv_goto (tgt := 13) hx hb dX4_isInDepot_9 (by decide) ?_
    exact W.zret (ty := .boolean) (v := 1) hx hb hr (by decide) (fun t ht hW => ⟨1, rfl, (by simp only [p_depot, if_pos c_1] <;> rfl), ht⟩) (fun q h => absurd h List.not_mem_nil) dX4_isInDepot_13
set_option maxRecDepth 100000 in
set_option maxHeartbeats 4000000 in
theorem c_X4_isInBag (l : Launch) (D : va_G) (G : GA) (h : Nat) (f : Nat → Int32) : Met l yX4_isInBag (wA yX4_isInBag cX4_isInBag 1 (some .boolean)) ({ frames := 0, cells := 0, slots := 0, locals := 0 } : Room) (va_Pc [.ref h] (ITp D G h f)) (vp_Si (fun r => r = bi (p_inbag f))) 0 0 (fun _ => False) := by
  refine Met.ofW (cc := cX4_isInBag) (maxL := 1) (ret := (some .boolean)) (by decide) rfl ?_
  intro p e s m args below meth c s₁ B hml hv
  obtain ⟨rfl, hP, hK⟩ := hv
  have hx := B.exec
  have hb := B.bytes
  have hr := B.returns
  have hts : ∀ w9 ∈ tb, w9.before ([.ref h] : List Value).toArray s = true := fun w9 h9 => atoms_spec (ws := (wA yX4_isInBag cX4_isInBag 1 (some .boolean))) B.pre w9 (List.mem_cons_of_mem _ h9)
  have hown : s.vm.findClass RX4 = some m.cls := findClass_of_methodNamed B.named
  have hlocks := B.notSynchronized
  have hl := lv_entry ([.ref h]) (n := 1) (Nat.le_of_ble_eq_true rfl)
  rw [lg_entry_eq]
  generalize (lg_sl ([.ref h]) ++ List.replicate (1 - (lg_sl ([.ref h])).length) Slot.unset).toArray = ls at hl ⊢
  have hl : lv_has ls 1 [(0, .ref h)] := hl
  refine lv_aload_n hx hb dX4_isInBag_0 rfl (lv_at hl 0 rfl) ?_
  refine va_get (D := D) (ci := 6) (v := .int (f 5)) (C := RX4) (T := TX4) (N := 8) hx hb hts i_X4 hown hK hP 0 rfl rfl 5 (by decide) (hts _ kw_93) (fun _ h9 => h9) rfl dX4_isInBag_1 ?_
  refine lv_if_lt (tgt := 11) hx hb dX4_isInBag_4 (by decide) (fun c_1 => ?_) (fun c_1 => ?_)
  · skip
    refine lv_iconst (v := 0) hx hb dX4_isInBag_11 (by decide) ?_
    exact W.zret (ty := .boolean) (v := 0) hx hb hr (by decide) (fun t ht hW => ⟨0, rfl, (by simp only [p_inbag, if_pos c_1] <;> rfl), ht⟩) (fun q h => absurd h List.not_mem_nil) dX4_isInBag_12
  · skip
    refine lv_iconst (v := 1) hx hb dX4_isInBag_7 (by decide) ?_
    refine lv_goto (tgt := 12) hx hb dX4_isInBag_8 (by decide) ?_
    exact W.zret (ty := .boolean) (v := 1) hx hb hr (by decide) (fun t ht hW => ⟨1, rfl, (by simp only [p_inbag, if_neg c_1] <;> rfl), ht⟩) (fun q h => absurd h List.not_mem_nil) dX4_isInBag_12
set_option maxRecDepth 100000 in
set_option maxHeartbeats 4000000 in
theorem c_X4_ranksBefore (l : Launch) (D : va_G) (G : GA) (h : Nat) (f : Nat → Int32) (h' : Nat) (f' : Nat → Int32) : Met l yX4_ranksBefore (wA yX4_ranksBefore cX4_ranksBefore 2 (some .boolean)) ({ frames := 0, cells := 0, slots := 0, locals := 0 } : Room) (va_Pc [.ref h, .ref h'] (IT2p D G h h' f f')) (vp_Si (fun r => r = bi (p_before f f'))) 0 0 (fun _ => False) := by
  refine Met.ofW (cc := cX4_ranksBefore) (maxL := 2) (ret := (some .boolean)) (by decide) rfl ?_
  intro p e s m args below meth c s₁ B hml hv
  obtain ⟨rfl, hP, hK⟩ := hv
  have hx := B.exec
  have hb := B.bytes
  have hr := B.returns
  have hts : ∀ w9 ∈ tb, w9.before ([.ref h, .ref h'] : List Value).toArray s = true := fun w9 h9 => atoms_spec (ws := (wA yX4_ranksBefore cX4_ranksBefore 2 (some .boolean))) B.pre w9 (List.mem_cons_of_mem _ h9)
  have hown : s.vm.findClass RX4 = some m.cls := findClass_of_methodNamed B.named
  have hlocks := B.notSynchronized
  have hl := lv_entry ([.ref h, .ref h']) (n := 2) (Nat.le_of_ble_eq_true rfl)
  rw [lg_entry_eq]
  generalize (lg_sl ([.ref h, .ref h']) ++ List.replicate (2 - (lg_sl ([.ref h, .ref h'])).length) Slot.unset).toArray = ls at hl ⊢
  have hl : lv_has ls 2 [(0, .ref h), (1, .ref h')] := hl
  refine lv_aload_n hx hb dX4_ranksBefore_0 rfl (lv_at hl 0 rfl) ?_
  refine va_get (D := D) (ci := 6) (v := .int (f 3)) (C := RX4) (T := TX4) (N := 8) hx hb hts i_X4 hown hK hP 0 rfl rfl 3 (by decide) (hts _ kw_87) (fun _ h9 => h9) rfl dX4_ranksBefore_1 ?_
  refine lv_aload_n hx hb dX4_ranksBefore_4 rfl (lv_at hl 1 rfl) ?_
  refine va_get (D := D) (ci := 6) (v := .int (f' 3)) (C := RX4) (T := TX4) (N := 8) hx hb hts i_X4 hown hK hP 1 rfl rfl 3 (by decide) (hts _ kw_87) (fun _ h9 => h9) rfl dX4_ranksBefore_5 ?_
  refine lv_icmp_eq (tgt := 28) hx hb dX4_ranksBefore_8 (by decide) (fun c_1 => ?_) (fun c_1 => ?_)
  · skip
    refine lv_aload_n hx hb dX4_ranksBefore_28 rfl (lv_at hl 0 rfl) ?_
    refine va_get (D := D) (ci := 6) (v := .int (f 2)) (C := RX4) (T := TX4) (N := 8) hx hb hts i_X4 hown hK hP 0 rfl rfl 2 (by decide) (hts _ kw_84) (fun _ h9 => h9) rfl dX4_ranksBefore_29 ?_
    refine lv_aload_n hx hb dX4_ranksBefore_32 rfl (lv_at hl 1 rfl) ?_
    refine va_get (D := D) (ci := 6) (v := .int (f' 2)) (C := RX4) (T := TX4) (N := 8) hx hb hts i_X4 hown hK hP 1 rfl rfl 2 (by decide) (hts _ kw_84) (fun _ h9 => h9) rfl dX4_ranksBefore_33 ?_
    refine lv_icmp_eq (tgt := 56) hx hb dX4_ranksBefore_36 (by decide) (fun c_2 => ?_) (fun c_2 => ?_)
    · skip
      refine lv_aload_n hx hb dX4_ranksBefore_56 rfl (lv_at hl 0 rfl) ?_
      refine va_get (D := D) (ci := 6) (v := .int (f 0)) (C := RX4) (T := TX4) (N := 8) hx hb hts i_X4 hown hK hP 0 rfl rfl 0 (by decide) (hts _ kw_78) (fun _ h9 => h9) rfl dX4_ranksBefore_57 ?_
      refine lv_aload_n hx hb dX4_ranksBefore_60 rfl (lv_at hl 1 rfl) ?_
      refine va_get (D := D) (ci := 6) (v := .int (f' 0)) (C := RX4) (T := TX4) (N := 8) hx hb hts i_X4 hown hK hP 1 rfl rfl 0 (by decide) (hts _ kw_78) (fun _ h9 => h9) rfl dX4_ranksBefore_61 ?_
      refine lv_icmp_ge (tgt := 71) hx hb dX4_ranksBefore_64 (by decide) (fun c_3 => ?_) (fun c_3 => ?_)
      · skip
        refine lv_iconst (v := 0) hx hb dX4_ranksBefore_71 (by decide) ?_
        exact W.zret (ty := .boolean) (v := 0) hx hb hr (by decide) (fun t ht hW => ⟨0, rfl, (by simp only [p_before, if_pos c_1, if_pos c_2, if_pos c_3] <;> rfl), ht⟩) (fun q h => absurd h List.not_mem_nil) dX4_ranksBefore_72
      · skip
        refine lv_iconst (v := 1) hx hb dX4_ranksBefore_67 (by decide) ?_
        refine lv_goto (tgt := 72) hx hb dX4_ranksBefore_68 (by decide) ?_
        exact W.zret (ty := .boolean) (v := 1) hx hb hr (by decide) (fun t ht hW => ⟨1, rfl, (by simp only [p_before, if_pos c_1, if_pos c_2, if_neg c_3] <;> rfl), ht⟩) (fun q h => absurd h List.not_mem_nil) dX4_ranksBefore_72
    · skip
      refine lv_aload_n hx hb dX4_ranksBefore_39 rfl (lv_at hl 0 rfl) ?_
      refine va_get (D := D) (ci := 6) (v := .int (f 2)) (C := RX4) (T := TX4) (N := 8) hx hb hts i_X4 hown hK hP 0 rfl rfl 2 (by decide) (hts _ kw_84) (fun _ h9 => h9) rfl dX4_ranksBefore_40 ?_
      refine lv_aload_n hx hb dX4_ranksBefore_43 rfl (lv_at hl 1 rfl) ?_
      refine va_get (D := D) (ci := 6) (v := .int (f' 2)) (C := RX4) (T := TX4) (N := 8) hx hb hts i_X4 hown hK hP 1 rfl rfl 2 (by decide) (hts _ kw_84) (fun _ h9 => h9) rfl dX4_ranksBefore_44 ?_
      refine lv_icmp_le (tgt := 54) hx hb dX4_ranksBefore_47 (by decide) (fun c_4 => ?_) (fun c_4 => ?_)
      · skip
        refine lv_iconst (v := 0) hx hb dX4_ranksBefore_54 (by decide) ?_
        exact W.zret (ty := .boolean) (v := 0) hx hb hr (by decide) (fun t ht hW => ⟨0, rfl, (by simp only [p_before, if_pos c_1, if_neg c_2, if_pos c_4] <;> rfl), ht⟩) (fun q h => absurd h List.not_mem_nil) dX4_ranksBefore_55
      · skip
        refine lv_iconst (v := 1) hx hb dX4_ranksBefore_50 (by decide) ?_
        refine lv_goto (tgt := 55) hx hb dX4_ranksBefore_51 (by decide) ?_
        exact W.zret (ty := .boolean) (v := 1) hx hb hr (by decide) (fun t ht hW => ⟨1, rfl, (by simp only [p_before, if_pos c_1, if_neg c_2, if_neg c_4] <;> rfl), ht⟩) (fun q h => absurd h List.not_mem_nil) dX4_ranksBefore_55
  · skip
    refine lv_aload_n hx hb dX4_ranksBefore_11 rfl (lv_at hl 0 rfl) ?_
    refine va_get (D := D) (ci := 6) (v := .int (f 3)) (C := RX4) (T := TX4) (N := 8) hx hb hts i_X4 hown hK hP 0 rfl rfl 3 (by decide) (hts _ kw_87) (fun _ h9 => h9) rfl dX4_ranksBefore_12 ?_
    refine lv_aload_n hx hb dX4_ranksBefore_15 rfl (lv_at hl 1 rfl) ?_
    refine va_get (D := D) (ci := 6) (v := .int (f' 3)) (C := RX4) (T := TX4) (N := 8) hx hb hts i_X4 hown hK hP 1 rfl rfl 3 (by decide) (hts _ kw_87) (fun _ h9 => h9) rfl dX4_ranksBefore_16 ?_
    refine lv_icmp_le (tgt := 26) hx hb dX4_ranksBefore_19 (by decide) (fun c_5 => ?_) (fun c_5 => ?_)
    · skip
      refine lv_iconst (v := 0) hx hb dX4_ranksBefore_26 (by decide) ?_
      exact W.zret (ty := .boolean) (v := 0) hx hb hr (by decide) (fun t ht hW => ⟨0, rfl, (by simp only [p_before, if_neg c_1, if_pos c_5] <;> rfl), ht⟩) (fun q h => absurd h List.not_mem_nil) dX4_ranksBefore_27
    · skip
      refine lv_iconst (v := 1) hx hb dX4_ranksBefore_22 (by decide) ?_
      refine lv_goto (tgt := 27) hx hb dX4_ranksBefore_23 (by decide) ?_
      exact W.zret (ty := .boolean) (v := 1) hx hb hr (by decide) (fun t ht hW => ⟨1, rfl, (by simp only [p_before, if_neg c_1, if_neg c_5] <;> rfl), ht⟩) (fun q h => absurd h List.not_mem_nil) dX4_ranksBefore_27
set_option maxRecDepth 100000 in
set_option maxHeartbeats 4000000 in
theorem c_X1_countItems (l : Launch) (D : va_G) (G : GA) (a : Nat → Nat) (st : CS) : Met l yX1_countItems (wA yX1_countItems cX1_countItems 6 (some .int)) ({ frames := 1, cells := 0, slots := 0, locals := 20 } : Room) (va_Pc [.ref (a 0)] (CWp D G a st)) (vp_Si (fun r => r = s_countItems st)) 0 0 (fun _ => False) := by
  refine Met.ofW (cc := cX1_countItems) (maxL := 6) (ret := (some .int)) (by decide) rfl ?_
  intro p e s m args below meth c s₁ B hml hv
  obtain ⟨rfl, hP, hK⟩ := hv
  have hx := B.exec
  have hb := B.bytes
  have hr := B.returns
  have hts : ∀ w9 ∈ tb, w9.before ([.ref (a 0)] : List Value).toArray s = true := fun w9 h9 => atoms_spec (ws := (wA yX1_countItems cX1_countItems 6 (some .int))) B.pre w9 (List.mem_cons_of_mem _ h9)
  have hown : s.vm.findClass RX1 = some m.cls := findClass_of_methodNamed B.named
  have hlocks := B.notSynchronized
  have hl := lv_entry ([.ref (a 0)]) (n := 6) (Nat.le_of_ble_eq_true rfl)
  rw [lg_entry_eq]
  generalize (lg_sl ([.ref (a 0)]) ++ List.replicate (6 - (lg_sl ([.ref (a 0)])).length) Slot.unset).toArray = ls at hl ⊢
  have hl : lv_has ls 6 [(0, .ref (a 0))] := hl
  refine lv_iconst (v := 0) hx hb dX1_countItems_0 (by decide) ?_
  refine lv_istore_n (lv' := [(1, .int 0), (0, .ref (a 0))]) hx hb dX1_countItems_1 rfl hl (by decide) rfl (fun ls hl => ?_)
  refine lv_aload_n hx hb dX1_countItems_2 rfl (lv_at hl 1 rfl) ?_
  refine va_get (D := D) (ci := 4) (v := .ref (a 1)) (C := RX1) (T := TX1) (N := 7) hx hb hts i_X1 hown hK hP 0 rfl rfl 0 (by decide) (hts _ kw_118) (fun _ h9 => h9) rfl dX1_countItems_3 ?_
  refine lv_astore_n (x := (a 1)) (lv' := [(2, .ref (a 1)), (1, .int 0), (0, .ref (a 0))]) hx hb dX1_countItems_6 rfl hl (by decide) rfl (fun ls hl => ?_)
  refine lv_aload_n hx hb dX1_countItems_7 rfl (lv_at hl 0 rfl) ?_
  refine va_alen (v := nI 12) hx hb hK hP 1 0 rfl rfl rfl dX1_countItems_8 ?_
  refine lv_istore_n (lv' := [(3, .int (nI 12)), (2, .ref (a 1)), (1, .int 0), (0, .ref (a 0))]) hx hb dX1_countItems_9 rfl hl (by decide) rfl (fun ls hl => ?_)
  refine lv_iconst (v := 0) hx hb dX1_countItems_10 (by decide) ?_
  refine lv_istore (lv' := [(4, .int 0), (3, .int (nI 12)), (2, .ref (a 1)), (1, .int 0), (0, .ref (a 0))]) hx hb dX1_countItems_11 hl (by decide) rfl (fun ls hl => ?_)
  have L13 : ∀ (n k : Nat), k + n = 12 → ∀ ls : Array Slot, lv_has ls 6 [(4, .int (nI k)), (3, .int (nI 12)), (2, .ref (a 1)), (1, .int (lp (q_countItems st) k 0)), (0, .ref (a 0))] → W p l e (headSpec (wA yX1_countItems cX1_countItems 6 (some .int)) ({ frames := 1, cells := 0, slots := 0, locals := 20 } : Room)).room s m ([.ref (a 0)] : List Value).toArray below meth c s.heap [] 0 0 (MQ below (vp_Si (fun r => r = s_countItems st)) ([.ref (a 0)] : List Value).toArray s 0 0 (fun _ => False)) (F0 m 13 ls []) := by
    intro n
    induction n with
    | zero =>
      intro k hk0 ls hl
      obtain rfl : k = 12 := by omega
      refine lv_iload hx hb dX1_countItems_13 (lv_at hl 0 rfl) ?_
      refine lv_iload_n hx hb dX1_countItems_15 rfl (lv_at hl 1 rfl) ?_
      refine lv_icmp_ge (tgt := 42) hx hb dX1_countItems_16 (by decide) (fun _ => ?_) (fun c_1 => absurd (nI_le (a := 12) (b := 12) (by omega) (by omega)) c_1)
      refine lv_iload_n hx hb dX1_countItems_42 rfl (lv_at hl 3 rfl) ?_
      exact W.iret (v := lp (q_countItems st) 12 0) hx hb hr (fun t ht hW => ⟨lp (q_countItems st) 12 0, rfl, (by rfl), ht⟩) (fun q h => absurd h List.not_mem_nil) dX1_countItems_43
    | succ n ih =>
      intro k hk0 ls hl
      have hk12 : k < 12 := by omega
      refine lv_iload hx hb dX1_countItems_13 (lv_at hl 0 rfl) ?_
      refine lv_iload_n hx hb dX1_countItems_15 rfl (lv_at hl 1 rfl) ?_
      refine lv_icmp_ge (tgt := 42) hx hb dX1_countItems_16 (by decide) (fun c_2 => absurd c_2 (nI_ge (a := k) (b := 12) (by omega) (by omega))) (fun _ => ?_)
      refine lv_aload_n hx hb dX1_countItems_19 rfl (lv_at hl 2 rfl) ?_
      refine lv_iload hx hb dX1_countItems_20 (lv_at hl 0 rfl) ?_
      refine va_aldq hx hb hK hP 1 0 rfl rfl (vp_in_nI (by omega) (by decide)) dX1_countItems_22 ?_
      rw [nI_clamp (n := k) (by omega)]
      refine lv_astore (x := (a (3 + k))) (lv' := [(5, .ref (a (3 + k))), (4, .int (nI k)), (3, .int (nI 12)), (2, .ref (a 1)), (1, .int (lp (q_countItems st) k 0)), (0, .ref (a 0))]) hx hb dX1_countItems_23 hl (by decide) rfl (fun ls hl => ?_)
      refine lv_aload hx hb dX1_countItems_25 (lv_at hl 0 rfl) ?_
      refine vp_callSi (va_runV (As := []) (rest := []) ⟨hx, hb, hml, hown, hts⟩ (c_X4_isThere l D G (a (3 + k)) (itm st k)) (cwV 0 hts gw_X1_86 rfl rfl rfl (by decide +kernel) ⟨Nat.le_of_ble_eq_true rfl, Nat.le_of_ble_eq_true rfl⟩) (pv_it hK hP (cw_it G a st (by omega))) rfl rfl hl.1 rfl (lv_room (Nat.le_of_ble_eq_true rfl)) dX1_countItems_27 ⟨Nat.le_of_ble_eq_true rfl, Nat.le_of_ble_eq_true rfl⟩).run (nm_e ?_)
      cases hb_3 : p_there (itm st k)
      case true =>
        refine lv_if_eq (tgt := 36) hx hb dX1_countItems_30 (by decide) (fun c_4 => absurd c_4 (by decide)) (fun _ => ?_)
        refine lv_iinc (v := (lp (q_countItems st) k 0) + 1) (lv' := [(1, .int ((lp (q_countItems st) k 0) + 1)), (5, .ref (a (3 + k))), (4, .int (nI k)), (3, .int (nI 12)), (2, .ref (a 1)), (0, .ref (a 0))]) hx hb dX1_countItems_33 hl (k := 4) rfl rfl (by decide) rfl (fun ls hl => ?_)
        refine lv_iinc (v := nI (k + 1)) (lv' := [(4, .int (nI (k + 1))), (1, .int ((lp (q_countItems st) k 0) + 1)), (5, .ref (a (3 + k))), (3, .int (nI 12)), (2, .ref (a 1)), (0, .ref (a 0))]) hx hb dX1_countItems_36 hl (k := 2) rfl (by exact nI_1 k) (by decide) rfl (fun ls hl => ?_)
        refine lv_goto (tgt := 13) hx hb dX1_countItems_39 (by decide) ?_
        exact ih (k + 1) (by omega) ls (by rw [show lp (q_countItems st) (k + 1) 0 = (lp (q_countItems st) k 0) + 1 from by simp only [lp, q_countItems, if_pos hb_3]]; exact lv_sub hl [0, 3, 4, 1, 5] rfl)
      case false =>
        refine lv_if_eq (tgt := 36) hx hb dX1_countItems_30 (by decide) (fun _ => ?_) (fun c_5 => absurd (by decide) c_5)
        refine lv_iinc (v := nI (k + 1)) (lv' := [(4, .int (nI (k + 1))), (5, .ref (a (3 + k))), (3, .int (nI 12)), (2, .ref (a 1)), (1, .int (lp (q_countItems st) k 0)), (0, .ref (a 0))]) hx hb dX1_countItems_36 hl (k := 1) rfl (by exact nI_1 k) (by decide) rfl (fun ls hl => ?_)
        refine lv_goto (tgt := 13) hx hb dX1_countItems_39 (by decide) ?_
        exact ih (k + 1) (by omega) ls (by rw [show lp (q_countItems st) (k + 1) 0 = lp (q_countItems st) k 0 from by simp only [lp, q_countItems, if_neg (bf hb_3)]]; exact lv_sub hl [0, 2, 3, 4, 5] rfl)
  exact L13 12 0 rfl ls (lv_sub hl [0, 1, 2, 3, 4] rfl)
set_option maxRecDepth 100000 in
set_option maxHeartbeats 4000000 in
theorem c_X1_countDepot (l : Launch) (D : va_G) (G : GA) (a : Nat → Nat) (st : CS) : Met l yX1_countDepot (wA yX1_countDepot cX1_countDepot 6 (some .int)) ({ frames := 1, cells := 0, slots := 0, locals := 20 } : Room) (va_Pc [.ref (a 0)] (CWp D G a st)) (vp_Si (fun r => r = s_countDepot st)) 0 0 (fun _ => False) := by
  refine Met.ofW (cc := cX1_countDepot) (maxL := 6) (ret := (some .int)) (by decide) rfl ?_
  intro p e s m args below meth c s₁ B hml hv
  obtain ⟨rfl, hP, hK⟩ := hv
  have hx := B.exec
  have hb := B.bytes
  have hr := B.returns
  have hts : ∀ w9 ∈ tb, w9.before ([.ref (a 0)] : List Value).toArray s = true := fun w9 h9 => atoms_spec (ws := (wA yX1_countDepot cX1_countDepot 6 (some .int))) B.pre w9 (List.mem_cons_of_mem _ h9)
  have hown : s.vm.findClass RX1 = some m.cls := findClass_of_methodNamed B.named
  have hlocks := B.notSynchronized
  have hl := lv_entry ([.ref (a 0)]) (n := 6) (Nat.le_of_ble_eq_true rfl)
  rw [lg_entry_eq]
  generalize (lg_sl ([.ref (a 0)]) ++ List.replicate (6 - (lg_sl ([.ref (a 0)])).length) Slot.unset).toArray = ls at hl ⊢
  have hl : lv_has ls 6 [(0, .ref (a 0))] := hl
  refine lv_iconst (v := 0) hx hb dX1_countDepot_0 (by decide) ?_
  refine lv_istore_n (lv' := [(1, .int 0), (0, .ref (a 0))]) hx hb dX1_countDepot_1 rfl hl (by decide) rfl (fun ls hl => ?_)
  refine lv_aload_n hx hb dX1_countDepot_2 rfl (lv_at hl 1 rfl) ?_
  refine va_get (D := D) (ci := 4) (v := .ref (a 1)) (C := RX1) (T := TX1) (N := 7) hx hb hts i_X1 hown hK hP 0 rfl rfl 0 (by decide) (hts _ kw_118) (fun _ h9 => h9) rfl dX1_countDepot_3 ?_
  refine lv_astore_n (x := (a 1)) (lv' := [(2, .ref (a 1)), (1, .int 0), (0, .ref (a 0))]) hx hb dX1_countDepot_6 rfl hl (by decide) rfl (fun ls hl => ?_)
  refine lv_aload_n hx hb dX1_countDepot_7 rfl (lv_at hl 0 rfl) ?_
  refine va_alen (v := nI 12) hx hb hK hP 1 0 rfl rfl rfl dX1_countDepot_8 ?_
  refine lv_istore_n (lv' := [(3, .int (nI 12)), (2, .ref (a 1)), (1, .int 0), (0, .ref (a 0))]) hx hb dX1_countDepot_9 rfl hl (by decide) rfl (fun ls hl => ?_)
  refine lv_iconst (v := 0) hx hb dX1_countDepot_10 (by decide) ?_
  refine lv_istore (lv' := [(4, .int 0), (3, .int (nI 12)), (2, .ref (a 1)), (1, .int 0), (0, .ref (a 0))]) hx hb dX1_countDepot_11 hl (by decide) rfl (fun ls hl => ?_)
  have L13 : ∀ (n k : Nat), k + n = 12 → ∀ ls : Array Slot, lv_has ls 6 [(4, .int (nI k)), (3, .int (nI 12)), (2, .ref (a 1)), (1, .int (lp (q_countDepot st) k 0)), (0, .ref (a 0))] → W p l e (headSpec (wA yX1_countDepot cX1_countDepot 6 (some .int)) ({ frames := 1, cells := 0, slots := 0, locals := 20 } : Room)).room s m ([.ref (a 0)] : List Value).toArray below meth c s.heap [] 0 0 (MQ below (vp_Si (fun r => r = s_countDepot st)) ([.ref (a 0)] : List Value).toArray s 0 0 (fun _ => False)) (F0 m 13 ls []) := by
    intro n
    induction n with
    | zero =>
      intro k hk0 ls hl
      obtain rfl : k = 12 := by omega
      refine lv_iload hx hb dX1_countDepot_13 (lv_at hl 0 rfl) ?_
      refine lv_iload_n hx hb dX1_countDepot_15 rfl (lv_at hl 1 rfl) ?_
      refine lv_icmp_ge (tgt := 42) hx hb dX1_countDepot_16 (by decide) (fun _ => ?_) (fun c_1 => absurd (nI_le (a := 12) (b := 12) (by omega) (by omega)) c_1)
      refine lv_iload_n hx hb dX1_countDepot_42 rfl (lv_at hl 3 rfl) ?_
      exact W.iret (v := lp (q_countDepot st) 12 0) hx hb hr (fun t ht hW => ⟨lp (q_countDepot st) 12 0, rfl, (by rfl), ht⟩) (fun q h => absurd h List.not_mem_nil) dX1_countDepot_43
    | succ n ih =>
      intro k hk0 ls hl
      have hk12 : k < 12 := by omega
      refine lv_iload hx hb dX1_countDepot_13 (lv_at hl 0 rfl) ?_
      refine lv_iload_n hx hb dX1_countDepot_15 rfl (lv_at hl 1 rfl) ?_
      refine lv_icmp_ge (tgt := 42) hx hb dX1_countDepot_16 (by decide) (fun c_2 => absurd c_2 (nI_ge (a := k) (b := 12) (by omega) (by omega))) (fun _ => ?_)
      refine lv_aload_n hx hb dX1_countDepot_19 rfl (lv_at hl 2 rfl) ?_
      refine lv_iload hx hb dX1_countDepot_20 (lv_at hl 0 rfl) ?_
      refine va_aldq hx hb hK hP 1 0 rfl rfl (vp_in_nI (by omega) (by decide)) dX1_countDepot_22 ?_
      rw [nI_clamp (n := k) (by omega)]
      refine lv_astore (x := (a (3 + k))) (lv' := [(5, .ref (a (3 + k))), (4, .int (nI k)), (3, .int (nI 12)), (2, .ref (a 1)), (1, .int (lp (q_countDepot st) k 0)), (0, .ref (a 0))]) hx hb dX1_countDepot_23 hl (by decide) rfl (fun ls hl => ?_)
      refine lv_aload hx hb dX1_countDepot_25 (lv_at hl 0 rfl) ?_
      refine vp_callSi (va_runV (As := []) (rest := []) ⟨hx, hb, hml, hown, hts⟩ (c_X4_isInDepot l D G (a (3 + k)) (itm st k)) (cwV 0 hts gw_X1_127 rfl rfl rfl (by decide +kernel) ⟨Nat.le_of_ble_eq_true rfl, Nat.le_of_ble_eq_true rfl⟩) (pv_it hK hP (cw_it G a st (by omega))) rfl rfl hl.1 rfl (lv_room (Nat.le_of_ble_eq_true rfl)) dX1_countDepot_27 ⟨Nat.le_of_ble_eq_true rfl, Nat.le_of_ble_eq_true rfl⟩).run (nm_e ?_)
      cases hb_3 : p_depot (itm st k)
      case true =>
        refine lv_if_eq (tgt := 36) hx hb dX1_countDepot_30 (by decide) (fun c_4 => absurd c_4 (by decide)) (fun _ => ?_)
        refine lv_iinc (v := (lp (q_countDepot st) k 0) + 1) (lv' := [(1, .int ((lp (q_countDepot st) k 0) + 1)), (5, .ref (a (3 + k))), (4, .int (nI k)), (3, .int (nI 12)), (2, .ref (a 1)), (0, .ref (a 0))]) hx hb dX1_countDepot_33 hl (k := 4) rfl rfl (by decide) rfl (fun ls hl => ?_)
        refine lv_iinc (v := nI (k + 1)) (lv' := [(4, .int (nI (k + 1))), (1, .int ((lp (q_countDepot st) k 0) + 1)), (5, .ref (a (3 + k))), (3, .int (nI 12)), (2, .ref (a 1)), (0, .ref (a 0))]) hx hb dX1_countDepot_36 hl (k := 2) rfl (by exact nI_1 k) (by decide) rfl (fun ls hl => ?_)
        refine lv_goto (tgt := 13) hx hb dX1_countDepot_39 (by decide) ?_
        exact ih (k + 1) (by omega) ls (by rw [show lp (q_countDepot st) (k + 1) 0 = (lp (q_countDepot st) k 0) + 1 from by simp only [lp, q_countDepot, if_pos hb_3]]; exact lv_sub hl [0, 3, 4, 1, 5] rfl)
      case false =>
        refine lv_if_eq (tgt := 36) hx hb dX1_countDepot_30 (by decide) (fun _ => ?_) (fun c_5 => absurd (by decide) c_5)
        refine lv_iinc (v := nI (k + 1)) (lv' := [(4, .int (nI (k + 1))), (5, .ref (a (3 + k))), (3, .int (nI 12)), (2, .ref (a 1)), (1, .int (lp (q_countDepot st) k 0)), (0, .ref (a 0))]) hx hb dX1_countDepot_36 hl (k := 1) rfl (by exact nI_1 k) (by decide) rfl (fun ls hl => ?_)
        refine lv_goto (tgt := 13) hx hb dX1_countDepot_39 (by decide) ?_
        exact ih (k + 1) (by omega) ls (by rw [show lp (q_countDepot st) (k + 1) 0 = lp (q_countDepot st) k 0 from by simp only [lp, q_countDepot, if_neg (bf hb_3)]]; exact lv_sub hl [0, 2, 3, 4, 5] rfl)
  exact L13 12 0 rfl ls (lv_sub hl [0, 1, 2, 3, 4] rfl)
set_option maxRecDepth 100000 in
set_option maxHeartbeats 4000000 in
theorem c_X1_hasPackedItem (l : Launch) (D : va_G) (G : GA) (a : Nat → Nat) (st : CS) : Met l yX1_hasPackedItem (wA yX1_hasPackedItem cX1_hasPackedItem 1 (some .boolean)) ({ frames := 2, cells := 0, slots := 0, locals := 45 } : Room) (va_Pc [.ref (a 0)] (CWp D G a st)) (vp_Si (fun r => r = bi (s_hasPacked st))) 0 0 (fun _ => False) := by
  refine Met.ofW (cc := cX1_hasPackedItem) (maxL := 1) (ret := (some .boolean)) (by decide) rfl ?_
  intro p e s m args below meth c s₁ B hml hv
  obtain ⟨rfl, hP, hK⟩ := hv
  have hx := B.exec
  have hb := B.bytes
  have hr := B.returns
  have hts : ∀ w9 ∈ tb, w9.before ([.ref (a 0)] : List Value).toArray s = true := fun w9 h9 => atoms_spec (ws := (wA yX1_hasPackedItem cX1_hasPackedItem 1 (some .boolean))) B.pre w9 (List.mem_cons_of_mem _ h9)
  have hown : s.vm.findClass RX1 = some m.cls := findClass_of_methodNamed B.named
  have hlocks := B.notSynchronized
  have hl := lv_entry ([.ref (a 0)]) (n := 1) (Nat.le_of_ble_eq_true rfl)
  rw [lg_entry_eq]
  generalize (lg_sl ([.ref (a 0)]) ++ List.replicate (1 - (lg_sl ([.ref (a 0)])).length) Slot.unset).toArray = ls at hl ⊢
  have hl : lv_has ls 1 [(0, .ref (a 0))] := hl
  refine lv_aload_n hx hb dX1_hasPackedItem_0 rfl (lv_at hl 0 rfl) ?_
  refine vp_callSi (va_runV (As := []) (rest := []) ⟨hx, hb, hml, hown, hts⟩ (c_X1_countDepot l D G a st) (cwV 0 hts gw_X1_170 rfl rfl rfl (by decide +kernel) ⟨Nat.le_of_ble_eq_true rfl, Nat.le_of_ble_eq_true rfl⟩) (pv_cw hK hP) rfl rfl hl.1 rfl (lv_room (Nat.le_of_ble_eq_true rfl)) dX1_hasPackedItem_1 ⟨Nat.le_of_ble_eq_true rfl, Nat.le_of_ble_eq_true rfl⟩).run (nm_e ?_)
  refine lv_aload_n hx hb dX1_hasPackedItem_4 rfl (lv_at hl 0 rfl) ?_
  refine vp_callSi (va_runV (As := []) (rest := [.int (s_countDepot st)]) ⟨hx, hb, hml, hown, hts⟩ (c_X1_countItems l D G a st) (cwV 0 hts gw_X1_55 rfl rfl rfl (by decide +kernel) ⟨Nat.le_of_ble_eq_true rfl, Nat.le_of_ble_eq_true rfl⟩) (pv_cw hK hP) rfl rfl hl.1 rfl (lv_room (Nat.le_of_ble_eq_true rfl)) dX1_hasPackedItem_5 ⟨Nat.le_of_ble_eq_true rfl, Nat.le_of_ble_eq_true rfl⟩).run (nm_e ?_)
  refine lv_icmp_ge (tgt := 15) hx hb dX1_hasPackedItem_8 (by decide) (fun c_1 => ?_) (fun c_1 => ?_)
  · skip
    refine lv_iconst (v := 0) hx hb dX1_hasPackedItem_15 (by decide) ?_
    exact W.zret (ty := .boolean) (v := 0) hx hb hr (by decide) (fun t ht hW => ⟨0, rfl, (by simp only [s_hasPacked, if_pos c_1] <;> rfl), ht⟩) (fun q h => absurd h List.not_mem_nil) dX1_hasPackedItem_16
  · skip
    refine lv_iconst (v := 1) hx hb dX1_hasPackedItem_11 (by decide) ?_
    refine lv_goto (tgt := 16) hx hb dX1_hasPackedItem_12 (by decide) ?_
    exact W.zret (ty := .boolean) (v := 1) hx hb hr (by decide) (fun t ht hW => ⟨1, rfl, (by simp only [s_hasPacked, if_neg c_1] <;> rfl), ht⟩) (fun q h => absurd h List.not_mem_nil) dX1_hasPackedItem_16
set_option maxRecDepth 100000 in
set_option maxHeartbeats 4000000 in
theorem c_X1_lowestPackedStop (l : Launch) (D : va_G) (G : GA) (a : Nat → Nat) (st : CS) : Met l yX1_lowestPackedStop (wA yX1_lowestPackedStop cX1_lowestPackedStop 6 (some .int)) ({ frames := 1, cells := 0, slots := 0, locals := 21 } : Room) (va_Pc [.ref (a 0)] (CWp D G a st)) (vp_Si (fun r => r = s_lowest st)) 0 0 (fun _ => False) := by
  refine Met.ofW (cc := cX1_lowestPackedStop) (maxL := 6) (ret := (some .int)) (by decide) rfl ?_
  intro p e s m args below meth c s₁ B hml hv
  obtain ⟨rfl, hP, hK⟩ := hv
  have hx := B.exec
  have hb := B.bytes
  have hr := B.returns
  have hts : ∀ w9 ∈ tb, w9.before ([.ref (a 0)] : List Value).toArray s = true := fun w9 h9 => atoms_spec (ws := (wA yX1_lowestPackedStop cX1_lowestPackedStop 6 (some .int))) B.pre w9 (List.mem_cons_of_mem _ h9)
  have hown : s.vm.findClass RX1 = some m.cls := findClass_of_methodNamed B.named
  have hlocks := B.notSynchronized
  have hl := lv_entry ([.ref (a 0)]) (n := 6) (Nat.le_of_ble_eq_true rfl)
  rw [lg_entry_eq]
  generalize (lg_sl ([.ref (a 0)]) ++ List.replicate (6 - (lg_sl ([.ref (a 0)])).length) Slot.unset).toArray = ls at hl ⊢
  have hl : lv_has ls 6 [(0, .ref (a 0))] := hl
  refine lv_bipush (v := 30) hx hb dX1_lowestPackedStop_0 (by decide) ?_
  refine lv_istore_n (lv' := [(1, .int 30), (0, .ref (a 0))]) hx hb dX1_lowestPackedStop_2 rfl hl (by decide) rfl (fun ls hl => ?_)
  refine lv_aload_n hx hb dX1_lowestPackedStop_3 rfl (lv_at hl 1 rfl) ?_
  refine va_get (D := D) (ci := 4) (v := .ref (a 1)) (C := RX1) (T := TX1) (N := 7) hx hb hts i_X1 hown hK hP 0 rfl rfl 0 (by decide) (hts _ kw_118) (fun _ h9 => h9) rfl dX1_lowestPackedStop_4 ?_
  refine lv_astore_n (x := (a 1)) (lv' := [(2, .ref (a 1)), (1, .int 30), (0, .ref (a 0))]) hx hb dX1_lowestPackedStop_7 rfl hl (by decide) rfl (fun ls hl => ?_)
  refine lv_aload_n hx hb dX1_lowestPackedStop_8 rfl (lv_at hl 0 rfl) ?_
  refine va_alen (v := nI 12) hx hb hK hP 1 0 rfl rfl rfl dX1_lowestPackedStop_9 ?_
  refine lv_istore_n (lv' := [(3, .int (nI 12)), (2, .ref (a 1)), (1, .int 30), (0, .ref (a 0))]) hx hb dX1_lowestPackedStop_10 rfl hl (by decide) rfl (fun ls hl => ?_)
  refine lv_iconst (v := 0) hx hb dX1_lowestPackedStop_11 (by decide) ?_
  refine lv_istore (lv' := [(4, .int 0), (3, .int (nI 12)), (2, .ref (a 1)), (1, .int 30), (0, .ref (a 0))]) hx hb dX1_lowestPackedStop_12 hl (by decide) rfl (fun ls hl => ?_)
  have L14 : ∀ (n k : Nat), k + n = 12 → ∀ ls : Array Slot, lv_has ls 6 [(4, .int (nI k)), (3, .int (nI 12)), (2, .ref (a 1)), (1, .int (lp (q_lowest st) k 30)), (0, .ref (a 0))] → W p l e (headSpec (wA yX1_lowestPackedStop cX1_lowestPackedStop 6 (some .int)) ({ frames := 1, cells := 0, slots := 0, locals := 21 } : Room)).room s m ([.ref (a 0)] : List Value).toArray below meth c s.heap [] 0 0 (MQ below (vp_Si (fun r => r = s_lowest st)) ([.ref (a 0)] : List Value).toArray s 0 0 (fun _ => False)) (F0 m 14 ls []) := by
    intro n
    induction n with
    | zero =>
      intro k hk0 ls hl
      obtain rfl : k = 12 := by omega
      refine lv_iload hx hb dX1_lowestPackedStop_14 (lv_at hl 0 rfl) ?_
      refine lv_iload_n hx hb dX1_lowestPackedStop_16 rfl (lv_at hl 1 rfl) ?_
      refine lv_icmp_ge (tgt := 50) hx hb dX1_lowestPackedStop_17 (by decide) (fun _ => ?_) (fun c_1 => absurd (nI_le (a := 12) (b := 12) (by omega) (by omega)) c_1)
      refine lv_iload_n hx hb dX1_lowestPackedStop_50 rfl (lv_at hl 3 rfl) ?_
      exact W.iret (v := lp (q_lowest st) 12 30) hx hb hr (fun t ht hW => ⟨lp (q_lowest st) 12 30, rfl, (by rfl), ht⟩) (fun q h => absurd h List.not_mem_nil) dX1_lowestPackedStop_51
    | succ n ih =>
      intro k hk0 ls hl
      have hk12 : k < 12 := by omega
      refine lv_iload hx hb dX1_lowestPackedStop_14 (lv_at hl 0 rfl) ?_
      refine lv_iload_n hx hb dX1_lowestPackedStop_16 rfl (lv_at hl 1 rfl) ?_
      refine lv_icmp_ge (tgt := 50) hx hb dX1_lowestPackedStop_17 (by decide) (fun c_2 => absurd c_2 (nI_ge (a := k) (b := 12) (by omega) (by omega))) (fun _ => ?_)
      refine lv_aload_n hx hb dX1_lowestPackedStop_20 rfl (lv_at hl 2 rfl) ?_
      refine lv_iload hx hb dX1_lowestPackedStop_21 (lv_at hl 0 rfl) ?_
      refine va_aldq hx hb hK hP 1 0 rfl rfl (vp_in_nI (by omega) (by decide)) dX1_lowestPackedStop_23 ?_
      rw [nI_clamp (n := k) (by omega)]
      refine lv_astore (x := (a (3 + k))) (lv' := [(5, .ref (a (3 + k))), (4, .int (nI k)), (3, .int (nI 12)), (2, .ref (a 1)), (1, .int (lp (q_lowest st) k 30)), (0, .ref (a 0))]) hx hb dX1_lowestPackedStop_24 hl (by decide) rfl (fun ls hl => ?_)
      refine lv_aload hx hb dX1_lowestPackedStop_26 (lv_at hl 0 rfl) ?_
      refine vp_callSi (va_runV (As := []) (rest := []) ⟨hx, hb, hml, hown, hts⟩ (c_X4_isInBag l D G (a (3 + k)) (itm st k)) (cwV 0 hts gw_X1_93 rfl rfl rfl (by decide +kernel) ⟨Nat.le_of_ble_eq_true rfl, Nat.le_of_ble_eq_true rfl⟩) (pv_it hK hP (cw_it G a st (by omega))) rfl rfl hl.1 rfl (lv_room (Nat.le_of_ble_eq_true rfl)) dX1_lowestPackedStop_28 ⟨Nat.le_of_ble_eq_true rfl, Nat.le_of_ble_eq_true rfl⟩).run (nm_e ?_)
      cases hb_3 : p_inbag (itm st k)
      case true =>
        refine lv_if_eq (tgt := 44) hx hb dX1_lowestPackedStop_31 (by decide) (fun c_4 => absurd c_4 (by decide)) (fun _ => ?_)
        refine lv_iload_n hx hb dX1_lowestPackedStop_34 rfl (lv_at hl 4 rfl) ?_
        refine lv_aload hx hb dX1_lowestPackedStop_35 (lv_at hl 0 rfl) ?_
        refine va_get (D := D) (ci := 6) (v := .int (itm st k 3)) (C := RX4) (T := TX4) (N := 8) hx hb hts i_X4 hown hK hP (3 + k) (cw_it G a st (by omega)) rfl 3 (by decide) (hts _ kw_88) (fun _ h9 => h9) rfl dX1_lowestPackedStop_37 ?_
        refine va_mmin hx hb (hml.trans hl.1.symm) hown (hts _ kw_693) (hts _ kw_694) (hts _ kw_46) (hts _ kw_695) (Nat.le_of_ble_eq_true rfl) (Nat.le_of_ble_eq_true rfl) (Nat.le_of_ble_eq_true rfl) (Nat.le_of_ble_eq_true rfl) dX1_lowestPackedStop_40 ?_
        refine lv_istore_n (lv' := [(1, .int (if itm st k 3 < lp (q_lowest st) k 30 then itm st k 3 else lp (q_lowest st) k 30)), (5, .ref (a (3 + k))), (4, .int (nI k)), (3, .int (nI 12)), (2, .ref (a 1)), (0, .ref (a 0))]) hx hb dX1_lowestPackedStop_43 rfl hl (by decide) rfl (fun ls hl => ?_)
        refine lv_iinc (v := nI (k + 1)) (lv' := [(4, .int (nI (k + 1))), (1, .int (if itm st k 3 < lp (q_lowest st) k 30 then itm st k 3 else lp (q_lowest st) k 30)), (5, .ref (a (3 + k))), (3, .int (nI 12)), (2, .ref (a 1)), (0, .ref (a 0))]) hx hb dX1_lowestPackedStop_44 hl (k := 2) rfl (by exact nI_1 k) (by decide) rfl (fun ls hl => ?_)
        refine lv_goto (tgt := 14) hx hb dX1_lowestPackedStop_47 (by decide) ?_
        exact ih (k + 1) (by omega) ls (by rw [show lp (q_lowest st) (k + 1) 30 = (if itm st k 3 < lp (q_lowest st) k 30 then itm st k 3 else lp (q_lowest st) k 30) from by simp only [lp, q_lowest, if_pos hb_3]]; exact lv_sub hl [0, 3, 4, 1, 5] rfl)
      case false =>
        refine lv_if_eq (tgt := 44) hx hb dX1_lowestPackedStop_31 (by decide) (fun _ => ?_) (fun c_5 => absurd (by decide) c_5)
        refine lv_iinc (v := nI (k + 1)) (lv' := [(4, .int (nI (k + 1))), (5, .ref (a (3 + k))), (3, .int (nI 12)), (2, .ref (a 1)), (1, .int (lp (q_lowest st) k 30)), (0, .ref (a 0))]) hx hb dX1_lowestPackedStop_44 hl (k := 1) rfl (by exact nI_1 k) (by decide) rfl (fun ls hl => ?_)
        refine lv_goto (tgt := 14) hx hb dX1_lowestPackedStop_47 (by decide) ?_
        exact ih (k + 1) (by omega) ls (by rw [show lp (q_lowest st) (k + 1) 30 = lp (q_lowest st) k 30 from by simp only [lp, q_lowest, if_neg (bf hb_3)]]; exact lv_sub hl [0, 2, 3, 4, 5] rfl)
  exact L14 12 0 rfl ls (lv_sub hl [0, 1, 2, 3, 4] rfl)
set_option maxRecDepth 100000 in
set_option maxHeartbeats 4000000 in
theorem c_X1_packedWeight (l : Launch) (D : va_G) (G : GA) (a : Nat → Nat) (st : CS) : Met l yX1_packedWeight (wA yX1_packedWeight cX1_packedWeight 6 (some .int)) ({ frames := 1, cells := 0, slots := 0, locals := 20 } : Room) (va_Pc [.ref (a 0)] (CWp D G a st)) (vp_Si (fun r => r = s_packedWeight st)) 0 0 (fun _ => False) := by
  refine Met.ofW (cc := cX1_packedWeight) (maxL := 6) (ret := (some .int)) (by decide) rfl ?_
  intro p e s m args below meth c s₁ B hml hv
  obtain ⟨rfl, hP, hK⟩ := hv
  have hx := B.exec
  have hb := B.bytes
  have hr := B.returns
  have hts : ∀ w9 ∈ tb, w9.before ([.ref (a 0)] : List Value).toArray s = true := fun w9 h9 => atoms_spec (ws := (wA yX1_packedWeight cX1_packedWeight 6 (some .int))) B.pre w9 (List.mem_cons_of_mem _ h9)
  have hown : s.vm.findClass RX1 = some m.cls := findClass_of_methodNamed B.named
  have hlocks := B.notSynchronized
  have hl := lv_entry ([.ref (a 0)]) (n := 6) (Nat.le_of_ble_eq_true rfl)
  rw [lg_entry_eq]
  generalize (lg_sl ([.ref (a 0)]) ++ List.replicate (6 - (lg_sl ([.ref (a 0)])).length) Slot.unset).toArray = ls at hl ⊢
  have hl : lv_has ls 6 [(0, .ref (a 0))] := hl
  refine lv_iconst (v := 0) hx hb dX1_packedWeight_0 (by decide) ?_
  refine lv_istore_n (lv' := [(1, .int 0), (0, .ref (a 0))]) hx hb dX1_packedWeight_1 rfl hl (by decide) rfl (fun ls hl => ?_)
  refine lv_aload_n hx hb dX1_packedWeight_2 rfl (lv_at hl 1 rfl) ?_
  refine va_get (D := D) (ci := 4) (v := .ref (a 1)) (C := RX1) (T := TX1) (N := 7) hx hb hts i_X1 hown hK hP 0 rfl rfl 0 (by decide) (hts _ kw_118) (fun _ h9 => h9) rfl dX1_packedWeight_3 ?_
  refine lv_astore_n (x := (a 1)) (lv' := [(2, .ref (a 1)), (1, .int 0), (0, .ref (a 0))]) hx hb dX1_packedWeight_6 rfl hl (by decide) rfl (fun ls hl => ?_)
  refine lv_aload_n hx hb dX1_packedWeight_7 rfl (lv_at hl 0 rfl) ?_
  refine va_alen (v := nI 12) hx hb hK hP 1 0 rfl rfl rfl dX1_packedWeight_8 ?_
  refine lv_istore_n (lv' := [(3, .int (nI 12)), (2, .ref (a 1)), (1, .int 0), (0, .ref (a 0))]) hx hb dX1_packedWeight_9 rfl hl (by decide) rfl (fun ls hl => ?_)
  refine lv_iconst (v := 0) hx hb dX1_packedWeight_10 (by decide) ?_
  refine lv_istore (lv' := [(4, .int 0), (3, .int (nI 12)), (2, .ref (a 1)), (1, .int 0), (0, .ref (a 0))]) hx hb dX1_packedWeight_11 hl (by decide) rfl (fun ls hl => ?_)
  have L13 : ∀ (n k : Nat), k + n = 12 → ∀ ls : Array Slot, lv_has ls 6 [(4, .int (nI k)), (3, .int (nI 12)), (2, .ref (a 1)), (1, .int (lp (q_packedWeight st) k 0)), (0, .ref (a 0))] → W p l e (headSpec (wA yX1_packedWeight cX1_packedWeight 6 (some .int)) ({ frames := 1, cells := 0, slots := 0, locals := 20 } : Room)).room s m ([.ref (a 0)] : List Value).toArray below meth c s.heap [] 0 0 (MQ below (vp_Si (fun r => r = s_packedWeight st)) ([.ref (a 0)] : List Value).toArray s 0 0 (fun _ => False)) (F0 m 13 ls []) := by
    intro n
    induction n with
    | zero =>
      intro k hk0 ls hl
      obtain rfl : k = 12 := by omega
      refine lv_iload hx hb dX1_packedWeight_13 (lv_at hl 0 rfl) ?_
      refine lv_iload_n hx hb dX1_packedWeight_15 rfl (lv_at hl 1 rfl) ?_
      refine lv_icmp_ge (tgt := 47) hx hb dX1_packedWeight_16 (by decide) (fun _ => ?_) (fun c_1 => absurd (nI_le (a := 12) (b := 12) (by omega) (by omega)) c_1)
      refine lv_iload_n hx hb dX1_packedWeight_47 rfl (lv_at hl 3 rfl) ?_
      exact W.iret (v := lp (q_packedWeight st) 12 0) hx hb hr (fun t ht hW => ⟨lp (q_packedWeight st) 12 0, rfl, (by rfl), ht⟩) (fun q h => absurd h List.not_mem_nil) dX1_packedWeight_48
    | succ n ih =>
      intro k hk0 ls hl
      have hk12 : k < 12 := by omega
      refine lv_iload hx hb dX1_packedWeight_13 (lv_at hl 0 rfl) ?_
      refine lv_iload_n hx hb dX1_packedWeight_15 rfl (lv_at hl 1 rfl) ?_
      refine lv_icmp_ge (tgt := 47) hx hb dX1_packedWeight_16 (by decide) (fun c_2 => absurd c_2 (nI_ge (a := k) (b := 12) (by omega) (by omega))) (fun _ => ?_)
      refine lv_aload_n hx hb dX1_packedWeight_19 rfl (lv_at hl 2 rfl) ?_
      refine lv_iload hx hb dX1_packedWeight_20 (lv_at hl 0 rfl) ?_
      refine va_aldq hx hb hK hP 1 0 rfl rfl (vp_in_nI (by omega) (by decide)) dX1_packedWeight_22 ?_
      rw [nI_clamp (n := k) (by omega)]
      refine lv_astore (x := (a (3 + k))) (lv' := [(5, .ref (a (3 + k))), (4, .int (nI k)), (3, .int (nI 12)), (2, .ref (a 1)), (1, .int (lp (q_packedWeight st) k 0)), (0, .ref (a 0))]) hx hb dX1_packedWeight_23 hl (by decide) rfl (fun ls hl => ?_)
      refine lv_aload hx hb dX1_packedWeight_25 (lv_at hl 0 rfl) ?_
      refine vp_callSi (va_runV (As := []) (rest := []) ⟨hx, hb, hml, hown, hts⟩ (c_X4_isInBag l D G (a (3 + k)) (itm st k)) (cwV 0 hts gw_X1_93 rfl rfl rfl (by decide +kernel) ⟨Nat.le_of_ble_eq_true rfl, Nat.le_of_ble_eq_true rfl⟩) (pv_it hK hP (cw_it G a st (by omega))) rfl rfl hl.1 rfl (lv_room (Nat.le_of_ble_eq_true rfl)) dX1_packedWeight_27 ⟨Nat.le_of_ble_eq_true rfl, Nat.le_of_ble_eq_true rfl⟩).run (nm_e ?_)
      cases hb_3 : p_inbag (itm st k)
      case true =>
        refine lv_if_eq (tgt := 41) hx hb dX1_packedWeight_30 (by decide) (fun c_4 => absurd c_4 (by decide)) (fun _ => ?_)
        refine lv_iload_n hx hb dX1_packedWeight_33 rfl (lv_at hl 4 rfl) ?_
        refine lv_aload hx hb dX1_packedWeight_34 (lv_at hl 0 rfl) ?_
        refine va_get (D := D) (ci := 6) (v := .int (itm st k 2)) (C := RX4) (T := TX4) (N := 8) hx hb hts i_X4 hown hK hP (3 + k) (cw_it G a st (by omega)) rfl 2 (by decide) (hts _ kw_85) (fun _ h9 => h9) rfl dX1_packedWeight_36 ?_
        refine lv_iadd hx hb dX1_packedWeight_39 ?_
        refine lv_istore_n (lv' := [(1, .int ((lp (q_packedWeight st) k 0) + (itm st k 2))), (5, .ref (a (3 + k))), (4, .int (nI k)), (3, .int (nI 12)), (2, .ref (a 1)), (0, .ref (a 0))]) hx hb dX1_packedWeight_40 rfl hl (by decide) rfl (fun ls hl => ?_)
        refine lv_iinc (v := nI (k + 1)) (lv' := [(4, .int (nI (k + 1))), (1, .int ((lp (q_packedWeight st) k 0) + (itm st k 2))), (5, .ref (a (3 + k))), (3, .int (nI 12)), (2, .ref (a 1)), (0, .ref (a 0))]) hx hb dX1_packedWeight_41 hl (k := 2) rfl (by exact nI_1 k) (by decide) rfl (fun ls hl => ?_)
        refine lv_goto (tgt := 13) hx hb dX1_packedWeight_44 (by decide) ?_
        exact ih (k + 1) (by omega) ls (by rw [show lp (q_packedWeight st) (k + 1) 0 = (lp (q_packedWeight st) k 0) + (itm st k 2) from by simp only [lp, q_packedWeight, if_pos hb_3]]; exact lv_sub hl [0, 3, 4, 1, 5] rfl)
      case false =>
        refine lv_if_eq (tgt := 41) hx hb dX1_packedWeight_30 (by decide) (fun _ => ?_) (fun c_5 => absurd (by decide) c_5)
        refine lv_iinc (v := nI (k + 1)) (lv' := [(4, .int (nI (k + 1))), (5, .ref (a (3 + k))), (3, .int (nI 12)), (2, .ref (a 1)), (1, .int (lp (q_packedWeight st) k 0)), (0, .ref (a 0))]) hx hb dX1_packedWeight_41 hl (k := 1) rfl (by exact nI_1 k) (by decide) rfl (fun ls hl => ?_)
        refine lv_goto (tgt := 13) hx hb dX1_packedWeight_44 (by decide) ?_
        exact ih (k + 1) (by omega) ls (by rw [show lp (q_packedWeight st) (k + 1) 0 = lp (q_packedWeight st) k 0 from by simp only [lp, q_packedWeight, if_neg (bf hb_3)]]; exact lv_sub hl [0, 2, 3, 4, 5] rfl)
  exact L13 12 0 rfl ls (lv_sub hl [0, 1, 2, 3, 4] rfl)
set_option maxRecDepth 100000 in
set_option maxHeartbeats 4000000 in
theorem c_X1_find (l : Launch) (D : va_G) (G : GA) (a : Nat → Nat) (st : CS) (id : Int32) : Met l yX1_find (wA yX1_find cX1_find 6 (some (.object "CourierBags$Item"))) ({ frames := 1, cells := 0, slots := 0, locals := 20 } : Room) (va_Pc [.ref (a 0), .int id] (CWp D G a st)) (va_Sr (fun k => k = s_find st id) (fun k => .ref (a (3 + k)))) 0 0 (fun _ => False) := by
  refine Met.ofW (cc := cX1_find) (maxL := 6) (ret := (some (.object "CourierBags$Item"))) (by decide) rfl ?_
  intro p e s m args below meth c s₁ B hml hv
  obtain ⟨rfl, hP, hK⟩ := hv
  have hx := B.exec
  have hb := B.bytes
  have hr := B.returns
  have hts : ∀ w9 ∈ tb, w9.before ([.ref (a 0), .int id] : List Value).toArray s = true := fun w9 h9 => atoms_spec (ws := (wA yX1_find cX1_find 6 (some (.object "CourierBags$Item")))) B.pre w9 (List.mem_cons_of_mem _ h9)
  have hown : s.vm.findClass RX1 = some m.cls := findClass_of_methodNamed B.named
  have hlocks := B.notSynchronized
  have hl := lv_entry ([.ref (a 0), .int id]) (n := 6) (Nat.le_of_ble_eq_true rfl)
  rw [lg_entry_eq]
  generalize (lg_sl ([.ref (a 0), .int id]) ++ List.replicate (6 - (lg_sl ([.ref (a 0), .int id])).length) Slot.unset).toArray = ls at hl ⊢
  have hl : lv_has ls 6 [(0, .ref (a 0)), (1, .int id)] := hl
  refine lv_aload_n hx hb dX1_find_0 rfl (lv_at hl 0 rfl) ?_
  refine va_get (D := D) (ci := 4) (v := .ref (a 1)) (C := RX1) (T := TX1) (N := 7) hx hb hts i_X1 hown hK hP 0 rfl rfl 0 (by decide) (hts _ kw_118) (fun _ h9 => h9) rfl dX1_find_1 ?_
  refine lv_astore_n (x := (a 1)) (lv' := [(2, .ref (a 1)), (0, .ref (a 0)), (1, .int id)]) hx hb dX1_find_4 rfl hl (by decide) rfl (fun ls hl => ?_)
  refine lv_aload_n hx hb dX1_find_5 rfl (lv_at hl 0 rfl) ?_
  refine va_alen (v := nI 12) hx hb hK hP 1 0 rfl rfl rfl dX1_find_6 ?_
  refine lv_istore_n (lv' := [(3, .int (nI 12)), (2, .ref (a 1)), (0, .ref (a 0)), (1, .int id)]) hx hb dX1_find_7 rfl hl (by decide) rfl (fun ls hl => ?_)
  refine lv_iconst (v := 0) hx hb dX1_find_8 (by decide) ?_
  refine lv_istore (lv' := [(4, .int 0), (3, .int (nI 12)), (2, .ref (a 1)), (0, .ref (a 0)), (1, .int id)]) hx hb dX1_find_9 hl (by decide) rfl (fun ls hl => ?_)
  have L11 : ∀ (n k : Nat), k + n = 12 → s_find st id = fi (q_find st id) 12 n k → ∀ ls : Array Slot, lv_has ls 6 [(4, .int (nI k)), (3, .int (nI 12)), (2, .ref (a 1)), (0, .ref (a 0)), (1, .int id)] → W p l e (headSpec (wA yX1_find cX1_find 6 (some (.object "CourierBags$Item"))) ({ frames := 1, cells := 0, slots := 0, locals := 20 } : Room)).room s m ([.ref (a 0), .int id] : List Value).toArray below meth c s.heap [] 0 0 (MQ below (va_Sr (fun k => k = s_find st id) (fun k => .ref (a (3 + k)))) ([.ref (a 0), .int id] : List Value).toArray s 0 0 (fun _ => False)) (F0 m 11 ls []) := by
    intro n
    induction n with
    | zero =>
      intro k hk0 he ls hl
      obtain rfl : k = 12 := by omega
      refine lv_iload hx hb dX1_find_11 (lv_at hl 0 rfl) ?_
      refine lv_iload_n hx hb dX1_find_13 rfl (lv_at hl 1 rfl) ?_
      refine lv_icmp_ge (tgt := 49) hx hb dX1_find_14 (by decide) (fun _ => ?_) (fun c_1 => absurd (nI_le (a := 12) (b := 12) (by omega) (by omega)) c_1)
      refine lv_aload_n hx hb dX1_find_49 rfl (lv_at hl 3 rfl) ?_
      refine va_get (D := D) (ci := 4) (v := .ref (a 15)) (C := RX1) (T := TX1) (N := 7) hx hb hts i_X1 hown hK hP 0 rfl rfl 1 (by decide) (hts _ kw_119) (fun _ h9 => h9) rfl dX1_find_50 ?_
      exact W.aret (v := .ref (a (3 + 12))) hx hb hr (Or.inl ⟨_, rfl⟩) (Or.inr ⟨_, rfl⟩) (fun t ht hW => ⟨12, rfl, (by rw [he]; rfl), ht⟩) (fun q h => absurd h List.not_mem_nil) dX1_find_53
    | succ n ih =>
      intro k hk0 he ls hl
      have hk12 : k < 12 := by omega
      refine lv_iload hx hb dX1_find_11 (lv_at hl 0 rfl) ?_
      refine lv_iload_n hx hb dX1_find_13 rfl (lv_at hl 1 rfl) ?_
      refine lv_icmp_ge (tgt := 49) hx hb dX1_find_14 (by decide) (fun c_2 => absurd c_2 (nI_ge (a := k) (b := 12) (by omega) (by omega))) (fun _ => ?_)
      refine lv_aload_n hx hb dX1_find_17 rfl (lv_at hl 2 rfl) ?_
      refine lv_iload hx hb dX1_find_18 (lv_at hl 0 rfl) ?_
      refine va_aldq hx hb hK hP 1 0 rfl rfl (vp_in_nI (by omega) (by decide)) dX1_find_20 ?_
      rw [nI_clamp (n := k) (by omega)]
      refine lv_astore (x := (a (3 + k))) (lv' := [(5, .ref (a (3 + k))), (4, .int (nI k)), (3, .int (nI 12)), (2, .ref (a 1)), (0, .ref (a 0)), (1, .int id)]) hx hb dX1_find_21 hl (by decide) rfl (fun ls hl => ?_)
      refine lv_aload hx hb dX1_find_23 (lv_at hl 0 rfl) ?_
      refine vp_callSi (va_runV (As := []) (rest := []) ⟨hx, hb, hml, hown, hts⟩ (c_X4_isThere l D G (a (3 + k)) (itm st k)) (cwV 0 hts gw_X1_86 rfl rfl rfl (by decide +kernel) ⟨Nat.le_of_ble_eq_true rfl, Nat.le_of_ble_eq_true rfl⟩) (pv_it hK hP (cw_it G a st (by omega))) rfl rfl hl.1 rfl (lv_room (Nat.le_of_ble_eq_true rfl)) dX1_find_25 ⟨Nat.le_of_ble_eq_true rfl, Nat.le_of_ble_eq_true rfl⟩).run (nm_e ?_)
      cases hb_3 : p_there (itm st k)
      case true =>
        refine lv_if_eq (tgt := 43) hx hb dX1_find_28 (by decide) (fun c_4 => absurd c_4 (by decide)) (fun _ => ?_)
        refine lv_aload hx hb dX1_find_31 (lv_at hl 0 rfl) ?_
        refine va_get (D := D) (ci := 6) (v := .int (itm st k 0)) (C := RX4) (T := TX4) (N := 8) hx hb hts i_X4 hown hK hP (3 + k) (cw_it G a st (by omega)) rfl 0 (by decide) (hts _ kw_79) (fun _ h9 => h9) rfl dX1_find_33 ?_
        refine lv_iload_n hx hb dX1_find_36 rfl (lv_at hl 5 rfl) ?_
        refine lv_icmp_ne (tgt := 43) hx hb dX1_find_37 (by decide) (fun c_5 => ?_) (fun c_5 => ?_)
        · skip
          refine lv_iinc (v := nI (k + 1)) (lv' := [(4, .int (nI (k + 1))), (5, .ref (a (3 + k))), (3, .int (nI 12)), (2, .ref (a 1)), (0, .ref (a 0)), (1, .int id)]) hx hb dX1_find_43 hl (k := 1) rfl (by exact nI_1 k) (by decide) rfl (fun ls hl => ?_)
          refine lv_goto (tgt := 11) hx hb dX1_find_46 (by decide) ?_
          exact ih (k + 1) (by omega) (he.trans (fi_miss (by simp only [q_find, if_pos hb_3, if_neg c_5]))) ls (lv_sub hl [0, 2, 3, 4, 5] rfl)
        · skip
          refine lv_aload hx hb dX1_find_40 (lv_at hl 0 rfl) ?_
          exact W.aret (v := .ref (a (3 + k))) hx hb hr (Or.inl ⟨_, rfl⟩) (Or.inr ⟨_, rfl⟩) (fun t ht hW => ⟨k, rfl, (by rw [he, fi_hit (by simp only [q_find, if_pos hb_3, if_pos c_5])]), ht⟩) (fun q h => absurd h List.not_mem_nil) dX1_find_42
      case false =>
        refine lv_if_eq (tgt := 43) hx hb dX1_find_28 (by decide) (fun _ => ?_) (fun c_6 => absurd (by decide) c_6)
        refine lv_iinc (v := nI (k + 1)) (lv' := [(4, .int (nI (k + 1))), (5, .ref (a (3 + k))), (3, .int (nI 12)), (2, .ref (a 1)), (0, .ref (a 0)), (1, .int id)]) hx hb dX1_find_43 hl (k := 1) rfl (by exact nI_1 k) (by decide) rfl (fun ls hl => ?_)
        refine lv_goto (tgt := 11) hx hb dX1_find_46 (by decide) ?_
        exact ih (k + 1) (by omega) (he.trans (fi_miss (by simp only [q_find, if_neg (bf hb_3)]))) ls (lv_sub hl [0, 2, 3, 4, 5] rfl)
  exact L11 12 0 rfl rfl ls (lv_sub hl [0, 1, 2, 3, 4] rfl)
set_option maxRecDepth 100000 in
set_option maxHeartbeats 4000000 in
theorem c_X1_rankOf (l : Launch) (D : va_G) (G : GA) (a : Nat → Nat) (st : CS) (g : Nat) (hgg : g < 13) : Met l yX1_rankOf (wA yX1_rankOf cX1_rankOf 7 (some .int)) ({ frames := 1, cells := 0, slots := 0, locals := 21 } : Room) (va_Pc [.ref (a 0), .ref (a (3 + g))] (CWp D G a st)) (vp_Si (fun r => r = s_rankOf st g)) 0 0 (fun _ => False) := by
  refine Met.ofW (cc := cX1_rankOf) (maxL := 7) (ret := (some .int)) (by decide) rfl ?_
  intro p e s m args below meth c s₁ B hml hv
  obtain ⟨rfl, hP, hK⟩ := hv
  have hx := B.exec
  have hb := B.bytes
  have hr := B.returns
  have hts : ∀ w9 ∈ tb, w9.before ([.ref (a 0), .ref (a (3 + g))] : List Value).toArray s = true := fun w9 h9 => atoms_spec (ws := (wA yX1_rankOf cX1_rankOf 7 (some .int))) B.pre w9 (List.mem_cons_of_mem _ h9)
  have hown : s.vm.findClass RX1 = some m.cls := findClass_of_methodNamed B.named
  have hlocks := B.notSynchronized
  have hl := lv_entry ([.ref (a 0), .ref (a (3 + g))]) (n := 7) (Nat.le_of_ble_eq_true rfl)
  rw [lg_entry_eq]
  generalize (lg_sl ([.ref (a 0), .ref (a (3 + g))]) ++ List.replicate (7 - (lg_sl ([.ref (a 0), .ref (a (3 + g))])).length) Slot.unset).toArray = ls at hl ⊢
  have hl : lv_has ls 7 [(0, .ref (a 0)), (1, .ref (a (3 + g)))] := hl
  refine lv_iconst (v := 0) hx hb dX1_rankOf_0 (by decide) ?_
  refine lv_istore_n (lv' := [(2, .int 0), (0, .ref (a 0)), (1, .ref (a (3 + g)))]) hx hb dX1_rankOf_1 rfl hl (by decide) rfl (fun ls hl => ?_)
  refine lv_aload_n hx hb dX1_rankOf_2 rfl (lv_at hl 1 rfl) ?_
  refine va_get (D := D) (ci := 4) (v := .ref (a 1)) (C := RX1) (T := TX1) (N := 7) hx hb hts i_X1 hown hK hP 0 rfl rfl 0 (by decide) (hts _ kw_118) (fun _ h9 => h9) rfl dX1_rankOf_3 ?_
  refine lv_astore_n (x := (a 1)) (lv' := [(3, .ref (a 1)), (2, .int 0), (0, .ref (a 0)), (1, .ref (a (3 + g)))]) hx hb dX1_rankOf_6 rfl hl (by decide) rfl (fun ls hl => ?_)
  refine lv_aload_n hx hb dX1_rankOf_7 rfl (lv_at hl 0 rfl) ?_
  refine va_alen (v := nI 12) hx hb hK hP 1 0 rfl rfl rfl dX1_rankOf_8 ?_
  refine lv_istore (lv' := [(4, .int (nI 12)), (3, .ref (a 1)), (2, .int 0), (0, .ref (a 0)), (1, .ref (a (3 + g)))]) hx hb dX1_rankOf_9 hl (by decide) rfl (fun ls hl => ?_)
  refine lv_iconst (v := 0) hx hb dX1_rankOf_11 (by decide) ?_
  refine lv_istore (lv' := [(5, .int 0), (4, .int (nI 12)), (3, .ref (a 1)), (2, .int 0), (0, .ref (a 0)), (1, .ref (a (3 + g)))]) hx hb dX1_rankOf_12 hl (by decide) rfl (fun ls hl => ?_)
  have L14 : ∀ (n k : Nat), k + n = 12 → ∀ ls : Array Slot, lv_has ls 7 [(5, .int (nI k)), (4, .int (nI 12)), (3, .ref (a 1)), (2, .int (lp (q_rankOf st g) k 0)), (0, .ref (a 0)), (1, .ref (a (3 + g)))] → W p l e (headSpec (wA yX1_rankOf cX1_rankOf 7 (some .int)) ({ frames := 1, cells := 0, slots := 0, locals := 21 } : Room)).room s m ([.ref (a 0), .ref (a (3 + g))] : List Value).toArray below meth c s.heap [] 0 0 (MQ below (vp_Si (fun r => r = s_rankOf st g)) ([.ref (a 0), .ref (a (3 + g))] : List Value).toArray s 0 0 (fun _ => False)) (F0 m 14 ls []) := by
    intro n
    induction n with
    | zero =>
      intro k hk0 ls hl
      obtain rfl : k = 12 := by omega
      refine lv_iload hx hb dX1_rankOf_14 (lv_at hl 0 rfl) ?_
      refine lv_iload hx hb dX1_rankOf_16 (lv_at hl 1 rfl) ?_
      refine lv_icmp_ge (tgt := 53) hx hb dX1_rankOf_18 (by decide) (fun _ => ?_) (fun c_1 => absurd (nI_le (a := 12) (b := 12) (by omega) (by omega)) c_1)
      refine lv_iload_n hx hb dX1_rankOf_53 rfl (lv_at hl 3 rfl) ?_
      exact W.iret (v := lp (q_rankOf st g) 12 0) hx hb hr (fun t ht hW => ⟨lp (q_rankOf st g) 12 0, rfl, (by rfl), ht⟩) (fun q h => absurd h List.not_mem_nil) dX1_rankOf_54
    | succ n ih =>
      intro k hk0 ls hl
      have hk12 : k < 12 := by omega
      refine lv_iload hx hb dX1_rankOf_14 (lv_at hl 0 rfl) ?_
      refine lv_iload hx hb dX1_rankOf_16 (lv_at hl 1 rfl) ?_
      refine lv_icmp_ge (tgt := 53) hx hb dX1_rankOf_18 (by decide) (fun c_2 => absurd c_2 (nI_ge (a := k) (b := 12) (by omega) (by omega))) (fun _ => ?_)
      refine lv_aload_n hx hb dX1_rankOf_21 rfl (lv_at hl 2 rfl) ?_
      refine lv_iload hx hb dX1_rankOf_22 (lv_at hl 0 rfl) ?_
      refine va_aldq hx hb hK hP 1 0 rfl rfl (vp_in_nI (by omega) (by decide)) dX1_rankOf_24 ?_
      rw [nI_clamp (n := k) (by omega)]
      refine lv_astore (x := (a (3 + k))) (lv' := [(6, .ref (a (3 + k))), (5, .int (nI k)), (4, .int (nI 12)), (3, .ref (a 1)), (2, .int (lp (q_rankOf st g) k 0)), (0, .ref (a 0)), (1, .ref (a (3 + g)))]) hx hb dX1_rankOf_25 hl (by decide) rfl (fun ls hl => ?_)
      refine lv_aload hx hb dX1_rankOf_27 (lv_at hl 0 rfl) ?_
      refine vp_callSi (va_runV (As := []) (rest := []) ⟨hx, hb, hml, hown, hts⟩ (c_X4_isThere l D G (a (3 + k)) (itm st k)) (cwV 0 hts gw_X1_86 rfl rfl rfl (by decide +kernel) ⟨Nat.le_of_ble_eq_true rfl, Nat.le_of_ble_eq_true rfl⟩) (pv_it hK hP (cw_it G a st (by omega))) rfl rfl hl.1 rfl (lv_room (Nat.le_of_ble_eq_true rfl)) dX1_rankOf_29 ⟨Nat.le_of_ble_eq_true rfl, Nat.le_of_ble_eq_true rfl⟩).run (nm_e ?_)
      cases hb_3 : p_there (itm st k)
      case true =>
        refine lv_if_eq (tgt := 47) hx hb dX1_rankOf_32 (by decide) (fun c_4 => absurd c_4 (by decide)) (fun _ => ?_)
        refine lv_aload hx hb dX1_rankOf_35 (lv_at hl 0 rfl) ?_
        refine lv_aload_n hx hb dX1_rankOf_37 rfl (lv_at hl 6 rfl) ?_
        refine vp_callSi (va_runV (As := [.ref (a (3 + g))]) (rest := []) ⟨hx, hb, hml, hown, hts⟩ (c_X4_ranksBefore l D G (a (3 + k)) (itm st k) (a (3 + g)) (itm st g)) (cwV 1 hts gw_X1_166 rfl rfl rfl (by decide +kernel) ⟨Nat.le_of_ble_eq_true rfl, Nat.le_of_ble_eq_true rfl⟩) (pv_it2 hK hP hP (cw_it G a st (by omega)) (cw_it G a st hgg)) rfl rfl hl.1 rfl (lv_room (Nat.le_of_ble_eq_true rfl)) dX1_rankOf_38 ⟨Nat.le_of_ble_eq_true rfl, Nat.le_of_ble_eq_true rfl⟩).run (nm_e ?_)
        cases hb_5 : p_before (itm st k) (itm st g)
        case true =>
          refine lv_if_eq (tgt := 47) hx hb dX1_rankOf_41 (by decide) (fun c_6 => absurd c_6 (by decide)) (fun _ => ?_)
          refine lv_iinc (v := (lp (q_rankOf st g) k 0) + 1) (lv' := [(2, .int ((lp (q_rankOf st g) k 0) + 1)), (6, .ref (a (3 + k))), (5, .int (nI k)), (4, .int (nI 12)), (3, .ref (a 1)), (0, .ref (a 0)), (1, .ref (a (3 + g)))]) hx hb dX1_rankOf_44 hl (k := 4) rfl rfl (by decide) rfl (fun ls hl => ?_)
          refine lv_iinc (v := nI (k + 1)) (lv' := [(5, .int (nI (k + 1))), (2, .int ((lp (q_rankOf st g) k 0) + 1)), (6, .ref (a (3 + k))), (4, .int (nI 12)), (3, .ref (a 1)), (0, .ref (a 0)), (1, .ref (a (3 + g)))]) hx hb dX1_rankOf_47 hl (k := 2) rfl (by exact nI_1 k) (by decide) rfl (fun ls hl => ?_)
          refine lv_goto (tgt := 14) hx hb dX1_rankOf_50 (by decide) ?_
          exact ih (k + 1) (by omega) ls (by rw [show lp (q_rankOf st g) (k + 1) 0 = (lp (q_rankOf st g) k 0) + 1 from by simp only [lp, q_rankOf, if_pos hb_3, if_pos hb_5]]; exact lv_sub hl [0, 3, 4, 1, 5, 6] rfl)
        case false =>
          refine lv_if_eq (tgt := 47) hx hb dX1_rankOf_41 (by decide) (fun _ => ?_) (fun c_7 => absurd (by decide) c_7)
          refine lv_iinc (v := nI (k + 1)) (lv' := [(5, .int (nI (k + 1))), (6, .ref (a (3 + k))), (4, .int (nI 12)), (3, .ref (a 1)), (2, .int (lp (q_rankOf st g) k 0)), (0, .ref (a 0)), (1, .ref (a (3 + g)))]) hx hb dX1_rankOf_47 hl (k := 1) rfl (by exact nI_1 k) (by decide) rfl (fun ls hl => ?_)
          refine lv_goto (tgt := 14) hx hb dX1_rankOf_50 (by decide) ?_
          exact ih (k + 1) (by omega) ls (by rw [show lp (q_rankOf st g) (k + 1) 0 = lp (q_rankOf st g) k 0 from by simp only [lp, q_rankOf, if_pos hb_3, if_neg (bf hb_5)]]; exact lv_sub hl [0, 2, 3, 4, 5, 6] rfl)
      case false =>
        refine lv_if_eq (tgt := 47) hx hb dX1_rankOf_32 (by decide) (fun _ => ?_) (fun c_8 => absurd (by decide) c_8)
        refine lv_iinc (v := nI (k + 1)) (lv' := [(5, .int (nI (k + 1))), (6, .ref (a (3 + k))), (4, .int (nI 12)), (3, .ref (a 1)), (2, .int (lp (q_rankOf st g) k 0)), (0, .ref (a 0)), (1, .ref (a (3 + g)))]) hx hb dX1_rankOf_47 hl (k := 1) rfl (by exact nI_1 k) (by decide) rfl (fun ls hl => ?_)
        refine lv_goto (tgt := 14) hx hb dX1_rankOf_50 (by decide) ?_
        exact ih (k + 1) (by omega) ls (by rw [show lp (q_rankOf st g) (k + 1) 0 = lp (q_rankOf st g) k 0 from by simp only [lp, q_rankOf, if_neg (bf hb_3)]]; exact lv_sub hl [0, 2, 3, 4, 5, 6] rfl)
  exact L14 12 0 rfl ls (lv_sub hl [0, 1, 2, 3, 4, 5] rfl)
set_option maxRecDepth 100000 in
set_option maxHeartbeats 4000000 in
theorem c_X1_findRank (l : Launch) (D : va_G) (G : GA) (a : Nat → Nat) (st : CS) (i : Int32) : Met l yX1_findRank (wA yX1_findRank cX1_findRank 6 (some (.object "CourierBags$Item"))) ({ frames := 2, cells := 0, slots := 0, locals := 47 } : Room) (va_Pc [.ref (a 0), .int i] (CWp D G a st)) (va_Sr (fun k => k = s_findRank st i) (fun k => .ref (a (3 + k)))) 0 0 (fun _ => False) := by
  refine Met.ofW (cc := cX1_findRank) (maxL := 6) (ret := (some (.object "CourierBags$Item"))) (by decide) rfl ?_
  intro p e s m args below meth c s₁ B hml hv
  obtain ⟨rfl, hP, hK⟩ := hv
  have hx := B.exec
  have hb := B.bytes
  have hr := B.returns
  have hts : ∀ w9 ∈ tb, w9.before ([.ref (a 0), .int i] : List Value).toArray s = true := fun w9 h9 => atoms_spec (ws := (wA yX1_findRank cX1_findRank 6 (some (.object "CourierBags$Item")))) B.pre w9 (List.mem_cons_of_mem _ h9)
  have hown : s.vm.findClass RX1 = some m.cls := findClass_of_methodNamed B.named
  have hlocks := B.notSynchronized
  have hl := lv_entry ([.ref (a 0), .int i]) (n := 6) (Nat.le_of_ble_eq_true rfl)
  rw [lg_entry_eq]
  generalize (lg_sl ([.ref (a 0), .int i]) ++ List.replicate (6 - (lg_sl ([.ref (a 0), .int i])).length) Slot.unset).toArray = ls at hl ⊢
  have hl : lv_has ls 6 [(0, .ref (a 0)), (1, .int i)] := hl
  refine lv_aload_n hx hb dX1_findRank_0 rfl (lv_at hl 0 rfl) ?_
  refine va_get (D := D) (ci := 4) (v := .ref (a 1)) (C := RX1) (T := TX1) (N := 7) hx hb hts i_X1 hown hK hP 0 rfl rfl 0 (by decide) (hts _ kw_118) (fun _ h9 => h9) rfl dX1_findRank_1 ?_
  refine lv_astore_n (x := (a 1)) (lv' := [(2, .ref (a 1)), (0, .ref (a 0)), (1, .int i)]) hx hb dX1_findRank_4 rfl hl (by decide) rfl (fun ls hl => ?_)
  refine lv_aload_n hx hb dX1_findRank_5 rfl (lv_at hl 0 rfl) ?_
  refine va_alen (v := nI 12) hx hb hK hP 1 0 rfl rfl rfl dX1_findRank_6 ?_
  refine lv_istore_n (lv' := [(3, .int (nI 12)), (2, .ref (a 1)), (0, .ref (a 0)), (1, .int i)]) hx hb dX1_findRank_7 rfl hl (by decide) rfl (fun ls hl => ?_)
  refine lv_iconst (v := 0) hx hb dX1_findRank_8 (by decide) ?_
  refine lv_istore (lv' := [(4, .int 0), (3, .int (nI 12)), (2, .ref (a 1)), (0, .ref (a 0)), (1, .int i)]) hx hb dX1_findRank_9 hl (by decide) rfl (fun ls hl => ?_)
  have L11 : ∀ (n k : Nat), k + n = 12 → s_findRank st i = fi (q_findRank st i) 12 n k → ∀ ls : Array Slot, lv_has ls 6 [(4, .int (nI k)), (3, .int (nI 12)), (2, .ref (a 1)), (0, .ref (a 0)), (1, .int i)] → W p l e (headSpec (wA yX1_findRank cX1_findRank 6 (some (.object "CourierBags$Item"))) ({ frames := 2, cells := 0, slots := 0, locals := 47 } : Room)).room s m ([.ref (a 0), .int i] : List Value).toArray below meth c s.heap [] 0 0 (MQ below (va_Sr (fun k => k = s_findRank st i) (fun k => .ref (a (3 + k)))) ([.ref (a 0), .int i] : List Value).toArray s 0 0 (fun _ => False)) (F0 m 11 ls []) := by
    intro n
    induction n with
    | zero =>
      intro k hk0 he ls hl
      obtain rfl : k = 12 := by omega
      refine lv_iload hx hb dX1_findRank_11 (lv_at hl 0 rfl) ?_
      refine lv_iload_n hx hb dX1_findRank_13 rfl (lv_at hl 1 rfl) ?_
      refine lv_icmp_ge (tgt := 50) hx hb dX1_findRank_14 (by decide) (fun _ => ?_) (fun c_1 => absurd (nI_le (a := 12) (b := 12) (by omega) (by omega)) c_1)
      refine lv_aload_n hx hb dX1_findRank_50 rfl (lv_at hl 3 rfl) ?_
      refine va_get (D := D) (ci := 4) (v := .ref (a 15)) (C := RX1) (T := TX1) (N := 7) hx hb hts i_X1 hown hK hP 0 rfl rfl 1 (by decide) (hts _ kw_119) (fun _ h9 => h9) rfl dX1_findRank_51 ?_
      exact W.aret (v := .ref (a (3 + 12))) hx hb hr (Or.inl ⟨_, rfl⟩) (Or.inr ⟨_, rfl⟩) (fun t ht hW => ⟨12, rfl, (by rw [he]; rfl), ht⟩) (fun q h => absurd h List.not_mem_nil) dX1_findRank_54
    | succ n ih =>
      intro k hk0 he ls hl
      have hk12 : k < 12 := by omega
      refine lv_iload hx hb dX1_findRank_11 (lv_at hl 0 rfl) ?_
      refine lv_iload_n hx hb dX1_findRank_13 rfl (lv_at hl 1 rfl) ?_
      refine lv_icmp_ge (tgt := 50) hx hb dX1_findRank_14 (by decide) (fun c_2 => absurd c_2 (nI_ge (a := k) (b := 12) (by omega) (by omega))) (fun _ => ?_)
      refine lv_aload_n hx hb dX1_findRank_17 rfl (lv_at hl 2 rfl) ?_
      refine lv_iload hx hb dX1_findRank_18 (lv_at hl 0 rfl) ?_
      refine va_aldq hx hb hK hP 1 0 rfl rfl (vp_in_nI (by omega) (by decide)) dX1_findRank_20 ?_
      rw [nI_clamp (n := k) (by omega)]
      refine lv_astore (x := (a (3 + k))) (lv' := [(5, .ref (a (3 + k))), (4, .int (nI k)), (3, .int (nI 12)), (2, .ref (a 1)), (0, .ref (a 0)), (1, .int i)]) hx hb dX1_findRank_21 hl (by decide) rfl (fun ls hl => ?_)
      refine lv_aload hx hb dX1_findRank_23 (lv_at hl 0 rfl) ?_
      refine vp_callSi (va_runV (As := []) (rest := []) ⟨hx, hb, hml, hown, hts⟩ (c_X4_isThere l D G (a (3 + k)) (itm st k)) (cwV 0 hts gw_X1_86 rfl rfl rfl (by decide +kernel) ⟨Nat.le_of_ble_eq_true rfl, Nat.le_of_ble_eq_true rfl⟩) (pv_it hK hP (cw_it G a st (by omega))) rfl rfl hl.1 rfl (lv_room (Nat.le_of_ble_eq_true rfl)) dX1_findRank_25 ⟨Nat.le_of_ble_eq_true rfl, Nat.le_of_ble_eq_true rfl⟩).run (nm_e ?_)
      cases hb_3 : p_there (itm st k)
      case true =>
        refine lv_if_eq (tgt := 44) hx hb dX1_findRank_28 (by decide) (fun c_4 => absurd c_4 (by decide)) (fun _ => ?_)
        refine lv_aload_n hx hb dX1_findRank_31 rfl (lv_at hl 4 rfl) ?_
        refine lv_aload hx hb dX1_findRank_32 (lv_at hl 0 rfl) ?_
        refine vp_callSi (va_runV (As := [.ref (a (3 + k))]) (rest := []) ⟨hx, hb, hml, hown, hts⟩ (c_X1_rankOf l D G a st k (by omega)) (cwV 1 hts gw_X1_162 rfl rfl rfl (by decide +kernel) ⟨Nat.le_of_ble_eq_true rfl, Nat.le_of_ble_eq_true rfl⟩) (pv_cw hK hP) rfl rfl hl.1 rfl (lv_room (Nat.le_of_ble_eq_true rfl)) dX1_findRank_34 ⟨Nat.le_of_ble_eq_true rfl, Nat.le_of_ble_eq_true rfl⟩).run (nm_e ?_)
        refine lv_iload_n hx hb dX1_findRank_37 rfl (lv_at hl 5 rfl) ?_
        refine lv_icmp_ne (tgt := 44) hx hb dX1_findRank_38 (by decide) (fun c_5 => ?_) (fun c_5 => ?_)
        · skip
          refine lv_iinc (v := nI (k + 1)) (lv' := [(4, .int (nI (k + 1))), (5, .ref (a (3 + k))), (3, .int (nI 12)), (2, .ref (a 1)), (0, .ref (a 0)), (1, .int i)]) hx hb dX1_findRank_44 hl (k := 1) rfl (by exact nI_1 k) (by decide) rfl (fun ls hl => ?_)
          refine lv_goto (tgt := 11) hx hb dX1_findRank_47 (by decide) ?_
          exact ih (k + 1) (by omega) (he.trans (fi_miss (by simp only [q_findRank, if_pos hb_3, if_neg c_5]))) ls (lv_sub hl [0, 2, 3, 4, 5] rfl)
        · skip
          refine lv_aload hx hb dX1_findRank_41 (lv_at hl 0 rfl) ?_
          exact W.aret (v := .ref (a (3 + k))) hx hb hr (Or.inl ⟨_, rfl⟩) (Or.inr ⟨_, rfl⟩) (fun t ht hW => ⟨k, rfl, (by rw [he, fi_hit (by simp only [q_findRank, if_pos hb_3, if_pos c_5])]), ht⟩) (fun q h => absurd h List.not_mem_nil) dX1_findRank_43
      case false =>
        refine lv_if_eq (tgt := 44) hx hb dX1_findRank_28 (by decide) (fun _ => ?_) (fun c_6 => absurd (by decide) c_6)
        refine lv_iinc (v := nI (k + 1)) (lv' := [(4, .int (nI (k + 1))), (5, .ref (a (3 + k))), (3, .int (nI 12)), (2, .ref (a 1)), (0, .ref (a 0)), (1, .int i)]) hx hb dX1_findRank_44 hl (k := 1) rfl (by exact nI_1 k) (by decide) rfl (fun ls hl => ?_)
        refine lv_goto (tgt := 11) hx hb dX1_findRank_47 (by decide) ?_
        exact ih (k + 1) (by omega) (he.trans (fi_miss (by simp only [q_findRank, if_neg (bf hb_3)]))) ls (lv_sub hl [0, 2, 3, 4, 5] rfl)
  exact L11 12 0 rfl rfl ls (lv_sub hl [0, 1, 2, 3, 4] rfl)
set_option maxRecDepth 100000 in
set_option maxHeartbeats 4000000 in
theorem c_X1_findPlace (l : Launch) (D : va_G) (G : GA) (a : Nat → Nat) (st : CS) (b : Int32) (w : Int32) (i : Int32) : Met l yX1_findPlace (wA yX1_findPlace cX1_findPlace 8 (some (.object "CourierBags$Item"))) ({ frames := 0, cells := 0, slots := 0, locals := 0 } : Room) (va_Pc [.ref (a 0), .int b, .int w, .int i] (CWp D G a st)) (va_Sr (fun k => k = s_findPlace st b w i) (fun k => .ref (a (3 + k)))) 0 0 (fun _ => False) := by
  refine Met.ofW (cc := cX1_findPlace) (maxL := 8) (ret := (some (.object "CourierBags$Item"))) (by decide) rfl ?_
  intro p e s m args below meth c s₁ B hml hv
  obtain ⟨rfl, hP, hK⟩ := hv
  have hx := B.exec
  have hb := B.bytes
  have hr := B.returns
  have hts : ∀ w9 ∈ tb, w9.before ([.ref (a 0), .int b, .int w, .int i] : List Value).toArray s = true := fun w9 h9 => atoms_spec (ws := (wA yX1_findPlace cX1_findPlace 8 (some (.object "CourierBags$Item")))) B.pre w9 (List.mem_cons_of_mem _ h9)
  have hown : s.vm.findClass RX1 = some m.cls := findClass_of_methodNamed B.named
  have hlocks := B.notSynchronized
  have hl := lv_entry ([.ref (a 0), .int b, .int w, .int i]) (n := 8) (Nat.le_of_ble_eq_true rfl)
  rw [lg_entry_eq]
  generalize (lg_sl ([.ref (a 0), .int b, .int w, .int i]) ++ List.replicate (8 - (lg_sl ([.ref (a 0), .int b, .int w, .int i])).length) Slot.unset).toArray = ls at hl ⊢
  have hl : lv_has ls 8 [(0, .ref (a 0)), (1, .int b), (2, .int w), (3, .int i)] := hl
  refine lv_aload_n hx hb dX1_findPlace_0 rfl (lv_at hl 0 rfl) ?_
  refine va_get (D := D) (ci := 4) (v := .ref (a 1)) (C := RX1) (T := TX1) (N := 7) hx hb hts i_X1 hown hK hP 0 rfl rfl 0 (by decide) (hts _ kw_118) (fun _ h9 => h9) rfl dX1_findPlace_1 ?_
  refine lv_astore (x := (a 1)) (lv' := [(4, .ref (a 1)), (0, .ref (a 0)), (1, .int b), (2, .int w), (3, .int i)]) hx hb dX1_findPlace_4 hl (by decide) rfl (fun ls hl => ?_)
  refine lv_aload hx hb dX1_findPlace_6 (lv_at hl 0 rfl) ?_
  refine va_alen (v := nI 12) hx hb hK hP 1 0 rfl rfl rfl dX1_findPlace_8 ?_
  refine lv_istore (lv' := [(5, .int (nI 12)), (4, .ref (a 1)), (0, .ref (a 0)), (1, .int b), (2, .int w), (3, .int i)]) hx hb dX1_findPlace_9 hl (by decide) rfl (fun ls hl => ?_)
  refine lv_iconst (v := 0) hx hb dX1_findPlace_11 (by decide) ?_
  refine lv_istore (lv' := [(6, .int 0), (5, .int (nI 12)), (4, .ref (a 1)), (0, .ref (a 0)), (1, .int b), (2, .int w), (3, .int i)]) hx hb dX1_findPlace_12 hl (by decide) rfl (fun ls hl => ?_)
  have L14 : ∀ (n k : Nat), k + n = 12 → s_findPlace st b w i = fi (q_findPlace st b w i) 12 n k → ∀ ls : Array Slot, lv_has ls 8 [(6, .int (nI k)), (5, .int (nI 12)), (4, .ref (a 1)), (0, .ref (a 0)), (1, .int b), (2, .int w), (3, .int i)] → W p l e (headSpec (wA yX1_findPlace cX1_findPlace 8 (some (.object "CourierBags$Item"))) ({ frames := 0, cells := 0, slots := 0, locals := 0 } : Room)).room s m ([.ref (a 0), .int b, .int w, .int i] : List Value).toArray below meth c s.heap [] 0 0 (MQ below (va_Sr (fun k => k = s_findPlace st b w i) (fun k => .ref (a (3 + k)))) ([.ref (a 0), .int b, .int w, .int i] : List Value).toArray s 0 0 (fun _ => False)) (F0 m 14 ls []) := by
    intro n
    induction n with
    | zero =>
      intro k hk0 he ls hl
      obtain rfl : k = 12 := by omega
      refine lv_iload hx hb dX1_findPlace_14 (lv_at hl 0 rfl) ?_
      refine lv_iload hx hb dX1_findPlace_16 (lv_at hl 1 rfl) ?_
      refine lv_icmp_ge (tgt := 64) hx hb dX1_findPlace_18 (by decide) (fun _ => ?_) (fun c_1 => absurd (nI_le (a := 12) (b := 12) (by omega) (by omega)) c_1)
      refine lv_aload_n hx hb dX1_findPlace_64 rfl (lv_at hl 3 rfl) ?_
      refine va_get (D := D) (ci := 4) (v := .ref (a 15)) (C := RX1) (T := TX1) (N := 7) hx hb hts i_X1 hown hK hP 0 rfl rfl 1 (by decide) (hts _ kw_119) (fun _ h9 => h9) rfl dX1_findPlace_65 ?_
      exact W.aret (v := .ref (a (3 + 12))) hx hb hr (Or.inl ⟨_, rfl⟩) (Or.inr ⟨_, rfl⟩) (fun t ht hW => ⟨12, rfl, (by rw [he]; rfl), ht⟩) (fun q h => absurd h List.not_mem_nil) dX1_findPlace_68
    | succ n ih =>
      intro k hk0 he ls hl
      have hk12 : k < 12 := by omega
      refine lv_iload hx hb dX1_findPlace_14 (lv_at hl 0 rfl) ?_
      refine lv_iload hx hb dX1_findPlace_16 (lv_at hl 1 rfl) ?_
      refine lv_icmp_ge (tgt := 64) hx hb dX1_findPlace_18 (by decide) (fun c_2 => absurd c_2 (nI_ge (a := k) (b := 12) (by omega) (by omega))) (fun _ => ?_)
      refine lv_aload hx hb dX1_findPlace_21 (lv_at hl 2 rfl) ?_
      refine lv_iload hx hb dX1_findPlace_23 (lv_at hl 0 rfl) ?_
      refine va_aldq hx hb hK hP 1 0 rfl rfl (vp_in_nI (by omega) (by decide)) dX1_findPlace_25 ?_
      rw [nI_clamp (n := k) (by omega)]
      refine lv_astore (x := (a (3 + k))) (lv' := [(7, .ref (a (3 + k))), (6, .int (nI k)), (5, .int (nI 12)), (4, .ref (a 1)), (0, .ref (a 0)), (1, .int b), (2, .int w), (3, .int i)]) hx hb dX1_findPlace_26 hl (by decide) rfl (fun ls hl => ?_)
      refine lv_aload hx hb dX1_findPlace_28 (lv_at hl 0 rfl) ?_
      refine va_get (D := D) (ci := 6) (v := .int (itm st k 5)) (C := RX4) (T := TX4) (N := 8) hx hb hts i_X4 hown hK hP (3 + k) (cw_it G a st (by omega)) rfl 5 (by decide) (hts _ kw_94) (fun _ h9 => h9) rfl dX1_findPlace_30 ?_
      refine lv_iload_n hx hb dX1_findPlace_33 rfl (lv_at hl 5 rfl) ?_
      refine lv_icmp_ne (tgt := 58) hx hb dX1_findPlace_34 (by decide) (fun c_3 => ?_) (fun c_3 => ?_)
      · skip
        refine lv_iinc (v := nI (k + 1)) (lv' := [(6, .int (nI (k + 1))), (7, .ref (a (3 + k))), (5, .int (nI 12)), (4, .ref (a 1)), (0, .ref (a 0)), (1, .int b), (2, .int w), (3, .int i)]) hx hb dX1_findPlace_58 hl (k := 1) rfl (by exact nI_1 k) (by decide) rfl (fun ls hl => ?_)
        refine lv_goto (tgt := 14) hx hb dX1_findPlace_61 (by decide) ?_
        exact ih (k + 1) (by omega) (he.trans (fi_miss (by simp only [q_findPlace, if_neg c_3]))) ls (lv_sub hl [0, 2, 3, 4, 5, 6, 7] rfl)
      · skip
        refine lv_aload hx hb dX1_findPlace_37 (lv_at hl 0 rfl) ?_
        refine va_get (D := D) (ci := 6) (v := .int (itm st k 6)) (C := RX4) (T := TX4) (N := 8) hx hb hts i_X4 hown hK hP (3 + k) (cw_it G a st (by omega)) rfl 6 (by decide) (hts _ kw_97) (fun _ h9 => h9) rfl dX1_findPlace_39 ?_
        refine lv_iload_n hx hb dX1_findPlace_42 rfl (lv_at hl 6 rfl) ?_
        refine lv_icmp_ne (tgt := 58) hx hb dX1_findPlace_43 (by decide) (fun c_4 => ?_) (fun c_4 => ?_)
        · skip
          refine lv_iinc (v := nI (k + 1)) (lv' := [(6, .int (nI (k + 1))), (7, .ref (a (3 + k))), (5, .int (nI 12)), (4, .ref (a 1)), (0, .ref (a 0)), (1, .int b), (2, .int w), (3, .int i)]) hx hb dX1_findPlace_58 hl (k := 1) rfl (by exact nI_1 k) (by decide) rfl (fun ls hl => ?_)
          refine lv_goto (tgt := 14) hx hb dX1_findPlace_61 (by decide) ?_
          exact ih (k + 1) (by omega) (he.trans (fi_miss (by simp only [q_findPlace, if_pos c_3, if_neg c_4]))) ls (lv_sub hl [0, 2, 3, 4, 5, 6, 7] rfl)
        · skip
          refine lv_aload hx hb dX1_findPlace_46 (lv_at hl 0 rfl) ?_
          refine va_get (D := D) (ci := 6) (v := .int (itm st k 7)) (C := RX4) (T := TX4) (N := 8) hx hb hts i_X4 hown hK hP (3 + k) (cw_it G a st (by omega)) rfl 7 (by decide) (hts _ kw_100) (fun _ h9 => h9) rfl dX1_findPlace_48 ?_
          refine lv_iload_n hx hb dX1_findPlace_51 rfl (lv_at hl 7 rfl) ?_
          refine lv_icmp_ne (tgt := 58) hx hb dX1_findPlace_52 (by decide) (fun c_5 => ?_) (fun c_5 => ?_)
          · skip
            refine lv_iinc (v := nI (k + 1)) (lv' := [(6, .int (nI (k + 1))), (7, .ref (a (3 + k))), (5, .int (nI 12)), (4, .ref (a 1)), (0, .ref (a 0)), (1, .int b), (2, .int w), (3, .int i)]) hx hb dX1_findPlace_58 hl (k := 1) rfl (by exact nI_1 k) (by decide) rfl (fun ls hl => ?_)
            refine lv_goto (tgt := 14) hx hb dX1_findPlace_61 (by decide) ?_
            exact ih (k + 1) (by omega) (he.trans (fi_miss (by simp only [q_findPlace, if_pos c_3, if_pos c_4, if_neg c_5]))) ls (lv_sub hl [0, 2, 3, 4, 5, 6, 7] rfl)
          · skip
            refine lv_aload hx hb dX1_findPlace_55 (lv_at hl 0 rfl) ?_
            exact W.aret (v := .ref (a (3 + k))) hx hb hr (Or.inl ⟨_, rfl⟩) (Or.inr ⟨_, rfl⟩) (fun t ht hW => ⟨k, rfl, (by rw [he, fi_hit (by simp only [q_findPlace, if_pos c_3, if_pos c_4, if_pos c_5])]), ht⟩) (fun q h => absurd h List.not_mem_nil) dX1_findPlace_57
  exact L14 12 0 rfl rfl ls (lv_sub hl [0, 1, 2, 3, 4, 5, 6] rfl)
set_option maxRecDepth 100000 in
set_option maxHeartbeats 4000000 in
theorem c_X1_findFree (l : Launch) (D : va_G) (G : GA) (a : Nat → Nat) (st : CS) : Met l yX1_findFree (wA yX1_findFree cX1_findFree 5 (some (.object "CourierBags$Item"))) ({ frames := 1, cells := 0, slots := 0, locals := 20 } : Room) (va_Pc [.ref (a 0)] (CWp D G a st)) (va_Sr (fun k => k = s_findFree st) (fun k => .ref (a (3 + k)))) 0 0 (fun _ => False) := by
  refine Met.ofW (cc := cX1_findFree) (maxL := 5) (ret := (some (.object "CourierBags$Item"))) (by decide) rfl ?_
  intro p e s m args below meth c s₁ B hml hv
  obtain ⟨rfl, hP, hK⟩ := hv
  have hx := B.exec
  have hb := B.bytes
  have hr := B.returns
  have hts : ∀ w9 ∈ tb, w9.before ([.ref (a 0)] : List Value).toArray s = true := fun w9 h9 => atoms_spec (ws := (wA yX1_findFree cX1_findFree 5 (some (.object "CourierBags$Item")))) B.pre w9 (List.mem_cons_of_mem _ h9)
  have hown : s.vm.findClass RX1 = some m.cls := findClass_of_methodNamed B.named
  have hlocks := B.notSynchronized
  have hl := lv_entry ([.ref (a 0)]) (n := 5) (Nat.le_of_ble_eq_true rfl)
  rw [lg_entry_eq]
  generalize (lg_sl ([.ref (a 0)]) ++ List.replicate (5 - (lg_sl ([.ref (a 0)])).length) Slot.unset).toArray = ls at hl ⊢
  have hl : lv_has ls 5 [(0, .ref (a 0))] := hl
  refine lv_aload_n hx hb dX1_findFree_0 rfl (lv_at hl 0 rfl) ?_
  refine va_get (D := D) (ci := 4) (v := .ref (a 1)) (C := RX1) (T := TX1) (N := 7) hx hb hts i_X1 hown hK hP 0 rfl rfl 0 (by decide) (hts _ kw_118) (fun _ h9 => h9) rfl dX1_findFree_1 ?_
  refine lv_astore_n (x := (a 1)) (lv' := [(1, .ref (a 1)), (0, .ref (a 0))]) hx hb dX1_findFree_4 rfl hl (by decide) rfl (fun ls hl => ?_)
  refine lv_aload_n hx hb dX1_findFree_5 rfl (lv_at hl 0 rfl) ?_
  refine va_alen (v := nI 12) hx hb hK hP 1 0 rfl rfl rfl dX1_findFree_6 ?_
  refine lv_istore_n (lv' := [(2, .int (nI 12)), (1, .ref (a 1)), (0, .ref (a 0))]) hx hb dX1_findFree_7 rfl hl (by decide) rfl (fun ls hl => ?_)
  refine lv_iconst (v := 0) hx hb dX1_findFree_8 (by decide) ?_
  refine lv_istore_n (lv' := [(3, .int 0), (2, .int (nI 12)), (1, .ref (a 1)), (0, .ref (a 0))]) hx hb dX1_findFree_9 rfl hl (by decide) rfl (fun ls hl => ?_)
  have L10 : ∀ (n k : Nat), k + n = 12 → s_findFree st = fi (q_findFree st) 12 n k → ∀ ls : Array Slot, lv_has ls 5 [(3, .int (nI k)), (2, .int (nI 12)), (1, .ref (a 1)), (0, .ref (a 0))] → W p l e (headSpec (wA yX1_findFree cX1_findFree 5 (some (.object "CourierBags$Item"))) ({ frames := 1, cells := 0, slots := 0, locals := 20 } : Room)).room s m ([.ref (a 0)] : List Value).toArray below meth c s.heap [] 0 0 (MQ below (va_Sr (fun k => k = s_findFree st) (fun k => .ref (a (3 + k)))) ([.ref (a 0)] : List Value).toArray s 0 0 (fun _ => False)) (F0 m 10 ls []) := by
    intro n
    induction n with
    | zero =>
      intro k hk0 he ls hl
      obtain rfl : k = 12 := by omega
      refine lv_iload_n hx hb dX1_findFree_10 rfl (lv_at hl 0 rfl) ?_
      refine lv_iload_n hx hb dX1_findFree_11 rfl (lv_at hl 1 rfl) ?_
      refine lv_icmp_ge (tgt := 37) hx hb dX1_findFree_12 (by decide) (fun _ => ?_) (fun c_1 => absurd (nI_le (a := 12) (b := 12) (by omega) (by omega)) c_1)
      refine lv_aload_n hx hb dX1_findFree_37 rfl (lv_at hl 3 rfl) ?_
      refine va_get (D := D) (ci := 4) (v := .ref (a 15)) (C := RX1) (T := TX1) (N := 7) hx hb hts i_X1 hown hK hP 0 rfl rfl 1 (by decide) (hts _ kw_119) (fun _ h9 => h9) rfl dX1_findFree_38 ?_
      exact W.aret (v := .ref (a (3 + 12))) hx hb hr (Or.inl ⟨_, rfl⟩) (Or.inr ⟨_, rfl⟩) (fun t ht hW => ⟨12, rfl, (by rw [he]; rfl), ht⟩) (fun q h => absurd h List.not_mem_nil) dX1_findFree_41
    | succ n ih =>
      intro k hk0 he ls hl
      have hk12 : k < 12 := by omega
      refine lv_iload_n hx hb dX1_findFree_10 rfl (lv_at hl 0 rfl) ?_
      refine lv_iload_n hx hb dX1_findFree_11 rfl (lv_at hl 1 rfl) ?_
      refine lv_icmp_ge (tgt := 37) hx hb dX1_findFree_12 (by decide) (fun c_2 => absurd c_2 (nI_ge (a := k) (b := 12) (by omega) (by omega))) (fun _ => ?_)
      refine lv_aload_n hx hb dX1_findFree_15 rfl (lv_at hl 2 rfl) ?_
      refine lv_iload_n hx hb dX1_findFree_16 rfl (lv_at hl 0 rfl) ?_
      refine va_aldq hx hb hK hP 1 0 rfl rfl (vp_in_nI (by omega) (by decide)) dX1_findFree_17 ?_
      rw [nI_clamp (n := k) (by omega)]
      refine lv_astore (x := (a (3 + k))) (lv' := [(4, .ref (a (3 + k))), (3, .int (nI k)), (2, .int (nI 12)), (1, .ref (a 1)), (0, .ref (a 0))]) hx hb dX1_findFree_18 hl (by decide) rfl (fun ls hl => ?_)
      refine lv_aload hx hb dX1_findFree_20 (lv_at hl 0 rfl) ?_
      refine vp_callSi (va_runV (As := []) (rest := []) ⟨hx, hb, hml, hown, hts⟩ (c_X4_isThere l D G (a (3 + k)) (itm st k)) (cwV 0 hts gw_X1_86 rfl rfl rfl (by decide +kernel) ⟨Nat.le_of_ble_eq_true rfl, Nat.le_of_ble_eq_true rfl⟩) (pv_it hK hP (cw_it G a st (by omega))) rfl rfl hl.1 rfl (lv_room (Nat.le_of_ble_eq_true rfl)) dX1_findFree_22 ⟨Nat.le_of_ble_eq_true rfl, Nat.le_of_ble_eq_true rfl⟩).run (nm_e ?_)
      cases hb_3 : p_there (itm st k)
      case true =>
        refine lv_if_ne (tgt := 31) hx hb dX1_findFree_25 (by decide) (fun _ => ?_) (fun c_4 => absurd c_4 (by decide))
        refine lv_iinc (v := nI (k + 1)) (lv' := [(3, .int (nI (k + 1))), (4, .ref (a (3 + k))), (2, .int (nI 12)), (1, .ref (a 1)), (0, .ref (a 0))]) hx hb dX1_findFree_31 hl (k := 1) rfl (by exact nI_1 k) (by decide) rfl (fun ls hl => ?_)
        refine lv_goto (tgt := 10) hx hb dX1_findFree_34 (by decide) ?_
        exact ih (k + 1) (by omega) (he.trans (fi_miss (by simp only [q_findFree, if_pos hb_3]))) ls (lv_sub hl [0, 2, 3, 4] rfl)
      case false =>
        refine lv_if_ne (tgt := 31) hx hb dX1_findFree_25 (by decide) (fun c_5 => absurd (by decide) c_5) (fun _ => ?_)
        refine lv_aload hx hb dX1_findFree_28 (lv_at hl 0 rfl) ?_
        exact W.aret (v := .ref (a (3 + k))) hx hb hr (Or.inl ⟨_, rfl⟩) (Or.inr ⟨_, rfl⟩) (fun t ht hW => ⟨k, rfl, (by rw [he, fi_hit (by simp only [q_findFree, if_neg (bf hb_3)])]), ht⟩) (fun q h => absurd h List.not_mem_nil) dX1_findFree_30
  exact L10 12 0 rfl rfl ls (lv_sub hl [0, 1, 2, 3] rfl)
set_option maxRecDepth 100000 in
set_option maxHeartbeats 4000000 in
theorem c_X1_hasBag (l : Launch) (D : va_G) (G : GA) (a : Nat → Nat) (st : CS) (b : Int32) : Met l yX1_hasBag (wA yX1_hasBag cX1_hasBag 2 (some .boolean)) ({ frames := 0, cells := 0, slots := 0, locals := 0 } : Room) (va_Pc [.ref (a 0), .int b] (CWp D G a st)) (vp_Si (fun r => r = bi (s_hasBag st b))) 0 0 (fun _ => False) := by
  refine Met.ofW (cc := cX1_hasBag) (maxL := 2) (ret := (some .boolean)) (by decide) rfl ?_
  intro p e s m args below meth c s₁ B hml hv
  obtain ⟨rfl, hP, hK⟩ := hv
  have hx := B.exec
  have hb := B.bytes
  have hr := B.returns
  have hts : ∀ w9 ∈ tb, w9.before ([.ref (a 0), .int b] : List Value).toArray s = true := fun w9 h9 => atoms_spec (ws := (wA yX1_hasBag cX1_hasBag 2 (some .boolean))) B.pre w9 (List.mem_cons_of_mem _ h9)
  have hown : s.vm.findClass RX1 = some m.cls := findClass_of_methodNamed B.named
  have hlocks := B.notSynchronized
  have hl := lv_entry ([.ref (a 0), .int b]) (n := 2) (Nat.le_of_ble_eq_true rfl)
  rw [lg_entry_eq]
  generalize (lg_sl ([.ref (a 0), .int b]) ++ List.replicate (2 - (lg_sl ([.ref (a 0), .int b])).length) Slot.unset).toArray = ls at hl ⊢
  have hl : lv_has ls 2 [(0, .ref (a 0)), (1, .int b)] := hl
  refine lv_iload_n hx hb dX1_hasBag_0 rfl (lv_at hl 1 rfl) ?_
  refine lv_if_lt (tgt := 16) hx hb dX1_hasBag_1 (by decide) (fun c_1 => ?_) (fun c_1 => ?_)
  · skip
    refine lv_iconst (v := 0) hx hb dX1_hasBag_16 (by decide) ?_
    exact W.zret (ty := .boolean) (v := 0) hx hb hr (by decide) (fun t ht hW => ⟨0, rfl, (by simp only [s_hasBag, if_pos c_1] <;> rfl), ht⟩) (fun q h => absurd h List.not_mem_nil) dX1_hasBag_17
  · skip
    refine lv_iload_n hx hb dX1_hasBag_4 rfl (lv_at hl 1 rfl) ?_
    refine lv_aload_n hx hb dX1_hasBag_5 rfl (lv_at hl 0 rfl) ?_
    refine va_get (D := D) (ci := 4) (v := .int (st.2.2 1)) (C := RX1) (T := TX1) (N := 7) hx hb hts i_X1 hown hK hP 0 rfl rfl 4 (by decide) (hts _ kw_122) (fun _ h9 => h9) rfl dX1_hasBag_6 ?_
    refine lv_icmp_ge (tgt := 16) hx hb dX1_hasBag_9 (by decide) (fun c_2 => ?_) (fun c_2 => ?_)
    · skip
      refine lv_iconst (v := 0) hx hb dX1_hasBag_16 (by decide) ?_
      exact W.zret (ty := .boolean) (v := 0) hx hb hr (by decide) (fun t ht hW => ⟨0, rfl, (by simp only [s_hasBag, if_neg c_1, if_pos c_2] <;> rfl), ht⟩) (fun q h => absurd h List.not_mem_nil) dX1_hasBag_17
    · skip
      refine lv_iconst (v := 1) hx hb dX1_hasBag_12 (by decide) ?_
      refine lv_goto (tgt := 17) hx hb dX1_hasBag_13 (by decide) ?_
      exact W.zret (ty := .boolean) (v := 1) hx hb hr (by decide) (fun t ht hW => ⟨1, rfl, (by simp only [s_hasBag, if_neg c_1, if_neg c_2] <;> rfl), ht⟩) (fun q h => absurd h List.not_mem_nil) dX1_hasBag_17
set_option maxRecDepth 100000 in
set_option maxHeartbeats 4000000 in
theorem c_X1_limit (l : Launch) (D : va_G) (G : GA) (a : Nat → Nat) (st : CS) (b : Int32) : Met l yX1_limit (wA yX1_limit cX1_limit 2 (some .int)) ({ frames := 0, cells := 0, slots := 0, locals := 0 } : Room) (va_Pc [.ref (a 0), .int b] (CWp D G a st)) (vp_Si (fun r => r = s_limit st b)) 0 0 (fun _ => False) := by
  refine Met.ofW (cc := cX1_limit) (maxL := 2) (ret := (some .int)) (by decide) rfl ?_
  intro p e s m args below meth c s₁ B hml hv
  obtain ⟨rfl, hP, hK⟩ := hv
  have hx := B.exec
  have hb := B.bytes
  have hr := B.returns
  have hts : ∀ w9 ∈ tb, w9.before ([.ref (a 0), .int b] : List Value).toArray s = true := fun w9 h9 => atoms_spec (ws := (wA yX1_limit cX1_limit 2 (some .int))) B.pre w9 (List.mem_cons_of_mem _ h9)
  have hown : s.vm.findClass RX1 = some m.cls := findClass_of_methodNamed B.named
  have hlocks := B.notSynchronized
  have hl := lv_entry ([.ref (a 0), .int b]) (n := 2) (Nat.le_of_ble_eq_true rfl)
  rw [lg_entry_eq]
  generalize (lg_sl ([.ref (a 0), .int b]) ++ List.replicate (2 - (lg_sl ([.ref (a 0), .int b])).length) Slot.unset).toArray = ls at hl ⊢
  have hl : lv_has ls 2 [(0, .ref (a 0)), (1, .int b)] := hl
  refine lv_iload_n hx hb dX1_limit_0 rfl (lv_at hl 1 rfl) ?_
  refine lv_if_lt (tgt := 22) hx hb dX1_limit_1 (by decide) (fun c_1 => ?_) (fun c_1 => ?_)
  · skip
    refine lv_iconst (v := 0) hx hb dX1_limit_22 (by decide) ?_
    exact W.iret (v := 0) hx hb hr (fun t ht hW => ⟨0, rfl, (by simp only [s_limit, if_pos c_1] <;> rfl), ht⟩) (fun q h => absurd h List.not_mem_nil) dX1_limit_23
  · skip
    refine lv_iload_n hx hb dX1_limit_4 rfl (lv_at hl 1 rfl) ?_
    refine lv_aload_n hx hb dX1_limit_5 rfl (lv_at hl 0 rfl) ?_
    refine va_get (D := D) (ci := 4) (v := .ref (a 2)) (C := RX1) (T := TX1) (N := 7) hx hb hts i_X1 hown hK hP 0 rfl rfl 2 (by decide) (hts _ kw_120) (fun _ h9 => h9) rfl dX1_limit_6 ?_
    refine va_alen (v := nI 3) hx hb hK hP 2 1 rfl rfl rfl dX1_limit_9 ?_
    refine lv_icmp_ge (tgt := 22) hx hb dX1_limit_10 (by decide) (fun c_2 => ?_) (fun c_2 => ?_)
    · skip
      refine lv_iconst (v := 0) hx hb dX1_limit_22 (by decide) ?_
      exact W.iret (v := 0) hx hb hr (fun t ht hW => ⟨0, rfl, (by simp only [s_limit, if_neg c_1, if_pos c_2] <;> rfl), ht⟩) (fun q h => absurd h List.not_mem_nil) dX1_limit_23
    · skip
      refine lv_aload_n hx hb dX1_limit_13 rfl (lv_at hl 0 rfl) ?_
      refine va_get (D := D) (ci := 4) (v := .ref (a 2)) (C := RX1) (T := TX1) (N := 7) hx hb hts i_X1 hown hK hP 0 rfl rfl 2 (by decide) (hts _ kw_120) (fun _ h9 => h9) rfl dX1_limit_14 ?_
      refine lv_iload_n hx hb dX1_limit_17 rfl (lv_at hl 1 rfl) ?_
      refine va_iald hx hb hK hP 2 1 rfl rfl (lim_in c_1 c_2) dX1_limit_18 ?_
      refine lv_goto (tgt := 23) hx hb dX1_limit_19 (by decide) ?_
      exact W.iret (v := st.2.1 b.toNatClampNeg) hx hb hr (fun t ht hW => ⟨st.2.1 b.toNatClampNeg, rfl, (by simp only [s_limit, if_neg c_1, if_neg c_2] <;> rfl), ht⟩) (fun q h => absurd h List.not_mem_nil) dX1_limit_23
set_option maxRecDepth 100000 in
set_option maxHeartbeats 4000000 in
theorem c_X1_sumOfLimits (l : Launch) (D : va_G) (G : GA) (a : Nat → Nat) (st : CS) (hB : st.2.2 1 = nI (nbg st)) (hB3 : nbg st ≤ 3) : Met l yX1_sumOfLimits (wA yX1_sumOfLimits cX1_sumOfLimits 3 (some .int)) ({ frames := 1, cells := 0, slots := 0, locals := 21 } : Room) (va_Pc [.ref (a 0)] (CWp D G a st)) (vp_Si (fun r => r = s_sumLimits st)) 0 0 (fun _ => False) := by
  refine Met.ofW (cc := cX1_sumOfLimits) (maxL := 3) (ret := (some .int)) (by decide) rfl ?_
  intro p e s m args below meth c s₁ B hml hv
  obtain ⟨rfl, hP, hK⟩ := hv
  have hx := B.exec
  have hb := B.bytes
  have hr := B.returns
  have hts : ∀ w9 ∈ tb, w9.before ([.ref (a 0)] : List Value).toArray s = true := fun w9 h9 => atoms_spec (ws := (wA yX1_sumOfLimits cX1_sumOfLimits 3 (some .int))) B.pre w9 (List.mem_cons_of_mem _ h9)
  have hown : s.vm.findClass RX1 = some m.cls := findClass_of_methodNamed B.named
  have hlocks := B.notSynchronized
  have hl := lv_entry ([.ref (a 0)]) (n := 3) (Nat.le_of_ble_eq_true rfl)
  rw [lg_entry_eq]
  generalize (lg_sl ([.ref (a 0)]) ++ List.replicate (3 - (lg_sl ([.ref (a 0)])).length) Slot.unset).toArray = ls at hl ⊢
  have hl : lv_has ls 3 [(0, .ref (a 0))] := hl
  refine lv_iconst (v := 0) hx hb dX1_sumOfLimits_0 (by decide) ?_
  refine lv_istore_n (lv' := [(1, .int 0), (0, .ref (a 0))]) hx hb dX1_sumOfLimits_1 rfl hl (by decide) rfl (fun ls hl => ?_)
  refine lv_iconst (v := 0) hx hb dX1_sumOfLimits_2 (by decide) ?_
  refine lv_istore_n (lv' := [(2, .int 0), (1, .int 0), (0, .ref (a 0))]) hx hb dX1_sumOfLimits_3 rfl hl (by decide) rfl (fun ls hl => ?_)
  have L4 : ∀ (n k : Nat), k + n = nbg st → ∀ ls : Array Slot, lv_has ls 3 [(2, .int (nI k)), (1, .int (lp (q_sumLimits st) k 0)), (0, .ref (a 0))] → W p l e (headSpec (wA yX1_sumOfLimits cX1_sumOfLimits 3 (some .int)) ({ frames := 1, cells := 0, slots := 0, locals := 21 } : Room)).room s m ([.ref (a 0)] : List Value).toArray below meth c s.heap [] 0 0 (MQ below (vp_Si (fun r => r = s_sumLimits st)) ([.ref (a 0)] : List Value).toArray s 0 0 (fun _ => False)) (F0 m 4 ls []) := by
    intro n
    induction n with
    | zero =>
      intro k hk0 ls hl
      obtain rfl : k = nbg st := by omega
      refine lv_iload_n hx hb dX1_sumOfLimits_4 rfl (lv_at hl 0 rfl) ?_
      refine lv_aload_n hx hb dX1_sumOfLimits_5 rfl (lv_at hl 2 rfl) ?_
      refine va_get (D := D) (ci := 4) (v := .int (st.2.2 1)) (C := RX1) (T := TX1) (N := 7) hx hb hts i_X1 hown hK hP 0 rfl rfl 4 (by decide) (hts _ kw_122) (fun _ h9 => h9) rfl dX1_sumOfLimits_6 ?_
      rw [hB]
      refine lv_icmp_ge (tgt := 26) hx hb dX1_sumOfLimits_9 (by decide) (fun _ => ?_) (fun c_1 => absurd (nI_le (a := (nbg st)) (b := (nbg st)) (by omega) (by omega)) c_1)
      refine lv_iload_n hx hb dX1_sumOfLimits_26 rfl (lv_at hl 1 rfl) ?_
      exact W.iret (v := lp (q_sumLimits st) (nbg st) 0) hx hb hr (fun t ht hW => ⟨lp (q_sumLimits st) (nbg st) 0, rfl, (by rfl), ht⟩) (fun q h => absurd h List.not_mem_nil) dX1_sumOfLimits_27
    | succ n ih =>
      intro k hk0 ls hl
      have hk12 : k < nbg st := by omega
      refine lv_iload_n hx hb dX1_sumOfLimits_4 rfl (lv_at hl 0 rfl) ?_
      refine lv_aload_n hx hb dX1_sumOfLimits_5 rfl (lv_at hl 2 rfl) ?_
      refine va_get (D := D) (ci := 4) (v := .int (st.2.2 1)) (C := RX1) (T := TX1) (N := 7) hx hb hts i_X1 hown hK hP 0 rfl rfl 4 (by decide) (hts _ kw_122) (fun _ h9 => h9) rfl dX1_sumOfLimits_6 ?_
      rw [hB]
      refine lv_icmp_ge (tgt := 26) hx hb dX1_sumOfLimits_9 (by decide) (fun c_2 => absurd c_2 (nI_ge (a := k) (b := (nbg st)) (by omega) (by omega))) (fun _ => ?_)
      refine lv_iload_n hx hb dX1_sumOfLimits_12 rfl (lv_at hl 1 rfl) ?_
      refine lv_aload_n hx hb dX1_sumOfLimits_13 rfl (lv_at hl 2 rfl) ?_
      refine lv_iload_n hx hb dX1_sumOfLimits_14 rfl (lv_at hl 0 rfl) ?_
      refine vp_callSi (va_runV (As := [.int (nI k)]) (rest := [.int (lp (q_sumLimits st) k 0)]) ⟨hx, hb, hml, hown, hts⟩ (c_X1_limit l D G a st (nI k)) (cwV 1 hts gw_X1_178 rfl rfl rfl (by decide +kernel) ⟨Nat.le_of_ble_eq_true rfl, Nat.le_of_ble_eq_true rfl⟩) (pv_cw hK hP) rfl rfl hl.1 rfl (lv_room (Nat.le_of_ble_eq_true rfl)) dX1_sumOfLimits_15 ⟨Nat.le_of_ble_eq_true rfl, Nat.le_of_ble_eq_true rfl⟩).run (nm_e ?_)
      refine lv_iadd hx hb dX1_sumOfLimits_18 ?_
      refine lv_istore_n (lv' := [(1, .int ((lp (q_sumLimits st) k 0) + (s_limit st (nI k)))), (2, .int (nI k)), (0, .ref (a 0))]) hx hb dX1_sumOfLimits_19 rfl hl (by decide) rfl (fun ls hl => ?_)
      refine lv_iinc (v := nI (k + 1)) (lv' := [(2, .int (nI (k + 1))), (1, .int ((lp (q_sumLimits st) k 0) + (s_limit st (nI k)))), (0, .ref (a 0))]) hx hb dX1_sumOfLimits_20 hl (k := 1) rfl (by exact nI_1 k) (by decide) rfl (fun ls hl => ?_)
      refine lv_goto (tgt := 4) hx hb dX1_sumOfLimits_23 (by decide) ?_
      exact ih (k + 1) (by omega) ls (by rw [show lp (q_sumLimits st) (k + 1) 0 = (lp (q_sumLimits st) k 0) + (s_limit st (nI k)) from by simp only [lp, q_sumLimits]]; exact lv_sub hl [0, 1, 2] rfl)
  exact L4 (nbg st) 0 (by omega) ls (lv_sub hl [0, 1, 2] rfl)
set_option maxRecDepth 100000 in
set_option maxHeartbeats 4000000 in
theorem c_X1_weightByItems (l : Launch) (D : va_G) (G : GA) (a : Nat → Nat) (st : CS) (b : Int32) : Met l yX1_weightByItems (wA yX1_weightByItems cX1_weightByItems 7 (some .int)) ({ frames := 0, cells := 0, slots := 0, locals := 0 } : Room) (va_Pc [.ref (a 0), .int b] (CWp D G a st)) (vp_Si (fun r => r = s_weightByItems st b)) 0 0 (fun _ => False) := by
  refine Met.ofW (cc := cX1_weightByItems) (maxL := 7) (ret := (some .int)) (by decide) rfl ?_
  intro p e s m args below meth c s₁ B hml hv
  obtain ⟨rfl, hP, hK⟩ := hv
  have hx := B.exec
  have hb := B.bytes
  have hr := B.returns
  have hts : ∀ w9 ∈ tb, w9.before ([.ref (a 0), .int b] : List Value).toArray s = true := fun w9 h9 => atoms_spec (ws := (wA yX1_weightByItems cX1_weightByItems 7 (some .int))) B.pre w9 (List.mem_cons_of_mem _ h9)
  have hown : s.vm.findClass RX1 = some m.cls := findClass_of_methodNamed B.named
  have hlocks := B.notSynchronized
  have hl := lv_entry ([.ref (a 0), .int b]) (n := 7) (Nat.le_of_ble_eq_true rfl)
  rw [lg_entry_eq]
  generalize (lg_sl ([.ref (a 0), .int b]) ++ List.replicate (7 - (lg_sl ([.ref (a 0), .int b])).length) Slot.unset).toArray = ls at hl ⊢
  have hl : lv_has ls 7 [(0, .ref (a 0)), (1, .int b)] := hl
  refine lv_iconst (v := 0) hx hb dX1_weightByItems_0 (by decide) ?_
  refine lv_istore_n (lv' := [(2, .int 0), (0, .ref (a 0)), (1, .int b)]) hx hb dX1_weightByItems_1 rfl hl (by decide) rfl (fun ls hl => ?_)
  refine lv_aload_n hx hb dX1_weightByItems_2 rfl (lv_at hl 1 rfl) ?_
  refine va_get (D := D) (ci := 4) (v := .ref (a 1)) (C := RX1) (T := TX1) (N := 7) hx hb hts i_X1 hown hK hP 0 rfl rfl 0 (by decide) (hts _ kw_118) (fun _ h9 => h9) rfl dX1_weightByItems_3 ?_
  refine lv_astore_n (x := (a 1)) (lv' := [(3, .ref (a 1)), (2, .int 0), (0, .ref (a 0)), (1, .int b)]) hx hb dX1_weightByItems_6 rfl hl (by decide) rfl (fun ls hl => ?_)
  refine lv_aload_n hx hb dX1_weightByItems_7 rfl (lv_at hl 0 rfl) ?_
  refine va_alen (v := nI 12) hx hb hK hP 1 0 rfl rfl rfl dX1_weightByItems_8 ?_
  refine lv_istore (lv' := [(4, .int (nI 12)), (3, .ref (a 1)), (2, .int 0), (0, .ref (a 0)), (1, .int b)]) hx hb dX1_weightByItems_9 hl (by decide) rfl (fun ls hl => ?_)
  refine lv_iconst (v := 0) hx hb dX1_weightByItems_11 (by decide) ?_
  refine lv_istore (lv' := [(5, .int 0), (4, .int (nI 12)), (3, .ref (a 1)), (2, .int 0), (0, .ref (a 0)), (1, .int b)]) hx hb dX1_weightByItems_12 hl (by decide) rfl (fun ls hl => ?_)
  have L14 : ∀ (n k : Nat), k + n = 12 → ∀ ls : Array Slot, lv_has ls 7 [(5, .int (nI k)), (4, .int (nI 12)), (3, .ref (a 1)), (2, .int (lp (q_weightByItems st b) k 0)), (0, .ref (a 0)), (1, .int b)] → W p l e (headSpec (wA yX1_weightByItems cX1_weightByItems 7 (some .int)) ({ frames := 0, cells := 0, slots := 0, locals := 0 } : Room)).room s m ([.ref (a 0), .int b] : List Value).toArray below meth c s.heap [] 0 0 (MQ below (vp_Si (fun r => r = s_weightByItems st b)) ([.ref (a 0), .int b] : List Value).toArray s 0 0 (fun _ => False)) (F0 m 14 ls []) := by
    intro n
    induction n with
    | zero =>
      intro k hk0 ls hl
      obtain rfl : k = 12 := by omega
      refine lv_iload hx hb dX1_weightByItems_14 (lv_at hl 0 rfl) ?_
      refine lv_iload hx hb dX1_weightByItems_16 (lv_at hl 1 rfl) ?_
      refine lv_icmp_ge (tgt := 50) hx hb dX1_weightByItems_18 (by decide) (fun _ => ?_) (fun c_1 => absurd (nI_le (a := 12) (b := 12) (by omega) (by omega)) c_1)
      refine lv_iload_n hx hb dX1_weightByItems_50 rfl (lv_at hl 3 rfl) ?_
      exact W.iret (v := lp (q_weightByItems st b) 12 0) hx hb hr (fun t ht hW => ⟨lp (q_weightByItems st b) 12 0, rfl, (by rfl), ht⟩) (fun q h => absurd h List.not_mem_nil) dX1_weightByItems_51
    | succ n ih =>
      intro k hk0 ls hl
      have hk12 : k < 12 := by omega
      refine lv_iload hx hb dX1_weightByItems_14 (lv_at hl 0 rfl) ?_
      refine lv_iload hx hb dX1_weightByItems_16 (lv_at hl 1 rfl) ?_
      refine lv_icmp_ge (tgt := 50) hx hb dX1_weightByItems_18 (by decide) (fun c_2 => absurd c_2 (nI_ge (a := k) (b := 12) (by omega) (by omega))) (fun _ => ?_)
      refine lv_aload_n hx hb dX1_weightByItems_21 rfl (lv_at hl 2 rfl) ?_
      refine lv_iload hx hb dX1_weightByItems_22 (lv_at hl 0 rfl) ?_
      refine va_aldq hx hb hK hP 1 0 rfl rfl (vp_in_nI (by omega) (by decide)) dX1_weightByItems_24 ?_
      rw [nI_clamp (n := k) (by omega)]
      refine lv_astore (x := (a (3 + k))) (lv' := [(6, .ref (a (3 + k))), (5, .int (nI k)), (4, .int (nI 12)), (3, .ref (a 1)), (2, .int (lp (q_weightByItems st b) k 0)), (0, .ref (a 0)), (1, .int b)]) hx hb dX1_weightByItems_25 hl (by decide) rfl (fun ls hl => ?_)
      refine lv_aload hx hb dX1_weightByItems_27 (lv_at hl 0 rfl) ?_
      refine va_get (D := D) (ci := 6) (v := .int (itm st k 5)) (C := RX4) (T := TX4) (N := 8) hx hb hts i_X4 hown hK hP (3 + k) (cw_it G a st (by omega)) rfl 5 (by decide) (hts _ kw_94) (fun _ h9 => h9) rfl dX1_weightByItems_29 ?_
      refine lv_iload_n hx hb dX1_weightByItems_32 rfl (lv_at hl 6 rfl) ?_
      refine lv_icmp_ne (tgt := 44) hx hb dX1_weightByItems_33 (by decide) (fun c_3 => ?_) (fun c_3 => ?_)
      · skip
        refine lv_iinc (v := nI (k + 1)) (lv' := [(5, .int (nI (k + 1))), (6, .ref (a (3 + k))), (4, .int (nI 12)), (3, .ref (a 1)), (2, .int (lp (q_weightByItems st b) k 0)), (0, .ref (a 0)), (1, .int b)]) hx hb dX1_weightByItems_44 hl (k := 1) rfl (by exact nI_1 k) (by decide) rfl (fun ls hl => ?_)
        refine lv_goto (tgt := 14) hx hb dX1_weightByItems_47 (by decide) ?_
        exact ih (k + 1) (by omega) ls (by rw [show lp (q_weightByItems st b) (k + 1) 0 = lp (q_weightByItems st b) k 0 from by simp only [lp, q_weightByItems, if_neg c_3]]; exact lv_sub hl [0, 2, 3, 4, 5, 6] rfl)
      · skip
        refine lv_iload_n hx hb dX1_weightByItems_36 rfl (lv_at hl 4 rfl) ?_
        refine lv_aload hx hb dX1_weightByItems_37 (lv_at hl 0 rfl) ?_
        refine va_get (D := D) (ci := 6) (v := .int (itm st k 2)) (C := RX4) (T := TX4) (N := 8) hx hb hts i_X4 hown hK hP (3 + k) (cw_it G a st (by omega)) rfl 2 (by decide) (hts _ kw_85) (fun _ h9 => h9) rfl dX1_weightByItems_39 ?_
        refine lv_iadd hx hb dX1_weightByItems_42 ?_
        refine lv_istore_n (lv' := [(2, .int ((lp (q_weightByItems st b) k 0) + (itm st k 2))), (6, .ref (a (3 + k))), (5, .int (nI k)), (4, .int (nI 12)), (3, .ref (a 1)), (0, .ref (a 0)), (1, .int b)]) hx hb dX1_weightByItems_43 rfl hl (by decide) rfl (fun ls hl => ?_)
        refine lv_iinc (v := nI (k + 1)) (lv' := [(5, .int (nI (k + 1))), (2, .int ((lp (q_weightByItems st b) k 0) + (itm st k 2))), (6, .ref (a (3 + k))), (4, .int (nI 12)), (3, .ref (a 1)), (0, .ref (a 0)), (1, .int b)]) hx hb dX1_weightByItems_44 hl (k := 2) rfl (by exact nI_1 k) (by decide) rfl (fun ls hl => ?_)
        refine lv_goto (tgt := 14) hx hb dX1_weightByItems_47 (by decide) ?_
        exact ih (k + 1) (by omega) ls (by rw [show lp (q_weightByItems st b) (k + 1) 0 = (lp (q_weightByItems st b) k 0) + (itm st k 2) from by simp only [lp, q_weightByItems, if_pos c_3]]; exact lv_sub hl [0, 3, 4, 1, 5, 6] rfl)
  exact L14 12 0 rfl ls (lv_sub hl [0, 1, 2, 3, 4, 5] rfl)
set_option maxRecDepth 100000 in
set_option maxHeartbeats 4000000 in
theorem c_X1_countLayers (l : Launch) (D : va_G) (G : GA) (a : Nat → Nat) (st : CS) (b : Int32) : Met l yX1_countLayers (wA yX1_countLayers cX1_countLayers 7 (some .int)) ({ frames := 1, cells := 0, slots := 0, locals := 21 } : Room) (va_Pc [.ref (a 0), .int b] (CWp D G a st)) (vp_Si (fun r => r = s_countLayers st b)) 0 0 (fun _ => False) := by
  refine Met.ofW (cc := cX1_countLayers) (maxL := 7) (ret := (some .int)) (by decide) rfl ?_
  intro p e s m args below meth c s₁ B hml hv
  obtain ⟨rfl, hP, hK⟩ := hv
  have hx := B.exec
  have hb := B.bytes
  have hr := B.returns
  have hts : ∀ w9 ∈ tb, w9.before ([.ref (a 0), .int b] : List Value).toArray s = true := fun w9 h9 => atoms_spec (ws := (wA yX1_countLayers cX1_countLayers 7 (some .int))) B.pre w9 (List.mem_cons_of_mem _ h9)
  have hown : s.vm.findClass RX1 = some m.cls := findClass_of_methodNamed B.named
  have hlocks := B.notSynchronized
  have hl := lv_entry ([.ref (a 0), .int b]) (n := 7) (Nat.le_of_ble_eq_true rfl)
  rw [lg_entry_eq]
  generalize (lg_sl ([.ref (a 0), .int b]) ++ List.replicate (7 - (lg_sl ([.ref (a 0), .int b])).length) Slot.unset).toArray = ls at hl ⊢
  have hl : lv_has ls 7 [(0, .ref (a 0)), (1, .int b)] := hl
  refine lv_iconst (v := 0) hx hb dX1_countLayers_0 (by decide) ?_
  refine lv_istore_n (lv' := [(2, .int 0), (0, .ref (a 0)), (1, .int b)]) hx hb dX1_countLayers_1 rfl hl (by decide) rfl (fun ls hl => ?_)
  refine lv_aload_n hx hb dX1_countLayers_2 rfl (lv_at hl 1 rfl) ?_
  refine va_get (D := D) (ci := 4) (v := .ref (a 1)) (C := RX1) (T := TX1) (N := 7) hx hb hts i_X1 hown hK hP 0 rfl rfl 0 (by decide) (hts _ kw_118) (fun _ h9 => h9) rfl dX1_countLayers_3 ?_
  refine lv_astore_n (x := (a 1)) (lv' := [(3, .ref (a 1)), (2, .int 0), (0, .ref (a 0)), (1, .int b)]) hx hb dX1_countLayers_6 rfl hl (by decide) rfl (fun ls hl => ?_)
  refine lv_aload_n hx hb dX1_countLayers_7 rfl (lv_at hl 0 rfl) ?_
  refine va_alen (v := nI 12) hx hb hK hP 1 0 rfl rfl rfl dX1_countLayers_8 ?_
  refine lv_istore (lv' := [(4, .int (nI 12)), (3, .ref (a 1)), (2, .int 0), (0, .ref (a 0)), (1, .int b)]) hx hb dX1_countLayers_9 hl (by decide) rfl (fun ls hl => ?_)
  refine lv_iconst (v := 0) hx hb dX1_countLayers_11 (by decide) ?_
  refine lv_istore (lv' := [(5, .int 0), (4, .int (nI 12)), (3, .ref (a 1)), (2, .int 0), (0, .ref (a 0)), (1, .int b)]) hx hb dX1_countLayers_12 hl (by decide) rfl (fun ls hl => ?_)
  have L14 : ∀ (n k : Nat), k + n = 12 → ∀ ls : Array Slot, lv_has ls 7 [(5, .int (nI k)), (4, .int (nI 12)), (3, .ref (a 1)), (2, .int (lp (q_countLayers st b) k 0)), (0, .ref (a 0)), (1, .int b)] → W p l e (headSpec (wA yX1_countLayers cX1_countLayers 7 (some .int)) ({ frames := 1, cells := 0, slots := 0, locals := 21 } : Room)).room s m ([.ref (a 0), .int b] : List Value).toArray below meth c s.heap [] 0 0 (MQ below (vp_Si (fun r => r = s_countLayers st b)) ([.ref (a 0), .int b] : List Value).toArray s 0 0 (fun _ => False)) (F0 m 14 ls []) := by
    intro n
    induction n with
    | zero =>
      intro k hk0 ls hl
      obtain rfl : k = 12 := by omega
      refine lv_iload hx hb dX1_countLayers_14 (lv_at hl 0 rfl) ?_
      refine lv_iload hx hb dX1_countLayers_16 (lv_at hl 1 rfl) ?_
      refine lv_icmp_ge (tgt := 54) hx hb dX1_countLayers_18 (by decide) (fun _ => ?_) (fun c_1 => absurd (nI_le (a := 12) (b := 12) (by omega) (by omega)) c_1)
      refine lv_iload_n hx hb dX1_countLayers_54 rfl (lv_at hl 3 rfl) ?_
      exact W.iret (v := lp (q_countLayers st b) 12 0) hx hb hr (fun t ht hW => ⟨lp (q_countLayers st b) 12 0, rfl, (by rfl), ht⟩) (fun q h => absurd h List.not_mem_nil) dX1_countLayers_55
    | succ n ih =>
      intro k hk0 ls hl
      have hk12 : k < 12 := by omega
      refine lv_iload hx hb dX1_countLayers_14 (lv_at hl 0 rfl) ?_
      refine lv_iload hx hb dX1_countLayers_16 (lv_at hl 1 rfl) ?_
      refine lv_icmp_ge (tgt := 54) hx hb dX1_countLayers_18 (by decide) (fun c_2 => absurd c_2 (nI_ge (a := k) (b := 12) (by omega) (by omega))) (fun _ => ?_)
      refine lv_aload_n hx hb dX1_countLayers_21 rfl (lv_at hl 2 rfl) ?_
      refine lv_iload hx hb dX1_countLayers_22 (lv_at hl 0 rfl) ?_
      refine va_aldq hx hb hK hP 1 0 rfl rfl (vp_in_nI (by omega) (by decide)) dX1_countLayers_24 ?_
      rw [nI_clamp (n := k) (by omega)]
      refine lv_astore (x := (a (3 + k))) (lv' := [(6, .ref (a (3 + k))), (5, .int (nI k)), (4, .int (nI 12)), (3, .ref (a 1)), (2, .int (lp (q_countLayers st b) k 0)), (0, .ref (a 0)), (1, .int b)]) hx hb dX1_countLayers_25 hl (by decide) rfl (fun ls hl => ?_)
      refine lv_aload hx hb dX1_countLayers_27 (lv_at hl 0 rfl) ?_
      refine va_get (D := D) (ci := 6) (v := .int (itm st k 5)) (C := RX4) (T := TX4) (N := 8) hx hb hts i_X4 hown hK hP (3 + k) (cw_it G a st (by omega)) rfl 5 (by decide) (hts _ kw_94) (fun _ h9 => h9) rfl dX1_countLayers_29 ?_
      refine lv_iload_n hx hb dX1_countLayers_32 rfl (lv_at hl 6 rfl) ?_
      refine lv_icmp_ne (tgt := 48) hx hb dX1_countLayers_33 (by decide) (fun c_3 => ?_) (fun c_3 => ?_)
      · skip
        refine lv_iinc (v := nI (k + 1)) (lv' := [(5, .int (nI (k + 1))), (6, .ref (a (3 + k))), (4, .int (nI 12)), (3, .ref (a 1)), (2, .int (lp (q_countLayers st b) k 0)), (0, .ref (a 0)), (1, .int b)]) hx hb dX1_countLayers_48 hl (k := 1) rfl (by exact nI_1 k) (by decide) rfl (fun ls hl => ?_)
        refine lv_goto (tgt := 14) hx hb dX1_countLayers_51 (by decide) ?_
        exact ih (k + 1) (by omega) ls (by rw [show lp (q_countLayers st b) (k + 1) 0 = lp (q_countLayers st b) k 0 from by simp only [lp, q_countLayers, if_neg c_3]]; exact lv_sub hl [0, 2, 3, 4, 5, 6] rfl)
      · skip
        refine lv_iload_n hx hb dX1_countLayers_36 rfl (lv_at hl 4 rfl) ?_
        refine lv_aload hx hb dX1_countLayers_37 (lv_at hl 0 rfl) ?_
        refine va_get (D := D) (ci := 6) (v := .int (itm st k 6)) (C := RX4) (T := TX4) (N := 8) hx hb hts i_X4 hown hK hP (3 + k) (cw_it G a st (by omega)) rfl 6 (by decide) (hts _ kw_97) (fun _ h9 => h9) rfl dX1_countLayers_39 ?_
        refine lv_iconst (v := 1) hx hb dX1_countLayers_42 (by decide) ?_
        refine lv_iadd hx hb dX1_countLayers_43 ?_
        refine va_mmax hx hb (hml.trans hl.1.symm) hown (hts _ kw_561) (hts _ kw_562) (hts _ kw_46) (hts _ kw_563) (Nat.le_of_ble_eq_true rfl) (Nat.le_of_ble_eq_true rfl) (Nat.le_of_ble_eq_true rfl) (Nat.le_of_ble_eq_true rfl) dX1_countLayers_44 ?_
        refine lv_istore_n (lv' := [(2, .int (if lp (q_countLayers st b) k 0 < (itm st k 6) + 1 then (itm st k 6) + 1 else lp (q_countLayers st b) k 0)), (6, .ref (a (3 + k))), (5, .int (nI k)), (4, .int (nI 12)), (3, .ref (a 1)), (0, .ref (a 0)), (1, .int b)]) hx hb dX1_countLayers_47 rfl hl (by decide) rfl (fun ls hl => ?_)
        refine lv_iinc (v := nI (k + 1)) (lv' := [(5, .int (nI (k + 1))), (2, .int (if lp (q_countLayers st b) k 0 < (itm st k 6) + 1 then (itm st k 6) + 1 else lp (q_countLayers st b) k 0)), (6, .ref (a (3 + k))), (4, .int (nI 12)), (3, .ref (a 1)), (0, .ref (a 0)), (1, .int b)]) hx hb dX1_countLayers_48 hl (k := 2) rfl (by exact nI_1 k) (by decide) rfl (fun ls hl => ?_)
        refine lv_goto (tgt := 14) hx hb dX1_countLayers_51 (by decide) ?_
        exact ih (k + 1) (by omega) ls (by rw [show lp (q_countLayers st b) (k + 1) 0 = (if lp (q_countLayers st b) k 0 < (itm st k 6) + 1 then (itm st k 6) + 1 else lp (q_countLayers st b) k 0) from by simp only [lp, q_countLayers, if_pos c_3]]; exact lv_sub hl [0, 3, 4, 1, 5, 6] rfl)
  exact L14 12 0 rfl ls (lv_sub hl [0, 1, 2, 3, 4, 5] rfl)
set_option maxRecDepth 100000 in
set_option maxHeartbeats 4000000 in
theorem c_X1_countInLayer (l : Launch) (D : va_G) (G : GA) (a : Nat → Nat) (st : CS) (b : Int32) (w : Int32) : Met l yX1_countInLayer (wA yX1_countInLayer cX1_countInLayer 8 (some .int)) ({ frames := 0, cells := 0, slots := 0, locals := 0 } : Room) (va_Pc [.ref (a 0), .int b, .int w] (CWp D G a st)) (vp_Si (fun r => r = s_countInLayer st b w)) 0 0 (fun _ => False) := by
  refine Met.ofW (cc := cX1_countInLayer) (maxL := 8) (ret := (some .int)) (by decide) rfl ?_
  intro p e s m args below meth c s₁ B hml hv
  obtain ⟨rfl, hP, hK⟩ := hv
  have hx := B.exec
  have hb := B.bytes
  have hr := B.returns
  have hts : ∀ w9 ∈ tb, w9.before ([.ref (a 0), .int b, .int w] : List Value).toArray s = true := fun w9 h9 => atoms_spec (ws := (wA yX1_countInLayer cX1_countInLayer 8 (some .int))) B.pre w9 (List.mem_cons_of_mem _ h9)
  have hown : s.vm.findClass RX1 = some m.cls := findClass_of_methodNamed B.named
  have hlocks := B.notSynchronized
  have hl := lv_entry ([.ref (a 0), .int b, .int w]) (n := 8) (Nat.le_of_ble_eq_true rfl)
  rw [lg_entry_eq]
  generalize (lg_sl ([.ref (a 0), .int b, .int w]) ++ List.replicate (8 - (lg_sl ([.ref (a 0), .int b, .int w])).length) Slot.unset).toArray = ls at hl ⊢
  have hl : lv_has ls 8 [(0, .ref (a 0)), (1, .int b), (2, .int w)] := hl
  refine lv_iconst (v := 0) hx hb dX1_countInLayer_0 (by decide) ?_
  refine lv_istore_n (lv' := [(3, .int 0), (0, .ref (a 0)), (1, .int b), (2, .int w)]) hx hb dX1_countInLayer_1 rfl hl (by decide) rfl (fun ls hl => ?_)
  refine lv_aload_n hx hb dX1_countInLayer_2 rfl (lv_at hl 1 rfl) ?_
  refine va_get (D := D) (ci := 4) (v := .ref (a 1)) (C := RX1) (T := TX1) (N := 7) hx hb hts i_X1 hown hK hP 0 rfl rfl 0 (by decide) (hts _ kw_118) (fun _ h9 => h9) rfl dX1_countInLayer_3 ?_
  refine lv_astore (x := (a 1)) (lv' := [(4, .ref (a 1)), (3, .int 0), (0, .ref (a 0)), (1, .int b), (2, .int w)]) hx hb dX1_countInLayer_6 hl (by decide) rfl (fun ls hl => ?_)
  refine lv_aload hx hb dX1_countInLayer_8 (lv_at hl 0 rfl) ?_
  refine va_alen (v := nI 12) hx hb hK hP 1 0 rfl rfl rfl dX1_countInLayer_10 ?_
  refine lv_istore (lv' := [(5, .int (nI 12)), (4, .ref (a 1)), (3, .int 0), (0, .ref (a 0)), (1, .int b), (2, .int w)]) hx hb dX1_countInLayer_11 hl (by decide) rfl (fun ls hl => ?_)
  refine lv_iconst (v := 0) hx hb dX1_countInLayer_13 (by decide) ?_
  refine lv_istore (lv' := [(6, .int 0), (5, .int (nI 12)), (4, .ref (a 1)), (3, .int 0), (0, .ref (a 0)), (1, .int b), (2, .int w)]) hx hb dX1_countInLayer_14 hl (by decide) rfl (fun ls hl => ?_)
  have L16 : ∀ (n k : Nat), k + n = 12 → ∀ ls : Array Slot, lv_has ls 8 [(6, .int (nI k)), (5, .int (nI 12)), (4, .ref (a 1)), (3, .int (lp (q_countInLayer st b w) k 0)), (0, .ref (a 0)), (1, .int b), (2, .int w)] → W p l e (headSpec (wA yX1_countInLayer cX1_countInLayer 8 (some .int)) ({ frames := 0, cells := 0, slots := 0, locals := 0 } : Room)).room s m ([.ref (a 0), .int b, .int w] : List Value).toArray below meth c s.heap [] 0 0 (MQ below (vp_Si (fun r => r = s_countInLayer st b w)) ([.ref (a 0), .int b, .int w] : List Value).toArray s 0 0 (fun _ => False)) (F0 m 16 ls []) := by
    intro n
    induction n with
    | zero =>
      intro k hk0 ls hl
      obtain rfl : k = 12 := by omega
      refine lv_iload hx hb dX1_countInLayer_16 (lv_at hl 0 rfl) ?_
      refine lv_iload hx hb dX1_countInLayer_18 (lv_at hl 1 rfl) ?_
      refine lv_icmp_ge (tgt := 57) hx hb dX1_countInLayer_20 (by decide) (fun _ => ?_) (fun c_1 => absurd (nI_le (a := 12) (b := 12) (by omega) (by omega)) c_1)
      refine lv_iload_n hx hb dX1_countInLayer_57 rfl (lv_at hl 3 rfl) ?_
      exact W.iret (v := lp (q_countInLayer st b w) 12 0) hx hb hr (fun t ht hW => ⟨lp (q_countInLayer st b w) 12 0, rfl, (by rfl), ht⟩) (fun q h => absurd h List.not_mem_nil) dX1_countInLayer_58
    | succ n ih =>
      intro k hk0 ls hl
      have hk12 : k < 12 := by omega
      refine lv_iload hx hb dX1_countInLayer_16 (lv_at hl 0 rfl) ?_
      refine lv_iload hx hb dX1_countInLayer_18 (lv_at hl 1 rfl) ?_
      refine lv_icmp_ge (tgt := 57) hx hb dX1_countInLayer_20 (by decide) (fun c_2 => absurd c_2 (nI_ge (a := k) (b := 12) (by omega) (by omega))) (fun _ => ?_)
      refine lv_aload hx hb dX1_countInLayer_23 (lv_at hl 2 rfl) ?_
      refine lv_iload hx hb dX1_countInLayer_25 (lv_at hl 0 rfl) ?_
      refine va_aldq hx hb hK hP 1 0 rfl rfl (vp_in_nI (by omega) (by decide)) dX1_countInLayer_27 ?_
      rw [nI_clamp (n := k) (by omega)]
      refine lv_astore (x := (a (3 + k))) (lv' := [(7, .ref (a (3 + k))), (6, .int (nI k)), (5, .int (nI 12)), (4, .ref (a 1)), (3, .int (lp (q_countInLayer st b w) k 0)), (0, .ref (a 0)), (1, .int b), (2, .int w)]) hx hb dX1_countInLayer_28 hl (by decide) rfl (fun ls hl => ?_)
      refine lv_aload hx hb dX1_countInLayer_30 (lv_at hl 0 rfl) ?_
      refine va_get (D := D) (ci := 6) (v := .int (itm st k 5)) (C := RX4) (T := TX4) (N := 8) hx hb hts i_X4 hown hK hP (3 + k) (cw_it G a st (by omega)) rfl 5 (by decide) (hts _ kw_94) (fun _ h9 => h9) rfl dX1_countInLayer_32 ?_
      refine lv_iload_n hx hb dX1_countInLayer_35 rfl (lv_at hl 6 rfl) ?_
      refine lv_icmp_ne (tgt := 51) hx hb dX1_countInLayer_36 (by decide) (fun c_3 => ?_) (fun c_3 => ?_)
      · skip
        refine lv_iinc (v := nI (k + 1)) (lv' := [(6, .int (nI (k + 1))), (7, .ref (a (3 + k))), (5, .int (nI 12)), (4, .ref (a 1)), (3, .int (lp (q_countInLayer st b w) k 0)), (0, .ref (a 0)), (1, .int b), (2, .int w)]) hx hb dX1_countInLayer_51 hl (k := 1) rfl (by exact nI_1 k) (by decide) rfl (fun ls hl => ?_)
        refine lv_goto (tgt := 16) hx hb dX1_countInLayer_54 (by decide) ?_
        exact ih (k + 1) (by omega) ls (by rw [show lp (q_countInLayer st b w) (k + 1) 0 = lp (q_countInLayer st b w) k 0 from by simp only [lp, q_countInLayer, if_neg c_3]]; exact lv_sub hl [0, 2, 3, 4, 5, 6, 7] rfl)
      · skip
        refine lv_aload hx hb dX1_countInLayer_39 (lv_at hl 0 rfl) ?_
        refine va_get (D := D) (ci := 6) (v := .int (itm st k 6)) (C := RX4) (T := TX4) (N := 8) hx hb hts i_X4 hown hK hP (3 + k) (cw_it G a st (by omega)) rfl 6 (by decide) (hts _ kw_97) (fun _ h9 => h9) rfl dX1_countInLayer_41 ?_
        refine lv_iload_n hx hb dX1_countInLayer_44 rfl (lv_at hl 7 rfl) ?_
        refine lv_icmp_ne (tgt := 51) hx hb dX1_countInLayer_45 (by decide) (fun c_4 => ?_) (fun c_4 => ?_)
        · skip
          refine lv_iinc (v := nI (k + 1)) (lv' := [(6, .int (nI (k + 1))), (7, .ref (a (3 + k))), (5, .int (nI 12)), (4, .ref (a 1)), (3, .int (lp (q_countInLayer st b w) k 0)), (0, .ref (a 0)), (1, .int b), (2, .int w)]) hx hb dX1_countInLayer_51 hl (k := 1) rfl (by exact nI_1 k) (by decide) rfl (fun ls hl => ?_)
          refine lv_goto (tgt := 16) hx hb dX1_countInLayer_54 (by decide) ?_
          exact ih (k + 1) (by omega) ls (by rw [show lp (q_countInLayer st b w) (k + 1) 0 = lp (q_countInLayer st b w) k 0 from by simp only [lp, q_countInLayer, if_pos c_3, if_neg c_4]]; exact lv_sub hl [0, 2, 3, 4, 5, 6, 7] rfl)
        · skip
          refine lv_iinc (v := (lp (q_countInLayer st b w) k 0) + 1) (lv' := [(3, .int ((lp (q_countInLayer st b w) k 0) + 1)), (7, .ref (a (3 + k))), (6, .int (nI k)), (5, .int (nI 12)), (4, .ref (a 1)), (0, .ref (a 0)), (1, .int b), (2, .int w)]) hx hb dX1_countInLayer_48 hl (k := 4) rfl rfl (by decide) rfl (fun ls hl => ?_)
          refine lv_iinc (v := nI (k + 1)) (lv' := [(6, .int (nI (k + 1))), (3, .int ((lp (q_countInLayer st b w) k 0) + 1)), (7, .ref (a (3 + k))), (5, .int (nI 12)), (4, .ref (a 1)), (0, .ref (a 0)), (1, .int b), (2, .int w)]) hx hb dX1_countInLayer_51 hl (k := 2) rfl (by exact nI_1 k) (by decide) rfl (fun ls hl => ?_)
          refine lv_goto (tgt := 16) hx hb dX1_countInLayer_54 (by decide) ?_
          exact ih (k + 1) (by omega) ls (by rw [show lp (q_countInLayer st b w) (k + 1) 0 = (lp (q_countInLayer st b w) k 0) + 1 from by simp only [lp, q_countInLayer, if_pos c_3, if_pos c_4]]; exact lv_sub hl [0, 3, 4, 1, 5, 6, 7] rfl)
  exact L16 12 0 rfl ls (lv_sub hl [0, 1, 2, 3, 4, 5, 6] rfl)
set_option maxRecDepth 100000 in
set_option maxHeartbeats 4000000 in
theorem c_X1_sizeOfLayer (l : Launch) (D : va_G) (G : GA) (a : Nat → Nat) (st : CS) (b : Int32) (w : Int32) : Met l yX1_sizeOfLayer (wA yX1_sizeOfLayer cX1_sizeOfLayer 8 (some .int)) ({ frames := 0, cells := 0, slots := 0, locals := 0 } : Room) (va_Pc [.ref (a 0), .int b, .int w] (CWp D G a st)) (vp_Si (fun r => r = s_sizeOfLayer st b w)) 0 0 (fun _ => False) := by
  refine Met.ofW (cc := cX1_sizeOfLayer) (maxL := 8) (ret := (some .int)) (by decide) rfl ?_
  intro p e s m args below meth c s₁ B hml hv
  obtain ⟨rfl, hP, hK⟩ := hv
  have hx := B.exec
  have hb := B.bytes
  have hr := B.returns
  have hts : ∀ w9 ∈ tb, w9.before ([.ref (a 0), .int b, .int w] : List Value).toArray s = true := fun w9 h9 => atoms_spec (ws := (wA yX1_sizeOfLayer cX1_sizeOfLayer 8 (some .int))) B.pre w9 (List.mem_cons_of_mem _ h9)
  have hown : s.vm.findClass RX1 = some m.cls := findClass_of_methodNamed B.named
  have hlocks := B.notSynchronized
  have hl := lv_entry ([.ref (a 0), .int b, .int w]) (n := 8) (Nat.le_of_ble_eq_true rfl)
  rw [lg_entry_eq]
  generalize (lg_sl ([.ref (a 0), .int b, .int w]) ++ List.replicate (8 - (lg_sl ([.ref (a 0), .int b, .int w])).length) Slot.unset).toArray = ls at hl ⊢
  have hl : lv_has ls 8 [(0, .ref (a 0)), (1, .int b), (2, .int w)] := hl
  refine lv_iconst (v := 0) hx hb dX1_sizeOfLayer_0 (by decide) ?_
  refine lv_istore_n (lv' := [(3, .int 0), (0, .ref (a 0)), (1, .int b), (2, .int w)]) hx hb dX1_sizeOfLayer_1 rfl hl (by decide) rfl (fun ls hl => ?_)
  refine lv_aload_n hx hb dX1_sizeOfLayer_2 rfl (lv_at hl 1 rfl) ?_
  refine va_get (D := D) (ci := 4) (v := .ref (a 1)) (C := RX1) (T := TX1) (N := 7) hx hb hts i_X1 hown hK hP 0 rfl rfl 0 (by decide) (hts _ kw_118) (fun _ h9 => h9) rfl dX1_sizeOfLayer_3 ?_
  refine lv_astore (x := (a 1)) (lv' := [(4, .ref (a 1)), (3, .int 0), (0, .ref (a 0)), (1, .int b), (2, .int w)]) hx hb dX1_sizeOfLayer_6 hl (by decide) rfl (fun ls hl => ?_)
  refine lv_aload hx hb dX1_sizeOfLayer_8 (lv_at hl 0 rfl) ?_
  refine va_alen (v := nI 12) hx hb hK hP 1 0 rfl rfl rfl dX1_sizeOfLayer_10 ?_
  refine lv_istore (lv' := [(5, .int (nI 12)), (4, .ref (a 1)), (3, .int 0), (0, .ref (a 0)), (1, .int b), (2, .int w)]) hx hb dX1_sizeOfLayer_11 hl (by decide) rfl (fun ls hl => ?_)
  refine lv_iconst (v := 0) hx hb dX1_sizeOfLayer_13 (by decide) ?_
  refine lv_istore (lv' := [(6, .int 0), (5, .int (nI 12)), (4, .ref (a 1)), (3, .int 0), (0, .ref (a 0)), (1, .int b), (2, .int w)]) hx hb dX1_sizeOfLayer_14 hl (by decide) rfl (fun ls hl => ?_)
  have L16 : ∀ (n k : Nat), k + n = 12 → ∀ ls : Array Slot, lv_has ls 8 [(6, .int (nI k)), (5, .int (nI 12)), (4, .ref (a 1)), (3, .int (lp (q_sizeOfLayer st b w) k 0)), (0, .ref (a 0)), (1, .int b), (2, .int w)] → W p l e (headSpec (wA yX1_sizeOfLayer cX1_sizeOfLayer 8 (some .int)) ({ frames := 0, cells := 0, slots := 0, locals := 0 } : Room)).room s m ([.ref (a 0), .int b, .int w] : List Value).toArray below meth c s.heap [] 0 0 (MQ below (vp_Si (fun r => r = s_sizeOfLayer st b w)) ([.ref (a 0), .int b, .int w] : List Value).toArray s 0 0 (fun _ => False)) (F0 m 16 ls []) := by
    intro n
    induction n with
    | zero =>
      intro k hk0 ls hl
      obtain rfl : k = 12 := by omega
      refine lv_iload hx hb dX1_sizeOfLayer_16 (lv_at hl 0 rfl) ?_
      refine lv_iload hx hb dX1_sizeOfLayer_18 (lv_at hl 1 rfl) ?_
      refine lv_icmp_ge (tgt := 62) hx hb dX1_sizeOfLayer_20 (by decide) (fun _ => ?_) (fun c_1 => absurd (nI_le (a := 12) (b := 12) (by omega) (by omega)) c_1)
      refine lv_iload_n hx hb dX1_sizeOfLayer_62 rfl (lv_at hl 3 rfl) ?_
      exact W.iret (v := lp (q_sizeOfLayer st b w) 12 0) hx hb hr (fun t ht hW => ⟨lp (q_sizeOfLayer st b w) 12 0, rfl, (by rfl), ht⟩) (fun q h => absurd h List.not_mem_nil) dX1_sizeOfLayer_63
    | succ n ih =>
      intro k hk0 ls hl
      have hk12 : k < 12 := by omega
      refine lv_iload hx hb dX1_sizeOfLayer_16 (lv_at hl 0 rfl) ?_
      refine lv_iload hx hb dX1_sizeOfLayer_18 (lv_at hl 1 rfl) ?_
      refine lv_icmp_ge (tgt := 62) hx hb dX1_sizeOfLayer_20 (by decide) (fun c_2 => absurd c_2 (nI_ge (a := k) (b := 12) (by omega) (by omega))) (fun _ => ?_)
      refine lv_aload hx hb dX1_sizeOfLayer_23 (lv_at hl 2 rfl) ?_
      refine lv_iload hx hb dX1_sizeOfLayer_25 (lv_at hl 0 rfl) ?_
      refine va_aldq hx hb hK hP 1 0 rfl rfl (vp_in_nI (by omega) (by decide)) dX1_sizeOfLayer_27 ?_
      rw [nI_clamp (n := k) (by omega)]
      refine lv_astore (x := (a (3 + k))) (lv' := [(7, .ref (a (3 + k))), (6, .int (nI k)), (5, .int (nI 12)), (4, .ref (a 1)), (3, .int (lp (q_sizeOfLayer st b w) k 0)), (0, .ref (a 0)), (1, .int b), (2, .int w)]) hx hb dX1_sizeOfLayer_28 hl (by decide) rfl (fun ls hl => ?_)
      refine lv_aload hx hb dX1_sizeOfLayer_30 (lv_at hl 0 rfl) ?_
      refine va_get (D := D) (ci := 6) (v := .int (itm st k 5)) (C := RX4) (T := TX4) (N := 8) hx hb hts i_X4 hown hK hP (3 + k) (cw_it G a st (by omega)) rfl 5 (by decide) (hts _ kw_94) (fun _ h9 => h9) rfl dX1_sizeOfLayer_32 ?_
      refine lv_iload_n hx hb dX1_sizeOfLayer_35 rfl (lv_at hl 6 rfl) ?_
      refine lv_icmp_ne (tgt := 56) hx hb dX1_sizeOfLayer_36 (by decide) (fun c_3 => ?_) (fun c_3 => ?_)
      · skip
        refine lv_iinc (v := nI (k + 1)) (lv' := [(6, .int (nI (k + 1))), (7, .ref (a (3 + k))), (5, .int (nI 12)), (4, .ref (a 1)), (3, .int (lp (q_sizeOfLayer st b w) k 0)), (0, .ref (a 0)), (1, .int b), (2, .int w)]) hx hb dX1_sizeOfLayer_56 hl (k := 1) rfl (by exact nI_1 k) (by decide) rfl (fun ls hl => ?_)
        refine lv_goto (tgt := 16) hx hb dX1_sizeOfLayer_59 (by decide) ?_
        exact ih (k + 1) (by omega) ls (by rw [show lp (q_sizeOfLayer st b w) (k + 1) 0 = lp (q_sizeOfLayer st b w) k 0 from by simp only [lp, q_sizeOfLayer, if_neg c_3]]; exact lv_sub hl [0, 2, 3, 4, 5, 6, 7] rfl)
      · skip
        refine lv_aload hx hb dX1_sizeOfLayer_39 (lv_at hl 0 rfl) ?_
        refine va_get (D := D) (ci := 6) (v := .int (itm st k 6)) (C := RX4) (T := TX4) (N := 8) hx hb hts i_X4 hown hK hP (3 + k) (cw_it G a st (by omega)) rfl 6 (by decide) (hts _ kw_97) (fun _ h9 => h9) rfl dX1_sizeOfLayer_41 ?_
        refine lv_iload_n hx hb dX1_sizeOfLayer_44 rfl (lv_at hl 7 rfl) ?_
        refine lv_icmp_ne (tgt := 56) hx hb dX1_sizeOfLayer_45 (by decide) (fun c_4 => ?_) (fun c_4 => ?_)
        · skip
          refine lv_iinc (v := nI (k + 1)) (lv' := [(6, .int (nI (k + 1))), (7, .ref (a (3 + k))), (5, .int (nI 12)), (4, .ref (a 1)), (3, .int (lp (q_sizeOfLayer st b w) k 0)), (0, .ref (a 0)), (1, .int b), (2, .int w)]) hx hb dX1_sizeOfLayer_56 hl (k := 1) rfl (by exact nI_1 k) (by decide) rfl (fun ls hl => ?_)
          refine lv_goto (tgt := 16) hx hb dX1_sizeOfLayer_59 (by decide) ?_
          exact ih (k + 1) (by omega) ls (by rw [show lp (q_sizeOfLayer st b w) (k + 1) 0 = lp (q_sizeOfLayer st b w) k 0 from by simp only [lp, q_sizeOfLayer, if_pos c_3, if_neg c_4]]; exact lv_sub hl [0, 2, 3, 4, 5, 6, 7] rfl)
        · skip
          refine lv_iload_n hx hb dX1_sizeOfLayer_48 rfl (lv_at hl 4 rfl) ?_
          refine lv_aload hx hb dX1_sizeOfLayer_49 (lv_at hl 0 rfl) ?_
          refine va_get (D := D) (ci := 6) (v := .int (itm st k 1)) (C := RX4) (T := TX4) (N := 8) hx hb hts i_X4 hown hK hP (3 + k) (cw_it G a st (by omega)) rfl 1 (by decide) (hts _ kw_82) (fun _ h9 => h9) rfl dX1_sizeOfLayer_51 ?_
          refine lv_iadd hx hb dX1_sizeOfLayer_54 ?_
          refine lv_istore_n (lv' := [(3, .int ((lp (q_sizeOfLayer st b w) k 0) + (itm st k 1))), (7, .ref (a (3 + k))), (6, .int (nI k)), (5, .int (nI 12)), (4, .ref (a 1)), (0, .ref (a 0)), (1, .int b), (2, .int w)]) hx hb dX1_sizeOfLayer_55 rfl hl (by decide) rfl (fun ls hl => ?_)
          refine lv_iinc (v := nI (k + 1)) (lv' := [(6, .int (nI (k + 1))), (3, .int ((lp (q_sizeOfLayer st b w) k 0) + (itm st k 1))), (7, .ref (a (3 + k))), (5, .int (nI 12)), (4, .ref (a 1)), (0, .ref (a 0)), (1, .int b), (2, .int w)]) hx hb dX1_sizeOfLayer_56 hl (k := 2) rfl (by exact nI_1 k) (by decide) rfl (fun ls hl => ?_)
          refine lv_goto (tgt := 16) hx hb dX1_sizeOfLayer_59 (by decide) ?_
          exact ih (k + 1) (by omega) ls (by rw [show lp (q_sizeOfLayer st b w) (k + 1) 0 = (lp (q_sizeOfLayer st b w) k 0) + (itm st k 1) from by simp only [lp, q_sizeOfLayer, if_pos c_3, if_pos c_4]]; exact lv_sub hl [0, 3, 4, 1, 5, 6, 7] rfl)
  exact L16 12 0 rfl ls (lv_sub hl [0, 1, 2, 3, 4, 5, 6] rfl)
set_option maxRecDepth 100000 in
set_option maxHeartbeats 4000000 in
theorem c_X1_weightOfLayer (l : Launch) (D : va_G) (G : GA) (a : Nat → Nat) (st : CS) (b : Int32) (w : Int32) : Met l yX1_weightOfLayer (wA yX1_weightOfLayer cX1_weightOfLayer 8 (some .int)) ({ frames := 0, cells := 0, slots := 0, locals := 0 } : Room) (va_Pc [.ref (a 0), .int b, .int w] (CWp D G a st)) (vp_Si (fun r => r = s_weightOfLayer st b w)) 0 0 (fun _ => False) := by
  refine Met.ofW (cc := cX1_weightOfLayer) (maxL := 8) (ret := (some .int)) (by decide) rfl ?_
  intro p e s m args below meth c s₁ B hml hv
  obtain ⟨rfl, hP, hK⟩ := hv
  have hx := B.exec
  have hb := B.bytes
  have hr := B.returns
  have hts : ∀ w9 ∈ tb, w9.before ([.ref (a 0), .int b, .int w] : List Value).toArray s = true := fun w9 h9 => atoms_spec (ws := (wA yX1_weightOfLayer cX1_weightOfLayer 8 (some .int))) B.pre w9 (List.mem_cons_of_mem _ h9)
  have hown : s.vm.findClass RX1 = some m.cls := findClass_of_methodNamed B.named
  have hlocks := B.notSynchronized
  have hl := lv_entry ([.ref (a 0), .int b, .int w]) (n := 8) (Nat.le_of_ble_eq_true rfl)
  rw [lg_entry_eq]
  generalize (lg_sl ([.ref (a 0), .int b, .int w]) ++ List.replicate (8 - (lg_sl ([.ref (a 0), .int b, .int w])).length) Slot.unset).toArray = ls at hl ⊢
  have hl : lv_has ls 8 [(0, .ref (a 0)), (1, .int b), (2, .int w)] := hl
  refine lv_iconst (v := 0) hx hb dX1_weightOfLayer_0 (by decide) ?_
  refine lv_istore_n (lv' := [(3, .int 0), (0, .ref (a 0)), (1, .int b), (2, .int w)]) hx hb dX1_weightOfLayer_1 rfl hl (by decide) rfl (fun ls hl => ?_)
  refine lv_aload_n hx hb dX1_weightOfLayer_2 rfl (lv_at hl 1 rfl) ?_
  refine va_get (D := D) (ci := 4) (v := .ref (a 1)) (C := RX1) (T := TX1) (N := 7) hx hb hts i_X1 hown hK hP 0 rfl rfl 0 (by decide) (hts _ kw_118) (fun _ h9 => h9) rfl dX1_weightOfLayer_3 ?_
  refine lv_astore (x := (a 1)) (lv' := [(4, .ref (a 1)), (3, .int 0), (0, .ref (a 0)), (1, .int b), (2, .int w)]) hx hb dX1_weightOfLayer_6 hl (by decide) rfl (fun ls hl => ?_)
  refine lv_aload hx hb dX1_weightOfLayer_8 (lv_at hl 0 rfl) ?_
  refine va_alen (v := nI 12) hx hb hK hP 1 0 rfl rfl rfl dX1_weightOfLayer_10 ?_
  refine lv_istore (lv' := [(5, .int (nI 12)), (4, .ref (a 1)), (3, .int 0), (0, .ref (a 0)), (1, .int b), (2, .int w)]) hx hb dX1_weightOfLayer_11 hl (by decide) rfl (fun ls hl => ?_)
  refine lv_iconst (v := 0) hx hb dX1_weightOfLayer_13 (by decide) ?_
  refine lv_istore (lv' := [(6, .int 0), (5, .int (nI 12)), (4, .ref (a 1)), (3, .int 0), (0, .ref (a 0)), (1, .int b), (2, .int w)]) hx hb dX1_weightOfLayer_14 hl (by decide) rfl (fun ls hl => ?_)
  have L16 : ∀ (n k : Nat), k + n = 12 → ∀ ls : Array Slot, lv_has ls 8 [(6, .int (nI k)), (5, .int (nI 12)), (4, .ref (a 1)), (3, .int (lp (q_weightOfLayer st b w) k 0)), (0, .ref (a 0)), (1, .int b), (2, .int w)] → W p l e (headSpec (wA yX1_weightOfLayer cX1_weightOfLayer 8 (some .int)) ({ frames := 0, cells := 0, slots := 0, locals := 0 } : Room)).room s m ([.ref (a 0), .int b, .int w] : List Value).toArray below meth c s.heap [] 0 0 (MQ below (vp_Si (fun r => r = s_weightOfLayer st b w)) ([.ref (a 0), .int b, .int w] : List Value).toArray s 0 0 (fun _ => False)) (F0 m 16 ls []) := by
    intro n
    induction n with
    | zero =>
      intro k hk0 ls hl
      obtain rfl : k = 12 := by omega
      refine lv_iload hx hb dX1_weightOfLayer_16 (lv_at hl 0 rfl) ?_
      refine lv_iload hx hb dX1_weightOfLayer_18 (lv_at hl 1 rfl) ?_
      refine lv_icmp_ge (tgt := 62) hx hb dX1_weightOfLayer_20 (by decide) (fun _ => ?_) (fun c_1 => absurd (nI_le (a := 12) (b := 12) (by omega) (by omega)) c_1)
      refine lv_iload_n hx hb dX1_weightOfLayer_62 rfl (lv_at hl 3 rfl) ?_
      exact W.iret (v := lp (q_weightOfLayer st b w) 12 0) hx hb hr (fun t ht hW => ⟨lp (q_weightOfLayer st b w) 12 0, rfl, (by rfl), ht⟩) (fun q h => absurd h List.not_mem_nil) dX1_weightOfLayer_63
    | succ n ih =>
      intro k hk0 ls hl
      have hk12 : k < 12 := by omega
      refine lv_iload hx hb dX1_weightOfLayer_16 (lv_at hl 0 rfl) ?_
      refine lv_iload hx hb dX1_weightOfLayer_18 (lv_at hl 1 rfl) ?_
      refine lv_icmp_ge (tgt := 62) hx hb dX1_weightOfLayer_20 (by decide) (fun c_2 => absurd c_2 (nI_ge (a := k) (b := 12) (by omega) (by omega))) (fun _ => ?_)
      refine lv_aload hx hb dX1_weightOfLayer_23 (lv_at hl 2 rfl) ?_
      refine lv_iload hx hb dX1_weightOfLayer_25 (lv_at hl 0 rfl) ?_
      refine va_aldq hx hb hK hP 1 0 rfl rfl (vp_in_nI (by omega) (by decide)) dX1_weightOfLayer_27 ?_
      rw [nI_clamp (n := k) (by omega)]
      refine lv_astore (x := (a (3 + k))) (lv' := [(7, .ref (a (3 + k))), (6, .int (nI k)), (5, .int (nI 12)), (4, .ref (a 1)), (3, .int (lp (q_weightOfLayer st b w) k 0)), (0, .ref (a 0)), (1, .int b), (2, .int w)]) hx hb dX1_weightOfLayer_28 hl (by decide) rfl (fun ls hl => ?_)
      refine lv_aload hx hb dX1_weightOfLayer_30 (lv_at hl 0 rfl) ?_
      refine va_get (D := D) (ci := 6) (v := .int (itm st k 5)) (C := RX4) (T := TX4) (N := 8) hx hb hts i_X4 hown hK hP (3 + k) (cw_it G a st (by omega)) rfl 5 (by decide) (hts _ kw_94) (fun _ h9 => h9) rfl dX1_weightOfLayer_32 ?_
      refine lv_iload_n hx hb dX1_weightOfLayer_35 rfl (lv_at hl 6 rfl) ?_
      refine lv_icmp_ne (tgt := 56) hx hb dX1_weightOfLayer_36 (by decide) (fun c_3 => ?_) (fun c_3 => ?_)
      · skip
        refine lv_iinc (v := nI (k + 1)) (lv' := [(6, .int (nI (k + 1))), (7, .ref (a (3 + k))), (5, .int (nI 12)), (4, .ref (a 1)), (3, .int (lp (q_weightOfLayer st b w) k 0)), (0, .ref (a 0)), (1, .int b), (2, .int w)]) hx hb dX1_weightOfLayer_56 hl (k := 1) rfl (by exact nI_1 k) (by decide) rfl (fun ls hl => ?_)
        refine lv_goto (tgt := 16) hx hb dX1_weightOfLayer_59 (by decide) ?_
        exact ih (k + 1) (by omega) ls (by rw [show lp (q_weightOfLayer st b w) (k + 1) 0 = lp (q_weightOfLayer st b w) k 0 from by simp only [lp, q_weightOfLayer, if_neg c_3]]; exact lv_sub hl [0, 2, 3, 4, 5, 6, 7] rfl)
      · skip
        refine lv_aload hx hb dX1_weightOfLayer_39 (lv_at hl 0 rfl) ?_
        refine va_get (D := D) (ci := 6) (v := .int (itm st k 6)) (C := RX4) (T := TX4) (N := 8) hx hb hts i_X4 hown hK hP (3 + k) (cw_it G a st (by omega)) rfl 6 (by decide) (hts _ kw_97) (fun _ h9 => h9) rfl dX1_weightOfLayer_41 ?_
        refine lv_iload_n hx hb dX1_weightOfLayer_44 rfl (lv_at hl 7 rfl) ?_
        refine lv_icmp_ne (tgt := 56) hx hb dX1_weightOfLayer_45 (by decide) (fun c_4 => ?_) (fun c_4 => ?_)
        · skip
          refine lv_iinc (v := nI (k + 1)) (lv' := [(6, .int (nI (k + 1))), (7, .ref (a (3 + k))), (5, .int (nI 12)), (4, .ref (a 1)), (3, .int (lp (q_weightOfLayer st b w) k 0)), (0, .ref (a 0)), (1, .int b), (2, .int w)]) hx hb dX1_weightOfLayer_56 hl (k := 1) rfl (by exact nI_1 k) (by decide) rfl (fun ls hl => ?_)
          refine lv_goto (tgt := 16) hx hb dX1_weightOfLayer_59 (by decide) ?_
          exact ih (k + 1) (by omega) ls (by rw [show lp (q_weightOfLayer st b w) (k + 1) 0 = lp (q_weightOfLayer st b w) k 0 from by simp only [lp, q_weightOfLayer, if_pos c_3, if_neg c_4]]; exact lv_sub hl [0, 2, 3, 4, 5, 6, 7] rfl)
        · skip
          refine lv_iload_n hx hb dX1_weightOfLayer_48 rfl (lv_at hl 4 rfl) ?_
          refine lv_aload hx hb dX1_weightOfLayer_49 (lv_at hl 0 rfl) ?_
          refine va_get (D := D) (ci := 6) (v := .int (itm st k 2)) (C := RX4) (T := TX4) (N := 8) hx hb hts i_X4 hown hK hP (3 + k) (cw_it G a st (by omega)) rfl 2 (by decide) (hts _ kw_85) (fun _ h9 => h9) rfl dX1_weightOfLayer_51 ?_
          refine lv_iadd hx hb dX1_weightOfLayer_54 ?_
          refine lv_istore_n (lv' := [(3, .int ((lp (q_weightOfLayer st b w) k 0) + (itm st k 2))), (7, .ref (a (3 + k))), (6, .int (nI k)), (5, .int (nI 12)), (4, .ref (a 1)), (0, .ref (a 0)), (1, .int b), (2, .int w)]) hx hb dX1_weightOfLayer_55 rfl hl (by decide) rfl (fun ls hl => ?_)
          refine lv_iinc (v := nI (k + 1)) (lv' := [(6, .int (nI (k + 1))), (3, .int ((lp (q_weightOfLayer st b w) k 0) + (itm st k 2))), (7, .ref (a (3 + k))), (5, .int (nI 12)), (4, .ref (a 1)), (0, .ref (a 0)), (1, .int b), (2, .int w)]) hx hb dX1_weightOfLayer_56 hl (k := 2) rfl (by exact nI_1 k) (by decide) rfl (fun ls hl => ?_)
          refine lv_goto (tgt := 16) hx hb dX1_weightOfLayer_59 (by decide) ?_
          exact ih (k + 1) (by omega) ls (by rw [show lp (q_weightOfLayer st b w) (k + 1) 0 = (lp (q_weightOfLayer st b w) k 0) + (itm st k 2) from by simp only [lp, q_weightOfLayer, if_pos c_3, if_pos c_4]]; exact lv_sub hl [0, 3, 4, 1, 5, 6, 7] rfl)
  exact L16 12 0 rfl ls (lv_sub hl [0, 1, 2, 3, 4, 5, 6] rfl)
set_option maxRecDepth 100000 in
set_option maxHeartbeats 4000000 in
theorem c_X1_loadOn (l : Launch) (D : va_G) (G : GA) (a : Nat → Nat) (st : CS) (b : Int32) (w : Int32) : Met l yX1_loadOn (wA yX1_loadOn cX1_loadOn 8 (some .int)) ({ frames := 0, cells := 0, slots := 0, locals := 0 } : Room) (va_Pc [.ref (a 0), .int b, .int w] (CWp D G a st)) (vp_Si (fun r => r = s_loadOn st b w)) 0 0 (fun _ => False) := by
  refine Met.ofW (cc := cX1_loadOn) (maxL := 8) (ret := (some .int)) (by decide) rfl ?_
  intro p e s m args below meth c s₁ B hml hv
  obtain ⟨rfl, hP, hK⟩ := hv
  have hx := B.exec
  have hb := B.bytes
  have hr := B.returns
  have hts : ∀ w9 ∈ tb, w9.before ([.ref (a 0), .int b, .int w] : List Value).toArray s = true := fun w9 h9 => atoms_spec (ws := (wA yX1_loadOn cX1_loadOn 8 (some .int))) B.pre w9 (List.mem_cons_of_mem _ h9)
  have hown : s.vm.findClass RX1 = some m.cls := findClass_of_methodNamed B.named
  have hlocks := B.notSynchronized
  have hl := lv_entry ([.ref (a 0), .int b, .int w]) (n := 8) (Nat.le_of_ble_eq_true rfl)
  rw [lg_entry_eq]
  generalize (lg_sl ([.ref (a 0), .int b, .int w]) ++ List.replicate (8 - (lg_sl ([.ref (a 0), .int b, .int w])).length) Slot.unset).toArray = ls at hl ⊢
  have hl : lv_has ls 8 [(0, .ref (a 0)), (1, .int b), (2, .int w)] := hl
  refine lv_iconst (v := 0) hx hb dX1_loadOn_0 (by decide) ?_
  refine lv_istore_n (lv' := [(3, .int 0), (0, .ref (a 0)), (1, .int b), (2, .int w)]) hx hb dX1_loadOn_1 rfl hl (by decide) rfl (fun ls hl => ?_)
  refine lv_aload_n hx hb dX1_loadOn_2 rfl (lv_at hl 1 rfl) ?_
  refine va_get (D := D) (ci := 4) (v := .ref (a 1)) (C := RX1) (T := TX1) (N := 7) hx hb hts i_X1 hown hK hP 0 rfl rfl 0 (by decide) (hts _ kw_118) (fun _ h9 => h9) rfl dX1_loadOn_3 ?_
  refine lv_astore (x := (a 1)) (lv' := [(4, .ref (a 1)), (3, .int 0), (0, .ref (a 0)), (1, .int b), (2, .int w)]) hx hb dX1_loadOn_6 hl (by decide) rfl (fun ls hl => ?_)
  refine lv_aload hx hb dX1_loadOn_8 (lv_at hl 0 rfl) ?_
  refine va_alen (v := nI 12) hx hb hK hP 1 0 rfl rfl rfl dX1_loadOn_10 ?_
  refine lv_istore (lv' := [(5, .int (nI 12)), (4, .ref (a 1)), (3, .int 0), (0, .ref (a 0)), (1, .int b), (2, .int w)]) hx hb dX1_loadOn_11 hl (by decide) rfl (fun ls hl => ?_)
  refine lv_iconst (v := 0) hx hb dX1_loadOn_13 (by decide) ?_
  refine lv_istore (lv' := [(6, .int 0), (5, .int (nI 12)), (4, .ref (a 1)), (3, .int 0), (0, .ref (a 0)), (1, .int b), (2, .int w)]) hx hb dX1_loadOn_14 hl (by decide) rfl (fun ls hl => ?_)
  have L16 : ∀ (n k : Nat), k + n = 12 → ∀ ls : Array Slot, lv_has ls 8 [(6, .int (nI k)), (5, .int (nI 12)), (4, .ref (a 1)), (3, .int (lp (q_loadOn st b w) k 0)), (0, .ref (a 0)), (1, .int b), (2, .int w)] → W p l e (headSpec (wA yX1_loadOn cX1_loadOn 8 (some .int)) ({ frames := 0, cells := 0, slots := 0, locals := 0 } : Room)).room s m ([.ref (a 0), .int b, .int w] : List Value).toArray below meth c s.heap [] 0 0 (MQ below (vp_Si (fun r => r = s_loadOn st b w)) ([.ref (a 0), .int b, .int w] : List Value).toArray s 0 0 (fun _ => False)) (F0 m 16 ls []) := by
    intro n
    induction n with
    | zero =>
      intro k hk0 ls hl
      obtain rfl : k = 12 := by omega
      refine lv_iload hx hb dX1_loadOn_16 (lv_at hl 0 rfl) ?_
      refine lv_iload hx hb dX1_loadOn_18 (lv_at hl 1 rfl) ?_
      refine lv_icmp_ge (tgt := 62) hx hb dX1_loadOn_20 (by decide) (fun _ => ?_) (fun c_1 => absurd (nI_le (a := 12) (b := 12) (by omega) (by omega)) c_1)
      refine lv_iload_n hx hb dX1_loadOn_62 rfl (lv_at hl 3 rfl) ?_
      exact W.iret (v := lp (q_loadOn st b w) 12 0) hx hb hr (fun t ht hW => ⟨lp (q_loadOn st b w) 12 0, rfl, (by rfl), ht⟩) (fun q h => absurd h List.not_mem_nil) dX1_loadOn_63
    | succ n ih =>
      intro k hk0 ls hl
      have hk12 : k < 12 := by omega
      refine lv_iload hx hb dX1_loadOn_16 (lv_at hl 0 rfl) ?_
      refine lv_iload hx hb dX1_loadOn_18 (lv_at hl 1 rfl) ?_
      refine lv_icmp_ge (tgt := 62) hx hb dX1_loadOn_20 (by decide) (fun c_2 => absurd c_2 (nI_ge (a := k) (b := 12) (by omega) (by omega))) (fun _ => ?_)
      refine lv_aload hx hb dX1_loadOn_23 (lv_at hl 2 rfl) ?_
      refine lv_iload hx hb dX1_loadOn_25 (lv_at hl 0 rfl) ?_
      refine va_aldq hx hb hK hP 1 0 rfl rfl (vp_in_nI (by omega) (by decide)) dX1_loadOn_27 ?_
      rw [nI_clamp (n := k) (by omega)]
      refine lv_astore (x := (a (3 + k))) (lv' := [(7, .ref (a (3 + k))), (6, .int (nI k)), (5, .int (nI 12)), (4, .ref (a 1)), (3, .int (lp (q_loadOn st b w) k 0)), (0, .ref (a 0)), (1, .int b), (2, .int w)]) hx hb dX1_loadOn_28 hl (by decide) rfl (fun ls hl => ?_)
      refine lv_aload hx hb dX1_loadOn_30 (lv_at hl 0 rfl) ?_
      refine va_get (D := D) (ci := 6) (v := .int (itm st k 5)) (C := RX4) (T := TX4) (N := 8) hx hb hts i_X4 hown hK hP (3 + k) (cw_it G a st (by omega)) rfl 5 (by decide) (hts _ kw_94) (fun _ h9 => h9) rfl dX1_loadOn_32 ?_
      refine lv_iload_n hx hb dX1_loadOn_35 rfl (lv_at hl 6 rfl) ?_
      refine lv_icmp_ne (tgt := 56) hx hb dX1_loadOn_36 (by decide) (fun c_3 => ?_) (fun c_3 => ?_)
      · skip
        refine lv_iinc (v := nI (k + 1)) (lv' := [(6, .int (nI (k + 1))), (7, .ref (a (3 + k))), (5, .int (nI 12)), (4, .ref (a 1)), (3, .int (lp (q_loadOn st b w) k 0)), (0, .ref (a 0)), (1, .int b), (2, .int w)]) hx hb dX1_loadOn_56 hl (k := 1) rfl (by exact nI_1 k) (by decide) rfl (fun ls hl => ?_)
        refine lv_goto (tgt := 16) hx hb dX1_loadOn_59 (by decide) ?_
        exact ih (k + 1) (by omega) ls (by rw [show lp (q_loadOn st b w) (k + 1) 0 = lp (q_loadOn st b w) k 0 from by simp only [lp, q_loadOn, if_neg c_3]]; exact lv_sub hl [0, 2, 3, 4, 5, 6, 7] rfl)
      · skip
        refine lv_aload hx hb dX1_loadOn_39 (lv_at hl 0 rfl) ?_
        refine va_get (D := D) (ci := 6) (v := .int (itm st k 6)) (C := RX4) (T := TX4) (N := 8) hx hb hts i_X4 hown hK hP (3 + k) (cw_it G a st (by omega)) rfl 6 (by decide) (hts _ kw_97) (fun _ h9 => h9) rfl dX1_loadOn_41 ?_
        refine lv_iload_n hx hb dX1_loadOn_44 rfl (lv_at hl 7 rfl) ?_
        refine lv_icmp_le (tgt := 56) hx hb dX1_loadOn_45 (by decide) (fun c_4 => ?_) (fun c_4 => ?_)
        · skip
          refine lv_iinc (v := nI (k + 1)) (lv' := [(6, .int (nI (k + 1))), (7, .ref (a (3 + k))), (5, .int (nI 12)), (4, .ref (a 1)), (3, .int (lp (q_loadOn st b w) k 0)), (0, .ref (a 0)), (1, .int b), (2, .int w)]) hx hb dX1_loadOn_56 hl (k := 1) rfl (by exact nI_1 k) (by decide) rfl (fun ls hl => ?_)
          refine lv_goto (tgt := 16) hx hb dX1_loadOn_59 (by decide) ?_
          exact ih (k + 1) (by omega) ls (by rw [show lp (q_loadOn st b w) (k + 1) 0 = lp (q_loadOn st b w) k 0 from by simp only [lp, q_loadOn, if_pos c_3, if_pos c_4]]; exact lv_sub hl [0, 2, 3, 4, 5, 6, 7] rfl)
        · skip
          refine lv_iload_n hx hb dX1_loadOn_48 rfl (lv_at hl 4 rfl) ?_
          refine lv_aload hx hb dX1_loadOn_49 (lv_at hl 0 rfl) ?_
          refine va_get (D := D) (ci := 6) (v := .int (itm st k 2)) (C := RX4) (T := TX4) (N := 8) hx hb hts i_X4 hown hK hP (3 + k) (cw_it G a st (by omega)) rfl 2 (by decide) (hts _ kw_85) (fun _ h9 => h9) rfl dX1_loadOn_51 ?_
          refine lv_iadd hx hb dX1_loadOn_54 ?_
          refine lv_istore_n (lv' := [(3, .int ((lp (q_loadOn st b w) k 0) + (itm st k 2))), (7, .ref (a (3 + k))), (6, .int (nI k)), (5, .int (nI 12)), (4, .ref (a 1)), (0, .ref (a 0)), (1, .int b), (2, .int w)]) hx hb dX1_loadOn_55 rfl hl (by decide) rfl (fun ls hl => ?_)
          refine lv_iinc (v := nI (k + 1)) (lv' := [(6, .int (nI (k + 1))), (3, .int ((lp (q_loadOn st b w) k 0) + (itm st k 2))), (7, .ref (a (3 + k))), (5, .int (nI 12)), (4, .ref (a 1)), (0, .ref (a 0)), (1, .int b), (2, .int w)]) hx hb dX1_loadOn_56 hl (k := 2) rfl (by exact nI_1 k) (by decide) rfl (fun ls hl => ?_)
          refine lv_goto (tgt := 16) hx hb dX1_loadOn_59 (by decide) ?_
          exact ih (k + 1) (by omega) ls (by rw [show lp (q_loadOn st b w) (k + 1) 0 = (lp (q_loadOn st b w) k 0) + (itm st k 2) from by simp only [lp, q_loadOn, if_pos c_3, if_neg c_4]]; exact lv_sub hl [0, 3, 4, 1, 5, 6, 7] rfl)
  exact L16 12 0 rfl ls (lv_sub hl [0, 1, 2, 3, 4, 5, 6] rfl)
set_option maxRecDepth 100000 in
set_option maxHeartbeats 4000000 in
theorem c_X1_weightByLayers (l : Launch) (D : va_G) (G : GA) (a : Nat → Nat) (st : CS) (b : Int32) : Met l yX1_weightByLayers (wA yX1_weightByLayers cX1_weightByLayers 2 (some .int)) ({ frames := 1, cells := 0, slots := 0, locals := 27 } : Room) (va_Pc [.ref (a 0), .int b] (CWp D G a st)) (vp_Si (fun r => r = s_weightByLayers st b)) 0 0 (fun _ => False) := by
  refine Met.ofW (cc := cX1_weightByLayers) (maxL := 2) (ret := (some .int)) (by decide) rfl ?_
  intro p e s m args below meth c s₁ B hml hv
  obtain ⟨rfl, hP, hK⟩ := hv
  have hx := B.exec
  have hb := B.bytes
  have hr := B.returns
  have hts : ∀ w9 ∈ tb, w9.before ([.ref (a 0), .int b] : List Value).toArray s = true := fun w9 h9 => atoms_spec (ws := (wA yX1_weightByLayers cX1_weightByLayers 2 (some .int))) B.pre w9 (List.mem_cons_of_mem _ h9)
  have hown : s.vm.findClass RX1 = some m.cls := findClass_of_methodNamed B.named
  have hlocks := B.notSynchronized
  have hl := lv_entry ([.ref (a 0), .int b]) (n := 2) (Nat.le_of_ble_eq_true rfl)
  rw [lg_entry_eq]
  generalize (lg_sl ([.ref (a 0), .int b]) ++ List.replicate (2 - (lg_sl ([.ref (a 0), .int b])).length) Slot.unset).toArray = ls at hl ⊢
  have hl : lv_has ls 2 [(0, .ref (a 0)), (1, .int b)] := hl
  refine lv_aload_n hx hb dX1_weightByLayers_0 rfl (lv_at hl 0 rfl) ?_
  refine lv_iload_n hx hb dX1_weightByLayers_1 rfl (lv_at hl 1 rfl) ?_
  refine lv_iconst (v := 0) hx hb dX1_weightByLayers_2 (by decide) ?_
  refine vp_callSi (va_runV (As := [.int b, .int 0]) (rest := []) ⟨hx, hb, hml, hown, hts⟩ (c_X1_loadOn l D G a st b 0) (cwV 2 hts gw_X1_159 rfl rfl rfl (by decide +kernel) ⟨Nat.le_of_ble_eq_true rfl, Nat.le_of_ble_eq_true rfl⟩) (pv_cw hK hP) rfl rfl hl.1 rfl (lv_room (Nat.le_of_ble_eq_true rfl)) dX1_weightByLayers_3 ⟨Nat.le_of_ble_eq_true rfl, Nat.le_of_ble_eq_true rfl⟩).run (nm_e ?_)
  refine lv_aload_n hx hb dX1_weightByLayers_6 rfl (lv_at hl 0 rfl) ?_
  refine lv_iload_n hx hb dX1_weightByLayers_7 rfl (lv_at hl 1 rfl) ?_
  refine lv_iconst (v := 0) hx hb dX1_weightByLayers_8 (by decide) ?_
  refine vp_callSi (va_runV (As := [.int b, .int 0]) (rest := [.int (s_loadOn st b 0)]) ⟨hx, hb, hml, hown, hts⟩ (c_X1_weightOfLayer l D G a st b 0) (cwV 2 hts gw_X1_181 rfl rfl rfl (by decide +kernel) ⟨Nat.le_of_ble_eq_true rfl, Nat.le_of_ble_eq_true rfl⟩) (pv_cw hK hP) rfl rfl hl.1 rfl (lv_room (Nat.le_of_ble_eq_true rfl)) dX1_weightByLayers_9 ⟨Nat.le_of_ble_eq_true rfl, Nat.le_of_ble_eq_true rfl⟩).run (nm_e ?_)
  refine lv_iadd hx hb dX1_weightByLayers_12 ?_
  exact W.iret (v := (s_loadOn st b 0) + (s_weightOfLayer st b 0)) hx hb hr (fun t ht hW => ⟨(s_loadOn st b 0) + (s_weightOfLayer st b 0), rfl, (by rfl), ht⟩) (fun q h => absurd h List.not_mem_nil) dX1_weightByLayers_13
set_option maxRecDepth 100000 in
set_option maxHeartbeats 4000000 in
theorem c_X1_roomIn (l : Launch) (D : va_G) (G : GA) (a : Nat → Nat) (st : CS) (b : Int32) : Met l yX1_roomIn (wA yX1_roomIn cX1_roomIn 2 (some .int)) ({ frames := 1, cells := 0, slots := 0, locals := 26 } : Room) (va_Pc [.ref (a 0), .int b] (CWp D G a st)) (vp_Si (fun r => r = s_roomIn st b)) 0 0 (fun _ => False) := by
  refine Met.ofW (cc := cX1_roomIn) (maxL := 2) (ret := (some .int)) (by decide) rfl ?_
  intro p e s m args below meth c s₁ B hml hv
  obtain ⟨rfl, hP, hK⟩ := hv
  have hx := B.exec
  have hb := B.bytes
  have hr := B.returns
  have hts : ∀ w9 ∈ tb, w9.before ([.ref (a 0), .int b] : List Value).toArray s = true := fun w9 h9 => atoms_spec (ws := (wA yX1_roomIn cX1_roomIn 2 (some .int))) B.pre w9 (List.mem_cons_of_mem _ h9)
  have hown : s.vm.findClass RX1 = some m.cls := findClass_of_methodNamed B.named
  have hlocks := B.notSynchronized
  have hl := lv_entry ([.ref (a 0), .int b]) (n := 2) (Nat.le_of_ble_eq_true rfl)
  rw [lg_entry_eq]
  generalize (lg_sl ([.ref (a 0), .int b]) ++ List.replicate (2 - (lg_sl ([.ref (a 0), .int b])).length) Slot.unset).toArray = ls at hl ⊢
  have hl : lv_has ls 2 [(0, .ref (a 0)), (1, .int b)] := hl
  refine lv_aload_n hx hb dX1_roomIn_0 rfl (lv_at hl 0 rfl) ?_
  refine lv_iload_n hx hb dX1_roomIn_1 rfl (lv_at hl 1 rfl) ?_
  refine vp_callSi (va_runV (As := [.int b]) (rest := []) ⟨hx, hb, hml, hown, hts⟩ (c_X1_limit l D G a st b) (cwV 1 hts gw_X1_178 rfl rfl rfl (by decide +kernel) ⟨Nat.le_of_ble_eq_true rfl, Nat.le_of_ble_eq_true rfl⟩) (pv_cw hK hP) rfl rfl hl.1 rfl (lv_room (Nat.le_of_ble_eq_true rfl)) dX1_roomIn_2 ⟨Nat.le_of_ble_eq_true rfl, Nat.le_of_ble_eq_true rfl⟩).run (nm_e ?_)
  refine lv_aload_n hx hb dX1_roomIn_5 rfl (lv_at hl 0 rfl) ?_
  refine lv_iload_n hx hb dX1_roomIn_6 rfl (lv_at hl 1 rfl) ?_
  refine vp_callSi (va_runV (As := [.int b]) (rest := [.int (s_limit st b)]) ⟨hx, hb, hml, hown, hts⟩ (c_X1_weightByItems l D G a st b) (cwV 1 hts gw_X1_184 rfl rfl rfl (by decide +kernel) ⟨Nat.le_of_ble_eq_true rfl, Nat.le_of_ble_eq_true rfl⟩) (pv_cw hK hP) rfl rfl hl.1 rfl (lv_room (Nat.le_of_ble_eq_true rfl)) dX1_roomIn_7 ⟨Nat.le_of_ble_eq_true rfl, Nat.le_of_ble_eq_true rfl⟩).run (nm_e ?_)
  refine lv_isub hx hb dX1_roomIn_10 ?_
  exact W.iret (v := (s_limit st b) - (s_weightByItems st b)) hx hb hr (fun t ht hW => ⟨(s_limit st b) - (s_weightByItems st b), rfl, (by rfl), ht⟩) (fun q h => absurd h List.not_mem_nil) dX1_roomIn_11
set_option maxRecDepth 100000 in
set_option maxHeartbeats 4000000 in
theorem c_X1_findEmptiest (l : Launch) (D : va_G) (G : GA) (a : Nat → Nat) (st : CS) (hB : st.2.2 1 = nI (nbg st)) (hB3 : nbg st ≤ 3) : Met l yX1_findEmptiest (wA yX1_findEmptiest cX1_findEmptiest 3 (some .int)) ({ frames := 2, cells := 0, slots := 0, locals := 47 } : Room) (va_Pc [.ref (a 0)] (CWp D G a st)) (vp_Si (fun r => r = s_emptiest st)) 0 0 (fun _ => False) := by
  refine Met.ofW (cc := cX1_findEmptiest) (maxL := 3) (ret := (some .int)) (by decide) rfl ?_
  intro p e s m args below meth c s₁ B hml hv
  obtain ⟨rfl, hP, hK⟩ := hv
  have hx := B.exec
  have hb := B.bytes
  have hr := B.returns
  have hts : ∀ w9 ∈ tb, w9.before ([.ref (a 0)] : List Value).toArray s = true := fun w9 h9 => atoms_spec (ws := (wA yX1_findEmptiest cX1_findEmptiest 3 (some .int))) B.pre w9 (List.mem_cons_of_mem _ h9)
  have hown : s.vm.findClass RX1 = some m.cls := findClass_of_methodNamed B.named
  have hlocks := B.notSynchronized
  have hl := lv_entry ([.ref (a 0)]) (n := 3) (Nat.le_of_ble_eq_true rfl)
  rw [lg_entry_eq]
  generalize (lg_sl ([.ref (a 0)]) ++ List.replicate (3 - (lg_sl ([.ref (a 0)])).length) Slot.unset).toArray = ls at hl ⊢
  have hl : lv_has ls 3 [(0, .ref (a 0))] := hl
  refine lv_iconst (v := 0) hx hb dX1_findEmptiest_0 (by decide) ?_
  refine lv_istore_n (lv' := [(1, .int 0), (0, .ref (a 0))]) hx hb dX1_findEmptiest_1 rfl hl (by decide) rfl (fun ls hl => ?_)
  refine lv_iconst (v := 1) hx hb dX1_findEmptiest_2 (by decide) ?_
  refine lv_istore_n (lv' := [(2, .int 1), (1, .int 0), (0, .ref (a 0))]) hx hb dX1_findEmptiest_3 rfl hl (by decide) rfl (fun ls hl => ?_)
  have L4 : ∀ (n k : Nat), k + n = nbg st - 1 → ∀ ls : Array Slot, lv_has ls 3 [(2, .int (nI (k + 1))), (1, .int (lp (q_emptiest st) k 0)), (0, .ref (a 0))] → W p l e (headSpec (wA yX1_findEmptiest cX1_findEmptiest 3 (some .int)) ({ frames := 2, cells := 0, slots := 0, locals := 47 } : Room)).room s m ([.ref (a 0)] : List Value).toArray below meth c s.heap [] 0 0 (MQ below (vp_Si (fun r => r = s_emptiest st)) ([.ref (a 0)] : List Value).toArray s 0 0 (fun _ => False)) (F0 m 4 ls []) := by
    intro n
    induction n with
    | zero =>
      intro k hk0 ls hl
      obtain rfl : k = nbg st - 1 := by omega
      refine lv_iload_n hx hb dX1_findEmptiest_4 rfl (lv_at hl 0 rfl) ?_
      refine lv_aload_n hx hb dX1_findEmptiest_5 rfl (lv_at hl 2 rfl) ?_
      refine va_get (D := D) (ci := 4) (v := .int (st.2.2 1)) (C := RX1) (T := TX1) (N := 7) hx hb hts i_X1 hown hK hP 0 rfl rfl 4 (by decide) (hts _ kw_122) (fun _ h9 => h9) rfl dX1_findEmptiest_6 ?_
      rw [hB]
      refine lv_icmp_ge (tgt := 33) hx hb dX1_findEmptiest_9 (by decide) (fun _ => ?_) (fun c_1 => absurd (nI_le (a := (nbg st)) (b := ((nbg st - 1) + 1)) (by omega) (by omega)) c_1)
      refine lv_iload_n hx hb dX1_findEmptiest_33 rfl (lv_at hl 1 rfl) ?_
      exact W.iret (v := lp (q_emptiest st) (nbg st - 1) 0) hx hb hr (fun t ht hW => ⟨lp (q_emptiest st) (nbg st - 1) 0, rfl, (by rfl), ht⟩) (fun q h => absurd h List.not_mem_nil) dX1_findEmptiest_34
    | succ n ih =>
      intro k hk0 ls hl
      have hk12 : k < nbg st - 1 := by omega
      refine lv_iload_n hx hb dX1_findEmptiest_4 rfl (lv_at hl 0 rfl) ?_
      refine lv_aload_n hx hb dX1_findEmptiest_5 rfl (lv_at hl 2 rfl) ?_
      refine va_get (D := D) (ci := 4) (v := .int (st.2.2 1)) (C := RX1) (T := TX1) (N := 7) hx hb hts i_X1 hown hK hP 0 rfl rfl 4 (by decide) (hts _ kw_122) (fun _ h9 => h9) rfl dX1_findEmptiest_6 ?_
      rw [hB]
      refine lv_icmp_ge (tgt := 33) hx hb dX1_findEmptiest_9 (by decide) (fun c_2 => absurd c_2 (nI_ge (a := (k + 1)) (b := (nbg st)) (by omega) (by omega))) (fun _ => ?_)
      refine lv_aload_n hx hb dX1_findEmptiest_12 rfl (lv_at hl 2 rfl) ?_
      refine lv_iload_n hx hb dX1_findEmptiest_13 rfl (lv_at hl 0 rfl) ?_
      refine vp_callSi (va_runV (As := [.int (nI (k + 1))]) (rest := []) ⟨hx, hb, hml, hown, hts⟩ (c_X1_roomIn l D G a st (nI (k + 1))) (cwV 1 hts gw_X1_146 rfl rfl rfl (by decide +kernel) ⟨Nat.le_of_ble_eq_true rfl, Nat.le_of_ble_eq_true rfl⟩) (pv_cw hK hP) rfl rfl hl.1 rfl (lv_room (Nat.le_of_ble_eq_true rfl)) dX1_findEmptiest_14 ⟨Nat.le_of_ble_eq_true rfl, Nat.le_of_ble_eq_true rfl⟩).run (nm_e ?_)
      refine lv_aload_n hx hb dX1_findEmptiest_17 rfl (lv_at hl 2 rfl) ?_
      refine lv_iload_n hx hb dX1_findEmptiest_18 rfl (lv_at hl 1 rfl) ?_
      refine vp_callSi (va_runV (As := [.int (lp (q_emptiest st) k 0)]) (rest := [.int (s_roomIn st (nI (k + 1)))]) ⟨hx, hb, hml, hown, hts⟩ (c_X1_roomIn l D G a st (lp (q_emptiest st) k 0)) (cwV 1 hts gw_X1_146 rfl rfl rfl (by decide +kernel) ⟨Nat.le_of_ble_eq_true rfl, Nat.le_of_ble_eq_true rfl⟩) (pv_cw hK hP) rfl rfl hl.1 rfl (lv_room (Nat.le_of_ble_eq_true rfl)) dX1_findEmptiest_19 ⟨Nat.le_of_ble_eq_true rfl, Nat.le_of_ble_eq_true rfl⟩).run (nm_e ?_)
      refine lv_icmp_le (tgt := 27) hx hb dX1_findEmptiest_22 (by decide) (fun c_3 => ?_) (fun c_3 => ?_)
      · skip
        refine lv_iinc (v := nI (k + 1 + 1)) (lv' := [(2, .int (nI (k + 1 + 1))), (1, .int (lp (q_emptiest st) k 0)), (0, .ref (a 0))]) hx hb dX1_findEmptiest_27 hl (k := 0) rfl (by exact nI_1 (k + 1)) (by decide) rfl (fun ls hl => ?_)
        refine lv_goto (tgt := 4) hx hb dX1_findEmptiest_30 (by decide) ?_
        exact ih (k + 1) (by omega) ls (by rw [show lp (q_emptiest st) (k + 1) 0 = lp (q_emptiest st) k 0 from by simp only [lp, q_emptiest, if_pos c_3]]; exact lv_sub hl [0, 1, 2] rfl)
      · skip
        refine lv_iload_n hx hb dX1_findEmptiest_25 rfl (lv_at hl 0 rfl) ?_
        refine lv_istore_n (lv' := [(1, .int (nI (k + 1))), (2, .int (nI (k + 1))), (0, .ref (a 0))]) hx hb dX1_findEmptiest_26 rfl hl (by decide) rfl (fun ls hl => ?_)
        refine lv_iinc (v := nI (k + 1 + 1)) (lv' := [(2, .int (nI (k + 1 + 1))), (1, .int (nI (k + 1))), (0, .ref (a 0))]) hx hb dX1_findEmptiest_27 hl (k := 1) rfl (by exact nI_1 (k + 1)) (by decide) rfl (fun ls hl => ?_)
        refine lv_goto (tgt := 4) hx hb dX1_findEmptiest_30 (by decide) ?_
        exact ih (k + 1) (by omega) ls (by rw [show lp (q_emptiest st) (k + 1) 0 = nI (k + 1) from by simp only [lp, q_emptiest, if_neg c_3]]; exact lv_sub hl [0, 1, 2] rfl)
  exact L4 (nbg st - 1) 0 (by omega) ls (lv_sub hl [0, 1, 2] rfl)
set_option maxRecDepth 100000 in
set_option maxHeartbeats 4000000 in
theorem c_X1_targetLayer (l : Launch) (D : va_G) (G : GA) (a : Nat → Nat) (st : CS) (g : Nat) (hgg : g < 13) (b : Int32) : Met l yX1_targetLayer (wA yX1_targetLayer cX1_targetLayer 5 (some .int)) ({ frames := 2, cells := 0, slots := 0, locals := 47 } : Room) (va_Pc [.ref (a 0), .ref (a (3 + g)), .int b] (CWp D G a st)) (vp_Si (fun r => r = s_target st g b)) 0 0 (fun _ => False) := by
  refine Met.ofW (cc := cX1_targetLayer) (maxL := 5) (ret := (some .int)) (by decide) rfl ?_
  intro p e s m args below meth c s₁ B hml hv
  obtain ⟨rfl, hP, hK⟩ := hv
  have hx := B.exec
  have hb := B.bytes
  have hr := B.returns
  have hts : ∀ w9 ∈ tb, w9.before ([.ref (a 0), .ref (a (3 + g)), .int b] : List Value).toArray s = true := fun w9 h9 => atoms_spec (ws := (wA yX1_targetLayer cX1_targetLayer 5 (some .int))) B.pre w9 (List.mem_cons_of_mem _ h9)
  have hown : s.vm.findClass RX1 = some m.cls := findClass_of_methodNamed B.named
  have hlocks := B.notSynchronized
  have hl := lv_entry ([.ref (a 0), .ref (a (3 + g)), .int b]) (n := 5) (Nat.le_of_ble_eq_true rfl)
  rw [lg_entry_eq]
  generalize (lg_sl ([.ref (a 0), .ref (a (3 + g)), .int b]) ++ List.replicate (5 - (lg_sl ([.ref (a 0), .ref (a (3 + g)), .int b])).length) Slot.unset).toArray = ls at hl ⊢
  have hl : lv_has ls 5 [(0, .ref (a 0)), (1, .ref (a (3 + g))), (2, .int b)] := hl
  refine lv_aload_n hx hb dX1_targetLayer_0 rfl (lv_at hl 0 rfl) ?_
  refine lv_iload_n hx hb dX1_targetLayer_1 rfl (lv_at hl 2 rfl) ?_
  refine vp_callSi (va_runV (As := [.int b]) (rest := []) ⟨hx, hb, hml, hown, hts⟩ (c_X1_countLayers l D G a st b) (cwV 1 hts gw_X1_117 rfl rfl rfl (by decide +kernel) ⟨Nat.le_of_ble_eq_true rfl, Nat.le_of_ble_eq_true rfl⟩) (pv_cw hK hP) rfl rfl hl.1 rfl (lv_room (Nat.le_of_ble_eq_true rfl)) dX1_targetLayer_2 ⟨Nat.le_of_ble_eq_true rfl, Nat.le_of_ble_eq_true rfl⟩).run (nm_e ?_)
  refine lv_istore_n (lv' := [(3, .int (s_countLayers st b)), (0, .ref (a 0)), (1, .ref (a (3 + g))), (2, .int b)]) hx hb dX1_targetLayer_5 rfl hl (by decide) rfl (fun ls hl => ?_)
  refine lv_iload_n hx hb dX1_targetLayer_6 rfl (lv_at hl 0 rfl) ?_
  refine lv_if_le (tgt := 32) hx hb dX1_targetLayer_7 (by decide) (fun c_1 => ?_) (fun c_1 => ?_)
  · skip
    refine lv_iconst (v := 0) hx hb dX1_targetLayer_32 (by decide) ?_
    refine lv_istore (lv' := [(4, .int 0), (3, .int (s_countLayers st b)), (0, .ref (a 0)), (1, .ref (a (3 + g))), (2, .int b)]) hx hb dX1_targetLayer_33 hl (by decide) rfl (fun ls hl => ?_)
    refine lv_iload hx hb dX1_targetLayer_35 (lv_at hl 0 rfl) ?_
    refine lv_if_eq (tgt := 46) hx hb dX1_targetLayer_37 (by decide) (fun _ => ?_) (fun c_2 => absurd (by decide) c_2)
    refine lv_iload_n hx hb dX1_targetLayer_46 rfl (lv_at hl 1 rfl) ?_
    exact W.iret (v := (s_countLayers st b)) hx hb hr (fun t ht hW => ⟨(s_countLayers st b), rfl, (by simp only [s_target, if_pos c_1] <;> rfl), ht⟩) (fun q h => absurd h List.not_mem_nil) dX1_targetLayer_47
  · skip
    refine lv_aload_n hx hb dX1_targetLayer_10 rfl (lv_at hl 1 rfl) ?_
    refine lv_iload_n hx hb dX1_targetLayer_11 rfl (lv_at hl 3 rfl) ?_
    refine lv_iload_n hx hb dX1_targetLayer_12 rfl (lv_at hl 0 rfl) ?_
    refine lv_iconst (v := 1) hx hb dX1_targetLayer_13 (by decide) ?_
    refine lv_isub hx hb dX1_targetLayer_14 ?_
    refine vp_callSi (va_runV (As := [.int b, .int ((s_countLayers st b) - 1)]) (rest := []) ⟨hx, hb, hml, hown, hts⟩ (c_X1_sizeOfLayer l D G a st b ((s_countLayers st b) - 1)) (cwV 2 hts gw_X1_156 rfl rfl rfl (by decide +kernel) ⟨Nat.le_of_ble_eq_true rfl, Nat.le_of_ble_eq_true rfl⟩) (pv_cw hK hP) rfl rfl hl.1 rfl (lv_room (Nat.le_of_ble_eq_true rfl)) dX1_targetLayer_15 ⟨Nat.le_of_ble_eq_true rfl, Nat.le_of_ble_eq_true rfl⟩).run (nm_e ?_)
    refine lv_aload_n hx hb dX1_targetLayer_18 rfl (lv_at hl 2 rfl) ?_
    refine va_get (D := D) (ci := 6) (v := .int (itm st g 1)) (C := RX4) (T := TX4) (N := 8) hx hb hts i_X4 hown hK hP (3 + g) (cw_it G a st hgg) rfl 1 (by decide) (hts _ kw_82) (fun _ h9 => h9) rfl dX1_targetLayer_19 ?_
    refine lv_iadd hx hb dX1_targetLayer_22 ?_
    refine lv_bipush (v := 10) hx hb dX1_targetLayer_23 (by decide) ?_
    refine lv_icmp_gt (tgt := 32) hx hb dX1_targetLayer_25 (by decide) (fun c_3 => ?_) (fun c_3 => ?_)
    · skip
      refine lv_iconst (v := 0) hx hb dX1_targetLayer_32 (by decide) ?_
      refine lv_istore (lv' := [(4, .int 0), (3, .int (s_countLayers st b)), (0, .ref (a 0)), (1, .ref (a (3 + g))), (2, .int b)]) hx hb dX1_targetLayer_33 hl (by decide) rfl (fun ls hl => ?_)
      refine lv_iload hx hb dX1_targetLayer_35 (lv_at hl 0 rfl) ?_
      refine lv_if_eq (tgt := 46) hx hb dX1_targetLayer_37 (by decide) (fun _ => ?_) (fun c_4 => absurd (by decide) c_4)
      refine lv_iload_n hx hb dX1_targetLayer_46 rfl (lv_at hl 1 rfl) ?_
      exact W.iret (v := (s_countLayers st b)) hx hb hr (fun t ht hW => ⟨(s_countLayers st b), rfl, (by simp only [s_target, if_neg c_1, if_pos c_3] <;> rfl), ht⟩) (fun q h => absurd h List.not_mem_nil) dX1_targetLayer_47
    · skip
      refine lv_iconst (v := 1) hx hb dX1_targetLayer_28 (by decide) ?_
      refine lv_goto (tgt := 33) hx hb dX1_targetLayer_29 (by decide) ?_
      refine lv_istore (lv' := [(4, .int 1), (3, .int (s_countLayers st b)), (0, .ref (a 0)), (1, .ref (a (3 + g))), (2, .int b)]) hx hb dX1_targetLayer_33 hl (by decide) rfl (fun ls hl => ?_)
      refine lv_iload hx hb dX1_targetLayer_35 (lv_at hl 0 rfl) ?_
      refine lv_if_eq (tgt := 46) hx hb dX1_targetLayer_37 (by decide) (fun c_5 => absurd c_5 (by decide)) (fun _ => ?_)
      refine lv_iload_n hx hb dX1_targetLayer_40 rfl (lv_at hl 1 rfl) ?_
      refine lv_iconst (v := 1) hx hb dX1_targetLayer_41 (by decide) ?_
      refine lv_isub hx hb dX1_targetLayer_42 ?_
      refine lv_goto (tgt := 47) hx hb dX1_targetLayer_43 (by decide) ?_
      exact W.iret (v := (s_countLayers st b) - 1) hx hb hr (fun t ht hW => ⟨(s_countLayers st b) - 1, rfl, (by simp only [s_target, if_neg c_1, if_neg c_3] <;> rfl), ht⟩) (fun q h => absurd h List.not_mem_nil) dX1_targetLayer_47
set_option maxRecDepth 100000 in
set_option maxHeartbeats 4000000 in
theorem c_X1_hasEarlierStopBelow (l : Launch) (D : va_G) (G : GA) (a : Nat → Nat) (st : CS) (g : Nat) (hgg : g < 13) (b : Int32) (w : Int32) : Met l yX1_hasEarlierStopBelow (wA yX1_hasEarlierStopBelow cX1_hasEarlierStopBelow 8 (some .boolean)) ({ frames := 0, cells := 0, slots := 0, locals := 0 } : Room) (va_Pc [.ref (a 0), .ref (a (3 + g)), .int b, .int w] (CWp D G a st)) (vp_Si (fun r => r = bi (s_earlier st g b w))) 0 0 (fun _ => False) := by
  refine Met.ofW (cc := cX1_hasEarlierStopBelow) (maxL := 8) (ret := (some .boolean)) (by decide) rfl ?_
  intro p e s m args below meth c s₁ B hml hv
  obtain ⟨rfl, hP, hK⟩ := hv
  have hx := B.exec
  have hb := B.bytes
  have hr := B.returns
  have hts : ∀ w9 ∈ tb, w9.before ([.ref (a 0), .ref (a (3 + g)), .int b, .int w] : List Value).toArray s = true := fun w9 h9 => atoms_spec (ws := (wA yX1_hasEarlierStopBelow cX1_hasEarlierStopBelow 8 (some .boolean))) B.pre w9 (List.mem_cons_of_mem _ h9)
  have hown : s.vm.findClass RX1 = some m.cls := findClass_of_methodNamed B.named
  have hlocks := B.notSynchronized
  have hl := lv_entry ([.ref (a 0), .ref (a (3 + g)), .int b, .int w]) (n := 8) (Nat.le_of_ble_eq_true rfl)
  rw [lg_entry_eq]
  generalize (lg_sl ([.ref (a 0), .ref (a (3 + g)), .int b, .int w]) ++ List.replicate (8 - (lg_sl ([.ref (a 0), .ref (a (3 + g)), .int b, .int w])).length) Slot.unset).toArray = ls at hl ⊢
  have hl : lv_has ls 8 [(0, .ref (a 0)), (1, .ref (a (3 + g))), (2, .int b), (3, .int w)] := hl
  refine lv_aload_n hx hb dX1_hasEarlierStopBelow_0 rfl (lv_at hl 0 rfl) ?_
  refine va_get (D := D) (ci := 4) (v := .ref (a 1)) (C := RX1) (T := TX1) (N := 7) hx hb hts i_X1 hown hK hP 0 rfl rfl 0 (by decide) (hts _ kw_118) (fun _ h9 => h9) rfl dX1_hasEarlierStopBelow_1 ?_
  refine lv_astore (x := (a 1)) (lv' := [(4, .ref (a 1)), (0, .ref (a 0)), (1, .ref (a (3 + g))), (2, .int b), (3, .int w)]) hx hb dX1_hasEarlierStopBelow_4 hl (by decide) rfl (fun ls hl => ?_)
  refine lv_aload hx hb dX1_hasEarlierStopBelow_6 (lv_at hl 0 rfl) ?_
  refine va_alen (v := nI 12) hx hb hK hP 1 0 rfl rfl rfl dX1_hasEarlierStopBelow_8 ?_
  refine lv_istore (lv' := [(5, .int (nI 12)), (4, .ref (a 1)), (0, .ref (a 0)), (1, .ref (a (3 + g))), (2, .int b), (3, .int w)]) hx hb dX1_hasEarlierStopBelow_9 hl (by decide) rfl (fun ls hl => ?_)
  refine lv_iconst (v := 0) hx hb dX1_hasEarlierStopBelow_11 (by decide) ?_
  refine lv_istore (lv' := [(6, .int 0), (5, .int (nI 12)), (4, .ref (a 1)), (0, .ref (a 0)), (1, .ref (a (3 + g))), (2, .int b), (3, .int w)]) hx hb dX1_hasEarlierStopBelow_12 hl (by decide) rfl (fun ls hl => ?_)
  have L14 : ∀ (n k : Nat), k + n = 12 → s_earlier st g b w = exs (q_earlier st g b w) n k → ∀ ls : Array Slot, lv_has ls 8 [(6, .int (nI k)), (5, .int (nI 12)), (4, .ref (a 1)), (0, .ref (a 0)), (1, .ref (a (3 + g))), (2, .int b), (3, .int w)] → W p l e (headSpec (wA yX1_hasEarlierStopBelow cX1_hasEarlierStopBelow 8 (some .boolean)) ({ frames := 0, cells := 0, slots := 0, locals := 0 } : Room)).room s m ([.ref (a 0), .ref (a (3 + g)), .int b, .int w] : List Value).toArray below meth c s.heap [] 0 0 (MQ below (vp_Si (fun r => r = bi (s_earlier st g b w))) ([.ref (a 0), .ref (a (3 + g)), .int b, .int w] : List Value).toArray s 0 0 (fun _ => False)) (F0 m 14 ls []) := by
    intro n
    induction n with
    | zero =>
      intro k hk0 he ls hl
      obtain rfl : k = 12 := by omega
      refine lv_iload hx hb dX1_hasEarlierStopBelow_14 (lv_at hl 0 rfl) ?_
      refine lv_iload hx hb dX1_hasEarlierStopBelow_16 (lv_at hl 1 rfl) ?_
      refine lv_icmp_ge (tgt := 66) hx hb dX1_hasEarlierStopBelow_18 (by decide) (fun _ => ?_) (fun c_1 => absurd (nI_le (a := 12) (b := 12) (by omega) (by omega)) c_1)
      refine lv_iconst (v := 0) hx hb dX1_hasEarlierStopBelow_66 (by decide) ?_
      exact W.zret (ty := .boolean) (v := 0) hx hb hr (by decide) (fun t ht hW => ⟨0, rfl, (by rw [he]; rfl), ht⟩) (fun q h => absurd h List.not_mem_nil) dX1_hasEarlierStopBelow_67
    | succ n ih =>
      intro k hk0 he ls hl
      have hk12 : k < 12 := by omega
      refine lv_iload hx hb dX1_hasEarlierStopBelow_14 (lv_at hl 0 rfl) ?_
      refine lv_iload hx hb dX1_hasEarlierStopBelow_16 (lv_at hl 1 rfl) ?_
      refine lv_icmp_ge (tgt := 66) hx hb dX1_hasEarlierStopBelow_18 (by decide) (fun c_2 => absurd c_2 (nI_ge (a := k) (b := 12) (by omega) (by omega))) (fun _ => ?_)
      refine lv_aload hx hb dX1_hasEarlierStopBelow_21 (lv_at hl 2 rfl) ?_
      refine lv_iload hx hb dX1_hasEarlierStopBelow_23 (lv_at hl 0 rfl) ?_
      refine va_aldq hx hb hK hP 1 0 rfl rfl (vp_in_nI (by omega) (by decide)) dX1_hasEarlierStopBelow_25 ?_
      rw [nI_clamp (n := k) (by omega)]
      refine lv_astore (x := (a (3 + k))) (lv' := [(7, .ref (a (3 + k))), (6, .int (nI k)), (5, .int (nI 12)), (4, .ref (a 1)), (0, .ref (a 0)), (1, .ref (a (3 + g))), (2, .int b), (3, .int w)]) hx hb dX1_hasEarlierStopBelow_26 hl (by decide) rfl (fun ls hl => ?_)
      refine lv_aload hx hb dX1_hasEarlierStopBelow_28 (lv_at hl 0 rfl) ?_
      refine va_get (D := D) (ci := 6) (v := .int (itm st k 5)) (C := RX4) (T := TX4) (N := 8) hx hb hts i_X4 hown hK hP (3 + k) (cw_it G a st (by omega)) rfl 5 (by decide) (hts _ kw_94) (fun _ h9 => h9) rfl dX1_hasEarlierStopBelow_30 ?_
      refine lv_iload_n hx hb dX1_hasEarlierStopBelow_33 rfl (lv_at hl 6 rfl) ?_
      refine lv_icmp_ne (tgt := 60) hx hb dX1_hasEarlierStopBelow_34 (by decide) (fun c_3 => ?_) (fun c_3 => ?_)
      · skip
        refine lv_iinc (v := nI (k + 1)) (lv' := [(6, .int (nI (k + 1))), (7, .ref (a (3 + k))), (5, .int (nI 12)), (4, .ref (a 1)), (0, .ref (a 0)), (1, .ref (a (3 + g))), (2, .int b), (3, .int w)]) hx hb dX1_hasEarlierStopBelow_60 hl (k := 1) rfl (by exact nI_1 k) (by decide) rfl (fun ls hl => ?_)
        refine lv_goto (tgt := 14) hx hb dX1_hasEarlierStopBelow_63 (by decide) ?_
        exact ih (k + 1) (by omega) (he.trans (exs_miss (by simp only [q_earlier, if_neg c_3]))) ls (lv_sub hl [0, 2, 3, 4, 5, 6, 7] rfl)
      · skip
        refine lv_aload hx hb dX1_hasEarlierStopBelow_37 (lv_at hl 0 rfl) ?_
        refine va_get (D := D) (ci := 6) (v := .int (itm st k 6)) (C := RX4) (T := TX4) (N := 8) hx hb hts i_X4 hown hK hP (3 + k) (cw_it G a st (by omega)) rfl 6 (by decide) (hts _ kw_97) (fun _ h9 => h9) rfl dX1_hasEarlierStopBelow_39 ?_
        refine lv_iload_n hx hb dX1_hasEarlierStopBelow_42 rfl (lv_at hl 7 rfl) ?_
        refine lv_icmp_ge (tgt := 60) hx hb dX1_hasEarlierStopBelow_43 (by decide) (fun c_4 => ?_) (fun c_4 => ?_)
        · skip
          refine lv_iinc (v := nI (k + 1)) (lv' := [(6, .int (nI (k + 1))), (7, .ref (a (3 + k))), (5, .int (nI 12)), (4, .ref (a 1)), (0, .ref (a 0)), (1, .ref (a (3 + g))), (2, .int b), (3, .int w)]) hx hb dX1_hasEarlierStopBelow_60 hl (k := 1) rfl (by exact nI_1 k) (by decide) rfl (fun ls hl => ?_)
          refine lv_goto (tgt := 14) hx hb dX1_hasEarlierStopBelow_63 (by decide) ?_
          exact ih (k + 1) (by omega) (he.trans (exs_miss (by simp only [q_earlier, if_pos c_3, if_pos c_4]))) ls (lv_sub hl [0, 2, 3, 4, 5, 6, 7] rfl)
        · skip
          refine lv_aload hx hb dX1_hasEarlierStopBelow_46 (lv_at hl 0 rfl) ?_
          refine va_get (D := D) (ci := 6) (v := .int (itm st k 3)) (C := RX4) (T := TX4) (N := 8) hx hb hts i_X4 hown hK hP (3 + k) (cw_it G a st (by omega)) rfl 3 (by decide) (hts _ kw_88) (fun _ h9 => h9) rfl dX1_hasEarlierStopBelow_48 ?_
          refine lv_aload_n hx hb dX1_hasEarlierStopBelow_51 rfl (lv_at hl 5 rfl) ?_
          refine va_get (D := D) (ci := 6) (v := .int (itm st g 3)) (C := RX4) (T := TX4) (N := 8) hx hb hts i_X4 hown hK hP (3 + g) (cw_it G a st hgg) rfl 3 (by decide) (hts _ kw_88) (fun _ h9 => h9) rfl dX1_hasEarlierStopBelow_52 ?_
          refine lv_icmp_ge (tgt := 60) hx hb dX1_hasEarlierStopBelow_55 (by decide) (fun c_5 => ?_) (fun c_5 => ?_)
          · skip
            refine lv_iinc (v := nI (k + 1)) (lv' := [(6, .int (nI (k + 1))), (7, .ref (a (3 + k))), (5, .int (nI 12)), (4, .ref (a 1)), (0, .ref (a 0)), (1, .ref (a (3 + g))), (2, .int b), (3, .int w)]) hx hb dX1_hasEarlierStopBelow_60 hl (k := 1) rfl (by exact nI_1 k) (by decide) rfl (fun ls hl => ?_)
            refine lv_goto (tgt := 14) hx hb dX1_hasEarlierStopBelow_63 (by decide) ?_
            exact ih (k + 1) (by omega) (he.trans (exs_miss (by simp only [q_earlier, if_pos c_3, if_neg c_4, if_pos c_5]))) ls (lv_sub hl [0, 2, 3, 4, 5, 6, 7] rfl)
          · skip
            refine lv_iconst (v := 1) hx hb dX1_hasEarlierStopBelow_58 (by decide) ?_
            exact W.zret (ty := .boolean) (v := 1) hx hb hr (by decide) (fun t ht hW => ⟨1, rfl, (by rw [he, exs_hit (by simp only [q_earlier, if_pos c_3, if_neg c_4, if_neg c_5])]; rfl), ht⟩) (fun q h => absurd h List.not_mem_nil) dX1_hasEarlierStopBelow_59
  exact L14 12 0 rfl rfl ls (lv_sub hl [0, 1, 2, 3, 4, 5, 6] rfl)
set_option maxRecDepth 100000 in
set_option maxHeartbeats 4000000 in
theorem c_X1_crushesBelow (l : Launch) (D : va_G) (G : GA) (a : Nat → Nat) (st : CS) (g : Nat) (hgg : g < 13) (b : Int32) (w : Int32) : Met l yX1_crushesBelow (wA yX1_crushesBelow cX1_crushesBelow 8 (some .boolean)) ({ frames := 1, cells := 0, slots := 0, locals := 27 } : Room) (va_Pc [.ref (a 0), .ref (a (3 + g)), .int b, .int w] (CWp D G a st)) (vp_Si (fun r => r = bi (s_crushes st g b w))) 0 0 (fun _ => False) := by
  refine Met.ofW (cc := cX1_crushesBelow) (maxL := 8) (ret := (some .boolean)) (by decide) rfl ?_
  intro p e s m args below meth c s₁ B hml hv
  obtain ⟨rfl, hP, hK⟩ := hv
  have hx := B.exec
  have hb := B.bytes
  have hr := B.returns
  have hts : ∀ w9 ∈ tb, w9.before ([.ref (a 0), .ref (a (3 + g)), .int b, .int w] : List Value).toArray s = true := fun w9 h9 => atoms_spec (ws := (wA yX1_crushesBelow cX1_crushesBelow 8 (some .boolean))) B.pre w9 (List.mem_cons_of_mem _ h9)
  have hown : s.vm.findClass RX1 = some m.cls := findClass_of_methodNamed B.named
  have hlocks := B.notSynchronized
  have hl := lv_entry ([.ref (a 0), .ref (a (3 + g)), .int b, .int w]) (n := 8) (Nat.le_of_ble_eq_true rfl)
  rw [lg_entry_eq]
  generalize (lg_sl ([.ref (a 0), .ref (a (3 + g)), .int b, .int w]) ++ List.replicate (8 - (lg_sl ([.ref (a 0), .ref (a (3 + g)), .int b, .int w])).length) Slot.unset).toArray = ls at hl ⊢
  have hl : lv_has ls 8 [(0, .ref (a 0)), (1, .ref (a (3 + g))), (2, .int b), (3, .int w)] := hl
  refine lv_aload_n hx hb dX1_crushesBelow_0 rfl (lv_at hl 0 rfl) ?_
  refine va_get (D := D) (ci := 4) (v := .ref (a 1)) (C := RX1) (T := TX1) (N := 7) hx hb hts i_X1 hown hK hP 0 rfl rfl 0 (by decide) (hts _ kw_118) (fun _ h9 => h9) rfl dX1_crushesBelow_1 ?_
  refine lv_astore (x := (a 1)) (lv' := [(4, .ref (a 1)), (0, .ref (a 0)), (1, .ref (a (3 + g))), (2, .int b), (3, .int w)]) hx hb dX1_crushesBelow_4 hl (by decide) rfl (fun ls hl => ?_)
  refine lv_aload hx hb dX1_crushesBelow_6 (lv_at hl 0 rfl) ?_
  refine va_alen (v := nI 12) hx hb hK hP 1 0 rfl rfl rfl dX1_crushesBelow_8 ?_
  refine lv_istore (lv' := [(5, .int (nI 12)), (4, .ref (a 1)), (0, .ref (a 0)), (1, .ref (a (3 + g))), (2, .int b), (3, .int w)]) hx hb dX1_crushesBelow_9 hl (by decide) rfl (fun ls hl => ?_)
  refine lv_iconst (v := 0) hx hb dX1_crushesBelow_11 (by decide) ?_
  refine lv_istore (lv' := [(6, .int 0), (5, .int (nI 12)), (4, .ref (a 1)), (0, .ref (a 0)), (1, .ref (a (3 + g))), (2, .int b), (3, .int w)]) hx hb dX1_crushesBelow_12 hl (by decide) rfl (fun ls hl => ?_)
  have L14 : ∀ (n k : Nat), k + n = 12 → s_crushes st g b w = exs (q_crushes st g b w) n k → ∀ ls : Array Slot, lv_has ls 8 [(6, .int (nI k)), (5, .int (nI 12)), (4, .ref (a 1)), (0, .ref (a 0)), (1, .ref (a (3 + g))), (2, .int b), (3, .int w)] → W p l e (headSpec (wA yX1_crushesBelow cX1_crushesBelow 8 (some .boolean)) ({ frames := 1, cells := 0, slots := 0, locals := 27 } : Room)).room s m ([.ref (a 0), .ref (a (3 + g)), .int b, .int w] : List Value).toArray below meth c s.heap [] 0 0 (MQ below (vp_Si (fun r => r = bi (s_crushes st g b w))) ([.ref (a 0), .ref (a (3 + g)), .int b, .int w] : List Value).toArray s 0 0 (fun _ => False)) (F0 m 14 ls []) := by
    intro n
    induction n with
    | zero =>
      intro k hk0 he ls hl
      obtain rfl : k = 12 := by omega
      refine lv_iload hx hb dX1_crushesBelow_14 (lv_at hl 0 rfl) ?_
      refine lv_iload hx hb dX1_crushesBelow_16 (lv_at hl 1 rfl) ?_
      refine lv_icmp_ge (tgt := 82) hx hb dX1_crushesBelow_18 (by decide) (fun _ => ?_) (fun c_1 => absurd (nI_le (a := 12) (b := 12) (by omega) (by omega)) c_1)
      refine lv_iconst (v := 0) hx hb dX1_crushesBelow_82 (by decide) ?_
      exact W.zret (ty := .boolean) (v := 0) hx hb hr (by decide) (fun t ht hW => ⟨0, rfl, (by rw [he]; rfl), ht⟩) (fun q h => absurd h List.not_mem_nil) dX1_crushesBelow_83
    | succ n ih =>
      intro k hk0 he ls hl
      have hk12 : k < 12 := by omega
      refine lv_iload hx hb dX1_crushesBelow_14 (lv_at hl 0 rfl) ?_
      refine lv_iload hx hb dX1_crushesBelow_16 (lv_at hl 1 rfl) ?_
      refine lv_icmp_ge (tgt := 82) hx hb dX1_crushesBelow_18 (by decide) (fun c_2 => absurd c_2 (nI_ge (a := k) (b := 12) (by omega) (by omega))) (fun _ => ?_)
      refine lv_aload hx hb dX1_crushesBelow_21 (lv_at hl 2 rfl) ?_
      refine lv_iload hx hb dX1_crushesBelow_23 (lv_at hl 0 rfl) ?_
      refine va_aldq hx hb hK hP 1 0 rfl rfl (vp_in_nI (by omega) (by decide)) dX1_crushesBelow_25 ?_
      rw [nI_clamp (n := k) (by omega)]
      refine lv_astore (x := (a (3 + k))) (lv' := [(7, .ref (a (3 + k))), (6, .int (nI k)), (5, .int (nI 12)), (4, .ref (a 1)), (0, .ref (a 0)), (1, .ref (a (3 + g))), (2, .int b), (3, .int w)]) hx hb dX1_crushesBelow_26 hl (by decide) rfl (fun ls hl => ?_)
      refine lv_aload hx hb dX1_crushesBelow_28 (lv_at hl 0 rfl) ?_
      refine va_get (D := D) (ci := 6) (v := .int (itm st k 5)) (C := RX4) (T := TX4) (N := 8) hx hb hts i_X4 hown hK hP (3 + k) (cw_it G a st (by omega)) rfl 5 (by decide) (hts _ kw_94) (fun _ h9 => h9) rfl dX1_crushesBelow_30 ?_
      refine lv_iload_n hx hb dX1_crushesBelow_33 rfl (lv_at hl 6 rfl) ?_
      refine lv_icmp_ne (tgt := 76) hx hb dX1_crushesBelow_34 (by decide) (fun c_3 => ?_) (fun c_3 => ?_)
      · skip
        refine lv_iinc (v := nI (k + 1)) (lv' := [(6, .int (nI (k + 1))), (7, .ref (a (3 + k))), (5, .int (nI 12)), (4, .ref (a 1)), (0, .ref (a 0)), (1, .ref (a (3 + g))), (2, .int b), (3, .int w)]) hx hb dX1_crushesBelow_76 hl (k := 1) rfl (by exact nI_1 k) (by decide) rfl (fun ls hl => ?_)
        refine lv_goto (tgt := 14) hx hb dX1_crushesBelow_79 (by decide) ?_
        exact ih (k + 1) (by omega) (he.trans (exs_miss (by simp only [q_crushes, if_neg c_3]))) ls (lv_sub hl [0, 2, 3, 4, 5, 6, 7] rfl)
      · skip
        refine lv_aload hx hb dX1_crushesBelow_37 (lv_at hl 0 rfl) ?_
        refine va_get (D := D) (ci := 6) (v := .int (itm st k 6)) (C := RX4) (T := TX4) (N := 8) hx hb hts i_X4 hown hK hP (3 + k) (cw_it G a st (by omega)) rfl 6 (by decide) (hts _ kw_97) (fun _ h9 => h9) rfl dX1_crushesBelow_39 ?_
        refine lv_iload_n hx hb dX1_crushesBelow_42 rfl (lv_at hl 7 rfl) ?_
        refine lv_icmp_ge (tgt := 76) hx hb dX1_crushesBelow_43 (by decide) (fun c_4 => ?_) (fun c_4 => ?_)
        · skip
          refine lv_iinc (v := nI (k + 1)) (lv' := [(6, .int (nI (k + 1))), (7, .ref (a (3 + k))), (5, .int (nI 12)), (4, .ref (a 1)), (0, .ref (a 0)), (1, .ref (a (3 + g))), (2, .int b), (3, .int w)]) hx hb dX1_crushesBelow_76 hl (k := 1) rfl (by exact nI_1 k) (by decide) rfl (fun ls hl => ?_)
          refine lv_goto (tgt := 14) hx hb dX1_crushesBelow_79 (by decide) ?_
          exact ih (k + 1) (by omega) (he.trans (exs_miss (by simp only [q_crushes, if_pos c_3, if_pos c_4]))) ls (lv_sub hl [0, 2, 3, 4, 5, 6, 7] rfl)
        · skip
          refine lv_aload hx hb dX1_crushesBelow_46 (lv_at hl 0 rfl) ?_
          refine va_get (D := D) (ci := 6) (v := .int (z01 (itm st k 4))) (C := RX4) (T := TX4) (N := 8) hx hb hts i_X4 hown hK hP (3 + k) (cw_it G a st (by omega)) rfl 4 (by decide) (hts _ kw_91) (fun _ h9 => h9) rfl dX1_crushesBelow_48 ?_
          refine lv_if_eq (tgt := 76) hx hb dX1_crushesBelow_51 (by decide) (fun c_5 => ?_) (fun c_5 => ?_)
          · skip
            refine lv_iinc (v := nI (k + 1)) (lv' := [(6, .int (nI (k + 1))), (7, .ref (a (3 + k))), (5, .int (nI 12)), (4, .ref (a 1)), (0, .ref (a 0)), (1, .ref (a (3 + g))), (2, .int b), (3, .int w)]) hx hb dX1_crushesBelow_76 hl (k := 1) rfl (by exact nI_1 k) (by decide) rfl (fun ls hl => ?_)
            refine lv_goto (tgt := 14) hx hb dX1_crushesBelow_79 (by decide) ?_
            exact ih (k + 1) (by omega) (he.trans (exs_miss (by simp only [q_crushes, if_pos c_3, if_neg c_4, if_pos c_5]))) ls (lv_sub hl [0, 2, 3, 4, 5, 6, 7] rfl)
          · skip
            refine lv_aload_n hx hb dX1_crushesBelow_54 rfl (lv_at hl 4 rfl) ?_
            refine lv_iload_n hx hb dX1_crushesBelow_55 rfl (lv_at hl 6 rfl) ?_
            refine lv_aload hx hb dX1_crushesBelow_56 (lv_at hl 0 rfl) ?_
            refine va_get (D := D) (ci := 6) (v := .int (itm st k 6)) (C := RX4) (T := TX4) (N := 8) hx hb hts i_X4 hown hK hP (3 + k) (cw_it G a st (by omega)) rfl 6 (by decide) (hts _ kw_97) (fun _ h9 => h9) rfl dX1_crushesBelow_58 ?_
            refine vp_callSi (va_runV (As := [.int b, .int (itm st k 6)]) (rest := []) ⟨hx, hb, hml, hown, hts⟩ (c_X1_loadOn l D G a st b (itm st k 6)) (cwV 2 hts gw_X1_159 rfl rfl rfl (by decide +kernel) ⟨Nat.le_of_ble_eq_true rfl, Nat.le_of_ble_eq_true rfl⟩) (pv_cw hK hP) rfl rfl hl.1 rfl (lv_room (Nat.le_of_ble_eq_true rfl)) dX1_crushesBelow_61 ⟨Nat.le_of_ble_eq_true rfl, Nat.le_of_ble_eq_true rfl⟩).run (nm_e ?_)
            refine lv_aload_n hx hb dX1_crushesBelow_64 rfl (lv_at hl 5 rfl) ?_
            refine va_get (D := D) (ci := 6) (v := .int (itm st g 2)) (C := RX4) (T := TX4) (N := 8) hx hb hts i_X4 hown hK hP (3 + g) (cw_it G a st hgg) rfl 2 (by decide) (hts _ kw_85) (fun _ h9 => h9) rfl dX1_crushesBelow_65 ?_
            refine lv_iadd hx hb dX1_crushesBelow_68 ?_
            refine lv_bipush (v := 8) hx hb dX1_crushesBelow_69 (by decide) ?_
            refine lv_icmp_le (tgt := 76) hx hb dX1_crushesBelow_71 (by decide) (fun c_6 => ?_) (fun c_6 => ?_)
            · skip
              refine lv_iinc (v := nI (k + 1)) (lv' := [(6, .int (nI (k + 1))), (7, .ref (a (3 + k))), (5, .int (nI 12)), (4, .ref (a 1)), (0, .ref (a 0)), (1, .ref (a (3 + g))), (2, .int b), (3, .int w)]) hx hb dX1_crushesBelow_76 hl (k := 1) rfl (by exact nI_1 k) (by decide) rfl (fun ls hl => ?_)
              refine lv_goto (tgt := 14) hx hb dX1_crushesBelow_79 (by decide) ?_
              exact ih (k + 1) (by omega) (he.trans (exs_miss (by simp only [q_crushes, if_pos c_3, if_neg c_4, if_neg c_5, if_pos c_6]))) ls (lv_sub hl [0, 2, 3, 4, 5, 6, 7] rfl)
            · skip
              refine lv_iconst (v := 1) hx hb dX1_crushesBelow_74 (by decide) ?_
              exact W.zret (ty := .boolean) (v := 1) hx hb hr (by decide) (fun t ht hW => ⟨1, rfl, (by rw [he, exs_hit (by simp only [q_crushes, if_pos c_3, if_neg c_4, if_neg c_5, if_neg c_6])]; rfl), ht⟩) (fun q h => absurd h List.not_mem_nil) dX1_crushesBelow_75
  exact L14 12 0 rfl rfl ls (lv_sub hl [0, 1, 2, 3, 4, 5, 6] rfl)
set_option maxRecDepth 100000 in
set_option maxHeartbeats 4000000 in
theorem c_X1_refusal (l : Launch) (D : va_G) (G : GA) (a : Nat → Nat) (st : CS) (g : Nat) (hgg : g < 13) (b : Int32) : Met l yX1_refusal (wA yX1_refusal cX1_refusal 4 (some .int)) ({ frames := 3, cells := 0, slots := 0, locals := 71 } : Room) (va_Pc [.ref (a 0), .ref (a (3 + g)), .int b] (CWp D G a st)) (vp_Si (fun r => r = s_refusal st g b)) 0 0 (fun _ => False) := by
  refine Met.ofW (cc := cX1_refusal) (maxL := 4) (ret := (some .int)) (by decide) rfl ?_
  intro p e s m args below meth c s₁ B hml hv
  obtain ⟨rfl, hP, hK⟩ := hv
  have hx := B.exec
  have hb := B.bytes
  have hr := B.returns
  have hts : ∀ w9 ∈ tb, w9.before ([.ref (a 0), .ref (a (3 + g)), .int b] : List Value).toArray s = true := fun w9 h9 => atoms_spec (ws := (wA yX1_refusal cX1_refusal 4 (some .int))) B.pre w9 (List.mem_cons_of_mem _ h9)
  have hown : s.vm.findClass RX1 = some m.cls := findClass_of_methodNamed B.named
  have hlocks := B.notSynchronized
  have hl := lv_entry ([.ref (a 0), .ref (a (3 + g)), .int b]) (n := 4) (Nat.le_of_ble_eq_true rfl)
  rw [lg_entry_eq]
  generalize (lg_sl ([.ref (a 0), .ref (a (3 + g)), .int b]) ++ List.replicate (4 - (lg_sl ([.ref (a 0), .ref (a (3 + g)), .int b])).length) Slot.unset).toArray = ls at hl ⊢
  have hl : lv_has ls 4 [(0, .ref (a 0)), (1, .ref (a (3 + g))), (2, .int b)] := hl
  refine lv_aload_n hx hb dX1_refusal_0 rfl (lv_at hl 0 rfl) ?_
  refine lv_aload_n hx hb dX1_refusal_1 rfl (lv_at hl 1 rfl) ?_
  refine lv_iload_n hx hb dX1_refusal_2 rfl (lv_at hl 2 rfl) ?_
  refine vp_callSi (va_runV (As := [.ref (a (3 + g)), .int b]) (rest := []) ⟨hx, hb, hml, hown, hts⟩ (c_X1_targetLayer l D G a st g hgg b) (cwV 2 hts gw_X1_136 rfl rfl rfl (by decide +kernel) ⟨Nat.le_of_ble_eq_true rfl, Nat.le_of_ble_eq_true rfl⟩) (pv_cw hK hP) rfl rfl hl.1 rfl (lv_room (Nat.le_of_ble_eq_true rfl)) dX1_refusal_3 ⟨Nat.le_of_ble_eq_true rfl, Nat.le_of_ble_eq_true rfl⟩).run (nm_e ?_)
  refine lv_istore_n (lv' := [(3, .int (s_target st g b)), (0, .ref (a 0)), (1, .ref (a (3 + g))), (2, .int b)]) hx hb dX1_refusal_6 rfl hl (by decide) rfl (fun ls hl => ?_)
  refine lv_aload_n hx hb dX1_refusal_7 rfl (lv_at hl 2 rfl) ?_
  refine va_get (D := D) (ci := 6) (v := .int (itm st g 2)) (C := RX4) (T := TX4) (N := 8) hx hb hts i_X4 hown hK hP (3 + g) (cw_it G a st hgg) rfl 2 (by decide) (hts _ kw_85) (fun _ h9 => h9) rfl dX1_refusal_8 ?_
  refine lv_aload_n hx hb dX1_refusal_11 rfl (lv_at hl 1 rfl) ?_
  refine lv_iload_n hx hb dX1_refusal_12 rfl (lv_at hl 3 rfl) ?_
  refine vp_callSi (va_runV (As := [.int b]) (rest := [.int (itm st g 2)]) ⟨hx, hb, hml, hown, hts⟩ (c_X1_roomIn l D G a st b) (cwV 1 hts gw_X1_146 rfl rfl rfl (by decide +kernel) ⟨Nat.le_of_ble_eq_true rfl, Nat.le_of_ble_eq_true rfl⟩) (pv_cw hK hP) rfl rfl hl.1 rfl (lv_room (Nat.le_of_ble_eq_true rfl)) dX1_refusal_13 ⟨Nat.le_of_ble_eq_true rfl, Nat.le_of_ble_eq_true rfl⟩).run (nm_e ?_)
  refine lv_icmp_le (tgt := 21) hx hb dX1_refusal_16 (by decide) (fun c_1 => ?_) (fun c_1 => ?_)
  · skip
    refine lv_iload_n hx hb dX1_refusal_21 rfl (lv_at hl 0 rfl) ?_
    refine lv_iconst (v := 5) hx hb dX1_refusal_22 (by decide) ?_
    refine lv_icmp_lt (tgt := 28) hx hb dX1_refusal_23 (by decide) (fun c_2 => ?_) (fun c_2 => ?_)
    · skip
      refine lv_aload_n hx hb dX1_refusal_28 rfl (lv_at hl 1 rfl) ?_
      refine lv_aload_n hx hb dX1_refusal_29 rfl (lv_at hl 2 rfl) ?_
      refine lv_iload_n hx hb dX1_refusal_30 rfl (lv_at hl 3 rfl) ?_
      refine lv_iload_n hx hb dX1_refusal_31 rfl (lv_at hl 0 rfl) ?_
      refine vp_callSi (va_runV (As := [.ref (a (3 + g)), .int b, .int (s_target st g b)]) (rest := []) ⟨hx, hb, hml, hown, hts⟩ (c_X1_hasEarlierStopBelow l D G a st g hgg b (s_target st g b)) (cwV 3 hts gw_X1_149 rfl rfl rfl (by decide +kernel) ⟨Nat.le_of_ble_eq_true rfl, Nat.le_of_ble_eq_true rfl⟩) (pv_cw hK hP) rfl rfl hl.1 rfl (lv_room (Nat.le_of_ble_eq_true rfl)) dX1_refusal_32 ⟨Nat.le_of_ble_eq_true rfl, Nat.le_of_ble_eq_true rfl⟩).run (nm_e ?_)
      cases hb_3 : s_earlier st g b (s_target st g b)
      case true =>
        refine lv_if_eq (tgt := 40) hx hb dX1_refusal_35 (by decide) (fun c_4 => absurd c_4 (by decide)) (fun _ => ?_)
        refine lv_iconst (v := 3) hx hb dX1_refusal_38 (by decide) ?_
        exact W.iret (v := 3) hx hb hr (fun t ht hW => ⟨3, rfl, (by simp only [s_refusal, if_pos c_1, if_pos c_2, if_pos hb_3] <;> rfl), ht⟩) (fun q h => absurd h List.not_mem_nil) dX1_refusal_39
      case false =>
        refine lv_if_eq (tgt := 40) hx hb dX1_refusal_35 (by decide) (fun _ => ?_) (fun c_5 => absurd (by decide) c_5)
        refine lv_aload_n hx hb dX1_refusal_40 rfl (lv_at hl 1 rfl) ?_
        refine lv_aload_n hx hb dX1_refusal_41 rfl (lv_at hl 2 rfl) ?_
        refine lv_iload_n hx hb dX1_refusal_42 rfl (lv_at hl 3 rfl) ?_
        refine lv_iload_n hx hb dX1_refusal_43 rfl (lv_at hl 0 rfl) ?_
        refine vp_callSi (va_runV (As := [.ref (a (3 + g)), .int b, .int (s_target st g b)]) (rest := []) ⟨hx, hb, hml, hown, hts⟩ (c_X1_crushesBelow l D G a st g hgg b (s_target st g b)) (cwV 3 hts gw_X1_153 rfl rfl rfl (by decide +kernel) ⟨Nat.le_of_ble_eq_true rfl, Nat.le_of_ble_eq_true rfl⟩) (pv_cw hK hP) rfl rfl hl.1 rfl (lv_room (Nat.le_of_ble_eq_true rfl)) dX1_refusal_44 ⟨Nat.le_of_ble_eq_true rfl, Nat.le_of_ble_eq_true rfl⟩).run (nm_e ?_)
        cases hb_6 : s_crushes st g b (s_target st g b)
        case true =>
          refine lv_if_eq (tgt := 54) hx hb dX1_refusal_47 (by decide) (fun c_7 => absurd c_7 (by decide)) (fun _ => ?_)
          refine lv_iconst (v := 4) hx hb dX1_refusal_50 (by decide) ?_
          refine lv_goto (tgt := 55) hx hb dX1_refusal_51 (by decide) ?_
          exact W.iret (v := 4) hx hb hr (fun t ht hW => ⟨4, rfl, (by simp only [s_refusal, if_pos c_1, if_pos c_2, if_neg (bf hb_3), if_pos hb_6] <;> rfl), ht⟩) (fun q h => absurd h List.not_mem_nil) dX1_refusal_55
        case false =>
          refine lv_if_eq (tgt := 54) hx hb dX1_refusal_47 (by decide) (fun _ => ?_) (fun c_8 => absurd (by decide) c_8)
          refine lv_iconst (v := 0) hx hb dX1_refusal_54 (by decide) ?_
          exact W.iret (v := 0) hx hb hr (fun t ht hW => ⟨0, rfl, (by simp only [s_refusal, if_pos c_1, if_pos c_2, if_neg (bf hb_3), if_neg (bf hb_6)] <;> rfl), ht⟩) (fun q h => absurd h List.not_mem_nil) dX1_refusal_55
    · skip
      refine lv_iconst (v := 2) hx hb dX1_refusal_26 (by decide) ?_
      exact W.iret (v := 2) hx hb hr (fun t ht hW => ⟨2, rfl, (by simp only [s_refusal, if_pos c_1, if_neg c_2] <;> rfl), ht⟩) (fun q h => absurd h List.not_mem_nil) dX1_refusal_27
  · skip
    refine lv_iconst (v := 1) hx hb dX1_refusal_19 (by decide) ?_
    exact W.iret (v := 1) hx hb hr (fun t ht hW => ⟨1, rfl, (by simp only [s_refusal, if_neg c_1] <;> rfl), ht⟩) (fun q h => absurd h List.not_mem_nil) dX1_refusal_20
