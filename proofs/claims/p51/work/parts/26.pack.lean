theorem f_load_lt (st : CS) (id : Int32) (b : Int32) : f_load st id b < 6 := by
  unfold f_load
  repeat' split
  all_goals decide
def x_canPack (c0 : CS) (i b : Int32) : Nat := if x_item c0 i = 0 then (if x_bag c0 b = 0 then 0 else x_bag c0 b) else x_item c0 i
def s_canPack (c0 : CS) (i b : Int32) : Bool := if f_load c0 i b = 0 then true else false
theorem gw_X7_90 : GoodIn tb (wsV RX7 90 RX1 yX1_loadFault (wA yX1_loadFault cX1_loadFault 4 (some (.object "CourierBags$Fault")))) := gV kw_863 kw_864 kw_865 kw_25 kw_866
theorem gw_X7_94 : GoodIn tb (wsV RX7 94 RX7 yX7_keepRefusal (wA yX7_keepRefusal cX7_keepRefusal 4 none)) := gV kw_869 kw_871 kw_17 kw_24 kw_872
theorem gw_X7_98 : GoodIn tb (wsV RX7 98 RX1 yX1_load (wA yX1_load cX1_load 4 (some .int))) := gV kw_878 kw_879 kw_880 kw_25 kw_881
set_option maxRecDepth 100000 in
set_option maxHeartbeats 4000000 in
theorem c_X7_pack (l : Launch) (hfl : l.stackTraces = false) (D : va_G) (G : GA) (B0 : Nat) (X : Nat → Nat → Nat) (ad : AD) (c0 c1 c2 : CS) (hS : Nat → CS) (hn : Nat) (sv : SV) (lv : LV) (bs fl : Nat → Int32) (i : Int32) (b : Int32) (hh : hn ≤ 8) (hFr : f_load c0 i b = 0 → s_find c0 i < 12) (sz : Nat) : vx_Met l yX7_pack (wA yX7_pack cX7_pack 4 (some .int)) ({ frames := 7, cells := 1, slots := 6, locals := 117 } : Room) (va_Pc [.ref (ad.1 3 0), .int i, .int b] (CBp D G B0 X ad c0 c1 c2 hS hn sv lv bs fl sz)) (va_Qi (fun (r : Int32) (u : Unit) => f_load c0 i b = 0 ∧ r = (m_load c0 i b).1) (fun u t9 => va_P D vwCl (CBL G X (ad.1, pA ad.2.1 hn, ad.2.2) ((m_load c0 i b).2) c1 c2 (pS hS hn c0) (pN hn) sv lv bs (m_keep c0 fl (f_load c0 i b) i b)).flatten t9.heap ∧ va_D (va_A (CBL G X ad c0 c1 c2 hS hn sv lv bs fl).flatten sz) (CBL G X (ad.1, pA ad.2.1 hn, ad.2.2) ((m_load c0 i b).2) c1 c2 (pS hS hn c0) (pN hn) sv lv bs (m_keep c0 fl (f_load c0 i b) i b)).flatten) (va_A (CBL G X ad c0 c1 c2 hS hn sv lv bs fl).flatten sz)) (vx_X (fun _ : Unit => f_load c0 i b ≠ 0) (fun E _ t9 => E = exN (f_load c0 i b) ∧ va_P D vwCl (CBL G X ad c0 c1 c2 hS hn sv lv bs (m_keep c0 fl (f_load c0 i b) i b)).flatten t9.heap ∧ va_D (va_A (CBL G X ad c0 c1 c2 hS hn sv lv bs fl).flatten sz) (CBL G X ad c0 c1 c2 hS hn sv lv bs (m_keep c0 fl (f_load c0 i b) i b)).flatten) (va_A (CBL G X ad c0 c1 c2 hS hn sv lv bs fl).flatten sz)) 1 6 (va_A (CBL G X ad c0 c1 c2 hS hn sv lv bs fl).flatten sz) := by
  refine vx_ofW (cc := cX7_pack) (maxL := 4) (ret := (some .int)) (by decide) rfl ?_
  intro p9 e s m args below meth c9 s₁ B hml hxt hv
  obtain ⟨rfl, hsz, hP, hK, hDB, hE⟩ := hv
  have hx := B.exec
  have hb := B.bytes
  have hr := B.returns
  have hts : ∀ w9 ∈ tb, w9.before ([.ref (ad.1 3 0), .int i, .int b] : List Value).toArray s = true := fun w9 h9 => atoms_spec (ws := (wA yX7_pack cX7_pack 4 (some .int))) B.pre w9 (List.mem_cons_of_mem _ h9)
  have hown : s.vm.findClass RX7 = some m.cls := findClass_of_methodNamed B.named
  have hlocks := B.notSynchronized
  subst hsz
  have hD := hDB.self (sz := s.heap.size)
  have hAB := A_sub hDB hE.1
  generalize hAe : va_A (CBL G X ad c0 c1 c2 hS hn sv lv bs fl).flatten s.heap.size = A at hD hAB ⊢
  have hA0 : ∀ q : Nat, s.heap.size ≤ q → A q := fun q h => by rw [← hAe]; exact Or.inr h
  have hS0 : va_S A s.heap s.heap [] := va_S.rf
  have hl := lv_entry ([.ref (ad.1 3 0), .int i, .int b]) (n := 4) (Nat.le_of_ble_eq_true rfl)
  rw [lg_entry_eq]
  generalize (lg_sl ([.ref (ad.1 3 0), .int i, .int b]) ++ List.replicate (4 - (lg_sl ([.ref (ad.1 3 0), .int i, .int b])).length) Slot.unset).toArray = ls at hl ⊢
  have hl : lv_has ls 4 [(0, .ref (ad.1 3 0)), (1, .int i), (2, .int b)] := hl
  refine lv_aload_n hx hb dX7_pack_0 rfl (lv_at hl 0 rfl) ?_
  refine va_get (D := D) (ci := 8) (v := .ref (ad.1 0 0)) (C := RX7) (T := TX7) (N := 12) hx hb hts i_X7 hown hK (P_blk hP (i := 0) rfl) 0 rfl rfl 0 (by decide) (hts _ kw_228) (fun _ h9 => h9) rfl dX7_pack_1 ?_
  refine lv_iload_n hx hb dX7_pack_4 rfl (lv_at hl 1 rfl) ?_
  refine lv_iload_n hx hb dX7_pack_5 rfl (lv_at hl 2 rfl) ?_
  have hPc : va_P D vwCl (cw G (ad.1 0) c0) s.heap := P_blk hP (i := 1) rfl
  refine va_csr (va_runV (As := [.int i, .int b]) (rest := []) ⟨hx, hb, hml, hown, hts⟩ (c_X1_loadFault l D G B0 X (ad.1 0) c0 i b) (cwV 2 hts gw_X7_90 rfl rfl rfl (by decide +kernel) ⟨Nat.le_of_ble_eq_true rfl, Nat.le_of_ble_eq_true rfl⟩) (pv_ce hK hPc (hE.at hS0 hAB)) rfl rfl hl.1 rfl (lv_room (Nat.le_of_ble_eq_true rfl)) dX7_pack_6 ⟨Nat.le_of_ble_eq_true rfl, Nat.le_of_ble_eq_true rfl⟩).run (nm_e ?_)
  refine lv_astore_n (x := (X 0 (f_load c0 i b))) (lv' := [(3, .ref (X 0 (f_load c0 i b))), (0, .ref (ad.1 3 0)), (1, .int i), (2, .int b)]) hx hb dX7_pack_9 rfl hl (by decide) rfl (fun ls hl => ?_)
  refine lv_aload_n hx hb dX7_pack_10 rfl (lv_at hl 1 rfl) ?_
  refine lv_aload_n hx hb dX7_pack_11 rfl (lv_at hl 0 rfl) ?_
  refine lv_iload_n hx hb dX7_pack_12 rfl (lv_at hl 2 rfl) ?_
  refine lv_iload_n hx hb dX7_pack_13 rfl (lv_at hl 3 rfl) ?_
  have hFc := freeC hD hS0 hA0
  refine va_callv (va_runV (As := [.ref (X 0 (f_load c0 i b)), .int i, .int b]) (rest := []) ⟨hx, hb, hml, hown, hts⟩ (c_X7_keepRefusal l D G B0 X ad c0 c1 c2 hS hn sv lv bs fl (f_load c0 i b) (f_load_lt c0 i b) i b s.heap.size) (cwV 3 hts gw_X7_94 rfl rfl rfl (by decide +kernel) ⟨Nat.le_of_ble_eq_true rfl, Nat.le_of_ble_eq_true rfl⟩) (pv_cb hK hP hD hAB (hE.at hS0 hAB)) rfl rfl hl.1 rfl (lv_room (Nat.le_of_ble_eq_true rfl)) dX7_pack_14 ⟨Nat.le_of_ble_eq_true rfl, Nat.le_of_ble_eq_true rfl⟩) hS0 (fun q _ h => hFc q h) hFc (fun u t9 H locs ht hvm hw_1 hB hz1 hk1 hS0 => ?_)
  obtain ⟨hP, hB2⟩ := hB
  rw [ht] at hP
  have hD := hB2.weaken (fun _ _ _ h9 => hFc _ h9)
  have hP : va_P D vwCl (CBL G X ad c0 c1 c2 hS hn sv lv bs (m_keep c0 fl (f_load c0 i b) i b)).flatten H := hP
  have hD : va_D A (CBL G X ad c0 c1 c2 hS hn sv lv bs (m_keep c0 fl (f_load c0 i b) i b)).flatten := hD
  refine lv_aload_n hx hb dX7_pack_17 rfl (lv_at hl 0 rfl) ?_
  refine vx_callv (vx_runS (As := [.ref (X 0 (f_load c0 i b))]) (rest := []) ⟨hx, hb, hml, hown, hts⟩ (c_X7_raise l hfl B0 X (f_load c0 i b) (f_load_lt c0 i b)) (va_cwS 1 hts gw_X7_64 rfl rfl rfl (by decide +kernel) ⟨Nat.le_of_ble_eq_true rfl, Nat.le_of_ble_eq_true rfl⟩) (ps_rz (hE.at hS0 hAB)) rfl rfl hl.1 rfl (lv_room (Nat.le_of_ble_eq_true rfl)) dX7_pack_18 ⟨Nat.le_of_ble_eq_true rfl, Nat.le_of_ble_eq_true rfl⟩) hS0 (fun _ _ h => h.elim) (fun _ h => h.elim) (fun _ _ h => h.elim) ?_ ?_
  · intro E ce q9 u t9 H9 locs9 ht hvm hq_2 hBX hz1 hk1 hS9 hce hcv hcl
    have hPx : va_P D vwCl (CBL G X ad c0 c1 c2 hS hn sv lv bs (m_keep c0 fl (f_load c0 i b) i b)).flatten H9 := P_keep hP hk1 (fun _ _ h => h.elim)
    have hDx : va_D A (CBL G X ad c0 c1 c2 hS hn sv lv bs (m_keep c0 fl (f_load c0 i b) i b)).flatten := hD
    exact vx_out (fun x hx => (hxt x hx).elim) hlocks hce hcv hcl (fun t8 ht8 hv8 => ⟨(), hq_2, ⟨hBX, by rw [ht8]; exact hPx, hDx⟩, hS9.F ht8⟩) hS9.2.2 (Nat.le_of_ble_eq_true rfl) (Nat.le_of_ble_eq_true rfl)
  · intro u t9 H9 locs9 ht hvm hq_2 hB hz1 hk1 hS9
    have hP : va_P D vwCl (CBL G X ad c0 c1 c2 hS hn sv lv bs (m_keep c0 fl (f_load c0 i b) i b)).flatten H9 := P_keep hP hk1 (fun _ _ h => h.elim)
    clear hS0
    obtain ⟨H, rfl⟩ : ∃ z, z = H9 := ⟨_, rfl⟩
    have hS0 := hS9
    refine lv_aload_n hx hb dX7_pack_21 rfl (lv_at hl 1 rfl) ?_
    refine va_get (D := D) (ci := 8) (v := .ref (ad.1 3 1)) (C := RX7) (T := TX7) (N := 12) hx hb hts i_X7 hown hK (P_blk hP (i := 0) rfl) 0 rfl rfl 3 (by decide) (hts _ kw_231) (fun _ h9 => h9) rfl dX7_pack_22 ?_
    refine lv_aload_n hx hb dX7_pack_25 rfl (lv_at hl 1 rfl) ?_
    refine va_get (D := D) (ci := 8) (v := .ref (ad.1 0 0)) (C := RX7) (T := TX7) (N := 12) hx hb hts i_X7 hown hK (P_blk hP (i := 0) rfl) 0 rfl rfl 0 (by decide) (hts _ kw_228) (fun _ h9 => h9) rfl dX7_pack_26 ?_
    have hb4 : (CBL G X ad c0 c1 c2 hS hn sv lv bs (m_keep c0 fl (f_load c0 i b) i b))[4]? = some (HBL G (ad.1 3 1) (ad.1 3 2) (hR ad.2.1) (nI hn) ad.2.1 hS).flatten := rfl
    have hb1 : (CBL G X ad c0 c1 c2 hS hn sv lv bs (m_keep c0 fl (f_load c0 i b) i b))[1]? = some (cw G (ad.1 0) c0) := rfl
    have hFc := freeB hD hb4 hS0 hA0
    refine va_callv (va_runV (As := [.ref (ad.1 0 0)]) (rest := []) ⟨hx, hb, hml, hown, hts⟩ (c_X3_push l D G (ad.1 3 1) (ad.1 3 2) ad.2.1 hS hn hh (ad.1 0) c0 H.size) (cwV 1 hts gw_X7_68 rfl rfl rfl (by decide +kernel) ⟨Nat.le_of_ble_eq_true rfl, Nat.le_of_ble_eq_true rfl⟩) (pv_hp hK (P_blk hP hb4) (D_blk hD hb4) (P_blk hP hb1) (D_blk hD hb1) (dj_blk hD hb4 hb1 (by decide))) rfl rfl hl.1 rfl (lv_room (Nat.le_of_ble_eq_true rfl)) dX7_pack_29 ⟨Nat.le_of_ble_eq_true rfl, Nat.le_of_ble_eq_true rfl⟩) hS0 (fun q _ h => hFc q h) hFc (fun u t9 H1 locs ht hvm hw hB hz1 hk1 hS0 => ?_)
    have hB : va_P D vwCl (HBL G (ad.1 3 1) (ad.1 3 2) (hR (pA ad.2.1 hn)) (nI (pN hn)) (pA ad.2.1 hn) (pS hS hn c0)).flatten H1 := by have h9 := hB; rw [ht] at h9; exact h9
    have hD8 := D_rep2 (C1 := (HBL G (ad.1 3 1) (ad.1 3 2) (hR (pA ad.2.1 hn)) (nI (pN hn)) (pA ad.2.1 hn) (pS hS hn c0)).flatten) hP hD hb4 (pushD ((D_blk hD hb4).self (sz := H.size))) hFc
    have hP := P_rep hP hD hb4 hk1 hB
    have hD := hD8
    obtain ⟨H, rfl⟩ : ∃ z, z = H1 := ⟨_, rfl⟩
    have hP : va_P D vwCl (CBL G X (ad.1, pA ad.2.1 hn, ad.2.2) c0 c1 c2 (pS hS hn c0) (pN hn) sv lv bs (m_keep c0 fl (f_load c0 i b) i b)).flatten H := hP
    have hD : va_D A (CBL G X (ad.1, pA ad.2.1 hn, ad.2.2) c0 c1 c2 (pS hS hn c0) (pN hn) sv lv bs (m_keep c0 fl (f_load c0 i b) i b)).flatten := hD
    refine lv_aload_n hx hb dX7_pack_32 rfl (lv_at hl 1 rfl) ?_
    refine va_get (D := D) (ci := 8) (v := .ref (ad.1 0 0)) (C := RX7) (T := TX7) (N := 12) hx hb hts i_X7 hown hK (P_blk hP (i := 0) rfl) 0 rfl rfl 0 (by decide) (hts _ kw_228) (fun _ h9 => h9) rfl dX7_pack_33 ?_
    refine lv_iload_n hx hb dX7_pack_36 rfl (lv_at hl 2 rfl) ?_
    refine lv_iload_n hx hb dX7_pack_37 rfl (lv_at hl 3 rfl) ?_
    have hbi : (CBL G X (ad.1, pA ad.2.1 hn, ad.2.2) c0 c1 c2 (pS hS hn c0) (pN hn) sv lv bs (m_keep c0 fl (f_load c0 i b) i b))[1]? = some (cw G (ad.1 0) c0) := rfl
    have hFc := freeB hD hbi hS0 hA0
    refine va_calli (va_runV (As := [.int i, .int b]) (rest := []) ⟨hx, hb, hml, hown, hts⟩ (c_X1_load l D G (ad.1 0) c0 i b (hFr hq_2) H.size) (cwV 2 hts gw_X7_98 rfl rfl rfl (by decide +kernel) ⟨Nat.le_of_ble_eq_true rfl, Nat.le_of_ble_eq_true rfl⟩) (pv_cm hK (P_blk hP hbi) (D_blk hD hbi)) rfl rfl hl.1 rfl (lv_room (Nat.le_of_ble_eq_true rfl)) dX7_pack_38 ⟨Nat.le_of_ble_eq_true rfl, Nat.le_of_ble_eq_true rfl⟩) hS0 (fun q _ h => hFc q h) hFc (fun r u t9 H1 locs ht hvm hw_3 hB hz1 hk1 hS0 => ?_)
    have hB : va_P D vwCl (cw G (ad.1 0) ((m_load c0 i b).2)) H1 := by have h9 := hB; rw [ht] at h9; exact h9
    have hP := P_rep hP hD hbi hk1 hB
    have hD := D_rep (C1 := cw G (ad.1 0) ((m_load c0 i b).2)) hD hbi (cw_addr G _ _ _)
    obtain ⟨H, rfl⟩ : ∃ z, z = H1 := ⟨_, rfl⟩
    have hP : va_P D vwCl (CBL G X (ad.1, pA ad.2.1 hn, ad.2.2) ((m_load c0 i b).2) c1 c2 (pS hS hn c0) (pN hn) sv lv bs (m_keep c0 fl (f_load c0 i b) i b)).flatten H := hP
    have hD : va_D A (CBL G X (ad.1, pA ad.2.1 hn, ad.2.2) ((m_load c0 i b).2) c1 c2 (pS hS hn c0) (pN hn) sv lv bs (m_keep c0 fl (f_load c0 i b) i b)).flatten := hD
    rw [hw_3]
    refine W.widen (k := 1) (n := 6) (Nat.le_of_ble_eq_true rfl) (Nat.le_of_ble_eq_true rfl) ?_
    have hP9 : va_P D vwCl (CBL G X (ad.1, pA ad.2.1 hn, ad.2.2) ((m_load c0 i b).2) c1 c2 (pS hS hn c0) (pN hn) sv lv bs (m_keep c0 fl (f_load c0 i b) i b)).flatten H := hP
    have hD9 : va_D A (CBL G X (ad.1, pA ad.2.1 hn, ad.2.2) ((m_load c0 i b).2) c1 c2 (pS hS hn c0) (pN hn) sv lv bs (m_keep c0 fl (f_load c0 i b) i b)).flatten := hD
    exact vx_ret (W.iret (v := (m_load c0 i b).1) hx hb hr (fun t ht hW => ⟨⟨(m_load c0 i b).1, (), rfl, ⟨hq_2, rfl⟩, by rw [ht]; exact hP9, hD9⟩, hS0.F ht⟩) hS0.2.2 dX7_pack_41)
set_option maxRecDepth 100000 in
set_option maxHeartbeats 4000000 in
theorem c_X7_canPack (l : Launch) (hfl : l.stackTraces = false) (D : va_G) (G : GA) (B0 : Nat) (X : Nat → Nat → Nat) (ad : AD) (c0 c1 c2 : CS) (hS : Nat → CS) (hn : Nat) (sv : SV) (lv : LV) (bs fl : Nat → Int32) (i : Int32) (b : Int32) : vx_Met l yX7_canPack (wA yX7_canPack cX7_canPack 3 (some .boolean)) ({ frames := 7, cells := 2, slots := 12, locals := 117 } : Room) (va_Pc [.ref (ad.1 3 0), .int i, .int b] (CQp D G B0 X ad c0 c1 c2 hS hn sv lv bs fl)) (va_Qi (fun (r : Int32) (_ : Unit) => x_canPack c0 i b = 0 ∧ r = bi (s_canPack c0 i b)) (fun _ _ => True) (fun _ => False)) (vx_X (fun _ : Unit => x_canPack c0 i b ≠ 0) (fun E _ _ => E = exN (x_canPack c0 i b)) (fun _ => False)) 2 12 (fun _ => False) := by
  refine vx_ofW (cc := cX7_canPack) (maxL := 3) (ret := (some .boolean)) (by decide) rfl ?_
  intro p9 e s m args below meth c9 s₁ B hml hxt hv
  obtain ⟨rfl, hP, hK, hE⟩ := hv
  have hx := B.exec
  have hb := B.bytes
  have hr := B.returns
  have hts : ∀ w9 ∈ tb, w9.before ([.ref (ad.1 3 0), .int i, .int b] : List Value).toArray s = true := fun w9 h9 => atoms_spec (ws := (wA yX7_canPack cX7_canPack 3 (some .boolean))) B.pre w9 (List.mem_cons_of_mem _ h9)
  have hown : s.vm.findClass RX7 = some m.cls := findClass_of_methodNamed B.named
  have hlocks := B.notSynchronized
  have hAB : ∀ q : Nat, (fun _ : Nat => False) q → B0 ≤ q := fun _ h => h.elim
  have hS0 : va_S (fun _ => False) s.heap s.heap [] := va_S.rf
  have hl := lv_entry ([.ref (ad.1 3 0), .int i, .int b]) (n := 3) (Nat.le_of_ble_eq_true rfl)
  rw [lg_entry_eq]
  generalize (lg_sl ([.ref (ad.1 3 0), .int i, .int b]) ++ List.replicate (3 - (lg_sl ([.ref (ad.1 3 0), .int i, .int b])).length) Slot.unset).toArray = ls at hl ⊢
  have hl : lv_has ls 3 [(0, .ref (ad.1 3 0)), (1, .int i), (2, .int b)] := hl
  refine lv_aload_n hx hb dX7_canPack_0 rfl (lv_at hl 0 rfl) ?_
  refine lv_iload_n hx hb dX7_canPack_1 rfl (lv_at hl 1 rfl) ?_
  refine bx_callr (vx_runV (As := [.int i]) (rest := []) ⟨hx, hb, hml, hown, hts⟩ (c_X7_requireItem l hfl D G B0 X ad c0 c1 c2 hS hn sv lv bs fl i) (cwV 1 hts gw_X7_102 rfl rfl rfl (by decide +kernel) ⟨Nat.le_of_ble_eq_true rfl, Nat.le_of_ble_eq_true rfl⟩) (pv_cq hK hP (hE.at hS0 hAB)) rfl rfl hl.1 rfl (lv_room (Nat.le_of_ble_eq_true rfl)) dX7_canPack_2 ⟨Nat.le_of_ble_eq_true rfl, Nat.le_of_ble_eq_true rfl⟩) hS0 (fun _ _ h => h.elim) (fun _ h => h.elim) (fun _ _ h => h.elim) ?_ ?_
  · intro E ce q9 u t9 H9 locs9 ht hvm hq_1 hBX hz1 hk1 hS9 hce hcv hcl
    exact vx_out (fun x hx => (hxt x hx).elim) hlocks hce hcv hcl (fun t8 ht8 hv8 => ⟨(), by rw [(show x_canPack c0 i b = x_item c0 i from by simp only [x_canPack, if_neg hq_1])]; exact hq_1, by rw [(show x_canPack c0 i b = x_item c0 i from by simp only [x_canPack, if_neg hq_1])]; exact hBX, hS9.F ht8⟩) hS9.2.2 (Nat.le_of_ble_eq_true rfl) (Nat.le_of_ble_eq_true rfl)
  · intro u q9 t9 H9 locs9 ht hvm hq_1 hB hz1 hk1 hS9
    have hP : va_P D vwCl (CBL G X ad c0 c1 c2 hS hn sv lv bs fl).flatten H9 := P_keep hP hk1 (fun _ _ h => h.elim)
    clear hS0
    obtain ⟨H, rfl⟩ : ∃ z, z = H9 := ⟨_, rfl⟩
    have hS0 := hS9
    have hB := hB.symm
    subst hB
    refine lv_pop hx hb dX7_canPack_5 rfl ?_
    refine lv_aload_n hx hb dX7_canPack_6 rfl (lv_at hl 0 rfl) ?_
    refine lv_iload_n hx hb dX7_canPack_7 rfl (lv_at hl 2 rfl) ?_
    refine vx_callv (vx_runV (As := [.int b]) (rest := []) ⟨hx, hb, hml, hown, hts⟩ (c_X7_requireBag l hfl D G B0 X ad c0 c1 c2 hS hn sv lv bs fl b) (cwV 1 hts gw_X7_106 rfl rfl rfl (by decide +kernel) ⟨Nat.le_of_ble_eq_true rfl, Nat.le_of_ble_eq_true rfl⟩) (pv_cq hK hP (hE.at hS0 hAB)) rfl rfl hl.1 rfl (lv_room (Nat.le_of_ble_eq_true rfl)) dX7_canPack_8 ⟨Nat.le_of_ble_eq_true rfl, Nat.le_of_ble_eq_true rfl⟩) hS0 (fun _ _ h => h.elim) (fun _ h => h.elim) (fun _ _ h => h.elim) ?_ ?_
    · intro E ce q9 u t9 H9 locs9 ht hvm hq_2 hBX hz1 hk1 hS9 hce hcv hcl
      exact vx_out (fun x hx => (hxt x hx).elim) hlocks hce hcv hcl (fun t8 ht8 hv8 => ⟨(), by rw [(show x_canPack c0 i b = x_bag c0 b from by simp only [x_canPack, if_pos hq_1, if_neg hq_2])]; exact hq_2, by rw [(show x_canPack c0 i b = x_bag c0 b from by simp only [x_canPack, if_pos hq_1, if_neg hq_2])]; exact hBX, hS9.F ht8⟩) hS9.2.2 (Nat.le_of_ble_eq_true rfl) (Nat.le_of_ble_eq_true rfl)
    · intro u t9 H9 locs9 ht hvm hq_2 hB hz1 hk1 hS9
      have hP : va_P D vwCl (CBL G X ad c0 c1 c2 hS hn sv lv bs fl).flatten H9 := P_keep hP hk1 (fun _ _ h => h.elim)
      clear hS0
      obtain ⟨H, rfl⟩ : ∃ z, z = H9 := ⟨_, rfl⟩
      have hS0 := hS9
      refine lv_aload_n hx hb dX7_canPack_11 rfl (lv_at hl 0 rfl) ?_
      refine va_get (D := D) (ci := 8) (v := .ref (ad.1 0 0)) (C := RX7) (T := TX7) (N := 12) hx hb hts i_X7 hown hK (P_blk hP (i := 0) rfl) 0 rfl rfl 0 (by decide) (hts _ kw_228) (fun _ h9 => h9) rfl dX7_canPack_12 ?_
      refine lv_iload_n hx hb dX7_canPack_15 rfl (lv_at hl 1 rfl) ?_
      refine lv_iload_n hx hb dX7_canPack_16 rfl (lv_at hl 2 rfl) ?_
      have hPc : va_P D vwCl (cw G (ad.1 0) c0) H := P_blk hP (i := 1) rfl
      refine va_csr (va_runV (As := [.int i, .int b]) (rest := []) ⟨hx, hb, hml, hown, hts⟩ (c_X1_loadFault l D G B0 X (ad.1 0) c0 i b) (cwV 2 hts gw_X7_90 rfl rfl rfl (by decide +kernel) ⟨Nat.le_of_ble_eq_true rfl, Nat.le_of_ble_eq_true rfl⟩) (pv_ce hK hPc (hE.at hS0 hAB)) rfl rfl hl.1 rfl (lv_room (Nat.le_of_ble_eq_true rfl)) dX7_canPack_17 ⟨Nat.le_of_ble_eq_true rfl, Nat.le_of_ble_eq_true rfl⟩).run (nm_e ?_)
      refine va_gets (C := "CourierBags$Fault") (n := "NONE") (d := "LCourierBags$Fault;") (v := .ref (X 0 0)) hx hb (hE.fault 0 (by decide)) (S_weak hS0 hAB) hown (hts _ kw_868) (fun _ h9 => h9) dX7_canPack_20 ?_
      by_cases hk0 : (f_load c0 i b) = 0
      · skip
        refine lv_acmp_ne (rx := some (X 0 (f_load c0 i b))) (ry := some (X 0 0)) (tgt := 30) hx hb dX7_canPack_23 (by decide) (fun h9 => absurd (by rw [hk0]) h9) (fun _ => ?_)
        refine lv_iconst (v := 1) hx hb dX7_canPack_26 (by decide) ?_
        refine lv_goto (tgt := 31) hx hb dX7_canPack_27 (by decide) ?_
        refine W.widen (k := 2) (n := 12) (Nat.le_of_ble_eq_true rfl) (Nat.le_of_ble_eq_true rfl) ?_
        exact vx_ret (W.zret (ty := .boolean) (v := 1) hx hb hr (by decide) (fun t ht hW => ⟨⟨1, (), rfl, ⟨(by simp only [x_canPack, if_pos hq_1, if_pos hq_2]), (by rw [s_canPack, if_pos hk0]; rfl)⟩, trivial⟩, hS0.F ht⟩) hS0.2.2 dX7_canPack_31)
      · skip
        refine lv_acmp_ne (rx := some (X 0 (f_load c0 i b))) (ry := some (X 0 0)) (tgt := 30) hx hb dX7_canPack_23 (by decide) (fun _ => ?_) (fun h9 => absurd (hE.faultNe (i := (f_load c0 i b)) (j := 0) (f_load_lt c0 i b) (by decide) (Option.some.inj h9)) hk0)
        refine lv_iconst (v := 0) hx hb dX7_canPack_30 (by decide) ?_
        refine W.widen (k := 2) (n := 12) (Nat.le_of_ble_eq_true rfl) (Nat.le_of_ble_eq_true rfl) ?_
        exact vx_ret (W.zret (ty := .boolean) (v := 0) hx hb hr (by decide) (fun t ht hW => ⟨⟨0, (), rfl, ⟨(by simp only [x_canPack, if_pos hq_1, if_pos hq_2]), (by rw [s_canPack, if_neg hk0]; rfl)⟩, trivial⟩, hS0.F ht⟩) hS0.2.2 dX7_canPack_31)
