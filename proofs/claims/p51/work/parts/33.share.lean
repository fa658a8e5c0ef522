theorem gw_X7_255 : GoodIn tb (wsV RX7 255 RX1 yX1_sumOfLimits (wA yX1_sumOfLimits cX1_sumOfLimits 3 (some .int))) := gV kw_955 kw_956 kw_957 kw_25 kw_958
theorem gw_X7_261 : GoodIn tb (wsV RX7 261 RX1 yX1_packedWeight (wA yX1_packedWeight cX1_packedWeight 6 (some .int))) := gV kw_962 kw_963 kw_964 kw_25 kw_965
set_option maxRecDepth 100000 in
set_option maxHeartbeats 4000000 in
theorem c_X7_shareUsed (l : Launch) (hfl : l.stackTraces = false) (D : va_G) (G : GA) (B0 : Nat) (X : Nat → Nat → Nat) (ad : AD) (c0 c1 c2 : CS) (hS : Nat → CS) (hn : Nat) (sv : SV) (lv : LV) (bs fl : Nat → Int32) (hB : c0.2.2 1 = nI (nbg c0)) (hB3 : nbg c0 ≤ 3) : vx_Met l yX7_shareUsed (wA yX7_shareUsed cX7_shareUsed 2 (some .double)) ({ frames := 6, cells := 1, slots := 6, locals := 90 } : Room) (va_Pc [.ref (ad.1 3 0)] (CQp D G B0 X ad c0 c1 c2 hS hn sv lv bs fl)) (va_Qd (fun (r : UInt64) (_ : Unit) => x_share c0 = 0 ∧ r = (FP.ddiv (FP.i2d (s_packedWeight c0)) (FP.i2d (s_sumLimits c0)))) (fun _ _ => True) (fun _ => False)) (vx_X (fun _ : Unit => x_share c0 ≠ 0) (fun E _ _ => E = exN (x_share c0)) (fun _ => False)) 1 6 (fun _ => False) := by
  refine vx_ofW (cc := cX7_shareUsed) (maxL := 2) (ret := (some .double)) (by decide) rfl ?_
  intro p9 e s m args below meth c9 s₁ B hml hxt hv
  obtain ⟨rfl, hP, hK, hE⟩ := hv
  have hx := B.exec
  have hb := B.bytes
  have hr := B.returns
  have hts : ∀ w9 ∈ tb, w9.before ([.ref (ad.1 3 0)] : List Value).toArray s = true := fun w9 h9 => atoms_spec (ws := (wA yX7_shareUsed cX7_shareUsed 2 (some .double))) B.pre w9 (List.mem_cons_of_mem _ h9)
  have hown : s.vm.findClass RX7 = some m.cls := findClass_of_methodNamed B.named
  have hlocks := B.notSynchronized
  have hAB : ∀ q : Nat, (fun _ : Nat => False) q → B0 ≤ q := fun _ h => h.elim
  have hS0 : va_S (fun _ => False) s.heap s.heap [] := va_S.rf
  have hl := lv_entry ([.ref (ad.1 3 0)]) (n := 2) (Nat.le_of_ble_eq_true rfl)
  rw [lg_entry_eq]
  generalize (lg_sl ([.ref (ad.1 3 0)]) ++ List.replicate (2 - (lg_sl ([.ref (ad.1 3 0)])).length) Slot.unset).toArray = ls at hl ⊢
  have hl : lv_has ls 2 [(0, .ref (ad.1 3 0))] := hl
  refine lv_aload_n hx hb dX7_shareUsed_0 rfl (lv_at hl 0 rfl) ?_
  refine va_get (D := D) (ci := 8) (v := .ref (ad.1 0 0)) (C := RX7) (T := TX7) (N := 12) hx hb hts i_X7 hown hK (P_blk hP (i := 0) rfl) 0 rfl rfl 0 (by decide) (hts _ kw_228) (fun _ h9 => h9) rfl dX7_shareUsed_1 ?_
  have hPc : va_P D vwCl (cw G (ad.1 0) c0) s.heap := P_blk hP (i := 1) rfl
  refine vp_callSi (va_runV (As := []) (rest := []) ⟨hx, hb, hml, hown, hts⟩ (c_X1_sumOfLimits l D G (ad.1 0) c0 hB hB3) (cwV 0 hts gw_X7_255 rfl rfl rfl (by decide +kernel) ⟨Nat.le_of_ble_eq_true rfl, Nat.le_of_ble_eq_true rfl⟩) (pv_cw hK hPc) rfl rfl hl.1 rfl (lv_room (Nat.le_of_ble_eq_true rfl)) dX7_shareUsed_4 ⟨Nat.le_of_ble_eq_true rfl, Nat.le_of_ble_eq_true rfl⟩).run (nm_e ?_)
  refine lv_istore_n (lv' := [(1, .int (s_sumLimits c0)), (0, .ref (ad.1 3 0))]) hx hb dX7_shareUsed_7 rfl hl (by decide) rfl (fun ls hl => ?_)
  refine lv_iload_n hx hb dX7_shareUsed_8 rfl (lv_at hl 0 rfl) ?_
  refine lv_if_ne (tgt := 22) hx hb dX7_shareUsed_9 (by decide) (fun c_1 => ?_) (fun c_1 => ?_)
  · skip
    refine lv_aload_n hx hb dX7_shareUsed_22 rfl (lv_at hl 1 rfl) ?_
    refine va_get (D := D) (ci := 8) (v := .ref (ad.1 0 0)) (C := RX7) (T := TX7) (N := 12) hx hb hts i_X7 hown hK (P_blk hP (i := 0) rfl) 0 rfl rfl 0 (by decide) (hts _ kw_228) (fun _ h9 => h9) rfl dX7_shareUsed_23 ?_
    have hPc : va_P D vwCl (cw G (ad.1 0) c0) s.heap := P_blk hP (i := 1) rfl
    refine vp_callSi (va_runV (As := []) (rest := []) ⟨hx, hb, hml, hown, hts⟩ (c_X1_packedWeight l D G (ad.1 0) c0) (cwV 0 hts gw_X7_261 rfl rfl rfl (by decide +kernel) ⟨Nat.le_of_ble_eq_true rfl, Nat.le_of_ble_eq_true rfl⟩) (pv_cw hK hPc) rfl rfl hl.1 rfl (lv_room (Nat.le_of_ble_eq_true rfl)) dX7_shareUsed_26 ⟨Nat.le_of_ble_eq_true rfl, Nat.le_of_ble_eq_true rfl⟩).run (nm_e ?_)
    refine lv_i2d hx hb dX7_shareUsed_29 ?_
    refine lv_iload_n hx hb dX7_shareUsed_30 rfl (lv_at hl 0 rfl) ?_
    refine lv_i2d hx hb dX7_shareUsed_31 ?_
    refine lv_ddiv hx hb dX7_shareUsed_32 (nn_div _ _ c_1) ?_
    refine W.widen (k := 1) (n := 6) (Nat.le_of_ble_eq_true rfl) (Nat.le_of_ble_eq_true rfl) ?_
    exact vx_ret (W.dret (v := FP.ddiv (FP.i2d (s_packedWeight c0)) (FP.i2d (s_sumLimits c0))) hx hb hr (fun t ht hW => ⟨⟨FP.ddiv (FP.i2d (s_packedWeight c0)) (FP.i2d (s_sumLimits c0)), (), rfl, ⟨by simp only [x_share, if_neg c_1], rfl⟩, trivial⟩, hS0.F ht⟩) hS0.2.2 dX7_shareUsed_33)
  · skip
    exact tw_are hx hb hfl hts hown hE hAB (hE.s.1 12 ("CourierBags", 250, "there are no bags") rfl) hS0 (hml.trans hl.1.symm).symm dX7_shareUsed_12 dX7_shareUsed_15 (Or.inl ⟨dX7_shareUsed_16, rfl⟩) dX7_shareUsed_18 dX7_shareUsed_21 hxt (Nat.le_of_ble_eq_true rfl) (Nat.le_of_ble_eq_true rfl) (Nat.le_of_ble_eq_true rfl) (Nat.le_of_ble_eq_true rfl) hlocks (fun t hv hz hk => ⟨(), by rw [(show x_share c0 = 6 from by simp only [x_share, if_pos c_1])]; decide, by rw [(show x_share c0 = 6 from by simp only [x_share, if_pos c_1])]; rfl, S_F hS0 hz hk⟩) hS0.2.2 (Nat.le_of_ble_eq_true rfl) (Nat.le_of_ble_eq_true rfl)
