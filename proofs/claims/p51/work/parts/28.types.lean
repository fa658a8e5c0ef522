def x_type (sv : SV) (ch : Int32) : Nat := if ch < 32 then 1 else if ch ≤ 126 then (if r_full sv.2.2.1 = true then 4 else 0) else 1
theorem full_lt {n : Nat} (h : r_full n = false) : n < 60 := by
  unfold r_full at h
  split at h
  · assumption
  · exact absurd h (by decide)
theorem gw_X7_290 : GoodIn tb (wsV RX7 290 RX6 yX6_isFull (wA yX6_isFull cX6_isFull 1 (some .boolean))) := gV kw_737 kw_738 kw_739 kw_28 kw_740
theorem gw_X7_298 : GoodIn tb (wsV RX7 298 RX6 yX6_append (wA yX6_append cX6_append 2 (some .int))) := gV kw_742 kw_743 kw_744 kw_28 kw_745
set_option maxRecDepth 100000 in
set_option maxHeartbeats 4000000 in
theorem c_X7_type (l : Launch) (hfl : l.stackTraces = false) (D : va_G) (G : GA) (B0 : Nat) (X : Nat → Nat → Nat) (ad : AD) (c0 c1 c2 : CS) (hS : Nat → CS) (hn : Nat) (sv : SV) (lv : LV) (bs fl : Nat → Int32) (ch : Int32) (hsn : sv.2.2.1 ≤ 60) (hsp : sv.2.2.2.1 ≤ 60) (hsc : sv.2.2.2.2.1 ≤ 3) (hch : vp_nar .char ch = ch) (sz : Nat) : vx_Met l yX7_type (wA yX7_type cX7_type 2 (some .int)) ({ frames := 6, cells := 1, slots := 6, locals := 90 } : Room) (va_Pc [.ref (ad.1 3 0), .int ch] (CBp D G B0 X ad c0 c1 c2 hS hn sv lv bs fl sz)) (va_Qi (fun (r : Int32) (u : Unit) => x_type sv ch = 0 ∧ r = nI (sv.2.2.1 + 1)) (fun u t9 => va_P D vwCl (CBL G X ad c0 c1 c2 hS hn ((upd sv.1 sv.2.2.1 ch), sv.2.1, (sv.2.2.1 + 1), sv.2.2.2.1, sv.2.2.2.2.1, sv.2.2.2.2.2.1, sv.2.2.2.2.2.2) lv bs fl).flatten t9.heap ∧ va_D (va_A (CBL G X ad c0 c1 c2 hS hn sv lv bs fl).flatten sz) (CBL G X ad c0 c1 c2 hS hn ((upd sv.1 sv.2.2.1 ch), sv.2.1, (sv.2.2.1 + 1), sv.2.2.2.1, sv.2.2.2.2.1, sv.2.2.2.2.2.1, sv.2.2.2.2.2.2) lv bs fl).flatten) (va_A (CBL G X ad c0 c1 c2 hS hn sv lv bs fl).flatten sz)) (vx_X (fun _ : Unit => x_type sv ch ≠ 0) (fun E _ t9 => E = exN (x_type sv ch) ∧ va_P D vwCl (CBL G X ad c0 c1 c2 hS hn sv lv bs fl).flatten t9.heap ∧ va_D (va_A (CBL G X ad c0 c1 c2 hS hn sv lv bs fl).flatten sz) (CBL G X ad c0 c1 c2 hS hn sv lv bs fl).flatten) (va_A (CBL G X ad c0 c1 c2 hS hn sv lv bs fl).flatten sz)) 1 6 (va_A (CBL G X ad c0 c1 c2 hS hn sv lv bs fl).flatten sz) := by
  refine vx_ofW (cc := cX7_type) (maxL := 2) (ret := (some .int)) (by decide) rfl ?_
  intro p9 e s m args below meth c9 s₁ B hml hxt hv
  obtain ⟨rfl, hsz, hP, hK, hDB, hE⟩ := hv
  have hx := B.exec
  have hb := B.bytes
  have hr := B.returns
  have hts : ∀ w9 ∈ tb, w9.before ([.ref (ad.1 3 0), .int ch] : List Value).toArray s = true := fun w9 h9 => atoms_spec (ws := (wA yX7_type cX7_type 2 (some .int))) B.pre w9 (List.mem_cons_of_mem _ h9)
  have hown : s.vm.findClass RX7 = some m.cls := findClass_of_methodNamed B.named
  have hlocks := B.notSynchronized
  subst hsz
  have hD := hDB.self (sz := s.heap.size)
  have hAB := A_sub hDB hE.1
  generalize hAe : va_A (CBL G X ad c0 c1 c2 hS hn sv lv bs fl).flatten s.heap.size = A at hD hAB ⊢
  have hA0 : ∀ q : Nat, s.heap.size ≤ q → A q := fun q h => by rw [← hAe]; exact Or.inr h
  have hS0 : va_S A s.heap s.heap [] := va_S.rf
  have hl := lv_entry ([.ref (ad.1 3 0), .int ch]) (n := 2) (Nat.le_of_ble_eq_true rfl)
  rw [lg_entry_eq]
  generalize (lg_sl ([.ref (ad.1 3 0), .int ch]) ++ List.replicate (2 - (lg_sl ([.ref (ad.1 3 0), .int ch])).length) Slot.unset).toArray = ls at hl ⊢
  have hl : lv_has ls 2 [(0, .ref (ad.1 3 0)), (1, .int ch)] := hl
  refine lv_iload_n hx hb dX7_type_0 rfl (lv_at hl 1 rfl) ?_
  refine lv_bipush (v := 32) hx hb dX7_type_1 (by decide) ?_
  refine lv_icmp_lt (tgt := 12) hx hb dX7_type_3 (by decide) (fun c_1 => ?_) (fun c_1 => ?_)
  · skip
    exact tw_iae hx hb hfl hts hown hE hAB (hE.s.1 5 ("CourierBags", 287, "the character is not from 32 to 126") rfl) hS0 (hml.trans hl.1.symm).symm dX7_type_12 dX7_type_15 (Or.inr ⟨dX7_type_16, rfl⟩) dX7_type_19 dX7_type_22 hxt (Nat.le_of_ble_eq_true rfl) (Nat.le_of_ble_eq_true rfl) (Nat.le_of_ble_eq_true rfl) (Nat.le_of_ble_eq_true rfl) hlocks (fun t hv hz hk => ⟨(), by rw [(show x_type sv ch = 1 from by simp only [x_type, if_pos c_1])]; decide, ⟨by rw [(show x_type sv ch = 1 from by simp only [x_type, if_pos c_1])]; rfl, (hP).kept (fun k q9 hq9 => hk q9.1 ((hP k q9 hq9).lt)), hD⟩, S_F hS0 hz hk⟩) hS0.2.2 (Nat.le_of_ble_eq_true rfl) (Nat.le_of_ble_eq_true rfl)
  · skip
    refine lv_iload_n hx hb dX7_type_6 rfl (lv_at hl 1 rfl) ?_
    refine lv_bipush (v := 126) hx hb dX7_type_7 (by decide) ?_
    refine lv_icmp_le (tgt := 23) hx hb dX7_type_9 (by decide) (fun c_2 => ?_) (fun c_2 => ?_)
    · skip
      refine lv_aload_n hx hb dX7_type_23 rfl (lv_at hl 0 rfl) ?_
      refine va_get (D := D) (ci := 8) (v := .ref (ad.1 3 3)) (C := RX7) (T := TX7) (N := 12) hx hb hts i_X7 hown hK (P_blk hP (i := 0) rfl) 0 rfl rfl 4 (by decide) (hts _ kw_232) (fun _ h9 => h9) rfl dX7_type_24 ?_
      refine vp_callSi (va_runV (As := []) (rest := []) ⟨hx, hb, hml, hown, hts⟩ (c_X6_isFull l D G X (ad.1 3 3) (ad.1 3 4) (ad.1 3 5) sv.1 sv.2.1 sv.2.2.1 sv.2.2.2.1 sv.2.2.2.2.1 sv.2.2.2.2.2.1 sv.2.2.2.2.2.2 hsn hsp hsc) (cwV 0 hts gw_X7_290 rfl rfl rfl (by decide +kernel) ⟨Nat.le_of_ble_eq_true rfl, Nat.le_of_ble_eq_true rfl⟩) (pv_sq hK (P_blk hP (i := 5) rfl)) rfl rfl hl.1 rfl (lv_room (Nat.le_of_ble_eq_true rfl)) dX7_type_27 ⟨Nat.le_of_ble_eq_true rfl, Nat.le_of_ble_eq_true rfl⟩).run (nm_e ?_)
      cases hb_3 : r_full sv.2.2.1
      case true =>
        refine lv_if_eq (tgt := 44) hx hb dX7_type_30 (by decide) (fun c_4 => absurd c_4 (by decide)) (fun _ => ?_)
        exact tw_ise hx hb hfl hts hown hE hAB (hE.s.1 6 ("CourierBags", 295, "the buffer contains 60 characters") rfl) hS0 (hml.trans hl.1.symm).symm dX7_type_33 dX7_type_36 (Or.inr ⟨dX7_type_37, rfl⟩) dX7_type_40 dX7_type_43 hxt (Nat.le_of_ble_eq_true rfl) (Nat.le_of_ble_eq_true rfl) (Nat.le_of_ble_eq_true rfl) (Nat.le_of_ble_eq_true rfl) hlocks (fun t hv hz hk => ⟨(), by rw [(show x_type sv ch = 4 from by simp only [x_type, if_neg c_1, if_pos c_2, if_pos hb_3])]; decide, ⟨by rw [(show x_type sv ch = 4 from by simp only [x_type, if_neg c_1, if_pos c_2, if_pos hb_3])]; rfl, (hP).kept (fun k q9 hq9 => hk q9.1 ((hP k q9 hq9).lt)), hD⟩, S_F hS0 hz hk⟩) hS0.2.2 (Nat.le_of_ble_eq_true rfl) (Nat.le_of_ble_eq_true rfl)
      case false =>
        refine lv_if_eq (tgt := 44) hx hb dX7_type_30 (by decide) (fun _ => ?_) (fun c_5 => absurd (by decide) c_5)
        refine lv_aload_n hx hb dX7_type_44 rfl (lv_at hl 0 rfl) ?_
        refine va_get (D := D) (ci := 8) (v := .ref (ad.1 3 3)) (C := RX7) (T := TX7) (N := 12) hx hb hts i_X7 hown hK (P_blk hP (i := 0) rfl) 0 rfl rfl 4 (by decide) (hts _ kw_232) (fun _ h9 => h9) rfl dX7_type_45 ?_
        refine lv_iload_n hx hb dX7_type_48 rfl (lv_at hl 1 rfl) ?_
        have hb5 : (CBL G X ad c0 c1 c2 hS hn sv lv bs fl)[5]? = some (sw G X (ad.1 3 3) (ad.1 3 4) (ad.1 3 5) sv.1 sv.2.1 sv.2.2.1 sv.2.2.2.1 sv.2.2.2.2.1 sv.2.2.2.2.2.1 sv.2.2.2.2.2.2) := rfl
        have hFc := freeB hD hb5 hS0 hA0
        refine va_calli (va_runV (As := [.int ch]) (rest := []) ⟨hx, hb, hml, hown, hts⟩ (c_X6_append l D G B0 X (ad.1 3 3) (ad.1 3 4) (ad.1 3 5) sv.1 sv.2.1 sv.2.2.1 sv.2.2.2.1 sv.2.2.2.2.1 sv.2.2.2.2.2.1 sv.2.2.2.2.2.2 hsn hsp hsc ch hch (full_lt hb_3) s.heap.size) (cwV 1 hts gw_X7_298 rfl rfl rfl (by decide +kernel) ⟨Nat.le_of_ble_eq_true rfl, Nat.le_of_ble_eq_true rfl⟩) (pv_sm hK (P_blk hP hb5) (D_blk hD hb5) hAB (hE.at hS0 hAB)) rfl rfl hl.1 rfl (lv_room (Nat.le_of_ble_eq_true rfl)) dX7_type_49 ⟨Nat.le_of_ble_eq_true rfl, Nat.le_of_ble_eq_true rfl⟩) hS0 (fun q _ h => hFc q h) hFc (fun r u t9 H1 locs ht hvm hw hB hz1 hk1 hS0 => ?_)
        have hB : va_P D vwCl (sw G X (ad.1 3 3) (ad.1 3 4) (ad.1 3 5) (upd sv.1 sv.2.2.1 ch) sv.2.1 (sv.2.2.1 + 1) sv.2.2.2.1 sv.2.2.2.2.1 sv.2.2.2.2.2.1 sv.2.2.2.2.2.2) H1 := by have h9 := hB; rw [ht] at h9; exact h9
        have hP := P_rep hP hD hb5 hk1 hB
        have hD := D_rep (C1 := (sw G X (ad.1 3 3) (ad.1 3 4) (ad.1 3 5) (upd sv.1 sv.2.2.1 ch) sv.2.1 (sv.2.2.1 + 1) sv.2.2.2.1 sv.2.2.2.2.1 sv.2.2.2.2.2.1 sv.2.2.2.2.2.2)) hD hb5 rfl
        obtain ⟨H, rfl⟩ : ∃ z, z = H1 := ⟨_, rfl⟩
        have hP : va_P D vwCl (CBL G X ad c0 c1 c2 hS hn ((upd sv.1 sv.2.2.1 ch), sv.2.1, (sv.2.2.1 + 1), sv.2.2.2.1, sv.2.2.2.2.1, sv.2.2.2.2.2.1, sv.2.2.2.2.2.2) lv bs fl).flatten H := hP
        have hD : va_D A (CBL G X ad c0 c1 c2 hS hn ((upd sv.1 sv.2.2.1 ch), sv.2.1, (sv.2.2.1 + 1), sv.2.2.2.1, sv.2.2.2.2.1, sv.2.2.2.2.2.1, sv.2.2.2.2.2.2) lv bs fl).flatten := hD
        rw [hw]
        refine W.widen (k := 1) (n := 6) (Nat.le_of_ble_eq_true rfl) (Nat.le_of_ble_eq_true rfl) ?_
        have hP9 : va_P D vwCl (CBL G X ad c0 c1 c2 hS hn ((upd sv.1 sv.2.2.1 ch), sv.2.1, (sv.2.2.1 + 1), sv.2.2.2.1, sv.2.2.2.2.1, sv.2.2.2.2.2.1, sv.2.2.2.2.2.2) lv bs fl).flatten H := hP
        have hD9 : va_D A (CBL G X ad c0 c1 c2 hS hn ((upd sv.1 sv.2.2.1 ch), sv.2.1, (sv.2.2.1 + 1), sv.2.2.2.1, sv.2.2.2.2.1, sv.2.2.2.2.2.1, sv.2.2.2.2.2.2) lv bs fl).flatten := hD
        exact vx_ret (W.iret (v := nI (sv.2.2.1 + 1)) hx hb hr (fun t ht hW => ⟨⟨nI (sv.2.2.1 + 1), (), rfl, ⟨(by simp only [x_type, if_neg c_1, if_pos c_2, if_neg (bf hb_3)]), rfl⟩, by rw [ht]; exact hP9, hD9⟩, hS0.F ht⟩) hS0.2.2 dX7_type_52)
    · skip
      exact tw_iae hx hb hfl hts hown hE hAB (hE.s.1 5 ("CourierBags", 287, "the character is not from 32 to 126") rfl) hS0 (hml.trans hl.1.symm).symm dX7_type_12 dX7_type_15 (Or.inr ⟨dX7_type_16, rfl⟩) dX7_type_19 dX7_type_22 hxt (Nat.le_of_ble_eq_true rfl) (Nat.le_of_ble_eq_true rfl) (Nat.le_of_ble_eq_true rfl) (Nat.le_of_ble_eq_true rfl) hlocks (fun t hv hz hk => ⟨(), by rw [(show x_type sv ch = 1 from by simp only [x_type, if_neg c_1, if_neg c_2])]; decide, ⟨by rw [(show x_type sv ch = 1 from by simp only [x_type, if_neg c_1, if_neg c_2])]; rfl, (hP).kept (fun k q9 hq9 => hk q9.1 ((hP k q9 hq9).lt)), hD⟩, S_F hS0 hz hk⟩) hS0.2.2 (Nat.le_of_ble_eq_true rfl) (Nat.le_of_ble_eq_true rfl)
