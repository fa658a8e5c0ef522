theorem gi_X7_init9 : GoodIn tb (wA yX7_init cX7_init 1 none) := gI kw_61
theorem gl_316 : GoodIn tb (va_wsS RL 316 yL_undo (wH yL_undo cL_undo 2 (some .int) [(0, 4, 5, 15)])) := gSW kw_892 kw_893 kw_23 kw_894
theorem gl_318 : GoodIn tb (va_wsS RL 318 yL_restore (wH yL_restore cL_restore 2 (some .int) [(0, 4, 5, 15)])) := gSW kw_904 kw_905 kw_23 kw_906
theorem gw_L_320 : GoodIn tb (wsV RL 320 RX7 yX7_save (wA yX7_save cX7_save 1 (some .int))) := gV kw_310 kw_311 kw_312 kw_24 kw_313
theorem gw_L_323 : GoodIn tb (wsV RL 323 RX7 yX7_exists (wA yX7_exists cX7_exists 2 (some .boolean))) := gV kw_297 kw_298 kw_299 kw_24 kw_300
theorem gw_L_326 : GoodIn tb (va_wsS RL 326 yL_makes (wA yL_makes cL_makes 6 (some .boolean))) := gS kw_916 kw_917 kw_23 kw_918
theorem gw_L_330 : GoodIn tb (va_wsS RL 330 yL_thrown (wA yL_thrown cL_thrown 9 (some .boolean))) := gS kw_1368 kw_1369 kw_23 kw_1370
theorem gw_L_334 : GoodIn tb (va_wsS RL 334 yL_changes (wA yL_changes cL_changes 4 (some .boolean))) := gS kw_1352 kw_1353 kw_23 kw_1354
set_option maxRecDepth 100000 in
set_option maxHeartbeats 8000000 in
theorem whole_start {p : Program} {e : Env} {s : State} {m : MethodId} {below : List Frame} {meth : Method} {c : Code} (l : Launch) (hflags : l.flags = flags0) {b L : Nat} {xs : Nat → Int32} (hL : L ≤ 260) (C0 : lw_At p s m meth c b L xs) : W p l e room_1 s m #[Value.ref b] below meth c s.heap [] 0 0 (lw_Z below #[Value.ref b] s) (entryFrame m ([Value.ref b] : List Value).toArray 11) := by
  obtain ⟨hx, hb, hr, hml, hown, hts0, hXs, hbl, hlocks, hgv⟩ := id C0
  have hfl : l.stackTraces = false := lw_noTraces hflags
  have hnw : ∀ w ∈ nL, w.before #[Value.ref b] s = true := flat_of_before _ hgv
  obtain ⟨D, G, hK⟩ := kk_start hts0
  obtain ⟨X, hE⟩ := en_start hnw hts0
  have hts := tb_all hts0
  obtain ⟨B0, hB0⟩ : ∃ z, z = s.heap.size := ⟨_, rfl⟩
  rw [← hB0] at hE
  obtain ⟨A, hAe⟩ : ∃ A : Nat → Prop, A = fun q => s.heap.size ≤ q := ⟨_, rfl⟩
  have hA0 : ∀ q, s.heap.size ≤ q → A q := by rw [hAe]; exact fun q h => h
  have hAu : ∀ q, A q → s.heap.size ≤ q := by rw [hAe]; exact fun q h => h
  have hAB : ∀ q, A q → B0 ≤ q := by rw [hB0]; exact hAu
  have hbA : ¬ A b := fun h => Nat.not_le.mpr hbl (hAu b h)
  have hS0 : va_S A s.heap s.heap [] := va_S.rf
  clear hAe C0 hgv hnw
  have hl := lv_entry ([.ref b]) (n := 11) (Nat.le_of_ble_eq_true rfl)
  rw [lg_entry_eq]
  generalize (lg_sl ([.ref b]) ++ List.replicate (11 - (lg_sl ([.ref b])).length) Slot.unset).toArray = ls at hl ⊢
  have hl : lv_has ls 11 [(0, .ref b)] := hl
  refine va_new (D := D) (ci := 8) (fs := [.null, .null, .null, .null, .null, .null, .null, .int 0, .int 0, .int 0, .int 0, .int 0]) (C := RX7) (T := TX7) (N := 12) hx hb hts i_X7 tyX7 tyX7_ok hown (hts _ kw_57) (hts _ kw_58) (hts _ kw_24) hK (P_none D s.heap) (D_none A) hS0 hA0 rfl (fun j hj => by rcases (show j = 0 ∨ j = 1 ∨ j = 2 ∨ j = 3 ∨ j = 4 ∨ j = 5 ∨ j = 6 ∨ j = 7 ∨ j = 8 ∨ j = 9 ∨ j = 10 ∨ j = 11 by omega) with rfl | rfl | rfl | rfl | rfl | rfl | rfl | rfl | rfl | rfl | rfl | rfl <;> rfl) (Nat.le_of_ble_eq_true rfl) (Nat.le_of_ble_eq_true rfl) dL_law_0 (fun q1 H hP hD hS0 => ?_)
  refine W.widen (k := 1) (n := 12) (Nat.le_of_ble_eq_true rfl) (Nat.le_of_ble_eq_true rfl) ?_
  refine lv_dup hx hb dL_law_3 rfl ?_
  have hFc := free_end (W := ([] : va_W)) (c := ((q1, .inr (8, [.null, .null, .null, .null, .null, .null, .null, .int 0, .int 0, .int 0, .int 0, .int 0])) : Nat × va_E)) hD hS0 hA0
  have hBc := B_end (W := ([] : va_W)) (c := ((q1, .inr (8, [.null, .null, .null, .null, .null, .null, .null, .int 0, .int 0, .int 0, .int 0, .int 0])) : Nat × va_E)) hD hAB
  refine va_callv (va_runI (As := []) (rest := [.ref q1]) ⟨hx, hb, hml, hown, hts⟩ (c_X7_init l D G B0 X q1 H.size) (cwI 0 hts gi_X7_init9 rfl rfl rfl (hts _ kw_24) (hts _ kw_59) (hts _ kw_60) rfl (by decide +kernel) ⟨Nat.le_of_ble_eq_true rfl, Nat.le_of_ble_eq_true rfl⟩) (pi_mk (W := ([] : va_W)) (c := ((q1, .inr (8, [.null, .null, .null, .null, .null, .null, .null, .int 0, .int 0, .int 0, .int 0, .int 0])) : Nat × va_E)) hK hP hBc (hE.at hS0 hAB)) rfl rfl hl.1 rfl (lv_room (Nat.le_of_ble_eq_true rfl)) dL_law_4 ⟨Nat.le_of_ble_eq_true rfl, Nat.le_of_ble_eq_true rfl⟩) hS0 (fun q _ h => hFc q h) hFc (fun u t H1 locs ht hvm hw hB hz1 hk1 hS0 => ?_)
  obtain ⟨hB1, hB2⟩ := hB
  rw [ht] at hB1
  have hW : LW D G X A q1 st0 st0 (fun _ => st0) 0 sv0 ([]) fl0 H1 := ⟨u, st0, lv0, fun _ => 0, hw, lv0_ok, hB1, hB2.weaken (fun _ _ _ h9 => hFc _ h9)⟩
  clear hB1 hB2 hFc hBc hP hD
  generalize (fun _ => st0 : Nat → CS) = hS_1 at hW
  have hH := HW_0 hS_1
  obtain ⟨H, rfl⟩ : ∃ z, z = H1 := ⟨_, rfl⟩
  refine W.widen (k := 185) (n := 1598) (Nat.le_of_ble_eq_true rfl) (Nat.le_of_ble_eq_true rfl) ?_
  refine lv_astore_n (x := q1) (lv' := [(1, .ref q1), (0, .ref b)]) hx hb dL_law_7 rfl hl (by decide) rfl (fun ls hl => ?_)
  refine lv_aload_n hx hb dL_law_8 rfl (lv_at hl 0 rfl) ?_
  refine va_calli (vx_runSW (As := [.ref q1]) (rest := []) ⟨hx, hb, hml, hown, hts⟩ (cl_L_undo l hfl D G B0 X A q1 st0 st0 hS_1 0 sv0 ([]) fl0 (HW_le hH) H.size) (vx_cwSW (hh := [(0, 4, 5, 15)]) 1 hts gl_316 rfl rfl rfl (by decide +kernel) ⟨Nat.le_of_ble_eq_true rfl, Nat.le_of_ble_eq_true rfl⟩) (ps_lw hK hW (hE.at hS0 hAB) (AH hA0 hS0) hAB) rfl rfl hl.1 rfl (lv_room (Nat.le_of_ble_eq_true rfl)) dL_law_9 ⟨Nat.le_of_ble_eq_true rfl, Nat.le_of_ble_eq_true rfl⟩) hS0 (fun q _ h => h) (fun q h => h) (fun r u1 t9 H1 locs ht hvm hw hW hz1 hk1 hS0 => ?_)
  have hX : x_undo 0 = 4 := (by decide +kernel)
  rw [hX] at hw hW
  have hw : r = (-1001) := hw
  have hW : LW D G X A q1 st0 st0 hS_1 0 sv0 ([]) fl0 H1 := LW_h ht hW
  obtain ⟨H, rfl⟩ : ∃ z, z = H1 := ⟨_, rfl⟩
  rw [hw]
  refine W.widen (k := 186) (n := 1604) (Nat.le_of_ble_eq_true rfl) (Nat.le_of_ble_eq_true rfl) ?_
  refine lv_sipush (v := -1001) hx hb dL_law_12 (by decide) ?_
  refine lv_icmp_ne (tgt := 44) hx hb dL_law_15 (by decide) (fun c_2 => absurd rfl c_2) (fun _ => ?_)
  refine lv_aload_n hx hb dL_law_18 rfl (lv_at hl 0 rfl) ?_
  refine va_calli (vx_runSW (As := [.ref q1]) (rest := []) ⟨hx, hb, hml, hown, hts⟩ (cl_L_restore l hfl D G B0 X A q1 st0 st0 hS_1 0 sv0 ([]) fl0 (HW_le hH) H.size) (vx_cwSW (hh := [(0, 4, 5, 15)]) 1 hts gl_318 rfl rfl rfl (by decide +kernel) ⟨Nat.le_of_ble_eq_true rfl, Nat.le_of_ble_eq_true rfl⟩) (ps_lw hK hW (hE.at hS0 hAB) (AH hA0 hS0) hAB) rfl rfl hl.1 rfl (lv_room (Nat.le_of_ble_eq_true rfl)) dL_law_19 ⟨Nat.le_of_ble_eq_true rfl, Nat.le_of_ble_eq_true rfl⟩) hS0 (fun q _ h => h) (fun q h => h) (fun r u3 t9 H1 locs ht hvm hw hW hz1 hk1 hS0 => ?_)
  have hX : x_restore fl0 = 4 := (by decide +kernel)
  rw [hX] at hw hW
  have hw : r = (-1001) := hw
  have hW : LW D G X A q1 st0 st0 hS_1 0 sv0 ([]) fl0 H1 := LW_h ht hW
  obtain ⟨H, rfl⟩ : ∃ z, z = H1 := ⟨_, rfl⟩
  rw [hw]
  refine W.widen (k := 187) (n := 1610) (Nat.le_of_ble_eq_true rfl) (Nat.le_of_ble_eq_true rfl) ?_
  refine lv_sipush (v := -1001) hx hb dL_law_22 (by decide) ?_
  refine lv_icmp_ne (tgt := 44) hx hb dL_law_25 (by decide) (fun c_4 => absurd rfl c_4) (fun _ => ?_)
  refine lv_aload_n hx hb dL_law_28 rfl (lv_at hl 0 rfl) ?_
  refine va_calli (va_runV (As := []) (rest := []) ⟨hx, hb, hml, hown, hts⟩ (cq_X7_save l D G B0 X A q1 st0 st0 hS_1 0 sv0 ([]) fl0 H.size) (cwV 0 hts gw_L_320 rfl rfl rfl (by decide +kernel) ⟨Nat.le_of_ble_eq_true rfl, Nat.le_of_ble_eq_true rfl⟩) (pv_lw hK hW (hE.at hS0 hAB) (AH hA0 hS0) hAB) rfl rfl hl.1 rfl (lv_room (Nat.le_of_ble_eq_true rfl)) dL_law_29 ⟨Nat.le_of_ble_eq_true rfl, Nat.le_of_ble_eq_true rfl⟩) hS0 (fun q _ h => h) (fun q h => h) (fun r u t9 H1 locs ht hvm hw hW hz1 hk1 hS0 => ?_)
  have hW : LW D G X A q1 st0 st0 hS_1 0 sv0 ([]) (upd fl0 0 1) H1 := LW_h ht hW
  obtain ⟨H, rfl⟩ : ∃ z, z = H1 := ⟨_, rfl⟩
  rw [hw]
  rw [show s_countItems st0 = 0 from by decide +kernel]
  refine lv_if_ne (tgt := 44) hx hb dL_law_32 (by decide) (fun c_5 => absurd (by decide) c_5) (fun _ => ?_)
  refine lv_aload_n hx hb dL_law_35 rfl (lv_at hl 0 rfl) ?_
  refine lv_bipush (v := 99) hx hb dL_law_36 (by decide) ?_
  refine va_calli (vx_runSW (As := [.ref q1, .int 99]) (rest := []) ⟨hx, hb, hml, hown, hts⟩ (cl_L_addBag l hfl D G B0 X A q1 st0 st0 hS_1 0 sv0 ([]) (upd fl0 0 1) 99 (HW_le hH) ⟨by decide +kernel, by decide +kernel⟩ H.size) (vx_cwSW (hh := [(0, 5, 6, 13), (0, 5, 11, 15)]) 2 hts gl_187 rfl rfl rfl (by decide +kernel) ⟨Nat.le_of_ble_eq_true rfl, Nat.le_of_ble_eq_true rfl⟩) (ps_lw hK hW (hE.at hS0 hAB) (AH hA0 hS0) hAB) rfl rfl hl.1 rfl (lv_room (Nat.le_of_ble_eq_true rfl)) dL_law_38 ⟨Nat.le_of_ble_eq_true rfl, Nat.le_of_ble_eq_true rfl⟩) hS0 (fun q _ h => h) (fun q h => h) (fun r u6 t9 H1 locs ht hvm hw hW hz1 hk1 hS0 => ?_)
  have hX : f_open st0 99 = 0 := (by decide +kernel)
  rw [hX] at hw hW
  have hw : r = (m_open st0 99).1 := hw
  have hW : LW D G X A q1 ((m_open st0 99).2) st0 (pS hS_1 0 st0) (pN 0) sv0 ([]) (upd fl0 0 1) H1 := LW_h ht hW
  obtain ⟨H, rfl⟩ : ∃ z, z = H1 := ⟨_, rfl⟩
  rw [hw]
  refine W.widen (k := 188) (n := 1616) (Nat.le_of_ble_eq_true rfl) (Nat.le_of_ble_eq_true rfl) ?_
  rw [show ((m_open st0 99).1) = 0 from by decide +kernel]
  have hW : LW D G X A q1 (zA 0) st0 (pS hS_1 0 st0) (pN 0) sv0 ([]) (upd fl0 0 1) H := LW_cc tA_1 tA_2 tA_3 hW
  have hH := HW_push st0 hH (by decide)
  generalize pS hS_1 0 st0 = hS_2 at hW hH
  generalize pN 0 = hn_2 at hW hH
  have hH : HW [st0] hS_2 hn_2 := hH
  refine lv_if_eq (tgt := 46) hx hb dL_law_41 (by decide) (fun _ => ?_) (fun c_7 => absurd (by decide) c_7)
  refine lv_iconst (v := 0) hx hb dL_law_46 (by decide) ?_
  refine lv_istore_n (lv' := [(2, .int 0), (1, .ref q1), (0, .ref b)]) hx hb dL_law_47 rfl hl (by decide) rfl (fun ls hl => ?_)
  have L48 : ∀ (m9 k : Nat), k + m9 = 60 → ∀ (H : Heap) (locs : List Loc), LW D G X A q1 (zA 0) st0 hS_2 hn_2 (lp (ty T60) k sv0) ([]) (upd fl0 0 1) H → va_S A s.heap H locs → ∀ ls : Array Slot, lv_has ls 11 [(2, .int (nI k)), (1, .ref q1), (0, .ref b)] → W p l e room_1 s m #[Value.ref b] below meth c H locs (188 + (60 - 1 * m9)) (1616 + (360 - 6 * m9)) (lw_Z below #[Value.ref b] s) (F0 m 48 ls []) := by
    intro m9
    induction m9 with
    | zero =>
      intro k hk1  H locs  hW hS0 ls hl
      obtain rfl : k = 60 := by omega
      refine W.widen (k := 248) (n := 1976) (by omega) (by omega) ?_
      refine lv_iload_n hx hb dL_law_48 rfl (lv_at hl 0 rfl) ?_
      refine lv_bipush (v := 60) hx hb dL_law_49 (by decide) ?_
      refine lv_icmp_ge (tgt := 77) hx hb dL_law_51 (by decide) (fun _ => ?_) (fun c_8 => absurd (nI_le (a := 60) (b := 60) (by omega) (by omega)) c_8)
      refine lv_aload_n hx hb dL_law_77 rfl (lv_at hl 1 rfl) ?_
      refine lv_bipush (v := 100) hx hb dL_law_78 (by decide) ?_
      refine va_calli (vx_runSW (As := [.ref q1, .int 100]) (rest := []) ⟨hx, hb, hml, hown, hts⟩ (cl_L_type l hfl D G B0 X A q1 (zA 0) st0 hS_2 hn_2 (lp (ty T60) 60 sv0) ([]) (upd fl0 0 1) 100 (ty_ok (T := T60) sv0_ok.1 sv0_ok.2 60 (by decide)).1 (by decide) H.size) (vx_cwSW (hh := [(0, 5, 6, 13), (0, 5, 11, 15)]) 2 hts gl_161 rfl rfl rfl (by decide +kernel) ⟨Nat.le_of_ble_eq_true rfl, Nat.le_of_ble_eq_true rfl⟩) (ps_lw hK hW (hE.at hS0 hAB) (AH hA0 hS0) hAB) rfl rfl hl.1 rfl (lv_room (Nat.le_of_ble_eq_true rfl)) dL_law_80 ⟨Nat.le_of_ble_eq_true rfl, Nat.le_of_ble_eq_true rfl⟩) hS0 (fun q _ h => h) (fun q h => h) (fun r u9 t9 H1 locs ht hvm hw hW hz1 hk1 hS0 => ?_)
      have hX : x_type (lp (ty T60) 60 sv0) 100 = 4 := (by decide +kernel)
      rw [hX] at hw hW
      have hw : r = (-1002) := hw
      have hW : LW D G X A q1 (zA 0) st0 hS_2 hn_2 (lp (ty T60) 60 sv0) ([]) (upd fl0 0 1) H1 := LW_h ht hW
      obtain ⟨H, rfl⟩ : ∃ z, z = H1 := ⟨_, rfl⟩
      rw [hw]
      refine W.widen (k := 249) (n := 1982) (Nat.le_of_ble_eq_true rfl) (Nat.le_of_ble_eq_true rfl) ?_
      refine lv_sipush (v := -1002) hx hb dL_law_83 (by decide) ?_
      refine lv_icmp_ne (tgt := 134) hx hb dL_law_86 (by decide) (fun c_10 => absurd rfl c_10) (fun _ => ?_)
      refine lv_aload_n hx hb dL_law_89 rfl (lv_at hl 1 rfl) ?_
      refine va_calli (vx_runSW (As := [.ref q1]) (rest := []) ⟨hx, hb, hml, hown, hts⟩ (cl_L_execute l hfl D G B0 X A q1 (zA 0) st0 hS_2 hn_2 (lp (ty T60) 60 sv0) ([]) (upd fl0 0 1) (HW_le hH) (ty_ok (T := T60) sv0_ok.1 sv0_ok.2 60 (by decide)).1 ⟨by decide +kernel, by decide +kernel⟩ H.size) (vx_cwSW (hh := [(0, 4, 5, 13), (0, 4, 10, 15)]) 1 hts gl_166 rfl rfl rfl (by decide +kernel) ⟨Nat.le_of_ble_eq_true rfl, Nat.le_of_ble_eq_true rfl⟩) (ps_lw hK hW (hE.at hS0 hAB) (AH hA0 hS0) hAB) rfl rfl hl.1 rfl (lv_room (Nat.le_of_ble_eq_true rfl)) dL_law_90 ⟨Nat.le_of_ble_eq_true rfl, Nat.le_of_ble_eq_true rfl⟩) hS0 (fun q _ h => h) (fun q h => h) (fun r u11 t9 H1 locs ht hvm hw hW hz1 hk1 hS0 => ?_)
      have hX : x_exec (zA 0) (upd fl0 0 1) (lp (ty T60) 60 sv0) = 1 := (by decide +kernel)
      rw [hX] at hw hW
      have hw : r = (-1001) := hw
      have hW : LW D G X A q1 (zA 0) st0 hS_2 hn_2 (e_sv (zA 0) (upd fl0 0 1) (lp (ty T60) 60 sv0)) ([]) (e_fl (zA 0) (upd fl0 0 1) (lp (ty T60) 60 sv0)) H1 := LW_h ht hW
      obtain ⟨H, rfl⟩ : ∃ z, z = H1 := ⟨_, rfl⟩
      rw [hw]
      refine W.widen (k := 250) (n := 1988) (Nat.le_of_ble_eq_true rfl) (Nat.le_of_ble_eq_true rfl) ?_
      refine lv_sipush (v := -1001) hx hb dL_law_93 (by decide) ?_
      refine lv_icmp_ne (tgt := 134) hx hb dL_law_96 (by decide) (fun c_12 => absurd rfl c_12) (fun _ => ?_)
      refine lv_aload_n hx hb dL_law_99 rfl (lv_at hl 1 rfl) ?_
      refine va_calli (vx_runSW (As := [.ref q1]) (rest := []) ⟨hx, hb, hml, hown, hts⟩ (cl_L_errorPosition l hfl D G B0 X A q1 (zA 0) st0 hS_2 hn_2 (e_sv (zA 0) (upd fl0 0 1) (lp (ty T60) 60 sv0)) ([]) (e_fl (zA 0) (upd fl0 0 1) (lp (ty T60) 60 sv0)) H.size) (vx_cwSW (hh := [(0, 4, 5, 24)]) 1 hts gl_307 rfl rfl rfl (by decide +kernel) ⟨Nat.le_of_ble_eq_true rfl, Nat.le_of_ble_eq_true rfl⟩) (ps_lw hK hW (hE.at hS0 hAB) (AH hA0 hS0) hAB) rfl rfl hl.1 rfl (lv_room (Nat.le_of_ble_eq_true rfl)) dL_law_100 ⟨Nat.le_of_ble_eq_true rfl, Nat.le_of_ble_eq_true rfl⟩) hS0 (fun q _ h => h) (fun q h => h) (fun r u13 t9 H1 locs ht hvm hw hW hz1 hk1 hS0 => ?_)
      have hX : x_errp (e_fl (zA 0) (upd fl0 0 1) (lp (ty T60) 60 sv0)) = 0 := (by decide +kernel)
      rw [hX] at hw
      have hw : r = (e_fl (zA 0) (upd fl0 0 1) (lp (ty T60) 60 sv0)) 3 := hw
      have hW : LW D G X A q1 (zA 0) st0 hS_2 hn_2 (e_sv (zA 0) (upd fl0 0 1) (lp (ty T60) 60 sv0)) ([]) (e_fl (zA 0) (upd fl0 0 1) (lp (ty T60) 60 sv0)) H1 := LW_h ht hW
      obtain ⟨H, rfl⟩ : ∃ z, z = H1 := ⟨_, rfl⟩
      rw [hw]
      refine W.widen (k := 251) (n := 1994) (Nat.le_of_ble_eq_true rfl) (Nat.le_of_ble_eq_true rfl) ?_
      rw [show ((e_fl (zA 0) (upd fl0 0 1) (lp (ty T60) 60 sv0)) 3) = 0 from by decide +kernel]
      refine lv_if_ne (tgt := 134) hx hb dL_law_103 (by decide) (fun c_14 => absurd (by decide) c_14) (fun _ => ?_)
      refine lv_aload_n hx hb dL_law_106 rfl (lv_at hl 1 rfl) ?_
      refine lv_bipush (v := 100) hx hb dL_law_107 (by decide) ?_
      refine va_calli (vx_runSW (As := [.ref q1, .int 100]) (rest := []) ⟨hx, hb, hml, hown, hts⟩ (cl_L_type l hfl D G B0 X A q1 (zA 0) st0 hS_2 hn_2 (e_sv (zA 0) (upd fl0 0 1) (lp (ty T60) 60 sv0)) ([]) (e_fl (zA 0) (upd fl0 0 1) (lp (ty T60) 60 sv0)) 100 (SVok_e (ty_ok (T := T60) sv0_ok.1 sv0_ok.2 60 (by decide)).1).1 (by decide) H.size) (vx_cwSW (hh := [(0, 5, 6, 13), (0, 5, 11, 15)]) 2 hts gl_161 rfl rfl rfl (by decide +kernel) ⟨Nat.le_of_ble_eq_true rfl, Nat.le_of_ble_eq_true rfl⟩) (ps_lw hK hW (hE.at hS0 hAB) (AH hA0 hS0) hAB) rfl rfl hl.1 rfl (lv_room (Nat.le_of_ble_eq_true rfl)) dL_law_109 ⟨Nat.le_of_ble_eq_true rfl, Nat.le_of_ble_eq_true rfl⟩) hS0 (fun q _ h => h) (fun q h => h) (fun r u15 t9 H1 locs ht hvm hw hW hz1 hk1 hS0 => ?_)
      have hX : x_type (e_sv (zA 0) (upd fl0 0 1) (lp (ty T60) 60 sv0)) 100 = 0 := (by decide +kernel)
      rw [hX] at hw hW
      have hw : r = nI ((e_sv (zA 0) (upd fl0 0 1) (lp (ty T60) 60 sv0)).2.2.1 + 1) := hw
      have hW : LW D G X A q1 (zA 0) st0 hS_2 hn_2 (v_typ (e_sv (zA 0) (upd fl0 0 1) (lp (ty T60) 60 sv0)) 100) ([]) (e_fl (zA 0) (upd fl0 0 1) (lp (ty T60) 60 sv0)) H1 := LW_h ht hW
      obtain ⟨H, rfl⟩ : ∃ z, z = H1 := ⟨_, rfl⟩
      rw [hw]
      refine W.widen (k := 252) (n := 2000) (Nat.le_of_ble_eq_true rfl) (Nat.le_of_ble_eq_true rfl) ?_
      rw [show (nI ((e_sv (zA 0) (upd fl0 0 1) (lp (ty T60) 60 sv0)).2.2.1 + 1)) = 1 from by decide +kernel]
      refine lv_iconst (v := 1) hx hb dL_law_112 (by decide) ?_
      refine lv_icmp_ne (tgt := 134) hx hb dL_law_113 (by decide) (fun c_16 => absurd rfl c_16) (fun _ => ?_)
      refine lv_aload_n hx hb dL_law_116 rfl (lv_at hl 1 rfl) ?_
      refine va_calli (vx_runSW (As := [.ref q1]) (rest := []) ⟨hx, hb, hml, hown, hts⟩ (cl_L_execute l hfl D G B0 X A q1 (zA 0) st0 hS_2 hn_2 (v_typ (e_sv (zA 0) (upd fl0 0 1) (lp (ty T60) 60 sv0)) 100) ([]) (e_fl (zA 0) (upd fl0 0 1) (lp (ty T60) 60 sv0)) (HW_le hH) ⟨by decide +kernel, by decide +kernel, by decide +kernel, by decide +kernel⟩ ⟨by decide +kernel, by decide +kernel⟩ H.size) (vx_cwSW (hh := [(0, 4, 5, 13), (0, 4, 10, 15)]) 1 hts gl_166 rfl rfl rfl (by decide +kernel) ⟨Nat.le_of_ble_eq_true rfl, Nat.le_of_ble_eq_true rfl⟩) (ps_lw hK hW (hE.at hS0 hAB) (AH hA0 hS0) hAB) rfl rfl hl.1 rfl (lv_room (Nat.le_of_ble_eq_true rfl)) dL_law_117 ⟨Nat.le_of_ble_eq_true rfl, Nat.le_of_ble_eq_true rfl⟩) hS0 (fun q _ h => h) (fun q h => h) (fun r u17 t9 H1 locs ht hvm hw hW hz1 hk1 hS0 => ?_)
      have hX : x_exec (zA 0) (e_fl (zA 0) (upd fl0 0 1) (lp (ty T60) 60 sv0)) (v_typ (e_sv (zA 0) (upd fl0 0 1) (lp (ty T60) 60 sv0)) 100) = 1 := (by decide +kernel)
      rw [hX] at hw hW
      have hw : r = (-1001) := hw
      have hW : LW D G X A q1 (zA 0) st0 hS_2 hn_2 (e_sv (zA 0) (e_fl (zA 0) (upd fl0 0 1) (lp (ty T60) 60 sv0)) (v_typ (e_sv (zA 0) (upd fl0 0 1) (lp (ty T60) 60 sv0)) 100)) ([]) (e_fl (zA 0) (e_fl (zA 0) (upd fl0 0 1) (lp (ty T60) 60 sv0)) (v_typ (e_sv (zA 0) (upd fl0 0 1) (lp (ty T60) 60 sv0)) 100)) H1 := LW_h ht hW
      obtain ⟨H, rfl⟩ : ∃ z, z = H1 := ⟨_, rfl⟩
      rw [hw]
      refine W.widen (k := 253) (n := 2006) (Nat.le_of_ble_eq_true rfl) (Nat.le_of_ble_eq_true rfl) ?_
      refine lv_sipush (v := -1001) hx hb dL_law_120 (by decide) ?_
      refine lv_icmp_ne (tgt := 134) hx hb dL_law_123 (by decide) (fun c_18 => absurd rfl c_18) (fun _ => ?_)
      refine lv_aload_n hx hb dL_law_126 rfl (lv_at hl 1 rfl) ?_
      refine va_calli (vx_runSW (As := [.ref q1]) (rest := []) ⟨hx, hb, hml, hown, hts⟩ (cl_L_errorPosition l hfl D G B0 X A q1 (zA 0) st0 hS_2 hn_2 (e_sv (zA 0) (e_fl (zA 0) (upd fl0 0 1) (lp (ty T60) 60 sv0)) (v_typ (e_sv (zA 0) (upd fl0 0 1) (lp (ty T60) 60 sv0)) 100)) ([]) (e_fl (zA 0) (e_fl (zA 0) (upd fl0 0 1) (lp (ty T60) 60 sv0)) (v_typ (e_sv (zA 0) (upd fl0 0 1) (lp (ty T60) 60 sv0)) 100)) H.size) (vx_cwSW (hh := [(0, 4, 5, 24)]) 1 hts gl_307 rfl rfl rfl (by decide +kernel) ⟨Nat.le_of_ble_eq_true rfl, Nat.le_of_ble_eq_true rfl⟩) (ps_lw hK hW (hE.at hS0 hAB) (AH hA0 hS0) hAB) rfl rfl hl.1 rfl (lv_room (Nat.le_of_ble_eq_true rfl)) dL_law_127 ⟨Nat.le_of_ble_eq_true rfl, Nat.le_of_ble_eq_true rfl⟩) hS0 (fun q _ h => h) (fun q h => h) (fun r u19 t9 H1 locs ht hvm hw hW hz1 hk1 hS0 => ?_)
      have hX : x_errp (e_fl (zA 0) (e_fl (zA 0) (upd fl0 0 1) (lp (ty T60) 60 sv0)) (v_typ (e_sv (zA 0) (upd fl0 0 1) (lp (ty T60) 60 sv0)) 100)) = 0 := (by decide +kernel)
      rw [hX] at hw
      have hw : r = (e_fl (zA 0) (e_fl (zA 0) (upd fl0 0 1) (lp (ty T60) 60 sv0)) (v_typ (e_sv (zA 0) (upd fl0 0 1) (lp (ty T60) 60 sv0)) 100)) 3 := hw
      have hW : LW D G X A q1 (zA 0) st0 hS_2 hn_2 (e_sv (zA 0) (e_fl (zA 0) (upd fl0 0 1) (lp (ty T60) 60 sv0)) (v_typ (e_sv (zA 0) (upd fl0 0 1) (lp (ty T60) 60 sv0)) 100)) ([]) (e_fl (zA 0) (e_fl (zA 0) (upd fl0 0 1) (lp (ty T60) 60 sv0)) (v_typ (e_sv (zA 0) (upd fl0 0 1) (lp (ty T60) 60 sv0)) 100)) H1 := LW_h ht hW
      obtain ⟨H, rfl⟩ : ∃ z, z = H1 := ⟨_, rfl⟩
      rw [hw]
      refine W.widen (k := 254) (n := 2012) (Nat.le_of_ble_eq_true rfl) (Nat.le_of_ble_eq_true rfl) ?_
      rw [show ((e_fl (zA 0) (e_fl (zA 0) (upd fl0 0 1) (lp (ty T60) 60 sv0)) (v_typ (e_sv (zA 0) (upd fl0 0 1) (lp (ty T60) 60 sv0)) 100)) 3) = 1 from by decide +kernel]
      have hf1 : (e_fl (zA 0) (e_fl (zA 0) (upd fl0 0 1) (lp (ty T60) 60 sv0)) (v_typ (e_sv (zA 0) (upd fl0 0 1) (lp (ty T60) 60 sv0)) 100)) 0 = 1 := by decide +kernel
      generalize (e_fl (zA 0) (e_fl (zA 0) (upd fl0 0 1) (lp (ty T60) 60 sv0)) (v_typ (e_sv (zA 0) (upd fl0 0 1) (lp (ty T60) 60 sv0)) 100)) = fl1 at hW hf1
      generalize (e_sv (zA 0) (e_fl (zA 0) (upd fl0 0 1) (lp (ty T60) 60 sv0)) (v_typ (e_sv (zA 0) (upd fl0 0 1) (lp (ty T60) 60 sv0)) 100)) = sv1 at hW
      refine lv_iconst (v := 1) hx hb dL_law_130 (by decide) ?_
      refine lv_icmp_eq (tgt := 136) hx hb dL_law_131 (by decide) (fun _ => ?_) (fun c_20 => absurd rfl c_20)
      refine lv_iconst (v := 0) hx hb dL_law_136 (by decide) ?_
      refine lv_istore_n (lv' := [(2, .int 0), (1, .ref q1), (0, .ref b)]) hx hb dL_law_137 rfl hl (by decide) rfl (fun ls hl => ?_)
      have hl : lv_has ls 11 [(2, .int (nI 0)), (1, .ref q1), (0, .ref b)] := hl
      refine lv_iload_n hx hb dL_law_138 rfl (lv_at hl 0 rfl) ?_
      refine lv_bipush (v := 12) hx hb dL_law_139 (by decide) ?_
      refine lv_icmp_ge (tgt := 165) hx hb dL_law_141 (by decide) (fun c_21 => absurd c_21 (by decide)) (fun _ => ?_)
      refine lv_aload_n hx hb dL_law_144 rfl (lv_at hl 1 rfl) ?_
      refine lv_iconst (v := 2) hx hb dL_law_145 (by decide) ?_
      refine lv_iconst (v := 3) hx hb dL_law_146 (by decide) ?_
      refine lv_bipush (v := 12) hx hb dL_law_147 (by decide) ?_
      refine lv_iconst (v := 0) hx hb dL_law_149 (by decide) ?_
      refine va_calli (vx_runSW (As := [.ref q1, .int 2, .int 3, .int 12, .int 0]) (rest := []) ⟨hx, hb, hml, hown, hts⟩ (cl_L_addItem l hfl D G B0 X A q1 (zA 0) st0 hS_2 hn_2 sv1 ([]) fl1 2 3 12 false (HW_le hH) H.size) (vx_cwSW (hh := [(0, 9, 10, 13), (0, 9, 16, 15)]) 5 hts gl_189 rfl rfl rfl (by decide +kernel) ⟨Nat.le_of_ble_eq_true rfl, Nat.le_of_ble_eq_true rfl⟩) (ps_lw hK hW (hE.at hS0 hAB) (AH hA0 hS0) hAB) rfl rfl hl.1 rfl (lv_room (Nat.le_of_ble_eq_true rfl)) dL_law_150 ⟨Nat.le_of_ble_eq_true rfl, Nat.le_of_ble_eq_true rfl⟩) hS0 (fun q _ h => h) (fun q h => h) (fun r u22 t9 H1 locs ht hvm hw hW hz1 hk1 hS0 => ?_)
      have hX : f_takeIn (zA 0) 2 3 12 = 0 := (tI_x 0 (by decide)).1
      rw [hX] at hw hW
      have hw : r = (m_takeIn (zA 0) 2 3 12 false).1 := hw
      have hW : LW D G X A q1 ((m_takeIn (zA 0) 2 3 12 false).2) st0 (pS hS_2 hn_2 (zA 0)) (pN hn_2) sv1 ([]) fl1 H1 := LW_h ht hW
      obtain ⟨H, rfl⟩ : ∃ z, z = H1 := ⟨_, rfl⟩
      rw [hw]
      refine W.widen (k := 255) (n := 2018) (Nat.le_of_ble_eq_true rfl) (Nat.le_of_ble_eq_true rfl) ?_
      rw [show ((m_takeIn (zA 0) 2 3 12 false).1) = nI 0 from (tI_x 0 (by decide)).2]
      have hW : LW D G X A q1 (zA 1) st0 (pS hS_2 hn_2 (zA 0)) (pN hn_2) sv1 ([]) fl1 H := LW_cc (tI_1 0 (by decide)) (tI_2 0) (tI_3 0 (by decide)) hW
      have hH := HW_push (zA 0) hH (by decide)
      generalize pS hS_2 hn_2 (zA 0) = hS_3 at hW hH
      generalize pN hn_2 = hn_3 at hW hH
      have hH : HW [st0, (zA 0)] hS_3 hn_3 := hH
      refine lv_iload_n hx hb dL_law_153 rfl (lv_at hl 0 rfl) ?_
      refine lv_icmp_eq (tgt := 159) hx hb dL_law_154 (by decide) (fun _ => ?_) (fun c_23 => absurd rfl c_23)
      refine lv_iinc (v := nI (0 + 1)) (lv' := [(2, .int (nI (0 + 1))), (1, .ref q1), (0, .ref b)]) hx hb dL_law_159 hl (k := 0) rfl (by exact nI_1 0) (by decide) rfl (fun ls hl => ?_)
      refine lv_goto (tgt := 138) hx hb dL_law_162 (by decide) ?_
      have hl : lv_has ls 11 [(2, .int (nI 1)), (1, .ref q1), (0, .ref b)] := hl
      refine lv_iload_n hx hb dL_law_138 rfl (lv_at hl 0 rfl) ?_
      refine lv_bipush (v := 12) hx hb dL_law_139 (by decide) ?_
      refine lv_icmp_ge (tgt := 165) hx hb dL_law_141 (by decide) (fun c_24 => absurd c_24 (by decide)) (fun _ => ?_)
      refine lv_aload_n hx hb dL_law_144 rfl (lv_at hl 1 rfl) ?_
      refine lv_iconst (v := 2) hx hb dL_law_145 (by decide) ?_
      refine lv_iconst (v := 3) hx hb dL_law_146 (by decide) ?_
      refine lv_bipush (v := 12) hx hb dL_law_147 (by decide) ?_
      refine lv_iconst (v := 0) hx hb dL_law_149 (by decide) ?_
      refine va_calli (vx_runSW (As := [.ref q1, .int 2, .int 3, .int 12, .int 0]) (rest := []) ⟨hx, hb, hml, hown, hts⟩ (cl_L_addItem l hfl D G B0 X A q1 (zA 1) st0 hS_3 hn_3 sv1 ([]) fl1 2 3 12 false (HW_le hH) H.size) (vx_cwSW (hh := [(0, 9, 10, 13), (0, 9, 16, 15)]) 5 hts gl_189 rfl rfl rfl (by decide +kernel) ⟨Nat.le_of_ble_eq_true rfl, Nat.le_of_ble_eq_true rfl⟩) (ps_lw hK hW (hE.at hS0 hAB) (AH hA0 hS0) hAB) rfl rfl hl.1 rfl (lv_room (Nat.le_of_ble_eq_true rfl)) dL_law_150 ⟨Nat.le_of_ble_eq_true rfl, Nat.le_of_ble_eq_true rfl⟩) hS0 (fun q _ h => h) (fun q h => h) (fun r u25 t9 H1 locs ht hvm hw hW hz1 hk1 hS0 => ?_)
      have hX : f_takeIn (zA 1) 2 3 12 = 0 := (tI_x 1 (by decide)).1
      rw [hX] at hw hW
      have hw : r = (m_takeIn (zA 1) 2 3 12 false).1 := hw
      have hW : LW D G X A q1 ((m_takeIn (zA 1) 2 3 12 false).2) st0 (pS hS_3 hn_3 (zA 1)) (pN hn_3) sv1 ([]) fl1 H1 := LW_h ht hW
      obtain ⟨H, rfl⟩ : ∃ z, z = H1 := ⟨_, rfl⟩
      rw [hw]
      refine W.widen (k := 256) (n := 2024) (Nat.le_of_ble_eq_true rfl) (Nat.le_of_ble_eq_true rfl) ?_
      rw [show ((m_takeIn (zA 1) 2 3 12 false).1) = nI 1 from (tI_x 1 (by decide)).2]
      have hW : LW D G X A q1 (zA 2) st0 (pS hS_3 hn_3 (zA 1)) (pN hn_3) sv1 ([]) fl1 H := LW_cc (tI_1 1 (by decide)) (tI_2 1) (tI_3 1 (by decide)) hW
      have hH := HW_push (zA 1) hH (by decide)
      generalize pS hS_3 hn_3 (zA 1) = hS_4 at hW hH
      generalize pN hn_3 = hn_4 at hW hH
      have hH : HW [st0, (zA 0), (zA 1)] hS_4 hn_4 := hH
      refine lv_iload_n hx hb dL_law_153 rfl (lv_at hl 0 rfl) ?_
      refine lv_icmp_eq (tgt := 159) hx hb dL_law_154 (by decide) (fun _ => ?_) (fun c_26 => absurd rfl c_26)
      refine lv_iinc (v := nI (1 + 1)) (lv' := [(2, .int (nI (1 + 1))), (1, .ref q1), (0, .ref b)]) hx hb dL_law_159 hl (k := 0) rfl (by exact nI_1 1) (by decide) rfl (fun ls hl => ?_)
      refine lv_goto (tgt := 138) hx hb dL_law_162 (by decide) ?_
      have hl : lv_has ls 11 [(2, .int (nI 2)), (1, .ref q1), (0, .ref b)] := hl
      refine lv_iload_n hx hb dL_law_138 rfl (lv_at hl 0 rfl) ?_
      refine lv_bipush (v := 12) hx hb dL_law_139 (by decide) ?_
      refine lv_icmp_ge (tgt := 165) hx hb dL_law_141 (by decide) (fun c_27 => absurd c_27 (by decide)) (fun _ => ?_)
      refine lv_aload_n hx hb dL_law_144 rfl (lv_at hl 1 rfl) ?_
      refine lv_iconst (v := 2) hx hb dL_law_145 (by decide) ?_
      refine lv_iconst (v := 3) hx hb dL_law_146 (by decide) ?_
      refine lv_bipush (v := 12) hx hb dL_law_147 (by decide) ?_
      refine lv_iconst (v := 0) hx hb dL_law_149 (by decide) ?_
      refine va_calli (vx_runSW (As := [.ref q1, .int 2, .int 3, .int 12, .int 0]) (rest := []) ⟨hx, hb, hml, hown, hts⟩ (cl_L_addItem l hfl D G B0 X A q1 (zA 2) st0 hS_4 hn_4 sv1 ([]) fl1 2 3 12 false (HW_le hH) H.size) (vx_cwSW (hh := [(0, 9, 10, 13), (0, 9, 16, 15)]) 5 hts gl_189 rfl rfl rfl (by decide +kernel) ⟨Nat.le_of_ble_eq_true rfl, Nat.le_of_ble_eq_true rfl⟩) (ps_lw hK hW (hE.at hS0 hAB) (AH hA0 hS0) hAB) rfl rfl hl.1 rfl (lv_room (Nat.le_of_ble_eq_true rfl)) dL_law_150 ⟨Nat.le_of_ble_eq_true rfl, Nat.le_of_ble_eq_true rfl⟩) hS0 (fun q _ h => h) (fun q h => h) (fun r u28 t9 H1 locs ht hvm hw hW hz1 hk1 hS0 => ?_)
      have hX : f_takeIn (zA 2) 2 3 12 = 0 := (tI_x 2 (by decide)).1
      rw [hX] at hw hW
      have hw : r = (m_takeIn (zA 2) 2 3 12 false).1 := hw
      have hW : LW D G X A q1 ((m_takeIn (zA 2) 2 3 12 false).2) st0 (pS hS_4 hn_4 (zA 2)) (pN hn_4) sv1 ([]) fl1 H1 := LW_h ht hW
      obtain ⟨H, rfl⟩ : ∃ z, z = H1 := ⟨_, rfl⟩
      rw [hw]
      refine W.widen (k := 257) (n := 2030) (Nat.le_of_ble_eq_true rfl) (Nat.le_of_ble_eq_true rfl) ?_
      rw [show ((m_takeIn (zA 2) 2 3 12 false).1) = nI 2 from (tI_x 2 (by decide)).2]
      have hW : LW D G X A q1 (zA 3) st0 (pS hS_4 hn_4 (zA 2)) (pN hn_4) sv1 ([]) fl1 H := LW_cc (tI_1 2 (by decide)) (tI_2 2) (tI_3 2 (by decide)) hW
      have hH := HW_push (zA 2) hH (by decide)
      generalize pS hS_4 hn_4 (zA 2) = hS_5 at hW hH
      generalize pN hn_4 = hn_5 at hW hH
      have hH : HW [st0, (zA 0), (zA 1), (zA 2)] hS_5 hn_5 := hH
      refine lv_iload_n hx hb dL_law_153 rfl (lv_at hl 0 rfl) ?_
      refine lv_icmp_eq (tgt := 159) hx hb dL_law_154 (by decide) (fun _ => ?_) (fun c_29 => absurd rfl c_29)
      refine lv_iinc (v := nI (2 + 1)) (lv' := [(2, .int (nI (2 + 1))), (1, .ref q1), (0, .ref b)]) hx hb dL_law_159 hl (k := 0) rfl (by exact nI_1 2) (by decide) rfl (fun ls hl => ?_)
      refine lv_goto (tgt := 138) hx hb dL_law_162 (by decide) ?_
      have hl : lv_has ls 11 [(2, .int (nI 3)), (1, .ref q1), (0, .ref b)] := hl
      refine lv_iload_n hx hb dL_law_138 rfl (lv_at hl 0 rfl) ?_
      refine lv_bipush (v := 12) hx hb dL_law_139 (by decide) ?_
      refine lv_icmp_ge (tgt := 165) hx hb dL_law_141 (by decide) (fun c_30 => absurd c_30 (by decide)) (fun _ => ?_)
      refine lv_aload_n hx hb dL_law_144 rfl (lv_at hl 1 rfl) ?_
      refine lv_iconst (v := 2) hx hb dL_law_145 (by decide) ?_
      refine lv_iconst (v := 3) hx hb dL_law_146 (by decide) ?_
      refine lv_bipush (v := 12) hx hb dL_law_147 (by decide) ?_
      refine lv_iconst (v := 0) hx hb dL_law_149 (by decide) ?_
      refine va_calli (vx_runSW (As := [.ref q1, .int 2, .int 3, .int 12, .int 0]) (rest := []) ⟨hx, hb, hml, hown, hts⟩ (cl_L_addItem l hfl D G B0 X A q1 (zA 3) st0 hS_5 hn_5 sv1 ([]) fl1 2 3 12 false (HW_le hH) H.size) (vx_cwSW (hh := [(0, 9, 10, 13), (0, 9, 16, 15)]) 5 hts gl_189 rfl rfl rfl (by decide +kernel) ⟨Nat.le_of_ble_eq_true rfl, Nat.le_of_ble_eq_true rfl⟩) (ps_lw hK hW (hE.at hS0 hAB) (AH hA0 hS0) hAB) rfl rfl hl.1 rfl (lv_room (Nat.le_of_ble_eq_true rfl)) dL_law_150 ⟨Nat.le_of_ble_eq_true rfl, Nat.le_of_ble_eq_true rfl⟩) hS0 (fun q _ h => h) (fun q h => h) (fun r u31 t9 H1 locs ht hvm hw hW hz1 hk1 hS0 => ?_)
      have hX : f_takeIn (zA 3) 2 3 12 = 0 := (tI_x 3 (by decide)).1
      rw [hX] at hw hW
      have hw : r = (m_takeIn (zA 3) 2 3 12 false).1 := hw
      have hW : LW D G X A q1 ((m_takeIn (zA 3) 2 3 12 false).2) st0 (pS hS_5 hn_5 (zA 3)) (pN hn_5) sv1 ([]) fl1 H1 := LW_h ht hW
      obtain ⟨H, rfl⟩ : ∃ z, z = H1 := ⟨_, rfl⟩
      rw [hw]
      refine W.widen (k := 258) (n := 2036) (Nat.le_of_ble_eq_true rfl) (Nat.le_of_ble_eq_true rfl) ?_
      rw [show ((m_takeIn (zA 3) 2 3 12 false).1) = nI 3 from (tI_x 3 (by decide)).2]
      have hW : LW D G X A q1 (zA 4) st0 (pS hS_5 hn_5 (zA 3)) (pN hn_5) sv1 ([]) fl1 H := LW_cc (tI_1 3 (by decide)) (tI_2 3) (tI_3 3 (by decide)) hW
      have hH := HW_push (zA 3) hH (by decide)
      generalize pS hS_5 hn_5 (zA 3) = hS_6 at hW hH
      generalize pN hn_5 = hn_6 at hW hH
      have hH : HW [st0, (zA 0), (zA 1), (zA 2), (zA 3)] hS_6 hn_6 := hH
      refine lv_iload_n hx hb dL_law_153 rfl (lv_at hl 0 rfl) ?_
      refine lv_icmp_eq (tgt := 159) hx hb dL_law_154 (by decide) (fun _ => ?_) (fun c_32 => absurd rfl c_32)
      refine lv_iinc (v := nI (3 + 1)) (lv' := [(2, .int (nI (3 + 1))), (1, .ref q1), (0, .ref b)]) hx hb dL_law_159 hl (k := 0) rfl (by exact nI_1 3) (by decide) rfl (fun ls hl => ?_)
      refine lv_goto (tgt := 138) hx hb dL_law_162 (by decide) ?_
      have hl : lv_has ls 11 [(2, .int (nI 4)), (1, .ref q1), (0, .ref b)] := hl
      refine lv_iload_n hx hb dL_law_138 rfl (lv_at hl 0 rfl) ?_
      refine lv_bipush (v := 12) hx hb dL_law_139 (by decide) ?_
      refine lv_icmp_ge (tgt := 165) hx hb dL_law_141 (by decide) (fun c_33 => absurd c_33 (by decide)) (fun _ => ?_)
      refine lv_aload_n hx hb dL_law_144 rfl (lv_at hl 1 rfl) ?_
      refine lv_iconst (v := 2) hx hb dL_law_145 (by decide) ?_
      refine lv_iconst (v := 3) hx hb dL_law_146 (by decide) ?_
      refine lv_bipush (v := 12) hx hb dL_law_147 (by decide) ?_
      refine lv_iconst (v := 0) hx hb dL_law_149 (by decide) ?_
      refine va_calli (vx_runSW (As := [.ref q1, .int 2, .int 3, .int 12, .int 0]) (rest := []) ⟨hx, hb, hml, hown, hts⟩ (cl_L_addItem l hfl D G B0 X A q1 (zA 4) st0 hS_6 hn_6 sv1 ([]) fl1 2 3 12 false (HW_le hH) H.size) (vx_cwSW (hh := [(0, 9, 10, 13), (0, 9, 16, 15)]) 5 hts gl_189 rfl rfl rfl (by decide +kernel) ⟨Nat.le_of_ble_eq_true rfl, Nat.le_of_ble_eq_true rfl⟩) (ps_lw hK hW (hE.at hS0 hAB) (AH hA0 hS0) hAB) rfl rfl hl.1 rfl (lv_room (Nat.le_of_ble_eq_true rfl)) dL_law_150 ⟨Nat.le_of_ble_eq_true rfl, Nat.le_of_ble_eq_true rfl⟩) hS0 (fun q _ h => h) (fun q h => h) (fun r u34 t9 H1 locs ht hvm hw hW hz1 hk1 hS0 => ?_)
      have hX : f_takeIn (zA 4) 2 3 12 = 0 := (tI_x 4 (by decide)).1
      rw [hX] at hw hW
      have hw : r = (m_takeIn (zA 4) 2 3 12 false).1 := hw
      have hW : LW D G X A q1 ((m_takeIn (zA 4) 2 3 12 false).2) st0 (pS hS_6 hn_6 (zA 4)) (pN hn_6) sv1 ([]) fl1 H1 := LW_h ht hW
      obtain ⟨H, rfl⟩ : ∃ z, z = H1 := ⟨_, rfl⟩
      rw [hw]
      refine W.widen (k := 259) (n := 2042) (Nat.le_of_ble_eq_true rfl) (Nat.le_of_ble_eq_true rfl) ?_
      rw [show ((m_takeIn (zA 4) 2 3 12 false).1) = nI 4 from (tI_x 4 (by decide)).2]
      have hW : LW D G X A q1 (zA 5) st0 (pS hS_6 hn_6 (zA 4)) (pN hn_6) sv1 ([]) fl1 H := LW_cc (tI_1 4 (by decide)) (tI_2 4) (tI_3 4 (by decide)) hW
      have hH := HW_push (zA 4) hH (by decide)
      generalize pS hS_6 hn_6 (zA 4) = hS_7 at hW hH
      generalize pN hn_6 = hn_7 at hW hH
      have hH : HW [st0, (zA 0), (zA 1), (zA 2), (zA 3), (zA 4)] hS_7 hn_7 := hH
      refine lv_iload_n hx hb dL_law_153 rfl (lv_at hl 0 rfl) ?_
      refine lv_icmp_eq (tgt := 159) hx hb dL_law_154 (by decide) (fun _ => ?_) (fun c_35 => absurd rfl c_35)
      refine lv_iinc (v := nI (4 + 1)) (lv' := [(2, .int (nI (4 + 1))), (1, .ref q1), (0, .ref b)]) hx hb dL_law_159 hl (k := 0) rfl (by exact nI_1 4) (by decide) rfl (fun ls hl => ?_)
      refine lv_goto (tgt := 138) hx hb dL_law_162 (by decide) ?_
      have hl : lv_has ls 11 [(2, .int (nI 5)), (1, .ref q1), (0, .ref b)] := hl
      refine lv_iload_n hx hb dL_law_138 rfl (lv_at hl 0 rfl) ?_
      refine lv_bipush (v := 12) hx hb dL_law_139 (by decide) ?_
      refine lv_icmp_ge (tgt := 165) hx hb dL_law_141 (by decide) (fun c_36 => absurd c_36 (by decide)) (fun _ => ?_)
      refine lv_aload_n hx hb dL_law_144 rfl (lv_at hl 1 rfl) ?_
      refine lv_iconst (v := 2) hx hb dL_law_145 (by decide) ?_
      refine lv_iconst (v := 3) hx hb dL_law_146 (by decide) ?_
      refine lv_bipush (v := 12) hx hb dL_law_147 (by decide) ?_
      refine lv_iconst (v := 0) hx hb dL_law_149 (by decide) ?_
      refine va_calli (vx_runSW (As := [.ref q1, .int 2, .int 3, .int 12, .int 0]) (rest := []) ⟨hx, hb, hml, hown, hts⟩ (cl_L_addItem l hfl D G B0 X A q1 (zA 5) st0 hS_7 hn_7 sv1 ([]) fl1 2 3 12 false (HW_le hH) H.size) (vx_cwSW (hh := [(0, 9, 10, 13), (0, 9, 16, 15)]) 5 hts gl_189 rfl rfl rfl (by decide +kernel) ⟨Nat.le_of_ble_eq_true rfl, Nat.le_of_ble_eq_true rfl⟩) (ps_lw hK hW (hE.at hS0 hAB) (AH hA0 hS0) hAB) rfl rfl hl.1 rfl (lv_room (Nat.le_of_ble_eq_true rfl)) dL_law_150 ⟨Nat.le_of_ble_eq_true rfl, Nat.le_of_ble_eq_true rfl⟩) hS0 (fun q _ h => h) (fun q h => h) (fun r u37 t9 H1 locs ht hvm hw hW hz1 hk1 hS0 => ?_)
      have hX : f_takeIn (zA 5) 2 3 12 = 0 := (tI_x 5 (by decide)).1
      rw [hX] at hw hW
      have hw : r = (m_takeIn (zA 5) 2 3 12 false).1 := hw
      have hW : LW D G X A q1 ((m_takeIn (zA 5) 2 3 12 false).2) st0 (pS hS_7 hn_7 (zA 5)) (pN hn_7) sv1 ([]) fl1 H1 := LW_h ht hW
      obtain ⟨H, rfl⟩ : ∃ z, z = H1 := ⟨_, rfl⟩
      rw [hw]
      refine W.widen (k := 260) (n := 2048) (Nat.le_of_ble_eq_true rfl) (Nat.le_of_ble_eq_true rfl) ?_
      rw [show ((m_takeIn (zA 5) 2 3 12 false).1) = nI 5 from (tI_x 5 (by decide)).2]
      have hW : LW D G X A q1 (zA 6) st0 (pS hS_7 hn_7 (zA 5)) (pN hn_7) sv1 ([]) fl1 H := LW_cc (tI_1 5 (by decide)) (tI_2 5) (tI_3 5 (by decide)) hW
      have hH := HW_push (zA 5) hH (by decide)
      generalize pS hS_7 hn_7 (zA 5) = hS_8 at hW hH
      generalize pN hn_7 = hn_8 at hW hH
      have hH : HW [st0, (zA 0), (zA 1), (zA 2), (zA 3), (zA 4), (zA 5)] hS_8 hn_8 := hH
      refine lv_iload_n hx hb dL_law_153 rfl (lv_at hl 0 rfl) ?_
      refine lv_icmp_eq (tgt := 159) hx hb dL_law_154 (by decide) (fun _ => ?_) (fun c_38 => absurd rfl c_38)
      refine lv_iinc (v := nI (5 + 1)) (lv' := [(2, .int (nI (5 + 1))), (1, .ref q1), (0, .ref b)]) hx hb dL_law_159 hl (k := 0) rfl (by exact nI_1 5) (by decide) rfl (fun ls hl => ?_)
      refine lv_goto (tgt := 138) hx hb dL_law_162 (by decide) ?_
      have hl : lv_has ls 11 [(2, .int (nI 6)), (1, .ref q1), (0, .ref b)] := hl
      refine lv_iload_n hx hb dL_law_138 rfl (lv_at hl 0 rfl) ?_
      refine lv_bipush (v := 12) hx hb dL_law_139 (by decide) ?_
      refine lv_icmp_ge (tgt := 165) hx hb dL_law_141 (by decide) (fun c_39 => absurd c_39 (by decide)) (fun _ => ?_)
      refine lv_aload_n hx hb dL_law_144 rfl (lv_at hl 1 rfl) ?_
      refine lv_iconst (v := 2) hx hb dL_law_145 (by decide) ?_
      refine lv_iconst (v := 3) hx hb dL_law_146 (by decide) ?_
      refine lv_bipush (v := 12) hx hb dL_law_147 (by decide) ?_
      refine lv_iconst (v := 0) hx hb dL_law_149 (by decide) ?_
      refine va_calli (vx_runSW (As := [.ref q1, .int 2, .int 3, .int 12, .int 0]) (rest := []) ⟨hx, hb, hml, hown, hts⟩ (cl_L_addItem l hfl D G B0 X A q1 (zA 6) st0 hS_8 hn_8 sv1 ([]) fl1 2 3 12 false (HW_le hH) H.size) (vx_cwSW (hh := [(0, 9, 10, 13), (0, 9, 16, 15)]) 5 hts gl_189 rfl rfl rfl (by decide +kernel) ⟨Nat.le_of_ble_eq_true rfl, Nat.le_of_ble_eq_true rfl⟩) (ps_lw hK hW (hE.at hS0 hAB) (AH hA0 hS0) hAB) rfl rfl hl.1 rfl (lv_room (Nat.le_of_ble_eq_true rfl)) dL_law_150 ⟨Nat.le_of_ble_eq_true rfl, Nat.le_of_ble_eq_true rfl⟩) hS0 (fun q _ h => h) (fun q h => h) (fun r u40 t9 H1 locs ht hvm hw hW hz1 hk1 hS0 => ?_)
      have hX : f_takeIn (zA 6) 2 3 12 = 0 := (tI_x 6 (by decide)).1
      rw [hX] at hw hW
      have hw : r = (m_takeIn (zA 6) 2 3 12 false).1 := hw
      have hW : LW D G X A q1 ((m_takeIn (zA 6) 2 3 12 false).2) st0 (pS hS_8 hn_8 (zA 6)) (pN hn_8) sv1 ([]) fl1 H1 := LW_h ht hW
      obtain ⟨H, rfl⟩ : ∃ z, z = H1 := ⟨_, rfl⟩
      rw [hw]
      refine W.widen (k := 261) (n := 2054) (Nat.le_of_ble_eq_true rfl) (Nat.le_of_ble_eq_true rfl) ?_
      rw [show ((m_takeIn (zA 6) 2 3 12 false).1) = nI 6 from (tI_x 6 (by decide)).2]
      have hW : LW D G X A q1 (zA 7) st0 (pS hS_8 hn_8 (zA 6)) (pN hn_8) sv1 ([]) fl1 H := LW_cc (tI_1 6 (by decide)) (tI_2 6) (tI_3 6 (by decide)) hW
      have hH := HW_push (zA 6) hH (by decide)
      generalize pS hS_8 hn_8 (zA 6) = hS_9 at hW hH
      generalize pN hn_8 = hn_9 at hW hH
      have hH : HW [st0, (zA 0), (zA 1), (zA 2), (zA 3), (zA 4), (zA 5), (zA 6)] hS_9 hn_9 := hH
      refine lv_iload_n hx hb dL_law_153 rfl (lv_at hl 0 rfl) ?_
      refine lv_icmp_eq (tgt := 159) hx hb dL_law_154 (by decide) (fun _ => ?_) (fun c_41 => absurd rfl c_41)
      refine lv_iinc (v := nI (6 + 1)) (lv' := [(2, .int (nI (6 + 1))), (1, .ref q1), (0, .ref b)]) hx hb dL_law_159 hl (k := 0) rfl (by exact nI_1 6) (by decide) rfl (fun ls hl => ?_)
      refine lv_goto (tgt := 138) hx hb dL_law_162 (by decide) ?_
      have hl : lv_has ls 11 [(2, .int (nI 7)), (1, .ref q1), (0, .ref b)] := hl
      refine lv_iload_n hx hb dL_law_138 rfl (lv_at hl 0 rfl) ?_
      refine lv_bipush (v := 12) hx hb dL_law_139 (by decide) ?_
      refine lv_icmp_ge (tgt := 165) hx hb dL_law_141 (by decide) (fun c_42 => absurd c_42 (by decide)) (fun _ => ?_)
      refine lv_aload_n hx hb dL_law_144 rfl (lv_at hl 1 rfl) ?_
      refine lv_iconst (v := 2) hx hb dL_law_145 (by decide) ?_
      refine lv_iconst (v := 3) hx hb dL_law_146 (by decide) ?_
      refine lv_bipush (v := 12) hx hb dL_law_147 (by decide) ?_
      refine lv_iconst (v := 0) hx hb dL_law_149 (by decide) ?_
      refine va_calli (vx_runSW (As := [.ref q1, .int 2, .int 3, .int 12, .int 0]) (rest := []) ⟨hx, hb, hml, hown, hts⟩ (cl_L_addItem l hfl D G B0 X A q1 (zA 7) st0 hS_9 hn_9 sv1 ([]) fl1 2 3 12 false (HW_le hH) H.size) (vx_cwSW (hh := [(0, 9, 10, 13), (0, 9, 16, 15)]) 5 hts gl_189 rfl rfl rfl (by decide +kernel) ⟨Nat.le_of_ble_eq_true rfl, Nat.le_of_ble_eq_true rfl⟩) (ps_lw hK hW (hE.at hS0 hAB) (AH hA0 hS0) hAB) rfl rfl hl.1 rfl (lv_room (Nat.le_of_ble_eq_true rfl)) dL_law_150 ⟨Nat.le_of_ble_eq_true rfl, Nat.le_of_ble_eq_true rfl⟩) hS0 (fun q _ h => h) (fun q h => h) (fun r u43 t9 H1 locs ht hvm hw hW hz1 hk1 hS0 => ?_)
      have hX : f_takeIn (zA 7) 2 3 12 = 0 := (tI_x 7 (by decide)).1
      rw [hX] at hw hW
      have hw : r = (m_takeIn (zA 7) 2 3 12 false).1 := hw
      have hW : LW D G X A q1 ((m_takeIn (zA 7) 2 3 12 false).2) st0 (pS hS_9 hn_9 (zA 7)) (pN hn_9) sv1 ([]) fl1 H1 := LW_h ht hW
      obtain ⟨H, rfl⟩ : ∃ z, z = H1 := ⟨_, rfl⟩
      rw [hw]
      refine W.widen (k := 262) (n := 2060) (Nat.le_of_ble_eq_true rfl) (Nat.le_of_ble_eq_true rfl) ?_
      rw [show ((m_takeIn (zA 7) 2 3 12 false).1) = nI 7 from (tI_x 7 (by decide)).2]
      have hW : LW D G X A q1 (zA 8) st0 (pS hS_9 hn_9 (zA 7)) (pN hn_9) sv1 ([]) fl1 H := LW_cc (tI_1 7 (by decide)) (tI_2 7) (tI_3 7 (by decide)) hW
      have hH := HW_full (zA 7) hH rfl
      generalize pS hS_9 hn_9 (zA 7) = hS_10 at hW hH
      generalize pN hn_9 = hn_10 at hW hH
      have hH : HW [(zA 0), (zA 1), (zA 2), (zA 3), (zA 4), (zA 5), (zA 6), (zA 7)] hS_10 hn_10 := hH
      refine lv_iload_n hx hb dL_law_153 rfl (lv_at hl 0 rfl) ?_
      refine lv_icmp_eq (tgt := 159) hx hb dL_law_154 (by decide) (fun _ => ?_) (fun c_44 => absurd rfl c_44)
      refine lv_iinc (v := nI (7 + 1)) (lv' := [(2, .int (nI (7 + 1))), (1, .ref q1), (0, .ref b)]) hx hb dL_law_159 hl (k := 0) rfl (by exact nI_1 7) (by decide) rfl (fun ls hl => ?_)
      refine lv_goto (tgt := 138) hx hb dL_law_162 (by decide) ?_
      have hl : lv_has ls 11 [(2, .int (nI 8)), (1, .ref q1), (0, .ref b)] := hl
      refine lv_iload_n hx hb dL_law_138 rfl (lv_at hl 0 rfl) ?_
      refine lv_bipush (v := 12) hx hb dL_law_139 (by decide) ?_
      refine lv_icmp_ge (tgt := 165) hx hb dL_law_141 (by decide) (fun c_45 => absurd c_45 (by decide)) (fun _ => ?_)
      refine lv_aload_n hx hb dL_law_144 rfl (lv_at hl 1 rfl) ?_
      refine lv_iconst (v := 2) hx hb dL_law_145 (by decide) ?_
      refine lv_iconst (v := 3) hx hb dL_law_146 (by decide) ?_
      refine lv_bipush (v := 12) hx hb dL_law_147 (by decide) ?_
      refine lv_iconst (v := 0) hx hb dL_law_149 (by decide) ?_
      refine va_calli (vx_runSW (As := [.ref q1, .int 2, .int 3, .int 12, .int 0]) (rest := []) ⟨hx, hb, hml, hown, hts⟩ (cl_L_addItem l hfl D G B0 X A q1 (zA 8) st0 hS_10 hn_10 sv1 ([]) fl1 2 3 12 false (HW_le hH) H.size) (vx_cwSW (hh := [(0, 9, 10, 13), (0, 9, 16, 15)]) 5 hts gl_189 rfl rfl rfl (by decide +kernel) ⟨Nat.le_of_ble_eq_true rfl, Nat.le_of_ble_eq_true rfl⟩) (ps_lw hK hW (hE.at hS0 hAB) (AH hA0 hS0) hAB) rfl rfl hl.1 rfl (lv_room (Nat.le_of_ble_eq_true rfl)) dL_law_150 ⟨Nat.le_of_ble_eq_true rfl, Nat.le_of_ble_eq_true rfl⟩) hS0 (fun q _ h => h) (fun q h => h) (fun r u46 t9 H1 locs ht hvm hw hW hz1 hk1 hS0 => ?_)
      have hX : f_takeIn (zA 8) 2 3 12 = 0 := (tI_x 8 (by decide)).1
      rw [hX] at hw hW
      have hw : r = (m_takeIn (zA 8) 2 3 12 false).1 := hw
      have hW : LW D G X A q1 ((m_takeIn (zA 8) 2 3 12 false).2) st0 (pS hS_10 hn_10 (zA 8)) (pN hn_10) sv1 ([]) fl1 H1 := LW_h ht hW
      obtain ⟨H, rfl⟩ : ∃ z, z = H1 := ⟨_, rfl⟩
      rw [hw]
      refine W.widen (k := 263) (n := 2066) (Nat.le_of_ble_eq_true rfl) (Nat.le_of_ble_eq_true rfl) ?_
      rw [show ((m_takeIn (zA 8) 2 3 12 false).1) = nI 8 from (tI_x 8 (by decide)).2]
      have hW : LW D G X A q1 (zA 9) st0 (pS hS_10 hn_10 (zA 8)) (pN hn_10) sv1 ([]) fl1 H := LW_cc (tI_1 8 (by decide)) (tI_2 8) (tI_3 8 (by decide)) hW
      have hH := HW_full (zA 8) hH rfl
      generalize pS hS_10 hn_10 (zA 8) = hS_11 at hW hH
      generalize pN hn_10 = hn_11 at hW hH
      have hH : HW [(zA 1), (zA 2), (zA 3), (zA 4), (zA 5), (zA 6), (zA 7), (zA 8)] hS_11 hn_11 := hH
      refine lv_iload_n hx hb dL_law_153 rfl (lv_at hl 0 rfl) ?_
      refine lv_icmp_eq (tgt := 159) hx hb dL_law_154 (by decide) (fun _ => ?_) (fun c_47 => absurd rfl c_47)
      refine lv_iinc (v := nI (8 + 1)) (lv' := [(2, .int (nI (8 + 1))), (1, .ref q1), (0, .ref b)]) hx hb dL_law_159 hl (k := 0) rfl (by exact nI_1 8) (by decide) rfl (fun ls hl => ?_)
      refine lv_goto (tgt := 138) hx hb dL_law_162 (by decide) ?_
      have hl : lv_has ls 11 [(2, .int (nI 9)), (1, .ref q1), (0, .ref b)] := hl
      refine lv_iload_n hx hb dL_law_138 rfl (lv_at hl 0 rfl) ?_
      refine lv_bipush (v := 12) hx hb dL_law_139 (by decide) ?_
      refine lv_icmp_ge (tgt := 165) hx hb dL_law_141 (by decide) (fun c_48 => absurd c_48 (by decide)) (fun _ => ?_)
      refine lv_aload_n hx hb dL_law_144 rfl (lv_at hl 1 rfl) ?_
      refine lv_iconst (v := 2) hx hb dL_law_145 (by decide) ?_
      refine lv_iconst (v := 3) hx hb dL_law_146 (by decide) ?_
      refine lv_bipush (v := 12) hx hb dL_law_147 (by decide) ?_
      refine lv_iconst (v := 0) hx hb dL_law_149 (by decide) ?_
      refine va_calli (vx_runSW (As := [.ref q1, .int 2, .int 3, .int 12, .int 0]) (rest := []) ⟨hx, hb, hml, hown, hts⟩ (cl_L_addItem l hfl D G B0 X A q1 (zA 9) st0 hS_11 hn_11 sv1 ([]) fl1 2 3 12 false (HW_le hH) H.size) (vx_cwSW (hh := [(0, 9, 10, 13), (0, 9, 16, 15)]) 5 hts gl_189 rfl rfl rfl (by decide +kernel) ⟨Nat.le_of_ble_eq_true rfl, Nat.le_of_ble_eq_true rfl⟩) (ps_lw hK hW (hE.at hS0 hAB) (AH hA0 hS0) hAB) rfl rfl hl.1 rfl (lv_room (Nat.le_of_ble_eq_true rfl)) dL_law_150 ⟨Nat.le_of_ble_eq_true rfl, Nat.le_of_ble_eq_true rfl⟩) hS0 (fun q _ h => h) (fun q h => h) (fun r u49 t9 H1 locs ht hvm hw hW hz1 hk1 hS0 => ?_)
      have hX : f_takeIn (zA 9) 2 3 12 = 0 := (tI_x 9 (by decide)).1
      rw [hX] at hw hW
      have hw : r = (m_takeIn (zA 9) 2 3 12 false).1 := hw
      have hW : LW D G X A q1 ((m_takeIn (zA 9) 2 3 12 false).2) st0 (pS hS_11 hn_11 (zA 9)) (pN hn_11) sv1 ([]) fl1 H1 := LW_h ht hW
      obtain ⟨H, rfl⟩ : ∃ z, z = H1 := ⟨_, rfl⟩
      rw [hw]
      refine W.widen (k := 264) (n := 2072) (Nat.le_of_ble_eq_true rfl) (Nat.le_of_ble_eq_true rfl) ?_
      rw [show ((m_takeIn (zA 9) 2 3 12 false).1) = nI 9 from (tI_x 9 (by decide)).2]
      have hW : LW D G X A q1 (zA 10) st0 (pS hS_11 hn_11 (zA 9)) (pN hn_11) sv1 ([]) fl1 H := LW_cc (tI_1 9 (by decide)) (tI_2 9) (tI_3 9 (by decide)) hW
      have hH := HW_full (zA 9) hH rfl
      generalize pS hS_11 hn_11 (zA 9) = hS_12 at hW hH
      generalize pN hn_11 = hn_12 at hW hH
      have hH : HW [(zA 2), (zA 3), (zA 4), (zA 5), (zA 6), (zA 7), (zA 8), (zA 9)] hS_12 hn_12 := hH
      refine lv_iload_n hx hb dL_law_153 rfl (lv_at hl 0 rfl) ?_
      refine lv_icmp_eq (tgt := 159) hx hb dL_law_154 (by decide) (fun _ => ?_) (fun c_50 => absurd rfl c_50)
      refine lv_iinc (v := nI (9 + 1)) (lv' := [(2, .int (nI (9 + 1))), (1, .ref q1), (0, .ref b)]) hx hb dL_law_159 hl (k := 0) rfl (by exact nI_1 9) (by decide) rfl (fun ls hl => ?_)
      refine lv_goto (tgt := 138) hx hb dL_law_162 (by decide) ?_
      have hl : lv_has ls 11 [(2, .int (nI 10)), (1, .ref q1), (0, .ref b)] := hl
      refine lv_iload_n hx hb dL_law_138 rfl (lv_at hl 0 rfl) ?_
      refine lv_bipush (v := 12) hx hb dL_law_139 (by decide) ?_
      refine lv_icmp_ge (tgt := 165) hx hb dL_law_141 (by decide) (fun c_51 => absurd c_51 (by decide)) (fun _ => ?_)
      refine lv_aload_n hx hb dL_law_144 rfl (lv_at hl 1 rfl) ?_
      refine lv_iconst (v := 2) hx hb dL_law_145 (by decide) ?_
      refine lv_iconst (v := 3) hx hb dL_law_146 (by decide) ?_
      refine lv_bipush (v := 12) hx hb dL_law_147 (by decide) ?_
      refine lv_iconst (v := 0) hx hb dL_law_149 (by decide) ?_
      refine va_calli (vx_runSW (As := [.ref q1, .int 2, .int 3, .int 12, .int 0]) (rest := []) ⟨hx, hb, hml, hown, hts⟩ (cl_L_addItem l hfl D G B0 X A q1 (zA 10) st0 hS_12 hn_12 sv1 ([]) fl1 2 3 12 false (HW_le hH) H.size) (vx_cwSW (hh := [(0, 9, 10, 13), (0, 9, 16, 15)]) 5 hts gl_189 rfl rfl rfl (by decide +kernel) ⟨Nat.le_of_ble_eq_true rfl, Nat.le_of_ble_eq_true rfl⟩) (ps_lw hK hW (hE.at hS0 hAB) (AH hA0 hS0) hAB) rfl rfl hl.1 rfl (lv_room (Nat.le_of_ble_eq_true rfl)) dL_law_150 ⟨Nat.le_of_ble_eq_true rfl, Nat.le_of_ble_eq_true rfl⟩) hS0 (fun q _ h => h) (fun q h => h) (fun r u52 t9 H1 locs ht hvm hw hW hz1 hk1 hS0 => ?_)
      have hX : f_takeIn (zA 10) 2 3 12 = 0 := (tI_x 10 (by decide)).1
      rw [hX] at hw hW
      have hw : r = (m_takeIn (zA 10) 2 3 12 false).1 := hw
      have hW : LW D G X A q1 ((m_takeIn (zA 10) 2 3 12 false).2) st0 (pS hS_12 hn_12 (zA 10)) (pN hn_12) sv1 ([]) fl1 H1 := LW_h ht hW
      obtain ⟨H, rfl⟩ : ∃ z, z = H1 := ⟨_, rfl⟩
      rw [hw]
      refine W.widen (k := 265) (n := 2078) (Nat.le_of_ble_eq_true rfl) (Nat.le_of_ble_eq_true rfl) ?_
      rw [show ((m_takeIn (zA 10) 2 3 12 false).1) = nI 10 from (tI_x 10 (by decide)).2]
      have hW : LW D G X A q1 (zA 11) st0 (pS hS_12 hn_12 (zA 10)) (pN hn_12) sv1 ([]) fl1 H := LW_cc (tI_1 10 (by decide)) (tI_2 10) (tI_3 10 (by decide)) hW
      have hH := HW_full (zA 10) hH rfl
      generalize pS hS_12 hn_12 (zA 10) = hS_13 at hW hH
      generalize pN hn_12 = hn_13 at hW hH
      have hH : HW [(zA 3), (zA 4), (zA 5), (zA 6), (zA 7), (zA 8), (zA 9), (zA 10)] hS_13 hn_13 := hH
      refine lv_iload_n hx hb dL_law_153 rfl (lv_at hl 0 rfl) ?_
      refine lv_icmp_eq (tgt := 159) hx hb dL_law_154 (by decide) (fun _ => ?_) (fun c_53 => absurd rfl c_53)
      refine lv_iinc (v := nI (10 + 1)) (lv' := [(2, .int (nI (10 + 1))), (1, .ref q1), (0, .ref b)]) hx hb dL_law_159 hl (k := 0) rfl (by exact nI_1 10) (by decide) rfl (fun ls hl => ?_)
      refine lv_goto (tgt := 138) hx hb dL_law_162 (by decide) ?_
      have hl : lv_has ls 11 [(2, .int (nI 11)), (1, .ref q1), (0, .ref b)] := hl
      refine lv_iload_n hx hb dL_law_138 rfl (lv_at hl 0 rfl) ?_
      refine lv_bipush (v := 12) hx hb dL_law_139 (by decide) ?_
      refine lv_icmp_ge (tgt := 165) hx hb dL_law_141 (by decide) (fun c_54 => absurd c_54 (by decide)) (fun _ => ?_)
      refine lv_aload_n hx hb dL_law_144 rfl (lv_at hl 1 rfl) ?_
      refine lv_iconst (v := 2) hx hb dL_law_145 (by decide) ?_
      refine lv_iconst (v := 3) hx hb dL_law_146 (by decide) ?_
      refine lv_bipush (v := 12) hx hb dL_law_147 (by decide) ?_
      refine lv_iconst (v := 0) hx hb dL_law_149 (by decide) ?_
      refine va_calli (vx_runSW (As := [.ref q1, .int 2, .int 3, .int 12, .int 0]) (rest := []) ⟨hx, hb, hml, hown, hts⟩ (cl_L_addItem l hfl D G B0 X A q1 (zA 11) st0 hS_13 hn_13 sv1 ([]) fl1 2 3 12 false (HW_le hH) H.size) (vx_cwSW (hh := [(0, 9, 10, 13), (0, 9, 16, 15)]) 5 hts gl_189 rfl rfl rfl (by decide +kernel) ⟨Nat.le_of_ble_eq_true rfl, Nat.le_of_ble_eq_true rfl⟩) (ps_lw hK hW (hE.at hS0 hAB) (AH hA0 hS0) hAB) rfl rfl hl.1 rfl (lv_room (Nat.le_of_ble_eq_true rfl)) dL_law_150 ⟨Nat.le_of_ble_eq_true rfl, Nat.le_of_ble_eq_true rfl⟩) hS0 (fun q _ h => h) (fun q h => h) (fun r u55 t9 H1 locs ht hvm hw hW hz1 hk1 hS0 => ?_)
      have hX : f_takeIn (zA 11) 2 3 12 = 0 := (tI_x 11 (by decide)).1
      rw [hX] at hw hW
      have hw : r = (m_takeIn (zA 11) 2 3 12 false).1 := hw
      have hW : LW D G X A q1 ((m_takeIn (zA 11) 2 3 12 false).2) st0 (pS hS_13 hn_13 (zA 11)) (pN hn_13) sv1 ([]) fl1 H1 := LW_h ht hW
      obtain ⟨H, rfl⟩ : ∃ z, z = H1 := ⟨_, rfl⟩
      rw [hw]
      refine W.widen (k := 266) (n := 2084) (Nat.le_of_ble_eq_true rfl) (Nat.le_of_ble_eq_true rfl) ?_
      rw [show ((m_takeIn (zA 11) 2 3 12 false).1) = nI 11 from (tI_x 11 (by decide)).2]
      have hW : LW D G X A q1 (zA 12) st0 (pS hS_13 hn_13 (zA 11)) (pN hn_13) sv1 ([]) fl1 H := LW_cc (tI_1 11 (by decide)) (tI_2 11) (tI_3 11 (by decide)) hW
      have hH := HW_full (zA 11) hH rfl
      generalize pS hS_13 hn_13 (zA 11) = hS_14 at hW hH
      generalize pN hn_13 = hn_14 at hW hH
      have hH : HW [(zA 4), (zA 5), (zA 6), (zA 7), (zA 8), (zA 9), (zA 10), (zA 11)] hS_14 hn_14 := hH
      refine lv_iload_n hx hb dL_law_153 rfl (lv_at hl 0 rfl) ?_
      refine lv_icmp_eq (tgt := 159) hx hb dL_law_154 (by decide) (fun _ => ?_) (fun c_56 => absurd rfl c_56)
      refine lv_iinc (v := nI (11 + 1)) (lv' := [(2, .int (nI (11 + 1))), (1, .ref q1), (0, .ref b)]) hx hb dL_law_159 hl (k := 0) rfl (by exact nI_1 11) (by decide) rfl (fun ls hl => ?_)
      refine lv_goto (tgt := 138) hx hb dL_law_162 (by decide) ?_
      have hl : lv_has ls 11 [(2, .int (nI 12)), (1, .ref q1), (0, .ref b)] := hl
      refine lv_iload_n hx hb dL_law_138 rfl (lv_at hl 0 rfl) ?_
      refine lv_bipush (v := 12) hx hb dL_law_139 (by decide) ?_
      refine lv_icmp_ge (tgt := 165) hx hb dL_law_141 (by decide) (fun _ => ?_) (fun c_57 => absurd (by decide) c_57)
      refine lv_aload_n hx hb dL_law_165 rfl (lv_at hl 1 rfl) ?_
      refine lv_iconst (v := 2) hx hb dL_law_166 (by decide) ?_
      refine lv_iconst (v := 3) hx hb dL_law_167 (by decide) ?_
      refine lv_bipush (v := 12) hx hb dL_law_168 (by decide) ?_
      refine lv_iconst (v := 0) hx hb dL_law_170 (by decide) ?_
      refine va_calli (vx_runSW (As := [.ref q1, .int 2, .int 3, .int 12, .int 0]) (rest := []) ⟨hx, hb, hml, hown, hts⟩ (cl_L_addItem l hfl D G B0 X A q1 (zA 12) st0 hS_14 hn_14 sv1 ([]) fl1 2 3 12 false (HW_le hH) H.size) (vx_cwSW (hh := [(0, 9, 10, 13), (0, 9, 16, 15)]) 5 hts gl_189 rfl rfl rfl (by decide +kernel) ⟨Nat.le_of_ble_eq_true rfl, Nat.le_of_ble_eq_true rfl⟩) (ps_lw hK hW (hE.at hS0 hAB) (AH hA0 hS0) hAB) rfl rfl hl.1 rfl (lv_room (Nat.le_of_ble_eq_true rfl)) dL_law_171 ⟨Nat.le_of_ble_eq_true rfl, Nat.le_of_ble_eq_true rfl⟩) hS0 (fun q _ h => h) (fun q h => h) (fun r u58 t9 H1 locs ht hvm hw hW hz1 hk1 hS0 => ?_)
      have hX : f_takeIn (zA 12) 2 3 12 = 4 := (by decide +kernel)
      rw [hX] at hw hW
      have hw : r = (-1002) := hw
      have hW : LW D G X A q1 (zA 12) st0 hS_14 hn_14 sv1 ([]) fl1 H1 := LW_h ht hW
      obtain ⟨H, rfl⟩ : ∃ z, z = H1 := ⟨_, rfl⟩
      rw [hw]
      refine W.widen (k := 267) (n := 2090) (Nat.le_of_ble_eq_true rfl) (Nat.le_of_ble_eq_true rfl) ?_
      refine lv_sipush (v := -1002) hx hb dL_law_174 (by decide) ?_
      refine lv_icmp_ne (tgt := 255) hx hb dL_law_177 (by decide) (fun c_59 => absurd rfl c_59) (fun _ => ?_)
      refine lv_aload_n hx hb dL_law_180 rfl (lv_at hl 1 rfl) ?_
      refine lv_iconst (v := 0) hx hb dL_law_181 (by decide) ?_
      refine va_calli (vx_runSW (As := [.ref q1, .int 0]) (rest := []) ⟨hx, hb, hml, hown, hts⟩ (cl_L_autoPack l hfl D G B0 X A q1 (zA 12) st0 hS_14 hn_14 sv1 ([]) fl1 0 (HW_le hH) H.size) (vx_cwSW (hh := [(0, 5, 6, 30)]) 2 hts gl_195 rfl rfl rfl (by decide +kernel) ⟨Nat.le_of_ble_eq_true rfl, Nat.le_of_ble_eq_true rfl⟩) (ps_lw hK hW (hE.at hS0 hAB) (AH hA0 hS0) hAB) rfl rfl hl.1 rfl (lv_room (Nat.le_of_ble_eq_true rfl)) dL_law_182 ⟨Nat.le_of_ble_eq_true rfl, Nat.le_of_ble_eq_true rfl⟩) hS0 (fun q _ h => h) (fun q h => h) (fun r u60 t9 H1 locs ht hvm hw hW hz1 hk1 hS0 => ?_)
      have hX : f_fill (zA 12) 0 = 0 := (by decide +kernel)
      rw [hX] at hw hW
      have hw : r = (m_fill (zA 12) 0).1 := hw
      have hW : LW D G X A q1 ((m_fill (zA 12) 0).2) st0 (pS hS_14 hn_14 (zA 12)) (pN hn_14) sv1 ([]) fl1 H1 := LW_h ht hW
      obtain ⟨H, rfl⟩ : ∃ z, z = H1 := ⟨_, rfl⟩
      rw [hw]
      refine W.widen (k := 268) (n := 2096) (Nat.le_of_ble_eq_true rfl) (Nat.le_of_ble_eq_true rfl) ?_
      rw [show ((m_fill (zA 12) 0).1) = 12 from by decide +kernel]
      have hW : LW D G X A q1 zF st0 (pS hS_14 hn_14 (zA 12)) (pN hn_14) sv1 ([]) fl1 H := LW_cc tF_1 tF_2 tF_3 hW
      have hH := HW_full (zA 12) hH rfl
      generalize pS hS_14 hn_14 (zA 12) = hS_15 at hW hH
      generalize pN hn_14 = hn_15 at hW hH
      have hH : HW [(zA 5), (zA 6), (zA 7), (zA 8), (zA 9), (zA 10), (zA 11), (zA 12)] hS_15 hn_15 := hH
      refine lv_bipush (v := 12) hx hb dL_law_185 (by decide) ?_
      refine lv_icmp_ne (tgt := 255) hx hb dL_law_187 (by decide) (fun c_61 => absurd rfl c_61) (fun _ => ?_)
      refine lv_aload_n hx hb dL_law_190 rfl (lv_at hl 1 rfl) ?_
      refine lv_iconst (v := 0) hx hb dL_law_191 (by decide) ?_
      refine va_calli (vx_runSW (As := [.ref q1, .int 0]) (rest := []) ⟨hx, hb, hml, hown, hts⟩ (cl_L_layerCount l hfl D G B0 X A q1 zF st0 hS_15 hn_15 sv1 ([]) fl1 0 H.size) (vx_cwSW (hh := [(0, 5, 6, 30)]) 2 hts gl_232 rfl rfl rfl (by decide +kernel) ⟨Nat.le_of_ble_eq_true rfl, Nat.le_of_ble_eq_true rfl⟩) (ps_lw hK hW (hE.at hS0 hAB) (AH hA0 hS0) hAB) rfl rfl hl.1 rfl (lv_room (Nat.le_of_ble_eq_true rfl)) dL_law_192 ⟨Nat.le_of_ble_eq_true rfl, Nat.le_of_ble_eq_true rfl⟩) hS0 (fun q _ h => h) (fun q h => h) (fun r u62 t9 H1 locs ht hvm hw hW hz1 hk1 hS0 => ?_)
      have hX : x_bag zF 0 = 0 := (by decide +kernel)
      rw [hX] at hw
      have hw : r = s_countLayers zF 0 := hw
      have hW : LW D G X A q1 zF st0 hS_15 hn_15 sv1 ([]) fl1 H1 := LW_h ht hW
      obtain ⟨H, rfl⟩ : ∃ z, z = H1 := ⟨_, rfl⟩
      rw [hw]
      refine W.widen (k := 269) (n := 2102) (Nat.le_of_ble_eq_true rfl) (Nat.le_of_ble_eq_true rfl) ?_
      rw [show (s_countLayers zF 0) = 3 from by decide +kernel]
      refine lv_iconst (v := 3) hx hb dL_law_195 (by decide) ?_
      refine lv_icmp_ne (tgt := 255) hx hb dL_law_196 (by decide) (fun c_63 => absurd rfl c_63) (fun _ => ?_)
      refine lv_aload_n hx hb dL_law_199 rfl (lv_at hl 1 rfl) ?_
      refine lv_iconst (v := 0) hx hb dL_law_200 (by decide) ?_
      refine va_calli (vx_runSW (As := [.ref q1, .int 0]) (rest := []) ⟨hx, hb, hml, hown, hts⟩ (cl_L_weightIn l hfl D G B0 X A q1 zF st0 hS_15 hn_15 sv1 ([]) fl1 0 H.size) (vx_cwSW (hh := [(0, 5, 6, 30)]) 2 hts gl_230 rfl rfl rfl (by decide +kernel) ⟨Nat.le_of_ble_eq_true rfl, Nat.le_of_ble_eq_true rfl⟩) (ps_lw hK hW (hE.at hS0 hAB) (AH hA0 hS0) hAB) rfl rfl hl.1 rfl (lv_room (Nat.le_of_ble_eq_true rfl)) dL_law_201 ⟨Nat.le_of_ble_eq_true rfl, Nat.le_of_ble_eq_true rfl⟩) hS0 (fun q _ h => h) (fun q h => h) (fun r u64 t9 H1 locs ht hvm hw hW hz1 hk1 hS0 => ?_)
      have hX : x_bag zF 0 = 0 := (by decide +kernel)
      rw [hX] at hw
      have hw : r = s_weightByItems zF 0 := hw
      have hW : LW D G X A q1 zF st0 hS_15 hn_15 sv1 ([]) fl1 H1 := LW_h ht hW
      obtain ⟨H, rfl⟩ : ∃ z, z = H1 := ⟨_, rfl⟩
      rw [hw]
      refine W.widen (k := 270) (n := 2108) (Nat.le_of_ble_eq_true rfl) (Nat.le_of_ble_eq_true rfl) ?_
      rw [show (s_weightByItems zF 0) = 36 from by decide +kernel]
      refine lv_bipush (v := 36) hx hb dL_law_204 (by decide) ?_
      refine lv_icmp_ne (tgt := 255) hx hb dL_law_206 (by decide) (fun c_65 => absurd rfl c_65) (fun _ => ?_)
      refine lv_aload_n hx hb dL_law_209 rfl (lv_at hl 1 rfl) ?_
      refine lv_bipush (v := 11) hx hb dL_law_210 (by decide) ?_
      refine va_calli (vx_runSW (As := [.ref q1, .int 11]) (rest := []) ⟨hx, hb, hml, hown, hts⟩ (cl_L_unpack l hfl D G B0 X A q1 zF st0 hS_15 hn_15 sv1 ([]) fl1 11 (HW_le hH) H.size) (vx_cwSW (hh := [(0, 5, 6, 24), (0, 5, 11, 15)]) 2 hts gl_250 rfl rfl rfl (by decide +kernel) ⟨Nat.le_of_ble_eq_true rfl, Nat.le_of_ble_eq_true rfl⟩) (ps_lw hK hW (hE.at hS0 hAB) (AH hA0 hS0) hAB) rfl rfl hl.1 rfl (lv_room (Nat.le_of_ble_eq_true rfl)) dL_law_212 ⟨Nat.le_of_ble_eq_true rfl, Nat.le_of_ble_eq_true rfl⟩) hS0 (fun q _ h => h) (fun q h => h) (fun r u66 t9 H1 locs ht hvm hw hW hz1 hk1 hS0 => ?_)
      have hX : f_unload zF 11 = 0 := (by decide +kernel)
      rw [hX] at hw hW
      have hw : r = (m_unload zF 11).1 := hw
      have hW : LW D G X A q1 ((m_unload zF 11).2) st0 (pS hS_15 hn_15 zF) (pN hn_15) sv1 ([]) fl1 H1 := LW_h ht hW
      obtain ⟨H, rfl⟩ : ∃ z, z = H1 := ⟨_, rfl⟩
      rw [hw]
      refine W.widen (k := 271) (n := 2114) (Nat.le_of_ble_eq_true rfl) (Nat.le_of_ble_eq_true rfl) ?_
      rw [show ((m_unload zF 11).1) = 3 from by decide +kernel]
      have hW : LW D G X A q1 zU st0 (pS hS_15 hn_15 zF) (pN hn_15) sv1 ([]) fl1 H := LW_cc tU_1 tU_2 tU_3 hW
      have hH := HW_full zF hH rfl
      generalize pS hS_15 hn_15 zF = hS_16 at hW hH
      generalize pN hn_15 = hn_16 at hW hH
      have hH : HW [(zA 6), (zA 7), (zA 8), (zA 9), (zA 10), (zA 11), (zA 12), zF] hS_16 hn_16 := hH
      refine lv_iconst (v := 3) hx hb dL_law_215 (by decide) ?_
      refine lv_icmp_ne (tgt := 255) hx hb dL_law_216 (by decide) (fun c_67 => absurd rfl c_67) (fun _ => ?_)
      refine lv_aload_n hx hb dL_law_219 rfl (lv_at hl 1 rfl) ?_
      refine lv_bipush (v := 11) hx hb dL_law_220 (by decide) ?_
      refine va_calli (vx_runSW (As := [.ref q1, .int 11]) (rest := []) ⟨hx, hb, hml, hown, hts⟩ (cl_L_removeItem l hfl D G B0 X A q1 zU st0 hS_16 hn_16 sv1 ([]) fl1 11 (HW_le hH) H.size) (vx_cwSW (hh := [(0, 5, 6, 24), (0, 5, 11, 15)]) 2 hts gl_248 rfl rfl rfl (by decide +kernel) ⟨Nat.le_of_ble_eq_true rfl, Nat.le_of_ble_eq_true rfl⟩) (ps_lw hK hW (hE.at hS0 hAB) (AH hA0 hS0) hAB) rfl rfl hl.1 rfl (lv_room (Nat.le_of_ble_eq_true rfl)) dL_law_222 ⟨Nat.le_of_ble_eq_true rfl, Nat.le_of_ble_eq_true rfl⟩) hS0 (fun q _ h => h) (fun q h => h) (fun r u68 t9 H1 locs ht hvm hw hW hz1 hk1 hS0 => ?_)
      have hX : f_drop zU 11 = 0 := (by decide +kernel)
      rw [hX] at hw hW
      have hw : r = (m_drop zU 11).1 := hw
      have hW : LW D G X A q1 ((m_drop zU 11).2) st0 (pS hS_16 hn_16 zU) (pN hn_16) sv1 ([]) fl1 H1 := LW_h ht hW
      obtain ⟨H, rfl⟩ : ∃ z, z = H1 := ⟨_, rfl⟩
      rw [hw]
      refine W.widen (k := 272) (n := 2120) (Nat.le_of_ble_eq_true rfl) (Nat.le_of_ble_eq_true rfl) ?_
      rw [show ((m_drop zU 11).1) = 11 from by decide +kernel]
      have hW : LW D G X A q1 zR st0 (pS hS_16 hn_16 zU) (pN hn_16) sv1 ([]) fl1 H := LW_cc tR_1 tR_2 tR_3 hW
      have hH := HW_full zU hH rfl
      generalize pS hS_16 hn_16 zU = hS_17 at hW hH
      generalize pN hn_16 = hn_17 at hW hH
      have hH : HW [(zA 7), (zA 8), (zA 9), (zA 10), (zA 11), (zA 12), zF, zU] hS_17 hn_17 := hH
      refine lv_bipush (v := 11) hx hb dL_law_225 (by decide) ?_
      refine lv_icmp_ne (tgt := 255) hx hb dL_law_227 (by decide) (fun c_69 => absurd rfl c_69) (fun _ => ?_)
      refine lv_aload_n hx hb dL_law_230 rfl (lv_at hl 1 rfl) ?_
      refine va_calli (vx_runSW (As := [.ref q1]) (rest := []) ⟨hx, hb, hml, hown, hts⟩ (cl_L_deliver l hfl D G B0 X A q1 zR st0 hS_17 hn_17 sv1 ([]) fl1 (HW_le hH) H.size) (vx_cwSW (hh := [(0, 4, 5, 15)]) 1 hts gl_276 rfl rfl rfl (by decide +kernel) ⟨Nat.le_of_ble_eq_true rfl, Nat.le_of_ble_eq_true rfl⟩) (ps_lw hK hW (hE.at hS0 hAB) (AH hA0 hS0) hAB) rfl rfl hl.1 rfl (lv_room (Nat.le_of_ble_eq_true rfl)) dL_law_231 ⟨Nat.le_of_ble_eq_true rfl, Nat.le_of_ble_eq_true rfl⟩) hS0 (fun q _ h => h) (fun q h => h) (fun r u70 t9 H1 locs ht hvm hw hW hz1 hk1 hS0 => ?_)
      have hX : f_handOver zR = 0 := (by decide +kernel)
      rw [hX] at hw hW
      have hw : r = (m_handOver zR).1 := hw
      have hW : LW D G X A q1 ((m_handOver zR).2) st0 (pS hS_17 hn_17 zR) (pN hn_17) sv1 ([]) fl1 H1 := LW_h ht hW
      obtain ⟨H, rfl⟩ : ∃ z, z = H1 := ⟨_, rfl⟩
      rw [hw]
      refine W.widen (k := 273) (n := 2126) (Nat.le_of_ble_eq_true rfl) (Nat.le_of_ble_eq_true rfl) ?_
      rw [show ((m_handOver zR).1) = 11 from by decide +kernel]
      have hH := HW_full zR hH rfl
      generalize pS hS_17 hn_17 zR = hS_18 at hW hH
      generalize pN hn_17 = hn_18 at hW hH
      have hH : HW [(zA 8), (zA 9), (zA 10), (zA 11), (zA 12), zF, zU, zR] hS_18 hn_18 := hH
      refine lv_bipush (v := 11) hx hb dL_law_234 (by decide) ?_
      refine lv_icmp_ne (tgt := 255) hx hb dL_law_236 (by decide) (fun c_71 => absurd rfl c_71) (fun _ => ?_)
      refine lv_aload_n hx hb dL_law_239 rfl (lv_at hl 1 rfl) ?_
      refine vp_callSi (va_runV (As := []) (rest := []) ⟨hx, hb, hml, hown, hts⟩ (cq_X7_deliveredWeight l D G B0 X A q1 ((m_handOver zR).2) st0 hS_18 hn_18 sv1 ([]) fl1 H.size) (cwV 0 hts gw_L_225 rfl rfl rfl (by decide +kernel) ⟨Nat.le_of_ble_eq_true rfl, Nat.le_of_ble_eq_true rfl⟩) (pv_lw hK hW (hE.at hS0 hAB) (AH hA0 hS0) hAB) rfl rfl hl.1 rfl (lv_room (Nat.le_of_ble_eq_true rfl)) dL_law_240 ⟨Nat.le_of_ble_eq_true rfl, Nat.le_of_ble_eq_true rfl⟩).run (nm_e ?_)
      rw [show ((m_handOver zR).2).2.2 3 = 33 from by decide +kernel]
      refine lv_bipush (v := 33) hx hb dL_law_243 (by decide) ?_
      refine lv_icmp_ne (tgt := 255) hx hb dL_law_245 (by decide) (fun c_72 => absurd rfl c_72) (fun _ => ?_)
      refine lv_aload_n hx hb dL_law_248 rfl (lv_at hl 1 rfl) ?_
      refine vp_callSi (va_runV (As := []) (rest := []) ⟨hx, hb, hml, hown, hts⟩ (cq_X7_itemCount l D G B0 X A q1 ((m_handOver zR).2) st0 hS_18 hn_18 sv1 ([]) fl1 H.size) (cwV 0 hts gw_L_197 rfl rfl rfl (by decide +kernel) ⟨Nat.le_of_ble_eq_true rfl, Nat.le_of_ble_eq_true rfl⟩) (pv_lw hK hW (hE.at hS0 hAB) (AH hA0 hS0) hAB) rfl rfl hl.1 rfl (lv_room (Nat.le_of_ble_eq_true rfl)) dL_law_249 ⟨Nat.le_of_ble_eq_true rfl, Nat.le_of_ble_eq_true rfl⟩).run (nm_e ?_)
      rw [show s_countItems ((m_handOver zR).2) = 0 from by decide +kernel]
      refine lv_if_eq (tgt := 257) hx hb dL_law_252 (by decide) (fun _ => ?_) (fun c_73 => absurd (by decide) c_73)
      refine lv_aload_n hx hb dL_law_257 rfl (lv_at hl 1 rfl) ?_
      refine va_calli (vx_runSW (As := [.ref q1]) (rest := []) ⟨hx, hb, hml, hown, hts⟩ (cl_L_undo l hfl D G B0 X A q1 ((m_handOver zR).2) st0 hS_18 hn_18 sv1 ([]) fl1 (HW_le hH) H.size) (vx_cwSW (hh := [(0, 4, 5, 15)]) 1 hts gl_316 rfl rfl rfl (by decide +kernel) ⟨Nat.le_of_ble_eq_true rfl, Nat.le_of_ble_eq_true rfl⟩) (ps_lw hK hW (hE.at hS0 hAB) (AH hA0 hS0) hAB) rfl rfl hl.1 rfl (lv_room (Nat.le_of_ble_eq_true rfl)) dL_law_258 ⟨Nat.le_of_ble_eq_true rfl, Nat.le_of_ble_eq_true rfl⟩) hS0 (fun q _ h => h) (fun q h => h) (fun r u74 t9 H1 locs ht hvm hw hW hz1 hk1 hS0 => ?_)
      have hX : x_undo hn_18 = 0 := (by rw [hH.1]; decide +kernel)
      rw [hX] at hw hW
      have hw : r = nI (hn_18 - 1) := hw
      have hW : LW D G X A q1 (hS_18 (hn_18 - 1)) st0 hS_18 (hn_18 - 1) sv1 ([]) fl1 H1 := LW_h ht hW
      obtain ⟨H, rfl⟩ : ∃ z, z = H1 := ⟨_, rfl⟩
      rw [hw]
      refine W.widen (k := 274) (n := 2132) (Nat.le_of_ble_eq_true rfl) (Nat.le_of_ble_eq_true rfl) ?_
      rw [show (nI (hn_18 - 1)) = 7 from by rw [hH.1]; decide +kernel]
      obtain ⟨e9, hH⟩ := HW_pop (l := [(zA 8), (zA 9), (zA 10), (zA 11), (zA 12), zF, zU]) (c := zR) hH
      rw [e9] at hW
      generalize hn_18 - 1 = hn_19 at hW hH
      refine lv_bipush (v := 7) hx hb dL_law_261 (by decide) ?_
      refine lv_icmp_ne (tgt := 407) hx hb dL_law_263 (by decide) (fun c_75 => absurd rfl c_75) (fun _ => ?_)
      refine lv_aload_n hx hb dL_law_266 rfl (lv_at hl 1 rfl) ?_
      refine vp_callSi (va_runV (As := []) (rest := []) ⟨hx, hb, hml, hown, hts⟩ (cq_X7_itemCount l D G B0 X A q1 zR st0 hS_18 hn_19 sv1 ([]) fl1 H.size) (cwV 0 hts gw_L_197 rfl rfl rfl (by decide +kernel) ⟨Nat.le_of_ble_eq_true rfl, Nat.le_of_ble_eq_true rfl⟩) (pv_lw hK hW (hE.at hS0 hAB) (AH hA0 hS0) hAB) rfl rfl hl.1 rfl (lv_room (Nat.le_of_ble_eq_true rfl)) dL_law_267 ⟨Nat.le_of_ble_eq_true rfl, Nat.le_of_ble_eq_true rfl⟩).run (nm_e ?_)
      rw [show s_countItems zR = 11 from by decide +kernel]
      refine lv_bipush (v := 11) hx hb dL_law_270 (by decide) ?_
      refine lv_icmp_ne (tgt := 407) hx hb dL_law_272 (by decide) (fun c_76 => absurd rfl c_76) (fun _ => ?_)
      refine lv_aload_n hx hb dL_law_275 rfl (lv_at hl 1 rfl) ?_
      refine vp_callSi (va_runV (As := []) (rest := []) ⟨hx, hb, hml, hown, hts⟩ (cq_X7_deliveredCount l D G B0 X A q1 zR st0 hS_18 hn_19 sv1 ([]) fl1 H.size) (cwV 0 hts gw_L_222 rfl rfl rfl (by decide +kernel) ⟨Nat.le_of_ble_eq_true rfl, Nat.le_of_ble_eq_true rfl⟩) (pv_lw hK hW (hE.at hS0 hAB) (AH hA0 hS0) hAB) rfl rfl hl.1 rfl (lv_room (Nat.le_of_ble_eq_true rfl)) dL_law_276 ⟨Nat.le_of_ble_eq_true rfl, Nat.le_of_ble_eq_true rfl⟩).run (nm_e ?_)
      rw [show zR.2.2 2 = 0 from by decide +kernel]
      refine lv_if_ne (tgt := 407) hx hb dL_law_279 (by decide) (fun c_77 => absurd (by decide) c_77) (fun _ => ?_)
      refine lv_aload_n hx hb dL_law_282 rfl (lv_at hl 1 rfl) ?_
      refine va_calli (vx_runSW (As := [.ref q1]) (rest := []) ⟨hx, hb, hml, hown, hts⟩ (cl_L_undo l hfl D G B0 X A q1 zR st0 hS_18 hn_19 sv1 ([]) fl1 (HW_le hH) H.size) (vx_cwSW (hh := [(0, 4, 5, 15)]) 1 hts gl_316 rfl rfl rfl (by decide +kernel) ⟨Nat.le_of_ble_eq_true rfl, Nat.le_of_ble_eq_true rfl⟩) (ps_lw hK hW (hE.at hS0 hAB) (AH hA0 hS0) hAB) rfl rfl hl.1 rfl (lv_room (Nat.le_of_ble_eq_true rfl)) dL_law_283 ⟨Nat.le_of_ble_eq_true rfl, Nat.le_of_ble_eq_true rfl⟩) hS0 (fun q _ h => h) (fun q h => h) (fun r u78 t9 H1 locs ht hvm hw hW hz1 hk1 hS0 => ?_)
      have hX : x_undo hn_19 = 0 := (by rw [hH.1]; decide +kernel)
      rw [hX] at hw hW
      have hw : r = nI (hn_19 - 1) := hw
      have hW : LW D G X A q1 (hS_18 (hn_19 - 1)) st0 hS_18 (hn_19 - 1) sv1 ([]) fl1 H1 := LW_h ht hW
      obtain ⟨H, rfl⟩ : ∃ z, z = H1 := ⟨_, rfl⟩
      rw [hw]
      refine W.widen (k := 275) (n := 2138) (Nat.le_of_ble_eq_true rfl) (Nat.le_of_ble_eq_true rfl) ?_
      rw [show (nI (hn_19 - 1)) = 6 from by rw [hH.1]; decide +kernel]
      obtain ⟨e9, hH⟩ := HW_pop (l := [(zA 8), (zA 9), (zA 10), (zA 11), (zA 12), zF]) (c := zU) hH
      rw [e9] at hW
      generalize hn_19 - 1 = hn_20 at hW hH
      refine lv_bipush (v := 6) hx hb dL_law_286 (by decide) ?_
      refine lv_icmp_ne (tgt := 407) hx hb dL_law_288 (by decide) (fun c_79 => absurd rfl c_79) (fun _ => ?_)
      refine lv_aload_n hx hb dL_law_291 rfl (lv_at hl 1 rfl) ?_
      refine lv_bipush (v := 11) hx hb dL_law_292 (by decide) ?_
      refine vp_callSi (va_runV (As := [.int 11]) (rest := []) ⟨hx, hb, hml, hown, hts⟩ (cq_X7_exists l D G B0 X A q1 zU st0 hS_18 hn_20 sv1 ([]) fl1 11 H.size) (cwV 1 hts gw_L_323 rfl rfl rfl (by decide +kernel) ⟨Nat.le_of_ble_eq_true rfl, Nat.le_of_ble_eq_true rfl⟩) (pv_lw hK hW (hE.at hS0 hAB) (AH hA0 hS0) hAB) rfl rfl hl.1 rfl (lv_room (Nat.le_of_ble_eq_true rfl)) dL_law_294 ⟨Nat.le_of_ble_eq_true rfl, Nat.le_of_ble_eq_true rfl⟩).run (nm_e ?_)
      rw [show bi (p_there (itm zU (s_find zU 11))) = 1 from by decide +kernel]
      refine lv_if_eq (tgt := 407) hx hb dL_law_297 (by decide) (fun c_80 => absurd c_80 (by decide)) (fun _ => ?_)
      refine lv_aload_n hx hb dL_law_300 rfl (lv_at hl 1 rfl) ?_
      refine va_calli (vx_runSW (As := [.ref q1]) (rest := []) ⟨hx, hb, hml, hown, hts⟩ (cl_L_undo l hfl D G B0 X A q1 zU st0 hS_18 hn_20 sv1 ([]) fl1 (HW_le hH) H.size) (vx_cwSW (hh := [(0, 4, 5, 15)]) 1 hts gl_316 rfl rfl rfl (by decide +kernel) ⟨Nat.le_of_ble_eq_true rfl, Nat.le_of_ble_eq_true rfl⟩) (ps_lw hK hW (hE.at hS0 hAB) (AH hA0 hS0) hAB) rfl rfl hl.1 rfl (lv_room (Nat.le_of_ble_eq_true rfl)) dL_law_301 ⟨Nat.le_of_ble_eq_true rfl, Nat.le_of_ble_eq_true rfl⟩) hS0 (fun q _ h => h) (fun q h => h) (fun r u81 t9 H1 locs ht hvm hw hW hz1 hk1 hS0 => ?_)
      have hX : x_undo hn_20 = 0 := (by rw [hH.1]; decide +kernel)
      rw [hX] at hw hW
      have hw : r = nI (hn_20 - 1) := hw
      have hW : LW D G X A q1 (hS_18 (hn_20 - 1)) st0 hS_18 (hn_20 - 1) sv1 ([]) fl1 H1 := LW_h ht hW
      obtain ⟨H, rfl⟩ : ∃ z, z = H1 := ⟨_, rfl⟩
      rw [hw]
      refine W.widen (k := 276) (n := 2144) (Nat.le_of_ble_eq_true rfl) (Nat.le_of_ble_eq_true rfl) ?_
      rw [show (nI (hn_20 - 1)) = 5 from by rw [hH.1]; decide +kernel]
      obtain ⟨e9, hH⟩ := HW_pop (l := [(zA 8), (zA 9), (zA 10), (zA 11), (zA 12)]) (c := zF) hH
      rw [e9] at hW
      generalize hn_20 - 1 = hn_21 at hW hH
      refine lv_iconst (v := 5) hx hb dL_law_304 (by decide) ?_
      refine lv_icmp_ne (tgt := 407) hx hb dL_law_305 (by decide) (fun c_82 => absurd rfl c_82) (fun _ => ?_)
      refine lv_aload_n hx hb dL_law_308 rfl (lv_at hl 1 rfl) ?_
      refine lv_bipush (v := 11) hx hb dL_law_309 (by decide) ?_
      refine va_calli (vx_runSW (As := [.ref q1, .int 11]) (rest := []) ⟨hx, hb, hml, hown, hts⟩ (cl_L_isPacked l hfl D G B0 X A q1 zF st0 hS_18 hn_21 sv1 ([]) fl1 11 H.size) (vx_cwSW (hh := [(0, 13, 14, 24)]) 2 hts gl_284 rfl rfl rfl (by decide +kernel) ⟨Nat.le_of_ble_eq_true rfl, Nat.le_of_ble_eq_true rfl⟩) (ps_lw hK hW (hE.at hS0 hAB) (AH hA0 hS0) hAB) rfl rfl hl.1 rfl (lv_room (Nat.le_of_ble_eq_true rfl)) dL_law_311 ⟨Nat.le_of_ble_eq_true rfl, Nat.le_of_ble_eq_true rfl⟩) hS0 (fun q _ h => h) (fun q h => h) (fun r u83 t9 H1 locs ht hvm hw hW hz1 hk1 hS0 => ?_)
      have hX : x_item zF 11 = 0 := (by decide +kernel)
      rw [hX] at hw
      have hw : r = bi (p_inbag (itm zF (s_find zF 11))) := hw
      have hW : LW D G X A q1 zF st0 hS_18 hn_21 sv1 ([]) fl1 H1 := LW_h ht hW
      obtain ⟨H, rfl⟩ : ∃ z, z = H1 := ⟨_, rfl⟩
      rw [hw]
      refine W.widen (k := 277) (n := 2150) (Nat.le_of_ble_eq_true rfl) (Nat.le_of_ble_eq_true rfl) ?_
      rw [show (bi (p_inbag (itm zF (s_find zF 11)))) = 1 from by decide +kernel]
      refine lv_iconst (v := 1) hx hb dL_law_314 (by decide) ?_
      refine lv_icmp_ne (tgt := 407) hx hb dL_law_315 (by decide) (fun c_84 => absurd rfl c_84) (fun _ => ?_)
      refine lv_aload_n hx hb dL_law_318 rfl (lv_at hl 1 rfl) ?_
      refine va_calli (vx_runSW (As := [.ref q1]) (rest := []) ⟨hx, hb, hml, hown, hts⟩ (cl_L_undo l hfl D G B0 X A q1 zF st0 hS_18 hn_21 sv1 ([]) fl1 (HW_le hH) H.size) (vx_cwSW (hh := [(0, 4, 5, 15)]) 1 hts gl_316 rfl rfl rfl (by decide +kernel) ⟨Nat.le_of_ble_eq_true rfl, Nat.le_of_ble_eq_true rfl⟩) (ps_lw hK hW (hE.at hS0 hAB) (AH hA0 hS0) hAB) rfl rfl hl.1 rfl (lv_room (Nat.le_of_ble_eq_true rfl)) dL_law_319 ⟨Nat.le_of_ble_eq_true rfl, Nat.le_of_ble_eq_true rfl⟩) hS0 (fun q _ h => h) (fun q h => h) (fun r u85 t9 H1 locs ht hvm hw hW hz1 hk1 hS0 => ?_)
      have hX : x_undo hn_21 = 0 := (by rw [hH.1]; decide +kernel)
      rw [hX] at hw hW
      have hw : r = nI (hn_21 - 1) := hw
      have hW : LW D G X A q1 (hS_18 (hn_21 - 1)) st0 hS_18 (hn_21 - 1) sv1 ([]) fl1 H1 := LW_h ht hW
      obtain ⟨H, rfl⟩ : ∃ z, z = H1 := ⟨_, rfl⟩
      rw [hw]
      refine W.widen (k := 278) (n := 2156) (Nat.le_of_ble_eq_true rfl) (Nat.le_of_ble_eq_true rfl) ?_
      rw [show (nI (hn_21 - 1)) = 4 from by rw [hH.1]; decide +kernel]
      obtain ⟨e9, hH⟩ := HW_pop (l := [(zA 8), (zA 9), (zA 10), (zA 11)]) (c := (zA 12)) hH
      rw [e9] at hW
      generalize hn_21 - 1 = hn_22 at hW hH
      refine lv_iconst (v := 4) hx hb dL_law_322 (by decide) ?_
      refine lv_icmp_ne (tgt := 407) hx hb dL_law_323 (by decide) (fun c_86 => absurd rfl c_86) (fun _ => ?_)
      refine lv_aload_n hx hb dL_law_326 rfl (lv_at hl 1 rfl) ?_
      refine vp_callSi (va_runV (As := []) (rest := []) ⟨hx, hb, hml, hown, hts⟩ (cq_X7_depotCount l D G B0 X A q1 (zA 12) st0 hS_18 hn_22 sv1 ([]) fl1 H.size) (cwV 0 hts gw_L_217 rfl rfl rfl (by decide +kernel) ⟨Nat.le_of_ble_eq_true rfl, Nat.le_of_ble_eq_true rfl⟩) (pv_lw hK hW (hE.at hS0 hAB) (AH hA0 hS0) hAB) rfl rfl hl.1 rfl (lv_room (Nat.le_of_ble_eq_true rfl)) dL_law_327 ⟨Nat.le_of_ble_eq_true rfl, Nat.le_of_ble_eq_true rfl⟩).run (nm_e ?_)
      rw [show s_countDepot (zA 12) = 12 from by decide +kernel]
      refine lv_bipush (v := 12) hx hb dL_law_330 (by decide) ?_
      refine lv_icmp_ne (tgt := 407) hx hb dL_law_332 (by decide) (fun c_87 => absurd rfl c_87) (fun _ => ?_)
      refine lv_aload_n hx hb dL_law_335 rfl (lv_at hl 1 rfl) ?_
      refine va_calli (vx_runSW (As := [.ref q1]) (rest := []) ⟨hx, hb, hml, hown, hts⟩ (cl_L_undo l hfl D G B0 X A q1 (zA 12) st0 hS_18 hn_22 sv1 ([]) fl1 (HW_le hH) H.size) (vx_cwSW (hh := [(0, 4, 5, 15)]) 1 hts gl_316 rfl rfl rfl (by decide +kernel) ⟨Nat.le_of_ble_eq_true rfl, Nat.le_of_ble_eq_true rfl⟩) (ps_lw hK hW (hE.at hS0 hAB) (AH hA0 hS0) hAB) rfl rfl hl.1 rfl (lv_room (Nat.le_of_ble_eq_true rfl)) dL_law_336 ⟨Nat.le_of_ble_eq_true rfl, Nat.le_of_ble_eq_true rfl⟩) hS0 (fun q _ h => h) (fun q h => h) (fun r u88 t9 H1 locs ht hvm hw hW hz1 hk1 hS0 => ?_)
      have hX : x_undo hn_22 = 0 := (by rw [hH.1]; decide +kernel)
      rw [hX] at hw hW
      have hw : r = nI (hn_22 - 1) := hw
      have hW : LW D G X A q1 (hS_18 (hn_22 - 1)) st0 hS_18 (hn_22 - 1) sv1 ([]) fl1 H1 := LW_h ht hW
      obtain ⟨H, rfl⟩ : ∃ z, z = H1 := ⟨_, rfl⟩
      rw [hw]
      refine W.widen (k := 279) (n := 2162) (Nat.le_of_ble_eq_true rfl) (Nat.le_of_ble_eq_true rfl) ?_
      rw [show (nI (hn_22 - 1)) = 3 from by rw [hH.1]; decide +kernel]
      obtain ⟨e9, hH⟩ := HW_pop (l := [(zA 8), (zA 9), (zA 10)]) (c := (zA 11)) hH
      rw [e9] at hW
      generalize hn_22 - 1 = hn_23 at hW hH
      refine lv_iconst (v := 3) hx hb dL_law_339 (by decide) ?_
      refine lv_icmp_ne (tgt := 407) hx hb dL_law_340 (by decide) (fun c_89 => absurd rfl c_89) (fun _ => ?_)
      refine lv_aload_n hx hb dL_law_343 rfl (lv_at hl 1 rfl) ?_
      refine vp_callSi (va_runV (As := []) (rest := []) ⟨hx, hb, hml, hown, hts⟩ (cq_X7_itemCount l D G B0 X A q1 (zA 11) st0 hS_18 hn_23 sv1 ([]) fl1 H.size) (cwV 0 hts gw_L_197 rfl rfl rfl (by decide +kernel) ⟨Nat.le_of_ble_eq_true rfl, Nat.le_of_ble_eq_true rfl⟩) (pv_lw hK hW (hE.at hS0 hAB) (AH hA0 hS0) hAB) rfl rfl hl.1 rfl (lv_room (Nat.le_of_ble_eq_true rfl)) dL_law_344 ⟨Nat.le_of_ble_eq_true rfl, Nat.le_of_ble_eq_true rfl⟩).run (nm_e ?_)
      rw [show s_countItems (zA 11) = 11 from by decide +kernel]
      refine lv_bipush (v := 11) hx hb dL_law_347 (by decide) ?_
      refine lv_icmp_ne (tgt := 407) hx hb dL_law_349 (by decide) (fun c_90 => absurd rfl c_90) (fun _ => ?_)
      refine lv_aload_n hx hb dL_law_352 rfl (lv_at hl 1 rfl) ?_
      refine va_calli (vx_runSW (As := [.ref q1]) (rest := []) ⟨hx, hb, hml, hown, hts⟩ (cl_L_undo l hfl D G B0 X A q1 (zA 11) st0 hS_18 hn_23 sv1 ([]) fl1 (HW_le hH) H.size) (vx_cwSW (hh := [(0, 4, 5, 15)]) 1 hts gl_316 rfl rfl rfl (by decide +kernel) ⟨Nat.le_of_ble_eq_true rfl, Nat.le_of_ble_eq_true rfl⟩) (ps_lw hK hW (hE.at hS0 hAB) (AH hA0 hS0) hAB) rfl rfl hl.1 rfl (lv_room (Nat.le_of_ble_eq_true rfl)) dL_law_353 ⟨Nat.le_of_ble_eq_true rfl, Nat.le_of_ble_eq_true rfl⟩) hS0 (fun q _ h => h) (fun q h => h) (fun r u91 t9 H1 locs ht hvm hw hW hz1 hk1 hS0 => ?_)
      have hX : x_undo hn_23 = 0 := (by rw [hH.1]; decide +kernel)
      rw [hX] at hw hW
      have hw : r = nI (hn_23 - 1) := hw
      have hW : LW D G X A q1 (hS_18 (hn_23 - 1)) st0 hS_18 (hn_23 - 1) sv1 ([]) fl1 H1 := LW_h ht hW
      obtain ⟨H, rfl⟩ : ∃ z, z = H1 := ⟨_, rfl⟩
      rw [hw]
      refine W.widen (k := 280) (n := 2168) (Nat.le_of_ble_eq_true rfl) (Nat.le_of_ble_eq_true rfl) ?_
      rw [show (nI (hn_23 - 1)) = 2 from by rw [hH.1]; decide +kernel]
      obtain ⟨e9, hH⟩ := HW_pop (l := [(zA 8), (zA 9)]) (c := (zA 10)) hH
      rw [e9] at hW
      generalize hn_23 - 1 = hn_24 at hW hH
      refine lv_iconst (v := 2) hx hb dL_law_356 (by decide) ?_
      refine lv_icmp_ne (tgt := 407) hx hb dL_law_357 (by decide) (fun c_92 => absurd rfl c_92) (fun _ => ?_)
      refine lv_aload_n hx hb dL_law_360 rfl (lv_at hl 1 rfl) ?_
      refine va_calli (vx_runSW (As := [.ref q1]) (rest := []) ⟨hx, hb, hml, hown, hts⟩ (cl_L_undo l hfl D G B0 X A q1 (zA 10) st0 hS_18 hn_24 sv1 ([]) fl1 (HW_le hH) H.size) (vx_cwSW (hh := [(0, 4, 5, 15)]) 1 hts gl_316 rfl rfl rfl (by decide +kernel) ⟨Nat.le_of_ble_eq_true rfl, Nat.le_of_ble_eq_true rfl⟩) (ps_lw hK hW (hE.at hS0 hAB) (AH hA0 hS0) hAB) rfl rfl hl.1 rfl (lv_room (Nat.le_of_ble_eq_true rfl)) dL_law_361 ⟨Nat.le_of_ble_eq_true rfl, Nat.le_of_ble_eq_true rfl⟩) hS0 (fun q _ h => h) (fun q h => h) (fun r u93 t9 H1 locs ht hvm hw hW hz1 hk1 hS0 => ?_)
      have hX : x_undo hn_24 = 0 := (by rw [hH.1]; decide +kernel)
      rw [hX] at hw hW
      have hw : r = nI (hn_24 - 1) := hw
      have hW : LW D G X A q1 (hS_18 (hn_24 - 1)) st0 hS_18 (hn_24 - 1) sv1 ([]) fl1 H1 := LW_h ht hW
      obtain ⟨H, rfl⟩ : ∃ z, z = H1 := ⟨_, rfl⟩
      rw [hw]
      refine W.widen (k := 281) (n := 2174) (Nat.le_of_ble_eq_true rfl) (Nat.le_of_ble_eq_true rfl) ?_
      rw [show (nI (hn_24 - 1)) = 1 from by rw [hH.1]; decide +kernel]
      obtain ⟨e9, hH⟩ := HW_pop (l := [(zA 8)]) (c := (zA 9)) hH
      rw [e9] at hW
      generalize hn_24 - 1 = hn_25 at hW hH
      refine lv_iconst (v := 1) hx hb dL_law_364 (by decide) ?_
      refine lv_icmp_ne (tgt := 407) hx hb dL_law_365 (by decide) (fun c_94 => absurd rfl c_94) (fun _ => ?_)
      refine lv_aload_n hx hb dL_law_368 rfl (lv_at hl 1 rfl) ?_
      refine va_calli (vx_runSW (As := [.ref q1]) (rest := []) ⟨hx, hb, hml, hown, hts⟩ (cl_L_undo l hfl D G B0 X A q1 (zA 9) st0 hS_18 hn_25 sv1 ([]) fl1 (HW_le hH) H.size) (vx_cwSW (hh := [(0, 4, 5, 15)]) 1 hts gl_316 rfl rfl rfl (by decide +kernel) ⟨Nat.le_of_ble_eq_true rfl, Nat.le_of_ble_eq_true rfl⟩) (ps_lw hK hW (hE.at hS0 hAB) (AH hA0 hS0) hAB) rfl rfl hl.1 rfl (lv_room (Nat.le_of_ble_eq_true rfl)) dL_law_369 ⟨Nat.le_of_ble_eq_true rfl, Nat.le_of_ble_eq_true rfl⟩) hS0 (fun q _ h => h) (fun q h => h) (fun r u95 t9 H1 locs ht hvm hw hW hz1 hk1 hS0 => ?_)
      have hX : x_undo hn_25 = 0 := (by rw [hH.1]; decide +kernel)
      rw [hX] at hw hW
      have hw : r = nI (hn_25 - 1) := hw
      have hW : LW D G X A q1 (hS_18 (hn_25 - 1)) st0 hS_18 (hn_25 - 1) sv1 ([]) fl1 H1 := LW_h ht hW
      obtain ⟨H, rfl⟩ : ∃ z, z = H1 := ⟨_, rfl⟩
      rw [hw]
      refine W.widen (k := 282) (n := 2180) (Nat.le_of_ble_eq_true rfl) (Nat.le_of_ble_eq_true rfl) ?_
      rw [show (nI (hn_25 - 1)) = 0 from by rw [hH.1]; decide +kernel]
      obtain ⟨e9, hH⟩ := HW_pop (l := []) (c := (zA 8)) hH
      rw [e9] at hW
      generalize hn_25 - 1 = hn_26 at hW hH
      refine lv_if_ne (tgt := 407) hx hb dL_law_372 (by decide) (fun c_96 => absurd (by decide) c_96) (fun _ => ?_)
      refine lv_aload_n hx hb dL_law_375 rfl (lv_at hl 1 rfl) ?_
      refine vp_callSi (va_runV (As := []) (rest := []) ⟨hx, hb, hml, hown, hts⟩ (cq_X7_itemCount l D G B0 X A q1 (zA 8) st0 hS_18 hn_26 sv1 ([]) fl1 H.size) (cwV 0 hts gw_L_197 rfl rfl rfl (by decide +kernel) ⟨Nat.le_of_ble_eq_true rfl, Nat.le_of_ble_eq_true rfl⟩) (pv_lw hK hW (hE.at hS0 hAB) (AH hA0 hS0) hAB) rfl rfl hl.1 rfl (lv_room (Nat.le_of_ble_eq_true rfl)) dL_law_376 ⟨Nat.le_of_ble_eq_true rfl, Nat.le_of_ble_eq_true rfl⟩).run (nm_e ?_)
      rw [show s_countItems (zA 8) = 8 from by decide +kernel]
      refine lv_bipush (v := 8) hx hb dL_law_379 (by decide) ?_
      refine lv_icmp_ne (tgt := 407) hx hb dL_law_381 (by decide) (fun c_97 => absurd rfl c_97) (fun _ => ?_)
      refine lv_aload_n hx hb dL_law_384 rfl (lv_at hl 1 rfl) ?_
      refine va_calli (vx_runSW (As := [.ref q1]) (rest := []) ⟨hx, hb, hml, hown, hts⟩ (cl_L_undo l hfl D G B0 X A q1 (zA 8) st0 hS_18 hn_26 sv1 ([]) fl1 (HW_le hH) H.size) (vx_cwSW (hh := [(0, 4, 5, 15)]) 1 hts gl_316 rfl rfl rfl (by decide +kernel) ⟨Nat.le_of_ble_eq_true rfl, Nat.le_of_ble_eq_true rfl⟩) (ps_lw hK hW (hE.at hS0 hAB) (AH hA0 hS0) hAB) rfl rfl hl.1 rfl (lv_room (Nat.le_of_ble_eq_true rfl)) dL_law_385 ⟨Nat.le_of_ble_eq_true rfl, Nat.le_of_ble_eq_true rfl⟩) hS0 (fun q _ h => h) (fun q h => h) (fun r u98 t9 H1 locs ht hvm hw hW hz1 hk1 hS0 => ?_)
      have hX : x_undo hn_26 = 4 := (by rw [hH.1]; decide +kernel)
      rw [hX] at hw hW
      have hw : r = (-1001) := hw
      have hW : LW D G X A q1 (zA 8) st0 hS_18 hn_26 sv1 ([]) fl1 H1 := LW_h ht hW
      obtain ⟨H, rfl⟩ : ∃ z, z = H1 := ⟨_, rfl⟩
      rw [hw]
      refine W.widen (k := 283) (n := 2186) (Nat.le_of_ble_eq_true rfl) (Nat.le_of_ble_eq_true rfl) ?_
      refine lv_sipush (v := -1001) hx hb dL_law_388 (by decide) ?_
      refine lv_icmp_ne (tgt := 407) hx hb dL_law_391 (by decide) (fun c_99 => absurd rfl c_99) (fun _ => ?_)
      refine lv_aload_n hx hb dL_law_394 rfl (lv_at hl 1 rfl) ?_
      refine lv_iconst (v := 1) hx hb dL_law_395 (by decide) ?_
      refine lv_iconst (v := 1) hx hb dL_law_396 (by decide) ?_
      refine lv_iconst (v := 1) hx hb dL_law_397 (by decide) ?_
      refine lv_iconst (v := 1) hx hb dL_law_398 (by decide) ?_
      refine va_calli (vx_runSW (As := [.ref q1, .int 1, .int 1, .int 1, .int 1]) (rest := []) ⟨hx, hb, hml, hown, hts⟩ (cl_L_addItem l hfl D G B0 X A q1 (zA 8) st0 hS_18 hn_26 sv1 ([]) fl1 1 1 1 true (HW_le hH) H.size) (vx_cwSW (hh := [(0, 9, 10, 13), (0, 9, 16, 15)]) 5 hts gl_189 rfl rfl rfl (by decide +kernel) ⟨Nat.le_of_ble_eq_true rfl, Nat.le_of_ble_eq_true rfl⟩) (ps_lw hK hW (hE.at hS0 hAB) (AH hA0 hS0) hAB) rfl rfl hl.1 rfl (lv_room (Nat.le_of_ble_eq_true rfl)) dL_law_399 ⟨Nat.le_of_ble_eq_true rfl, Nat.le_of_ble_eq_true rfl⟩) hS0 (fun q _ h => h) (fun q h => h) (fun r u100 t9 H1 locs ht hvm hw hW hz1 hk1 hS0 => ?_)
      have hX : f_takeIn (zA 8) 1 1 1 = 0 := (by decide +kernel)
      rw [hX] at hw hW
      have hw : r = (m_takeIn (zA 8) 1 1 1 true).1 := hw
      have hW : LW D G X A q1 ((m_takeIn (zA 8) 1 1 1 true).2) st0 (pS hS_18 hn_26 (zA 8)) (pN hn_26) sv1 ([]) fl1 H1 := LW_h ht hW
      obtain ⟨H, rfl⟩ : ∃ z, z = H1 := ⟨_, rfl⟩
      rw [hw]
      refine W.widen (k := 284) (n := 2192) (Nat.le_of_ble_eq_true rfl) (Nat.le_of_ble_eq_true rfl) ?_
      rw [show ((m_takeIn (zA 8) 1 1 1 true).1) = 8 from by decide +kernel]
      have hH := HW_push (zA 8) hH (by decide)
      generalize pS hS_18 hn_26 (zA 8) = hS_27 at hW hH
      generalize pN hn_26 = hn_27 at hW hH
      have hH : HW [(zA 8)] hS_27 hn_27 := hH
      refine lv_bipush (v := 8) hx hb dL_law_402 (by decide) ?_
      refine lv_icmp_eq (tgt := 409) hx hb dL_law_404 (by decide) (fun _ => ?_) (fun c_101 => absurd rfl c_101)
      refine lv_aload_n hx hb dL_law_409 rfl (lv_at hl 1 rfl) ?_
      refine va_calli (vx_runSW (As := [.ref q1]) (rest := []) ⟨hx, hb, hml, hown, hts⟩ (cl_L_restore l hfl D G B0 X A q1 ((m_takeIn (zA 8) 1 1 1 true).2) st0 hS_27 hn_27 sv1 ([]) fl1 (HW_le hH) H.size) (vx_cwSW (hh := [(0, 4, 5, 15)]) 1 hts gl_318 rfl rfl rfl (by decide +kernel) ⟨Nat.le_of_ble_eq_true rfl, Nat.le_of_ble_eq_true rfl⟩) (ps_lw hK hW (hE.at hS0 hAB) (AH hA0 hS0) hAB) rfl rfl hl.1 rfl (lv_room (Nat.le_of_ble_eq_true rfl)) dL_law_410 ⟨Nat.le_of_ble_eq_true rfl, Nat.le_of_ble_eq_true rfl⟩) hS0 (fun q _ h => h) (fun q h => h) (fun r u102 t9 H1 locs ht hvm hw hW hz1 hk1 hS0 => ?_)
      have hX : x_restore fl1 = 0 := (rs_0 hf1)
      rw [hX] at hw hW
      have hw : r = s_countItems st0 := hw
      have hW : LW D G X A q1 st0 st0 hS_27 0 sv1 ([]) fl1 H1 := LW_h ht hW
      obtain ⟨H, rfl⟩ : ∃ z, z = H1 := ⟨_, rfl⟩
      rw [hw]
      refine W.widen (k := 285) (n := 2198) (Nat.le_of_ble_eq_true rfl) (Nat.le_of_ble_eq_true rfl) ?_
      rw [show (s_countItems st0) = 0 from by decide +kernel]
      have hH := HW_0 hS_27
      refine lv_if_ne (tgt := 451) hx hb dL_law_413 (by decide) (fun c_103 => absurd (by decide) c_103) (fun _ => ?_)
      refine lv_aload_n hx hb dL_law_416 rfl (lv_at hl 1 rfl) ?_
      refine vp_callSi (va_runV (As := []) (rest := []) ⟨hx, hb, hml, hown, hts⟩ (cq_X7_itemCount l D G B0 X A q1 st0 st0 hS_27 0 sv1 ([]) fl1 H.size) (cwV 0 hts gw_L_197 rfl rfl rfl (by decide +kernel) ⟨Nat.le_of_ble_eq_true rfl, Nat.le_of_ble_eq_true rfl⟩) (pv_lw hK hW (hE.at hS0 hAB) (AH hA0 hS0) hAB) rfl rfl hl.1 rfl (lv_room (Nat.le_of_ble_eq_true rfl)) dL_law_417 ⟨Nat.le_of_ble_eq_true rfl, Nat.le_of_ble_eq_true rfl⟩).run (nm_e ?_)
      rw [show s_countItems st0 = 0 from by decide +kernel]
      refine lv_if_ne (tgt := 451) hx hb dL_law_420 (by decide) (fun c_104 => absurd (by decide) c_104) (fun _ => ?_)
      refine lv_aload_n hx hb dL_law_423 rfl (lv_at hl 1 rfl) ?_
      refine vp_callSi (va_runV (As := []) (rest := []) ⟨hx, hb, hml, hown, hts⟩ (cq_X7_bagCount l D G B0 X A q1 st0 st0 hS_27 0 sv1 ([]) fl1 H.size) (cwV 0 hts gw_L_200 rfl rfl rfl (by decide +kernel) ⟨Nat.le_of_ble_eq_true rfl, Nat.le_of_ble_eq_true rfl⟩) (pv_lw hK hW (hE.at hS0 hAB) (AH hA0 hS0) hAB) rfl rfl hl.1 rfl (lv_room (Nat.le_of_ble_eq_true rfl)) dL_law_424 ⟨Nat.le_of_ble_eq_true rfl, Nat.le_of_ble_eq_true rfl⟩).run (nm_e ?_)
      rw [show st0.2.2 1 = 0 from by decide +kernel]
      refine lv_if_ne (tgt := 451) hx hb dL_law_427 (by decide) (fun c_105 => absurd (by decide) c_105) (fun _ => ?_)
      refine lv_aload_n hx hb dL_law_430 rfl (lv_at hl 1 rfl) ?_
      refine va_calli (vx_runSW (As := [.ref q1]) (rest := []) ⟨hx, hb, hml, hown, hts⟩ (cl_L_undo l hfl D G B0 X A q1 st0 st0 hS_27 0 sv1 ([]) fl1 (HW_le hH) H.size) (vx_cwSW (hh := [(0, 4, 5, 15)]) 1 hts gl_316 rfl rfl rfl (by decide +kernel) ⟨Nat.le_of_ble_eq_true rfl, Nat.le_of_ble_eq_true rfl⟩) (ps_lw hK hW (hE.at hS0 hAB) (AH hA0 hS0) hAB) rfl rfl hl.1 rfl (lv_room (Nat.le_of_ble_eq_true rfl)) dL_law_431 ⟨Nat.le_of_ble_eq_true rfl, Nat.le_of_ble_eq_true rfl⟩) hS0 (fun q _ h => h) (fun q h => h) (fun r u106 t9 H1 locs ht hvm hw hW hz1 hk1 hS0 => ?_)
      have hX : x_undo 0 = 4 := (by rw [hH.1]; decide +kernel)
      rw [hX] at hw hW
      have hw : r = (-1001) := hw
      have hW : LW D G X A q1 st0 st0 hS_27 0 sv1 ([]) fl1 H1 := LW_h ht hW
      obtain ⟨H, rfl⟩ : ∃ z, z = H1 := ⟨_, rfl⟩
      rw [hw]
      refine W.widen (k := 286) (n := 2204) (Nat.le_of_ble_eq_true rfl) (Nat.le_of_ble_eq_true rfl) ?_
      refine lv_sipush (v := -1001) hx hb dL_law_434 (by decide) ?_
      refine lv_icmp_ne (tgt := 451) hx hb dL_law_437 (by decide) (fun c_107 => absurd rfl c_107) (fun _ => ?_)
      refine lv_aload_n hx hb dL_law_440 rfl (lv_at hl 1 rfl) ?_
      refine lv_iconst (v := 1) hx hb dL_law_441 (by decide) ?_
      refine lv_iconst (v := 1) hx hb dL_law_442 (by decide) ?_
      refine lv_iconst (v := 1) hx hb dL_law_443 (by decide) ?_
      refine lv_iconst (v := 1) hx hb dL_law_444 (by decide) ?_
      refine va_calli (vx_runSW (As := [.ref q1, .int 1, .int 1, .int 1, .int 1]) (rest := []) ⟨hx, hb, hml, hown, hts⟩ (cl_L_addItem l hfl D G B0 X A q1 st0 st0 hS_27 0 sv1 ([]) fl1 1 1 1 true (HW_le hH) H.size) (vx_cwSW (hh := [(0, 9, 10, 13), (0, 9, 16, 15)]) 5 hts gl_189 rfl rfl rfl (by decide +kernel) ⟨Nat.le_of_ble_eq_true rfl, Nat.le_of_ble_eq_true rfl⟩) (ps_lw hK hW (hE.at hS0 hAB) (AH hA0 hS0) hAB) rfl rfl hl.1 rfl (lv_room (Nat.le_of_ble_eq_true rfl)) dL_law_445 ⟨Nat.le_of_ble_eq_true rfl, Nat.le_of_ble_eq_true rfl⟩) hS0 (fun q _ h => h) (fun q h => h) (fun r u108 t9 H1 locs ht hvm hw hW hz1 hk1 hS0 => ?_)
      have hX : f_takeIn st0 1 1 1 = 0 := (by decide +kernel)
      rw [hX] at hw hW
      have hw : r = (m_takeIn st0 1 1 1 true).1 := hw
      have hW : LW D G X A q1 ((m_takeIn st0 1 1 1 true).2) st0 (pS hS_27 0 st0) (pN 0) sv1 ([]) fl1 H1 := LW_h ht hW
      obtain ⟨H, rfl⟩ : ∃ z, z = H1 := ⟨_, rfl⟩
      rw [hw]
      refine W.widen (k := 287) (n := 2210) (Nat.le_of_ble_eq_true rfl) (Nat.le_of_ble_eq_true rfl) ?_
      rw [show ((m_takeIn st0 1 1 1 true).1) = 0 from by decide +kernel]
      have hH := HW_push st0 hH (by decide)
      generalize pS hS_27 0 st0 = hS_28 at hW hH
      generalize pN 0 = hn_28 at hW hH
      have hH : HW [st0] hS_28 hn_28 := hH
      refine lv_if_eq (tgt := 453) hx hb dL_law_448 (by decide) (fun _ => ?_) (fun c_109 => absurd (by decide) c_109)
      refine va_new (D := D) (ci := 8) (fs := [.null, .null, .null, .null, .null, .null, .null, .int 0, .int 0, .int 0, .int 0, .int 0]) (C := RX7) (T := TX7) (N := 12) hx hb hts i_X7 tyX7 tyX7_ok hown (hts _ kw_57) (hts _ kw_58) (hts _ kw_24) hK (P_none D H) (D_none A) hS0 hA0 rfl (fun j hj => by rcases (show j = 0 ∨ j = 1 ∨ j = 2 ∨ j = 3 ∨ j = 4 ∨ j = 5 ∨ j = 6 ∨ j = 7 ∨ j = 8 ∨ j = 9 ∨ j = 10 ∨ j = 11 by omega) with rfl | rfl | rfl | rfl | rfl | rfl | rfl | rfl | rfl | rfl | rfl | rfl <;> rfl) (Nat.le_of_ble_eq_true rfl) (Nat.le_of_ble_eq_true rfl) dL_law_453 (fun q2 H hP hD hS0 => ?_)
      refine W.widen (k := 288) (n := 2222) (Nat.le_of_ble_eq_true rfl) (Nat.le_of_ble_eq_true rfl) ?_
      refine lv_dup hx hb dL_law_456 rfl ?_
      have hFc := free_end (W := ([] : va_W)) (c := ((q2, .inr (8, [.null, .null, .null, .null, .null, .null, .null, .int 0, .int 0, .int 0, .int 0, .int 0])) : Nat × va_E)) hD hS0 hA0
      have hBc := B_end (W := ([] : va_W)) (c := ((q2, .inr (8, [.null, .null, .null, .null, .null, .null, .null, .int 0, .int 0, .int 0, .int 0, .int 0])) : Nat × va_E)) hD hAB
      refine va_callv (va_runI (As := []) (rest := [.ref q2]) ⟨hx, hb, hml, hown, hts⟩ (c_X7_init l D G B0 X q2 H.size) (cwI 0 hts gi_X7_init9 rfl rfl rfl (hts _ kw_24) (hts _ kw_59) (hts _ kw_60) rfl (by decide +kernel) ⟨Nat.le_of_ble_eq_true rfl, Nat.le_of_ble_eq_true rfl⟩) (pi_mk (W := ([] : va_W)) (c := ((q2, .inr (8, [.null, .null, .null, .null, .null, .null, .null, .int 0, .int 0, .int 0, .int 0, .int 0])) : Nat × va_E)) hK hP hBc (hE.at hS0 hAB)) rfl rfl hl.1 rfl (lv_room (Nat.le_of_ble_eq_true rfl)) dL_law_457 ⟨Nat.le_of_ble_eq_true rfl, Nat.le_of_ble_eq_true rfl⟩) hS0 (fun q _ h => hFc q h) hFc (fun u t H1 locs ht hvm hw hB hz1 hk1 hS0 => ?_)
      obtain ⟨hB1, hB2⟩ := hB
      rw [ht] at hB1
      have hW : LW D G X A q2 st0 st0 (fun _ => st0) 0 sv0 ([]) fl0 H1 := ⟨u, st0, lv0, fun _ => 0, hw, lv0_ok, hB1, hB2.weaken (fun _ _ _ h9 => hFc _ h9)⟩
      clear hB1 hB2 hFc hBc hP hD
      generalize (fun _ => st0 : Nat → CS) = hS_29 at hW
      have hH := HW_0 hS_29
      obtain ⟨H, rfl⟩ : ∃ z, z = H1 := ⟨_, rfl⟩
      refine W.widen (k := 472) (n := 3808) (Nat.le_of_ble_eq_true rfl) (Nat.le_of_ble_eq_true rfl) ?_
      refine lv_astore_n (x := q2) (lv' := [(2, .ref q2), (1, .ref q1), (0, .ref b)]) hx hb dL_law_460 rfl hl (by decide) rfl (fun ls hl => ?_)
      refine lv_aload_n hx hb dL_law_461 rfl (lv_at hl 0 rfl) ?_
      refine lv_aload_n hx hb dL_law_462 rfl (lv_at hl 2 rfl) ?_
      refine va_calli (va_runS (As := [.ref q2, .ref b]) (rest := []) ⟨hx, hb, hml, hown, hts⟩ (cl_L_makes l hfl D G B0 X A q2 st0 st0 hS_29 0 sv0 ([]) fl0 b L xs hL MK_0 (by decide +kernel) (by decide) H.size) (va_cwS 2 hts gw_L_326 rfl rfl rfl (by decide +kernel) ⟨Nat.le_of_ble_eq_true rfl, Nat.le_of_ble_eq_true rfl⟩) (ps_lwx hK hW (hE.at hS0 hAB) (AH hA0 hS0) hAB (X_at hXs hbl hbA hS0) (Nat.lt_of_lt_of_le hbl hS0.1) hbA) rfl rfl hl.1 rfl (lv_room (Nat.le_of_ble_eq_true rfl)) dL_law_463 ⟨Nat.le_of_ble_eq_true rfl, Nat.le_of_ble_eq_true rfl⟩) hS0 (fun q _ h => h) (fun q h => h) (fun r u t9 H1 locs ht hvm hw hW hz1 hk1 hS0 => ?_)
      obtain ⟨C, hS9, hn9, fl9⟩ := u
      obtain ⟨hr9, hM, hn1, hh⟩ := hw
      have hM : MKc 11 C := hM
      have hn1 : 1 ≤ nbg C := hn1
      have hh : hn9 ≤ 8 := hh
      clear hH
      have hW : LW D G X A q2 C st0 hS9 hn9 sv0 ([]) fl9 H1 := LW_h ht hW
      obtain ⟨H, rfl⟩ : ∃ z, z = H1 := ⟨_, rfl⟩
      rw [hr9]
      refine W.widen (k := 532) (n := 4168) (Nat.le_of_ble_eq_true rfl) (Nat.le_of_ble_eq_true rfl) ?_
      refine lv_if_ne (tgt := 471) hx hb dL_law_466 (by decide) (fun _ => ?_) (fun c_110 => absurd c_110 (by decide))
      refine lv_aload_n hx hb dL_law_471 rfl (lv_at hl 0 rfl) ?_
      refine va_calll (va_runS (As := [.ref q2]) (rest := []) ⟨hx, hb, hml, hown, hts⟩ (cl_L_asks l hfl D G B0 X A q2 C st0 hS9 hn9 sv0 ([]) fl9 hM.1.1 (hM.1.id (by decide)) hM.1.ly H.size) (va_cwS 1 hts gw_L_278 rfl rfl rfl (by decide +kernel) ⟨Nat.le_of_ble_eq_true rfl, Nat.le_of_ble_eq_true rfl⟩) (ps_lw hK hW (hE.at hS0 hAB) (AH hA0 hS0) hAB) rfl rfl hl.1 rfl (lv_room (Nat.le_of_ble_eq_true rfl)) dL_law_472 ⟨Nat.le_of_ble_eq_true rfl, Nat.le_of_ble_eq_true rfl⟩) hS0 (fun q _ h => h) (fun q h => h) (fun r u111 t9 H1 locs ht hvm hw hW hz1 hk1 hS0 => ?_)
      have hW : LW D G X A q2 C st0 hS9 hn9 sv0 u111 fl9 H1 := LW_h ht hW
      obtain ⟨H, rfl⟩ : ∃ z, z = H1 := ⟨_, rfl⟩
      rw [hw]
      refine W.widen (k := 1732) (n := 154168) (Nat.le_of_ble_eq_true rfl) (Nat.le_of_ble_eq_true rfl) ?_
      refine lv_lstore_n (lv' := [(3, .long (ask_v C)), (2, .ref q2), (1, .ref q1), (0, .ref b)]) hx hb dL_law_475 rfl hl (by decide) rfl (fun ls hl => ?_)
      refine lv_aload_n hx hb dL_law_476 rfl (lv_at hl 1 rfl) ?_
      refine va_calll (va_runS (As := [.ref q2]) (rest := []) ⟨hx, hb, hml, hown, hts⟩ (cl_L_asks l hfl D G B0 X A q2 C st0 hS9 hn9 sv0 u111 fl9 hM.1.1 (hM.1.id (by decide)) hM.1.ly H.size) (va_cwS 1 hts gw_L_278 rfl rfl rfl (by decide +kernel) ⟨Nat.le_of_ble_eq_true rfl, Nat.le_of_ble_eq_true rfl⟩) (ps_lw hK hW (hE.at hS0 hAB) (AH hA0 hS0) hAB) rfl rfl hl.1 rfl (lv_room (Nat.le_of_ble_eq_true rfl)) dL_law_477 ⟨Nat.le_of_ble_eq_true rfl, Nat.le_of_ble_eq_true rfl⟩) hS0 (fun q _ h => h) (fun q h => h) (fun r u112 t9 H1 locs ht hvm hw hW hz1 hk1 hS0 => ?_)
      have hW : LW D G X A q2 C st0 hS9 hn9 sv0 u112 fl9 H1 := LW_h ht hW
      obtain ⟨H, rfl⟩ : ∃ z, z = H1 := ⟨_, rfl⟩
      rw [hw]
      refine W.widen (k := 2932) (n := 304168) (Nat.le_of_ble_eq_true rfl) (Nat.le_of_ble_eq_true rfl) ?_
      refine lv_lload_n hx hb dL_law_480 rfl (lv_at hl 0 rfl) ?_
      refine W.lcmp hx hb dL_law_481 ?_
      rw [lg_self]
      refine lv_if_ne (tgt := 492) hx hb dL_law_482 (by decide) (fun c_113 => absurd (by decide) c_113) (fun _ => ?_)
      refine lv_aload_n hx hb dL_law_485 rfl (lv_at hl 1 rfl) ?_
      refine va_calli (va_runS (As := [.ref q2]) (rest := []) ⟨hx, hb, hml, hown, hts⟩ (cl_L_thrown l hfl D G B0 X A q2 C st0 hS9 hn9 sv0 u112 fl9 hM hn1 hh rfl H.size) (va_cwS 1 hts gw_L_330 rfl rfl rfl (by decide +kernel) ⟨Nat.le_of_ble_eq_true rfl, Nat.le_of_ble_eq_true rfl⟩) (ps_lw hK hW (hE.at hS0 hAB) (AH hA0 hS0) hAB) rfl rfl hl.1 rfl (lv_room (Nat.le_of_ble_eq_true rfl)) dL_law_486 ⟨Nat.le_of_ble_eq_true rfl, Nat.le_of_ble_eq_true rfl⟩) hS0 (fun q _ h => h) (fun q h => h) (fun r u114 t9 H1 locs ht hvm hw hW hz1 hk1 hS0 => ?_)
      obtain ⟨lab8, fl8⟩ := u114
      have hW : LW D G X A q2 C st0 hS9 hn9 svN lab8 fl8 H1 := LW_h ht hW
      obtain ⟨H, rfl⟩ : ∃ z, z = H1 := ⟨_, rfl⟩
      rw [hw]
      refine W.widen (k := 7932) (n := 664168) (Nat.le_of_ble_eq_true rfl) (Nat.le_of_ble_eq_true rfl) ?_
      refine lv_if_ne (tgt := 494) hx hb dL_law_489 (by decide) (fun _ => ?_) (fun c_115 => absurd c_115 (by decide))
      refine lv_aload_n hx hb dL_law_494 rfl (lv_at hl 1 rfl) ?_
      refine va_calli (va_runV (As := []) (rest := []) ⟨hx, hb, hml, hown, hts⟩ (cq_X7_save l D G B0 X A q2 C st0 hS9 hn9 svN lab8 fl8 H.size) (cwV 0 hts gw_L_320 rfl rfl rfl (by decide +kernel) ⟨Nat.le_of_ble_eq_true rfl, Nat.le_of_ble_eq_true rfl⟩) (pv_lw hK hW (hE.at hS0 hAB) (AH hA0 hS0) hAB) rfl rfl hl.1 rfl (lv_room (Nat.le_of_ble_eq_true rfl)) dL_law_495 ⟨Nat.le_of_ble_eq_true rfl, Nat.le_of_ble_eq_true rfl⟩) hS0 (fun q _ h => h) (fun q h => h) (fun r u t9 H1 locs ht hvm hw hW hz1 hk1 hS0 => ?_)
      have hW : LW D G X A q2 C C hS9 hn9 svN lab8 (upd fl8 0 1) H1 := LW_h ht hW
      obtain ⟨H, rfl⟩ : ∃ z, z = H1 := ⟨_, rfl⟩
      rw [hw]
      have hf0 : (upd fl8 0 1) 0 = 1 := pk_us
      generalize upd fl8 0 1 = fl7 at hW hf0
      refine lv_istore (lv' := [(5, .int (s_countItems C)), (3, .long (ask_v C)), (2, .ref q2), (1, .ref q1), (0, .ref b)]) hx hb dL_law_498 hl (by decide) rfl (fun ls hl => ?_)
      refine lv_iload hx hb dL_law_500 (lv_at hl 0 rfl) ?_
      refine lv_aload_n hx hb dL_law_502 rfl (lv_at hl 2 rfl) ?_
      refine vp_callSi (va_runV (As := []) (rest := [.int (s_countItems C)]) ⟨hx, hb, hml, hown, hts⟩ (cq_X7_itemCount l D G B0 X A q2 C C hS9 hn9 svN lab8 fl7 H.size) (cwV 0 hts gw_L_197 rfl rfl rfl (by decide +kernel) ⟨Nat.le_of_ble_eq_true rfl, Nat.le_of_ble_eq_true rfl⟩) (pv_lw hK hW (hE.at hS0 hAB) (AH hA0 hS0) hAB) rfl rfl hl.1 rfl (lv_room (Nat.le_of_ble_eq_true rfl)) dL_law_503 ⟨Nat.le_of_ble_eq_true rfl, Nat.le_of_ble_eq_true rfl⟩).run (nm_e ?_)
      refine lv_icmp_ne (tgt := 536) hx hb dL_law_506 (by decide) (fun c_116 => absurd rfl c_116) (fun _ => ?_)
      refine lv_aload_n hx hb dL_law_509 rfl (lv_at hl 2 rfl) ?_
      refine va_calll (va_runS (As := [.ref q2]) (rest := []) ⟨hx, hb, hml, hown, hts⟩ (cl_L_asks l hfl D G B0 X A q2 C C hS9 hn9 svN lab8 fl7 hM.1.1 (hM.1.id (by decide)) hM.1.ly H.size) (va_cwS 1 hts gw_L_278 rfl rfl rfl (by decide +kernel) ⟨Nat.le_of_ble_eq_true rfl, Nat.le_of_ble_eq_true rfl⟩) (ps_lw hK hW (hE.at hS0 hAB) (AH hA0 hS0) hAB) rfl rfl hl.1 rfl (lv_room (Nat.le_of_ble_eq_true rfl)) dL_law_510 ⟨Nat.le_of_ble_eq_true rfl, Nat.le_of_ble_eq_true rfl⟩) hS0 (fun q _ h => h) (fun q h => h) (fun r u117 t9 H1 locs ht hvm hw hW hz1 hk1 hS0 => ?_)
      have hW : LW D G X A q2 C C hS9 hn9 svN u117 fl7 H1 := LW_h ht hW
      obtain ⟨H, rfl⟩ : ∃ z, z = H1 := ⟨_, rfl⟩
      rw [hw]
      refine W.widen (k := 9132) (n := 814168) (Nat.le_of_ble_eq_true rfl) (Nat.le_of_ble_eq_true rfl) ?_
      refine lv_lload_n hx hb dL_law_513 rfl (lv_at hl 1 rfl) ?_
      refine W.lcmp hx hb dL_law_514 ?_
      rw [lg_self]
      refine lv_if_ne (tgt := 536) hx hb dL_law_515 (by decide) (fun c_118 => absurd (by decide) c_118) (fun _ => ?_)
      refine lv_aload_n hx hb dL_law_518 rfl (lv_at hl 2 rfl) ?_
      refine va_calli (vx_runSW (As := [.ref q2]) (rest := []) ⟨hx, hb, hml, hown, hts⟩ (cl_L_restore l hfl D G B0 X A q2 C C hS9 hn9 svN u117 fl7 hh H.size) (vx_cwSW (hh := [(0, 4, 5, 15)]) 1 hts gl_318 rfl rfl rfl (by decide +kernel) ⟨Nat.le_of_ble_eq_true rfl, Nat.le_of_ble_eq_true rfl⟩) (ps_lw hK hW (hE.at hS0 hAB) (AH hA0 hS0) hAB) rfl rfl hl.1 rfl (lv_room (Nat.le_of_ble_eq_true rfl)) dL_law_519 ⟨Nat.le_of_ble_eq_true rfl, Nat.le_of_ble_eq_true rfl⟩) hS0 (fun q _ h => h) (fun q h => h) (fun r u119 t9 H1 locs ht hvm hw hW hz1 hk1 hS0 => ?_)
      have hX : x_restore fl7 = 0 := (rs_0 hf0)
      rw [hX] at hw hW
      have hw : r = s_countItems C := hw
      have hW : LW D G X A q2 C C hS9 0 svN u117 fl7 H1 := LW_h ht hW
      obtain ⟨H, rfl⟩ : ∃ z, z = H1 := ⟨_, rfl⟩
      rw [hw]
      refine W.widen (k := 9133) (n := 814174) (Nat.le_of_ble_eq_true rfl) (Nat.le_of_ble_eq_true rfl) ?_
      refine lv_iload hx hb dL_law_522 (lv_at hl 0 rfl) ?_
      refine lv_icmp_ne (tgt := 536) hx hb dL_law_524 (by decide) (fun c_120 => absurd rfl c_120) (fun _ => ?_)
      refine lv_aload_n hx hb dL_law_527 rfl (lv_at hl 2 rfl) ?_
      refine va_calll (va_runS (As := [.ref q2]) (rest := []) ⟨hx, hb, hml, hown, hts⟩ (cl_L_asks l hfl D G B0 X A q2 C C hS9 0 svN u117 fl7 hM.1.1 (hM.1.id (by decide)) hM.1.ly H.size) (va_cwS 1 hts gw_L_278 rfl rfl rfl (by decide +kernel) ⟨Nat.le_of_ble_eq_true rfl, Nat.le_of_ble_eq_true rfl⟩) (ps_lw hK hW (hE.at hS0 hAB) (AH hA0 hS0) hAB) rfl rfl hl.1 rfl (lv_room (Nat.le_of_ble_eq_true rfl)) dL_law_528 ⟨Nat.le_of_ble_eq_true rfl, Nat.le_of_ble_eq_true rfl⟩) hS0 (fun q _ h => h) (fun q h => h) (fun r u121 t9 H1 locs ht hvm hw hW hz1 hk1 hS0 => ?_)
      have hW : LW D G X A q2 C C hS9 0 svN u121 fl7 H1 := LW_h ht hW
      obtain ⟨H, rfl⟩ : ∃ z, z = H1 := ⟨_, rfl⟩
      rw [hw]
      refine W.widen (k := 10333) (n := 964174) (Nat.le_of_ble_eq_true rfl) (Nat.le_of_ble_eq_true rfl) ?_
      refine lv_lload_n hx hb dL_law_531 rfl (lv_at hl 1 rfl) ?_
      refine W.lcmp hx hb dL_law_532 ?_
      rw [lg_self]
      refine lv_if_eq (tgt := 538) hx hb dL_law_533 (by decide) (fun _ => ?_) (fun c_122 => absurd (by decide) c_122)
      refine lv_bipush (v := 9) hx hb dL_law_538 (by decide) ?_
      refine va_forget (fun q hq => hAu _ (hS0.2.2 q hq)) ?_
      have hS0 := S_nil hS0
      obtain ⟨Al, hAl⟩ : ∃ Al : Nat → Prop, Al = fun q => H.size ≤ q := ⟨_, rfl⟩
      have hAln : ∀ q, H.size ≤ q → Al q := by rw [hAl]; exact fun q h9 => h9
      have hAlu : ∀ q, Al q → H.size ≤ q := by rw [hAl]; exact fun q h9 => h9
      clear hAl
      refine va_newa hx hb (atype := .long) (hts _ kw_1486) (ty := .long) rfl hK (P_none D H) (D_none Al) (va_S.rf (A := Al) (H0 := H)) hAln (a0 := (9, .inr (.inl (fun _ => 0)))) (fun _ => rfl) (N' := 9) (by decide) (by decide) (by decide) (Nat.le_of_ble_eq_true rfl) (Nat.le_of_ble_eq_true rfl) dL_law_540 (fun r9 cA Hb hK2 hAr hDr hS2 => ?_)
      rw [row_id (i := 5) (g := G 5) hK2 rfl] at hAr hDr
      clear hK2 cA
      have hAr : va_P D vwCl [((r9, .inl (G 5, 9, .inr (.inl (fun _ => 0)))) : Nat × va_E)] Hb := hAr
      have hr9 : H.size ≤ r9 ∧ r9 < Hb.size := ⟨hAlu _ (hDr.2 0 _ rfl), (hAr 0 _ rfl).lt⟩
      obtain ⟨A2, hA2e⟩ : ∃ A2 : Nat → Prop, A2 = fun q => A q ∧ q ≠ r9 := ⟨_, rfl⟩
      have hzb := hS0.1
      have hAr9 : A r9 := hA0 r9 (Nat.le_trans hzb hr9.1)
      have hA2A : ∀ q, A2 q → A q := by rw [hA2e]; exact fun q h9 => h9.1
      have hrn : ¬ A2 r9 := by rw [hA2e]; exact fun h9 => h9.2 rfl
      have hz8 := hS2.1
      have hA2 : ∀ q, Hb.size ≤ q → A2 q := by rw [hA2e]; exact fun q h9 => ⟨hA0 q (by omega), by omega⟩
      have hAB2 : ∀ q, A2 q → B0 ≤ q := fun q h9 => hAB q (hA2A q h9)
      have hW := LW_old (A2 := A2) hW hS2 hAlu (by rw [hA2e]; exact fun q h1 h2 => ⟨h1, by omega⟩)
      have hS0 := S_tr hS0 hS2 (fun q h9 => hA0 q (Nat.le_trans hzb (hAlu q h9)))
      have hz9 : Hb.size ≤ Hb.size := Nat.le_refl _
      clear hA2e
      refine W.widen (k := 10334) (n := 964183) (Nat.le_of_ble_eq_true rfl) (Nat.le_of_ble_eq_true rfl) ?_
      refine lv_astore (x := r9) (lv' := [(6, .ref r9), (5, .int (s_countItems C)), (3, .long (ask_v C)), (2, .ref q2), (1, .ref q1), (0, .ref b)]) hx hb dL_law_542 hl (by decide) rfl (fun ls hl => ?_)
      refine lv_iconst (v := 0) hx hb dL_law_544 (by decide) ?_
      refine lv_istore (lv' := [(7, .int 0), (6, .ref r9), (5, .int (s_countItems C)), (3, .long (ask_v C)), (2, .ref q2), (1, .ref q1), (0, .ref b)]) hx hb dL_law_545 hl (by decide) rfl (fun ls hl => ?_)
      refine lv_iconst (v := 0) hx hb dL_law_547 (by decide) ?_
      refine lv_istore (lv' := [(8, .int 0), (7, .int 0), (6, .ref r9), (5, .int (s_countItems C)), (3, .long (ask_v C)), (2, .ref q2), (1, .ref q1), (0, .ref b)]) hx hb dL_law_548 hl (by decide) rfl (fun ls hl => ?_)
      have hI0 : WSp C 0 C hS9 0 svN fl7 (fun _ => 0) := ⟨Nat.le_refl 0, hM.1, svN_ok.1, svN_ok.2, hf0, fun j h => absurd h (Nat.not_lt_zero j)⟩
      have L550 : ∀ (m9 i : Nat), m9 + i = 8 → ∀ (c0 : CS) (hS : Nat → CS) (n : Nat) (sv : SV) (lab : List Int32) (fl : Nat → Int32) (f : Nat → Int64) (H : Heap) (locs : List Loc), WSp C i c0 hS n sv fl f → va_P D vwCl [((r9, .inl (G 5, 9, .inr (.inl f))) : Nat × va_E)] H → Hb.size ≤ H.size → LW D G X A2 q2 c0 C hS n sv lab fl H → va_S A s.heap H locs → ∀ ls : Array Slot, lv_has ls 11 [(8, .int (nI i)), (7, .int (nI n)), (6, .ref r9), (5, .int (s_countItems C)), (3, .long (ask_v C)), (2, .ref q2), (0, .ref b)] → W p l e room_1 s m #[Value.ref b] below meth c H locs (10334 + (19800 - 2475 * m9)) (964183 + (2410400 - 301300 * m9)) (lw_Z below #[Value.ref b] s) (F0 m 550 ls []) := by
        intro m9
        induction m9 with
        | zero =>
          intro i hi c0 hS n sv lab fl f H locs hI hAr hz9 hW hS0 ls hl
          refine W.widen (k := 30134) (n := 3374583) (by omega) (by omega) ?_
          obtain rfl : i = 8 := by omega
          refine lv_iload hx hb dL_law_550 (lv_at hl 0 rfl) ?_
          refine lv_bipush (v := 8) hx hb dL_law_552 (by decide) ?_
          refine lv_icmp_ge (tgt := 617) hx hb dL_law_554 (by decide) (fun _ => ?_) (fun c_123 => absurd (nI_le (a := 8) (b := 8) (by omega) (by omega)) c_123)
          refine lv_iconst (v := 1) hx hb dL_law_617 (by decide) ?_
          refine lv_istore (lv' := [(8, .int 1), (7, .int (nI n)), (6, .ref r9), (5, .int (s_countItems C)), (3, .long (ask_v C)), (2, .ref q2), (0, .ref b)]) hx hb dL_law_618 hl (by decide) rfl (fun ls hl => ?_)
          have hn8 := hI.1
          have L620 : ∀ (m8 k : Nat), m8 + k = n → ∀ (c6 : CS) (lab6 : List Int32) (H : Heap) (locs : List Loc), va_P D vwCl [((r9, .inl (G 5, 9, .inr (.inl f))) : Nat × va_E)] H → Hb.size ≤ H.size → LW D G X A2 q2 c6 C hS (n - k) sv lab6 fl H → va_S A s.heap H locs → ∀ ls : Array Slot, lv_has ls 11 [(8, .int (nI (k + 1))), (7, .int (nI n)), (6, .ref r9), (5, .int (s_countItems C)), (3, .long (ask_v C)), (2, .ref q2), (0, .ref b)] → W p l e room_1 s m #[Value.ref b] below meth c H locs (30134 + (10400 - 1300 * m8)) (3374583 + (1200800 - 150100 * m8)) (lw_Z below #[Value.ref b] s) (F0 m 620 ls []) := by
            intro m8
            induction m8 with
            | zero =>
              intro k hk c6 lab6 H locs hAr hz9 hW hS0 ls hl
              refine W.widen (k := 40534) (n := 4575383) (by omega) (by omega) ?_
              have hkn : k = n := by omega
              rw [hkn] at hW hl
              refine lv_iload hx hb dL_law_620 (lv_at hl 0 rfl) ?_
              refine lv_iload hx hb dL_law_622 (lv_at hl 1 rfl) ?_
              refine lv_icmp_gt (tgt := 663) hx hb dL_law_624 (by decide) (fun _ => ?_) (fun c_124 => absurd (nI_lt (a := n) (b := n + 1) (by omega) (by have := hI.1; omega)) c_124)
              refine lv_aload_n hx hb dL_law_663 rfl (lv_at hl 5 rfl) ?_
              refine va_calli (vx_runSW (As := [.ref q2]) (rest := []) ⟨hx, hb, hml, hown, hts⟩ (cl_L_undo l hfl D G B0 X A2 q2 c6 C hS (n - n) sv lab6 fl (by omega) H.size) (vx_cwSW (hh := [(0, 4, 5, 15)]) 1 hts gl_316 rfl rfl rfl (by decide +kernel) ⟨Nat.le_of_ble_eq_true rfl, Nat.le_of_ble_eq_true rfl⟩) (ps_lw hK hW (hE.at hS0 hAB) (fun q h9 => hA2 q (Nat.le_trans hz9 h9)) hAB2) rfl rfl hl.1 rfl (lv_room (Nat.le_of_ble_eq_true rfl)) dL_law_664 ⟨Nat.le_of_ble_eq_true rfl, Nat.le_of_ble_eq_true rfl⟩) hS0 (fun q _ h => hA2A q h) hA2A (fun r u125 t9 H1 locs ht hvm hw hW hz1 hk1 hS0 => ?_)
              have hX : x_undo (n - n) = 4 := (by rw [Nat.sub_self]; rfl)
              rw [hX] at hw hW
              have hw : r = (-1001) := hw
              have hz9 := Nat.le_trans hz9 hz1
              have hAr := P_1c hAr hrn hk1
              have hW : LW D G X A2 q2 c6 C hS (n - n) sv lab6 fl H1 := LW_h ht hW
              obtain ⟨H, rfl⟩ : ∃ z, z = H1 := ⟨_, rfl⟩
              rw [hw]
              refine W.widen (k := 40535) (n := 4575389) (Nat.le_of_ble_eq_true rfl) (Nat.le_of_ble_eq_true rfl) ?_
              refine lv_sipush (v := -1001) hx hb dL_law_667 (by decide) ?_
              refine lv_icmp_ne (tgt := 705) hx hb dL_law_670 (by decide) (fun c_126 => absurd rfl c_126) (fun _ => ?_)
              refine lv_aload_n hx hb dL_law_673 rfl (lv_at hl 5 rfl) ?_
              refine va_calli (vx_runSW (As := [.ref q2]) (rest := []) ⟨hx, hb, hml, hown, hts⟩ (cl_L_restore l hfl D G B0 X A2 q2 c6 C hS (n - n) sv lab6 fl (by omega) H.size) (vx_cwSW (hh := [(0, 4, 5, 15)]) 1 hts gl_318 rfl rfl rfl (by decide +kernel) ⟨Nat.le_of_ble_eq_true rfl, Nat.le_of_ble_eq_true rfl⟩) (ps_lw hK hW (hE.at hS0 hAB) (fun q h9 => hA2 q (Nat.le_trans hz9 h9)) hAB2) rfl rfl hl.1 rfl (lv_room (Nat.le_of_ble_eq_true rfl)) dL_law_674 ⟨Nat.le_of_ble_eq_true rfl, Nat.le_of_ble_eq_true rfl⟩) hS0 (fun q _ h => hA2A q h) hA2A (fun r u127 t9 H1 locs ht hvm hw hW hz1 hk1 hS0 => ?_)
              have hX : x_restore fl = 0 := (rs_0 hI.2.2.2.2.1)
              rw [hX] at hw hW
              have hw : r = s_countItems C := hw
              have hz9 := Nat.le_trans hz9 hz1
              have hAr := P_1c hAr hrn hk1
              have hW : LW D G X A2 q2 C C hS 0 sv lab6 fl H1 := LW_h ht hW
              obtain ⟨H, rfl⟩ : ∃ z, z = H1 := ⟨_, rfl⟩
              rw [hw]
              refine W.widen (k := 40536) (n := 4575395) (Nat.le_of_ble_eq_true rfl) (Nat.le_of_ble_eq_true rfl) ?_
              refine lv_iload hx hb dL_law_677 (lv_at hl 3 rfl) ?_
              refine lv_icmp_ne (tgt := 705) hx hb dL_law_679 (by decide) (fun c_128 => absurd rfl c_128) (fun _ => ?_)
              refine lv_aload_n hx hb dL_law_682 rfl (lv_at hl 5 rfl) ?_
              refine va_calll (va_runS (As := [.ref q2]) (rest := []) ⟨hx, hb, hml, hown, hts⟩ (cl_L_asks l hfl D G B0 X A2 q2 C C hS 0 sv lab6 fl hM.1.1 (hM.1.id (by decide)) hM.1.ly H.size) (va_cwS 1 hts gw_L_278 rfl rfl rfl (by decide +kernel) ⟨Nat.le_of_ble_eq_true rfl, Nat.le_of_ble_eq_true rfl⟩) (ps_lw hK hW (hE.at hS0 hAB) (fun q h9 => hA2 q (Nat.le_trans hz9 h9)) hAB2) rfl rfl hl.1 rfl (lv_room (Nat.le_of_ble_eq_true rfl)) dL_law_683 ⟨Nat.le_of_ble_eq_true rfl, Nat.le_of_ble_eq_true rfl⟩) hS0 (fun q _ h => hA2A q h) hA2A (fun r u129 t9 H1 locs ht hvm hw hW hz1 hk1 hS0 => ?_)
              have hz9 := Nat.le_trans hz9 hz1
              have hAr := P_1c hAr hrn hk1
              have hW : LW D G X A2 q2 C C hS 0 sv u129 fl H1 := LW_h ht hW
              obtain ⟨H, rfl⟩ : ∃ z, z = H1 := ⟨_, rfl⟩
              rw [hw]
              refine W.widen (k := 41736) (n := 4725395) (Nat.le_of_ble_eq_true rfl) (Nat.le_of_ble_eq_true rfl) ?_
              refine lv_lload_n hx hb dL_law_686 rfl (lv_at hl 4 rfl) ?_
              refine W.lcmp hx hb dL_law_687 ?_
              rw [lg_self]
              refine lv_if_ne (tgt := 705) hx hb dL_law_688 (by decide) (fun c_130 => absurd (by decide) c_130) (fun _ => ?_)
              refine lv_aload_n hx hb dL_law_691 rfl (lv_at hl 5 rfl) ?_
              refine va_calli (vx_runSW (As := [.ref q2]) (rest := []) ⟨hx, hb, hml, hown, hts⟩ (cl_L_undo l hfl D G B0 X A2 q2 C C hS 0 sv u129 fl (by decide) H.size) (vx_cwSW (hh := [(0, 4, 5, 15)]) 1 hts gl_316 rfl rfl rfl (by decide +kernel) ⟨Nat.le_of_ble_eq_true rfl, Nat.le_of_ble_eq_true rfl⟩) (ps_lw hK hW (hE.at hS0 hAB) (fun q h9 => hA2 q (Nat.le_trans hz9 h9)) hAB2) rfl rfl hl.1 rfl (lv_room (Nat.le_of_ble_eq_true rfl)) dL_law_692 ⟨Nat.le_of_ble_eq_true rfl, Nat.le_of_ble_eq_true rfl⟩) hS0 (fun q _ h => hA2A q h) hA2A (fun r u131 t9 H1 locs ht hvm hw hW hz1 hk1 hS0 => ?_)
              have hX : x_undo 0 = 4 := rfl
              rw [hX] at hw hW
              have hw : r = (-1001) := hw
              have hz9 := Nat.le_trans hz9 hz1
              have hAr := P_1c hAr hrn hk1
              have hW : LW D G X A2 q2 C C hS 0 sv u129 fl H1 := LW_h ht hW
              obtain ⟨H, rfl⟩ : ∃ z, z = H1 := ⟨_, rfl⟩
              rw [hw]
              refine W.widen (k := 41737) (n := 4725401) (Nat.le_of_ble_eq_true rfl) (Nat.le_of_ble_eq_true rfl) ?_
              refine lv_sipush (v := -1001) hx hb dL_law_695 (by decide) ?_
              refine lv_icmp_ne (tgt := 705) hx hb dL_law_698 (by decide) (fun c_132 => absurd rfl c_132) (fun _ => ?_)
              refine lv_iconst (v := 1) hx hb dL_law_701 (by decide) ?_
              refine lv_goto (tgt := 706) hx hb dL_law_702 (by decide) ?_
              refine W.widen (k := 600312) (n := 7292994) (Nat.le_of_ble_eq_true rfl) (Nat.le_of_ble_eq_true rfl) ?_
              refine va_forget (fun q hq => hAu _ (hS0.2.2 q hq)) ?_
              refine W.base ?_
              exact lw_ret (Drawn.sameBut.refl s.drawn lw_cs) hx hb hr hlocks dL_law_706
            | succ m8 ih8 =>
              intro k hk c6 lab6 H locs hAr hz9 hW hS0 ls hl
              refine W.widen (k := (30134 + (10400 - 1300 * (m8 + 1))) + 0) (n := (3374583 + (1200800 - 150100 * (m8 + 1))) + 0) (by omega) (by omega) ?_
              have hlt2 : k < n := by omega
              have hO6 := (hI.2.2.2.2.2 (n - k - 1) (by omega)).1
              refine lv_iload hx hb dL_law_620 (lv_at hl 0 rfl) ?_
              refine lv_iload hx hb dL_law_622 (lv_at hl 1 rfl) ?_
              refine lv_icmp_gt (tgt := 663) hx hb dL_law_624 (by decide) (fun c_133 => absurd c_133 (Int32.not_lt.mpr (nI_le (a := k + 1) (b := n) (by omega) (by have := hI.1; omega)))) (fun _ => ?_)
              refine lv_aload_n hx hb dL_law_627 rfl (lv_at hl 5 rfl) ?_
              refine va_calli (vx_runSW (As := [.ref q2]) (rest := []) ⟨hx, hb, hml, hown, hts⟩ (cl_L_undo l hfl D G B0 X A2 q2 c6 C hS (n - k) sv lab6 fl (by omega) H.size) (vx_cwSW (hh := [(0, 4, 5, 15)]) 1 hts gl_316 rfl rfl rfl (by decide +kernel) ⟨Nat.le_of_ble_eq_true rfl, Nat.le_of_ble_eq_true rfl⟩) (ps_lw hK hW (hE.at hS0 hAB) (fun q h9 => hA2 q (Nat.le_trans hz9 h9)) hAB2) rfl rfl hl.1 rfl (lv_room (Nat.le_of_ble_eq_true rfl)) dL_law_628 ⟨(show (30134 + (10400 - 1300 * (m8 + 1))) + 0 + 1 ≤ 600312 by omega), (show (3374583 + (1200800 - 150100 * (m8 + 1))) + 0 + 6 ≤ 7292994 by omega)⟩) hS0 (fun q _ h => hA2A q h) hA2A (fun r u134 t9 H1 locs ht hvm hw hW hz1 hk1 hS0 => ?_)
              have hX : x_undo (n - k) = 0 := (xu_0 (by omega) (by omega))
              rw [hX] at hw hW
              have hw : r = nI ((n - k) - 1) := hw
              have hz9 := Nat.le_trans hz9 hz1
              have hAr := P_1c hAr hrn hk1
              have hW : LW D G X A2 q2 (hS ((n - k) - 1)) C hS ((n - k) - 1) sv lab6 fl H1 := LW_h ht hW
              obtain ⟨H, rfl⟩ : ∃ z, z = H1 := ⟨_, rfl⟩
              rw [hw]
              refine W.widen (k := (30134 + (10400 - 1300 * (m8 + 1))) + 1) (n := (3374583 + (1200800 - 150100 * (m8 + 1))) + 6) (by omega) (by omega) ?_
              refine lv_iload hx hb dL_law_631 (lv_at hl 1 rfl) ?_
              refine lv_iload hx hb dL_law_633 (lv_at hl 0 rfl) ?_
              refine lv_isub hx hb dL_law_635 ?_
              rw [show ((nI n) - (nI (k + 1)) : Int32) = nI (n - (k + 1)) from pk_sub (by omega)]
              refine lv_icmp_ne (tgt := 655) hx hb dL_law_636 (by decide) (fun c_135 => absurd (congrArg nI (show n - k - 1 = n - (k + 1) by omega)) c_135) (fun _ => ?_)
              refine lv_aload_n hx hb dL_law_639 rfl (lv_at hl 5 rfl) ?_
              refine va_calll (va_runS (As := [.ref q2]) (rest := []) ⟨hx, hb, hml, hown, hts⟩ (cl_L_asks l hfl D G B0 X A2 q2 (hS ((n - k) - 1)) C hS ((n - k) - 1) sv lab6 fl hO6.1 (hO6.id (by decide)) hO6.ly H.size) (va_cwS 1 hts gw_L_278 rfl rfl rfl (by decide +kernel) ⟨Nat.le_of_ble_eq_true rfl, Nat.le_of_ble_eq_true rfl⟩) (ps_lw hK hW (hE.at hS0 hAB) (fun q h9 => hA2 q (Nat.le_trans hz9 h9)) hAB2) rfl rfl hl.1 rfl (lv_room (Nat.le_of_ble_eq_true rfl)) dL_law_640 ⟨(show (30134 + (10400 - 1300 * (m8 + 1))) + 1 + 1200 ≤ 600312 by omega), (show (3374583 + (1200800 - 150100 * (m8 + 1))) + 6 + 150000 ≤ 7292994 by omega)⟩) hS0 (fun q _ h => hA2A q h) hA2A (fun r u136 t9 H1 locs ht hvm hw hW hz1 hk1 hS0 => ?_)
              have hz9 := Nat.le_trans hz9 hz1
              have hAr := P_1c hAr hrn hk1
              have hW : LW D G X A2 q2 (hS ((n - k) - 1)) C hS ((n - k) - 1) sv u136 fl H1 := LW_h ht hW
              obtain ⟨H, rfl⟩ : ∃ z, z = H1 := ⟨_, rfl⟩
              rw [hw]
              refine W.widen (k := (30134 + (10400 - 1300 * (m8 + 1))) + 1201) (n := (3374583 + (1200800 - 150100 * (m8 + 1))) + 150006) (by omega) (by omega) ?_
              refine lv_aload hx hb dL_law_643 (lv_at hl 2 rfl) ?_
              refine lv_iload hx hb dL_law_645 (lv_at hl 1 rfl) ?_
              refine lv_iload hx hb dL_law_647 (lv_at hl 0 rfl) ?_
              refine lv_isub hx hb dL_law_649 ?_
              rw [show ((nI n) - (nI (k + 1)) : Int32) = nI (n - (k + 1)) from pk_sub (by omega)]
              refine va_lald hx hb hK hAr 0 5 rfl rfl (vp_in_nI (by omega) (by omega)) dL_law_650 ?_
              rw [nI_clamp (by omega)]
              rw [show f (n - (k + 1)) = ask_v (hS (n - k - 1)) from (hI.2.2.2.2.2 (n - k - 1) (by omega)).2]
              refine W.lcmp hx hb dL_law_651 ?_
              rw [lg_self]
              refine lv_if_eq (tgt := 657) hx hb dL_law_652 (by decide) (fun _ => ?_) (fun c_137 => absurd (by decide) c_137)
              refine lv_iinc (v := nI (k + 1 + 1)) (lv' := [(8, .int (nI (k + 1 + 1))), (7, .int (nI n)), (6, .ref r9), (5, .int (s_countItems C)), (3, .long (ask_v C)), (2, .ref q2), (0, .ref b)]) hx hb dL_law_657 hl (k := 0) rfl (by exact nI_1 (k + 1)) (by decide) rfl (fun ls hl => ?_)
              refine lv_goto (tgt := 620) hx hb dL_law_660 (by decide) ?_
              refine W.widen (k := (30134 + (10400 - 1300 * m8))) (n := (3374583 + (1200800 - 150100 * m8))) (by omega) (by omega) ?_
              exact ih8 (k + 1) (by omega) _ _ _ _ hAr hz9 hW hS0 ls (lv_sub hl [0, 1, 2, 3, 4, 5, 6] rfl)
          refine W.widen (k := (30134 + (10400 - 1300 * n))) (n := (3374583 + (1200800 - 150100 * n))) (by omega) (by omega) ?_
          exact L620 n 0 (by omega) _ _ _ _ hAr hz9 hW hS0 ls (lv_sub hl [0, 1, 2, 3, 4, 5, 6] rfl)
        | succ m9 ih9 =>
          intro i hi c0 hS n sv lab fl f H locs hI hAr hz9 hW hS0 ls hl
          refine W.widen (k := (10334 + (19800 - 2475 * (m9 + 1))) + 0) (n := (964183 + (2410400 - 301300 * (m9 + 1))) + 0) (by omega) (by omega) ?_
          have hlt1 : i < 8 := by omega
          refine lv_iload hx hb dL_law_550 (lv_at hl 0 rfl) ?_
          refine lv_bipush (v := 8) hx hb dL_law_552 (by decide) ?_
          refine lv_icmp_ge (tgt := 617) hx hb dL_law_554 (by decide) (fun c_138 => absurd c_138 (nI_ge (a := i) (b := 8) (by omega) (by omega))) (fun _ => ?_)
          refine lv_aload_n hx hb dL_law_557 rfl (lv_at hl 5 rfl) ?_
          refine va_calll (va_runS (As := [.ref q2]) (rest := []) ⟨hx, hb, hml, hown, hts⟩ (cl_L_asks l hfl D G B0 X A2 q2 c0 C hS n sv lab fl hI.2.1.1 (hI.2.1.id (by omega)) hI.2.1.ly H.size) (va_cwS 1 hts gw_L_278 rfl rfl rfl (by decide +kernel) ⟨Nat.le_of_ble_eq_true rfl, Nat.le_of_ble_eq_true rfl⟩) (ps_lw hK hW (hE.at hS0 hAB) (fun q h9 => hA2 q (Nat.le_trans hz9 h9)) hAB2) rfl rfl hl.1 rfl (lv_room (Nat.le_of_ble_eq_true rfl)) dL_law_558 ⟨(show (10334 + (19800 - 2475 * (m9 + 1))) + 0 + 1200 ≤ 600312 by omega), (show (964183 + (2410400 - 301300 * (m9 + 1))) + 0 + 150000 ≤ 7292994 by omega)⟩) hS0 (fun q _ h => hA2A q h) hA2A (fun r u139 t9 H1 locs ht hvm hw hW hz1 hk1 hS0 => ?_)
          have hz9 := Nat.le_trans hz9 hz1
          have hAr := P_1c hAr hrn hk1
          have hW : LW D G X A2 q2 c0 C hS n sv u139 fl H1 := LW_h ht hW
          obtain ⟨H, rfl⟩ : ∃ z, z = H1 := ⟨_, rfl⟩
          rw [hw]
          refine W.widen (k := (10334 + (19800 - 2475 * (m9 + 1))) + 1200) (n := (964183 + (2410400 - 301300 * (m9 + 1))) + 150000) (by omega) (by omega) ?_
          refine lv_lstore (lv' := [(9, .long (ask_v c0)), (8, .int (nI i)), (7, .int (nI n)), (6, .ref r9), (5, .int (s_countItems C)), (3, .long (ask_v C)), (2, .ref q2), (0, .ref b)]) hx hb dL_law_561 hl (by decide) rfl (fun ls hl => ?_)
          refine lv_aload_n hx hb dL_law_563 rfl (lv_at hl 6 rfl) ?_
          refine lv_aload_n hx hb dL_law_564 rfl (lv_at hl 7 rfl) ?_
          refine lv_bipush (v := 20) hx hb dL_law_565 (by decide) ?_
          refine lv_iload hx hb dL_law_567 (lv_at hl 1 rfl) ?_
          refine lv_iadd hx hb dL_law_569 ?_
          rw [show (20 + (nI i) : Int32) = nI (20 + i) from nI_add 20 i]
          refine vp_callSi (va_runS (As := [.ref b, .int (nI (20 + i))]) (rest := [.ref q2]) ⟨hx, hb, hml, hown, hts⟩ (cl_L_at l b L xs (20 + i) hL (by omega)) (va_cwS 2 hts gw_L_180 rfl rfl rfl (by decide +kernel) ⟨Nat.le_of_ble_eq_true rfl, Nat.le_of_ble_eq_true rfl⟩) (ps_x (X_at hXs hbl hbA hS0) (Nat.lt_of_lt_of_le hbl hS0.1)) rfl rfl hl.1 rfl (lv_room (Nat.le_of_ble_eq_true rfl)) dL_law_570 ⟨(show (10334 + (19800 - 2475 * (m9 + 1))) + 1200 + 0 ≤ 600312 by omega), (show (964183 + (2410400 - 301300 * (m9 + 1))) + 150000 + 0 ≤ 7292994 by omega)⟩).run (fun r140 _ => ?_)
          refine lv_iload hx hb dL_law_573 (lv_at hl 1 rfl) ?_
          refine lv_sipush (v := 977) hx hb dL_law_575 (by decide) ?_
          refine lv_imul hx hb dL_law_578 ?_
          refine lv_ixor hx hb dL_law_579 ?_
          refine va_calli (va_runS (As := [.ref q2, .int (r140 ^^^ ((nI i) * 977))]) (rest := []) ⟨hx, hb, hml, hown, hts⟩ (cl_L_changes l hfl D G B0 X A2 q2 c0 C hS n sv u139 fl (r140 ^^^ ((nI i) * 977)) (11 + 11 * i) (by omega) hI.2.1 (by have := hI.1; omega) hI.2.2.1 hI.2.2.2.1 H.size) (va_cwS 2 hts gw_L_334 rfl rfl rfl (by decide +kernel) ⟨Nat.le_of_ble_eq_true rfl, Nat.le_of_ble_eq_true rfl⟩) (ps_lw hK hW (hE.at hS0 hAB) (fun q h9 => hA2 q (Nat.le_trans hz9 h9)) hAB2) rfl rfl hl.1 rfl (lv_room (Nat.le_of_ble_eq_true rfl)) dL_law_580 ⟨(show (10334 + (19800 - 2475 * (m9 + 1))) + 1200 + 75 ≤ 600312 by omega), (show (964183 + (2410400 - 301300 * (m9 + 1))) + 150000 + 1300 ≤ 7292994 by omega)⟩) hS0 (fun q _ h => hA2A q h) hA2A (fun r u141 t9 H1 locs ht hvm hw hW hz1 hk1 hS0 => ?_)
          obtain ⟨c7, hS7, n7, sv7, fl7⟩ := u141
          have hw : CHp (11 + 11 * i) c0 hS n fl r (c7, hS7, n7, sv7, fl7) := hw
          have hz9 := Nat.le_trans hz9 hz1
          have hAr := P_1c hAr hrn hk1
          have hW : LW D G X A2 q2 c7 C hS7 n7 sv7 u139 fl7 H1 := LW_h ht hW
          obtain ⟨H, rfl⟩ : ∃ z, z = H1 := ⟨_, rfl⟩
          refine W.widen (k := (10334 + (19800 - 2475 * (m9 + 1))) + 1275) (n := (964183 + (2410400 - 301300 * (m9 + 1))) + 151300) (by omega) (by omega) ?_
          obtain ⟨k1, k2, k3, k4, k5⟩ := hw
          rcases k5 with ⟨e1, e2, e3⟩ | ⟨e1, e0, e2, e3⟩
          · skip
            have hI0 := hI
            have e2 : hS7 = va_up hS n c0 := e2
            have e3 : n7 = n + 1 := e3
            rw [e2, e3] at hW
            rw [e1]
            have hI := WS_up hI hlt1 k1 k2 k3 k4
            refine lv_if_eq (tgt := 599) hx hb dL_law_583 (by decide) (fun c_142 => absurd c_142 (by decide)) (fun _ => ?_)
            refine lv_aload hx hb dL_law_586 (lv_at hl 3 rfl) ?_
            refine lv_iload hx hb dL_law_588 (lv_at hl 2 rfl) ?_
            refine lv_iinc (v := nI (n + 1)) (lv' := [(7, .int (nI (n + 1))), (9, .long (ask_v c0)), (8, .int (nI i)), (6, .ref r9), (5, .int (s_countItems C)), (3, .long (ask_v C)), (2, .ref q2), (0, .ref b)]) hx hb dL_law_590 hl (k := 2) rfl (by exact nI_1 n) (by decide) rfl (fun ls hl => ?_)
            refine lv_lload hx hb dL_law_593 (lv_at hl 1 rfl) ?_
            refine va_forget (fun q hq => hAu _ (hS0.2.2 q hq)) ?_
            refine va_last hx hb hK hAr (D_1c (A := fun q => q = r9) rfl) (va_S.rf (A := fun q => q = r9) (H0 := H)) 0 5 rfl rfl (vp_in_nI (by have := hI0.1; omega) (by omega)) dL_law_595 (fun H2 locs hAr2 hDr2 hS2 => ?_)
            rw [nI_clamp (by have := hI0.1; omega)] at hAr2
            have hW := LW_keep hW (A1 := fun q => q = r9) hS2.2.1 (fun q hq _ h9 => hrn (by rw [← show q = r9 from h9]; exact hq))
            have hS0 : va_S A s.heap H2 locs := S_tr (S_nil hS0) hS2 (fun q h9 => by rw [show q = r9 from h9]; exact hAr9)
            have hz9 := Nat.le_trans hz9 hS2.1
            have hAr : va_P D vwCl [((r9, .inl (G 5, 9, .inr (.inl (vp_updL f n (ask_v c0))))) : Nat × va_E)] H2 := hAr2
            obtain ⟨H, rfl⟩ : ∃ z, z = H2 := ⟨_, rfl⟩
            refine lv_goto (tgt := 611) hx hb dL_law_596 (by decide) ?_
            refine lv_iinc (v := nI (i + 1)) (lv' := [(8, .int (nI (i + 1))), (7, .int (nI (n + 1))), (9, .long (ask_v c0)), (6, .ref r9), (5, .int (s_countItems C)), (3, .long (ask_v C)), (2, .ref q2), (0, .ref b)]) hx hb dL_law_611 hl (k := 2) rfl (by exact nI_1 i) (by decide) rfl (fun ls hl => ?_)
            refine lv_goto (tgt := 550) hx hb dL_law_614 (by decide) ?_
            refine W.widen (k := (10334 + (19800 - 2475 * m9))) (n := (964183 + (2410400 - 301300 * m9))) (by omega) (by omega) ?_
            exact ih9 (i + 1) (by omega) _ _ _ _ _ _ _ _ _ hI hAr hz9 hW hS0 ls (lv_sub hl [0, 1, 3, 4, 5, 6, 7] rfl)
          · skip
            have hI0 := hI
            have e0 : c7 = c0 := e0
            have e2 : hS7 = hS := e2
            have e3 : n7 = n := e3
            rw [e0, e2, e3] at hW
            rw [e1]
            have hI := WS_no hI k2 k3 k4
            refine lv_if_eq (tgt := 599) hx hb dL_law_583 (by decide) (fun _ => ?_) (fun c_143 => absurd (by decide) c_143)
            refine lv_aload_n hx hb dL_law_599 rfl (lv_at hl 6 rfl) ?_
            refine va_calll (va_runS (As := [.ref q2]) (rest := []) ⟨hx, hb, hml, hown, hts⟩ (cl_L_asks l hfl D G B0 X A2 q2 c0 C hS n sv7 u139 fl7 hI.2.1.1 (hI.2.1.id (by omega)) hI.2.1.ly H.size) (va_cwS 1 hts gw_L_278 rfl rfl rfl (by decide +kernel) ⟨Nat.le_of_ble_eq_true rfl, Nat.le_of_ble_eq_true rfl⟩) (ps_lw hK hW (hE.at hS0 hAB) (fun q h9 => hA2 q (Nat.le_trans hz9 h9)) hAB2) rfl rfl hl.1 rfl (lv_room (Nat.le_of_ble_eq_true rfl)) dL_law_600 ⟨(show (10334 + (19800 - 2475 * (m9 + 1))) + 1275 + 1200 ≤ 600312 by omega), (show (964183 + (2410400 - 301300 * (m9 + 1))) + 151300 + 150000 ≤ 7292994 by omega)⟩) hS0 (fun q _ h => hA2A q h) hA2A (fun r u144 t9 H1 locs ht hvm hw hW hz1 hk1 hS0 => ?_)
            have hz9 := Nat.le_trans hz9 hz1
            have hAr := P_1c hAr hrn hk1
            have hW : LW D G X A2 q2 c0 C hS n sv7 u144 fl7 H1 := LW_h ht hW
            obtain ⟨H, rfl⟩ : ∃ z, z = H1 := ⟨_, rfl⟩
            rw [hw]
            refine W.widen (k := (10334 + (19800 - 2475 * (m9 + 1))) + 2475) (n := (964183 + (2410400 - 301300 * (m9 + 1))) + 301300) (by omega) (by omega) ?_
            refine lv_lload hx hb dL_law_603 (lv_at hl 0 rfl) ?_
            refine W.lcmp hx hb dL_law_605 ?_
            rw [lg_self]
            refine lv_if_eq (tgt := 611) hx hb dL_law_606 (by decide) (fun _ => ?_) (fun c_145 => absurd (by decide) c_145)
            refine lv_iinc (v := nI (i + 1)) (lv' := [(8, .int (nI (i + 1))), (9, .long (ask_v c0)), (7, .int (nI n)), (6, .ref r9), (5, .int (s_countItems C)), (3, .long (ask_v C)), (2, .ref q2), (0, .ref b)]) hx hb dL_law_611 hl (k := 1) rfl (by exact nI_1 i) (by decide) rfl (fun ls hl => ?_)
            refine lv_goto (tgt := 550) hx hb dL_law_614 (by decide) ?_
            refine W.widen (k := (10334 + (19800 - 2475 * m9))) (n := (964183 + (2410400 - 301300 * m9))) (by omega) (by omega) ?_
            exact ih9 (i + 1) (by omega) _ _ _ _ _ _ _ _ _ hI hAr hz9 hW hS0 ls (lv_sub hl [0, 2, 3, 4, 5, 6, 7] rfl)
      refine W.widen (k := (10334 + (19800 - 2475 * 8))) (n := (964183 + (2410400 - 301300 * 8))) (by omega) (by omega) ?_
      exact L550 8 0 (by omega) _ _ _ _ _ _ _ _ _ hI0 hAr hz9 hW hS0 ls (lv_sub hl [0, 1, 2, 3, 4, 5, 7] rfl)
    | succ m9 ih1 =>
      intro k hk1  H locs  hW hS0 ls hl
      have hlt1 : k < 60 := by omega
      refine W.widen (k := (188 + (60 - 1 * (m9 + 1))) + 0) (n := (1616 + (360 - 6 * (m9 + 1))) + 0) (by omega) (by omega) ?_
      refine lv_iload_n hx hb dL_law_48 rfl (lv_at hl 0 rfl) ?_
      refine lv_bipush (v := 60) hx hb dL_law_49 (by decide) ?_
      refine lv_icmp_ge (tgt := 77) hx hb dL_law_51 (by decide) (fun c_146 => absurd c_146 (nI_ge (a := k) (b := 60) (by omega) (by omega))) (fun _ => ?_)
      refine lv_aload_n hx hb dL_law_54 rfl (lv_at hl 1 rfl) ?_
      refine lv_bipush (v := 65) hx hb dL_law_55 (by decide) ?_
      refine lv_iload_n hx hb dL_law_57 rfl (lv_at hl 0 rfl) ?_
      refine lv_iadd hx hb dL_law_58 ?_
      rw [show (65 + (nI k) : Int32) = nI (65 + k) from nI_add 65 k]
      refine lv_i2c (v := T60.getD k 0) hx hb dL_law_59 (T60_c k hlt1).1 ?_
      refine va_calli (vx_runSW (As := [.ref q1, .int (T60.getD k 0)]) (rest := []) ⟨hx, hb, hml, hown, hts⟩ (cl_L_type l hfl D G B0 X A q1 (zA 0) st0 hS_2 hn_2 (lp (ty T60) k sv0) ([]) (upd fl0 0 1) (T60.getD k 0) (ty_ok sv0_ok.1 sv0_ok.2 k (by omega)).1 (ch_ok (T60_c k hlt1).2.1 (T60_c k hlt1).2.2) H.size) (vx_cwSW (hh := [(0, 5, 6, 13), (0, 5, 11, 15)]) 2 hts gl_161 rfl rfl rfl (by decide +kernel) ⟨Nat.le_of_ble_eq_true rfl, Nat.le_of_ble_eq_true rfl⟩) (ps_lw hK hW (hE.at hS0 hAB) (AH hA0 hS0) hAB) rfl rfl hl.1 rfl (lv_room (Nat.le_of_ble_eq_true rfl)) dL_law_60 ⟨(show (188 + (60 - 1 * (m9 + 1))) + 0 + 1 ≤ 600312 by omega), (show (1616 + (360 - 6 * (m9 + 1))) + 0 + 6 ≤ 7292994 by omega)⟩) hS0 (fun q _ h => h) (fun q h => h) (fun r u147 t9 H1 locs ht hvm hw hW hz1 hk1 hS0 => ?_)
      have hX : x_type (lp (ty T60) k sv0) (T60.getD k 0) = 0 := x_type_0 (T60_c k hlt1).2.1 (T60_c k hlt1).2.2 (by rw [(ty_ok sv0_ok.1 sv0_ok.2 k (by omega)).2]; omega)
      rw [hX] at hw hW
      have hw : r = nI ((lp (ty T60) k sv0).2.2.1 + 1) := hw
      have hW : LW D G X A q1 (zA 0) st0 hS_2 hn_2 (lp (ty T60) (k + 1) sv0) ([]) (upd fl0 0 1) H1 := LW_h ht hW
      obtain ⟨H, rfl⟩ : ∃ z, z = H1 := ⟨_, rfl⟩
      rw [hw]
      refine W.widen (k := (188 + (60 - 1 * (m9 + 1))) + 1) (n := (1616 + (360 - 6 * (m9 + 1))) + 6) (by omega) (by omega) ?_
      rw [show (nI ((lp (ty T60) k sv0).2.2.1 + 1)) = nI (k + 1) from by rw [(ty_ok sv0_ok.1 sv0_ok.2 k (by omega)).2]]
      refine lv_iload_n hx hb dL_law_63 rfl (lv_at hl 0 rfl) ?_
      refine lv_iconst (v := 1) hx hb dL_law_64 (by decide) ?_
      refine lv_iadd hx hb dL_law_65 ?_
      rw [show ((nI k) + 1 : Int32) = nI (k + 1) from nI_add k 1]
      refine lv_icmp_eq (tgt := 71) hx hb dL_law_66 (by decide) (fun _ => ?_) (fun c_148 => absurd rfl c_148)
      refine lv_iinc (v := nI (k + 1)) (lv' := [(2, .int (nI (k + 1))), (1, .ref q1), (0, .ref b)]) hx hb dL_law_71 hl (k := 0) rfl (by exact nI_1 k) (by decide) rfl (fun ls hl => ?_)
      refine lv_goto (tgt := 48) hx hb dL_law_74 (by decide) ?_
      refine W.widen (k := (188 + (60 - 1 * m9))) (n := (1616 + (360 - 6 * m9))) (by omega) (by omega) ?_
      exact ih1 (k + 1) (by omega) _ _ hW hS0 ls (lv_sub hl [0, 1, 2] rfl)
  refine W.widen (k := (188 + (60 - 1 * 60))) (n := (1616 + (360 - 6 * 60))) (by omega) (by omega) ?_
  exact L48 60 0 (by omega) _ _ hW hS0 ls (lv_sub hl [0, 1, 2] rfl)
