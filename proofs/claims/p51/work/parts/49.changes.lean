theorem gw_L_257 : GoodIn tb (wsV RL 257 RJ4 yJ4_append_15ec4 (wA yJ4_append_15ec4 cJ4_append_15ec4 2 (some (.object "java/lang/StringBuilder")))) := gV kw_1358 kw_1043 kw_1044 kw_32 kw_1045
theorem gw_L_261 : GoodIn tb (wsV RL 261 RJ4 yJ4_append_bf812 (wA yJ4_append_bf812 cJ4_append_bf812 2 (some (.object "java/lang/StringBuilder")))) := gV kw_1359 kw_1140 kw_1141 kw_32 kw_1142
theorem gw_L_266 : GoodIn tb (wsV RL 266 RJ4 yJ4_toString_0e30d (wA yJ4_toString_0e30d cJ4_toString_0e30d 1 (some (.object "java/lang/String")))) := gV kw_1361 kw_1165 kw_1166 kw_32 kw_1167
set_option maxRecDepth 100000 in
set_option maxHeartbeats 8000000 in
theorem cl_L_changes (l : Launch) (hfl : l.stackTraces = false) (D : va_G) (G : GA) (B0 : Nat) (X : Nat → Nat → Nat) (A : Nat → Prop) (h : Nat) (c0 c2 : CS) (hS : Nat → CS) (hn : Nat) (sv : SV) (lab : List Int32) (fl : Nat → Int32) (x : Int32) (m9 : Nat) (hm : m9 ≤ 88) (hO : OKc m9 c0) (h8 : hn < 8) (hsv : SVok sv) (hs0 : sv.2.2.1 = 0) (sz : Nat) : Met l yL_changes (wA yL_changes cL_changes 4 (some .boolean)) ({ frames := 10, cells := 75, slots := 1300, locals := 228 } : Room) (va_Pc [.ref h, .int x] (LWp D G B0 X A h c0 c2 hS hn sv lab fl sz)) (va_Qi (fun (r : Int32) (u : CS × (Nat → CS) × Nat × SV × (Nat → Int32)) => CHp m9 c0 hS hn fl r u) (fun u t9 => LW D G X A h u.1 c2 u.2.1 u.2.2.1 u.2.2.2.1 lab u.2.2.2.2 t9.heap) A) 75 1300 A := by
  refine Met.ofW (cc := cL_changes) (maxL := 4) (ret := (some .boolean)) (by decide) rfl ?_
  intro p9 e s m args below meth c9 s₁ B hml hv
  obtain ⟨rfl, hsz, hW, hK, hE, hA0, hAB⟩ := hv
  subst hsz
  have hx := B.exec
  have hb := B.bytes
  have hr := B.returns
  have hts : ∀ w9 ∈ tb, w9.before ([.ref h, .int x] : List Value).toArray s = true := fun w9 h9 => atoms_spec (ws := (wA yL_changes cL_changes 4 (some .boolean))) B.pre w9 (List.mem_cons_of_mem _ h9)
  have hown : s.vm.findClass RL = some m.cls := findClass_of_methodNamed B.named
  have hlocks := B.notSynchronized
  have hS0 : va_S A s.heap s.heap [] := va_S.rf
  have hl := lv_entry ([.ref h, .int x]) (n := 4) (Nat.le_of_ble_eq_true rfl)
  rw [lg_entry_eq]
  generalize (lg_sl ([.ref h, .int x]) ++ List.replicate (4 - (lg_sl ([.ref h, .int x])).length) Slot.unset).toArray = ls at hl ⊢
  have hl : lv_has ls 4 [(0, .ref h), (1, .int x)] := hl
  have hB3 := hO.1.2
  refine lv_iload_n hx hb dL_changes_0 rfl (lv_at hl 1 rfl) ?_
  refine lv_iconst (v := 4) hx hb dL_changes_1 (by decide) ?_
  refine lv_ishr hx hb dL_changes_2 ?_
  obtain ⟨i1, hv_1⟩ : ∃ z : Int32, z = x >>> (4 &&& 31) := ⟨_, rfl⟩
  rw [← hv_1]
  refine lv_bipush (v := 14) hx hb dL_changes_3 (by decide) ?_
  refine vp_callSi (va_runS (As := [.int i1, .int (nI 14)]) (rest := []) ⟨hx, hb, hml, hown, hts⟩ (cl_L_some l i1 14 (by omega) (by omega)) (va_cwS 2 hts gw_L_184 rfl rfl rfl (by decide +kernel) ⟨Nat.le_of_ble_eq_true rfl, Nat.le_of_ble_eq_true rfl⟩) ps_0 rfl rfl hl.1 rfl (lv_room (Nat.le_of_ble_eq_true rfl)) dL_changes_5 ⟨Nat.le_of_ble_eq_true rfl, Nat.le_of_ble_eq_true rfl⟩).run (fun r2 h9 => ?_)
  obtain ⟨j2, hj2, rfl⟩ := h9
  refine lv_istore_n (lv' := [(2, .int (nI j2)), (0, .ref h), (1, .int x)]) hx hb dL_changes_8 rfl hl (by decide) rfl (fun ls hl => ?_)
  refine lv_iload_n hx hb dL_changes_9 rfl (lv_at hl 2 rfl) ?_
  refine lv_bipush (v := 8) hx hb dL_changes_10 (by decide) ?_
  refine lv_ishr hx hb dL_changes_12 ?_
  obtain ⟨i3, hv_3⟩ : ∃ z : Int32, z = x >>> (8 &&& 31) := ⟨_, rfl⟩
  rw [← hv_3]
  refine lv_aload_n hx hb dL_changes_13 rfl (lv_at hl 1 rfl) ?_
  refine vp_callSi (va_runV (As := []) (rest := [.int i3]) ⟨hx, hb, hml, hown, hts⟩ (cq_X7_bagCount l D G B0 X A h c0 c2 hS hn sv lab fl s.heap.size) (cwV 0 hts gw_L_200 rfl rfl rfl (by decide +kernel) ⟨Nat.le_of_ble_eq_true rfl, Nat.le_of_ble_eq_true rfl⟩) (pv_lw hK hW (hE.at hS0 hAB) (AH hA0 hS0) hAB) rfl rfl hl.1 rfl (lv_room (Nat.le_of_ble_eq_true rfl)) dL_changes_14 ⟨Nat.le_of_ble_eq_true rfl, Nat.le_of_ble_eq_true rfl⟩).run (nm_e ?_)
  rw [show c0.2.2 1 = nI (nbg c0) from hO.1.1]
  refine lv_iconst (v := 1) hx hb dL_changes_17 (by decide) ?_
  refine lv_iadd hx hb dL_changes_18 ?_
  rw [nI_1 (nbg c0)]
  refine vp_callSi (va_runS (As := [.int i3, .int (nI (nbg c0 + 1))]) (rest := []) ⟨hx, hb, hml, hown, hts⟩ (cl_L_some l i3 (nbg c0 + 1) (by omega) (by omega)) (va_cwS 2 hts gw_L_184 rfl rfl rfl (by decide +kernel) ⟨Nat.le_of_ble_eq_true rfl, Nat.le_of_ble_eq_true rfl⟩) ps_0 rfl rfl hl.1 rfl (lv_room (Nat.le_of_ble_eq_true rfl)) dL_changes_19 ⟨Nat.le_of_ble_eq_true rfl, Nat.le_of_ble_eq_true rfl⟩).run (fun r4 h9 => ?_)
  obtain ⟨j4, hj4, rfl⟩ := h9
  refine lv_istore_n (lv' := [(3, .int (nI j4)), (2, .int (nI j2)), (0, .ref h), (1, .int x)]) hx hb dL_changes_22 rfl hl (by decide) rfl (fun ls hl => ?_)
  refine lv_iload_n hx hb dL_changes_23 rfl (lv_at hl 3 rfl) ?_
  refine lv_bipush (v := 22) hx hb dL_changes_24 (by decide) ?_
  refine vp_callSi (va_runS (As := [.int x, .int (nI 22)]) (rest := []) ⟨hx, hb, hml, hown, hts⟩ (cl_L_some l x 22 (by omega) (by omega)) (va_cwS 2 hts gw_L_184 rfl rfl rfl (by decide +kernel) ⟨Nat.le_of_ble_eq_true rfl, Nat.le_of_ble_eq_true rfl⟩) ps_0 rfl rfl hl.1 rfl (lv_room (Nat.le_of_ble_eq_true rfl)) dL_changes_26 ⟨Nat.le_of_ble_eq_true rfl, Nat.le_of_ble_eq_true rfl⟩).run (fun r5 h9 => ?_)
  obtain ⟨j5, hj5, rfl⟩ := h9
  have J137 : ∀ ls : Array Slot, lv_has ls 4 [(3, .int (nI j4)), (2, .int (nI j2)), (0, .ref h), (1, .int x)] → W p9 l e (headSpec (wA yL_changes cL_changes 4 (some .boolean)) ({ frames := 10, cells := 75, slots := 1300, locals := 228 } : Room)).room s m ([.ref h, .int x] : List Value).toArray below meth c9 s.heap [] (0) (0) (MQ below (va_Qi (fun (r : Int32) (u : CS × (Nat → CS) × Nat × SV × (Nat → Int32)) => CHp m9 c0 hS hn fl r u) (fun u t9 => LW D G X A h u.1 c2 u.2.1 u.2.2.1 u.2.2.2.1 lab u.2.2.2.2 t9.heap) A) ([.ref h, .int x] : List Value).toArray s 75 1300 A) (F0 m 137 ls []) := by
    intro ls hl
    refine lv_aload_n hx hb dL_changes_137 rfl (lv_at hl 2 rfl) ?_
    refine lv_iload_n hx hb dL_changes_138 rfl (lv_at hl 3 rfl) ?_
    refine lv_iconst (v := 4) hx hb dL_changes_139 (by decide) ?_
    refine lv_ishr hx hb dL_changes_140 ?_
    obtain ⟨i6, hv_6⟩ : ∃ z : Int32, z = x >>> (4 &&& 31) := ⟨_, rfl⟩
    rw [← hv_6]
    refine lv_bipush (v := 12) hx hb dL_changes_141 (by decide) ?_
    refine vp_callSi (va_runS (As := [.int i6, .int (nI 12)]) (rest := [.ref h]) ⟨hx, hb, hml, hown, hts⟩ (cl_L_some l i6 12 (by omega) (by omega)) (va_cwS 2 hts gw_L_184 rfl rfl rfl (by decide +kernel) ⟨Nat.le_of_ble_eq_true rfl, Nat.le_of_ble_eq_true rfl⟩) ps_0 rfl rfl hl.1 rfl (lv_room (Nat.le_of_ble_eq_true rfl)) dL_changes_143 ⟨Nat.le_of_ble_eq_true rfl, Nat.le_of_ble_eq_true rfl⟩).run (fun r7 h9 => ?_)
    obtain ⟨j7, hj7, rfl⟩ := h9
    refine lv_iload_n hx hb dL_changes_146 rfl (lv_at hl 3 rfl) ?_
    refine lv_bipush (v := 7) hx hb dL_changes_147 (by decide) ?_
    refine lv_ishr hx hb dL_changes_149 ?_
    obtain ⟨i8, hv_8⟩ : ∃ z : Int32, z = x >>> (7 &&& 31) := ⟨_, rfl⟩
    rw [← hv_8]
    refine lv_bipush (v := 22) hx hb dL_changes_150 (by decide) ?_
    refine vp_callSi (va_runS (As := [.int i8, .int (nI 22)]) (rest := [.int (nI j7), .ref h]) ⟨hx, hb, hml, hown, hts⟩ (cl_L_some l i8 22 (by omega) (by omega)) (va_cwS 2 hts gw_L_184 rfl rfl rfl (by decide +kernel) ⟨Nat.le_of_ble_eq_true rfl, Nat.le_of_ble_eq_true rfl⟩) ps_0 rfl rfl hl.1 rfl (lv_room (Nat.le_of_ble_eq_true rfl)) dL_changes_152 ⟨Nat.le_of_ble_eq_true rfl, Nat.le_of_ble_eq_true rfl⟩).run (fun r9 h9 => ?_)
    obtain ⟨j9, hj9, rfl⟩ := h9
    refine lv_iload_n hx hb dL_changes_155 rfl (lv_at hl 3 rfl) ?_
    refine lv_bipush (v := 9) hx hb dL_changes_156 (by decide) ?_
    refine lv_ishr hx hb dL_changes_158 ?_
    obtain ⟨i10, hv_10⟩ : ∃ z : Int32, z = x >>> (9 &&& 31) := ⟨_, rfl⟩
    rw [← hv_10]
    refine lv_bipush (v := 32) hx hb dL_changes_159 (by decide) ?_
    refine vp_callSi (va_runS (As := [.int i10, .int (nI 32)]) (rest := [.int (nI j9), .int (nI j7), .ref h]) ⟨hx, hb, hml, hown, hts⟩ (cl_L_some l i10 32 (by omega) (by omega)) (va_cwS 2 hts gw_L_184 rfl rfl rfl (by decide +kernel) ⟨Nat.le_of_ble_eq_true rfl, Nat.le_of_ble_eq_true rfl⟩) ps_0 rfl rfl hl.1 rfl (lv_room (Nat.le_of_ble_eq_true rfl)) dL_changes_161 ⟨Nat.le_of_ble_eq_true rfl, Nat.le_of_ble_eq_true rfl⟩).run (fun r11 h9 => ?_)
    obtain ⟨j11, hj11, rfl⟩ := h9
    refine lv_iload_n hx hb dL_changes_164 rfl (lv_at hl 3 rfl) ?_
    refine lv_bipush (v := 64) hx hb dL_changes_165 (by decide) ?_
    refine lv_iand hx hb dL_changes_167 ?_
    refine lv_if_ne (tgt := 175) hx hb dL_changes_168 (by decide) (fun c_b => ?_) (fun c_b => ?_)
    · skip
      refine lv_iconst (v := 0) hx hb dL_changes_175 (by decide) ?_
      rcases rg_f_takeIn c0 (nI j7) (nI j9) (nI j11) with hX9 | hX9 | hX9
      · skip
        refine va_calli (vx_runSW (As := [.ref h, .int (nI j7), .int (nI j9), .int (nI j11), .int 0]) (rest := []) ⟨hx, hb, hml, hown, hts⟩ (cl_L_addItem l hfl D G B0 X A h c0 c2 hS hn sv lab fl (nI j7) (nI j9) (nI j11) false (Nat.le_of_lt h8) s.heap.size) (vx_cwSW (hh := [(0, 9, 10, 13), (0, 9, 16, 15)]) 5 hts gl_189 rfl rfl rfl (by decide +kernel) ⟨Nat.le_of_ble_eq_true rfl, Nat.le_of_ble_eq_true rfl⟩) (ps_lw hK hW (hE.at hS0 hAB) (AH hA0 hS0) hAB) rfl rfl hl.1 rfl (lv_room (Nat.le_of_ble_eq_true rfl)) dL_changes_176 ⟨Nat.le_of_ble_eq_true rfl, Nat.le_of_ble_eq_true rfl⟩) hS0 (fun q _ h => h) (fun q h => h) (fun r u12 t9 H1 locs ht hvm hw hW hz1 hk1 hS0 => ?_)
        have hX : f_takeIn c0 (nI j7) (nI j9) (nI j11) = 0 := hX9
        rw [hX] at hw hW
        have hw : r = (m_takeIn c0 (nI j7) (nI j9) (nI j11) false).1 := hw
        have hW : LW D G X A h ((m_takeIn c0 (nI j7) (nI j9) (nI j11) false).2) c2 (pS hS hn c0) (pN hn) sv lab fl H1 := LW_h ht hW
        obtain ⟨H, rfl⟩ : ∃ z, z = H1 := ⟨_, rfl⟩
        rw [hw]
        refine W.widen (k := 1) (n := 6) (Nat.le_of_ble_eq_true rfl) (Nat.le_of_ble_eq_true rfl) ?_
        refine lv_if_lt (tgt := 186) hx hb dL_changes_179 (by decide) (fun c_13 => absurd c_13 (nn_take hO (by omega) hX)) (fun _ => ?_)
        refine lv_iconst (v := 1) hx hb dL_changes_182 (by decide) ?_
        refine lv_goto (tgt := 187) hx hb dL_changes_183 (by decide) ?_
        refine W.widen (k := 75) (n := 1300) (Nat.le_of_ble_eq_true rfl) (Nat.le_of_ble_eq_true rfl) ?_
        have hOK : OKc (m9 + 11) ((m_takeIn c0 (nI j7) (nI j9) (nI j11) false).2) := ((OKc_takeIn hO _ _ _ _ (fr_takeIn hX)).mono (by omega))
        obtain ⟨c8, hc8⟩ : ∃ c8, c8 = (m_takeIn c0 (nI j7) (nI j9) (nI j11) false).2 := ⟨_, rfl⟩
        rw [← hc8] at hW hOK
        clear hc8
        exact W.zret (ty := .boolean) (v := 1) hx hb hr (by decide) (fun t ht hWm => ⟨⟨_, (c8, pS hS hn c0, pN hn, sv, fl), rfl, CH_1 h8 hOK hsv hs0 rfl, LW_t ht hW⟩, hS0.F ht⟩) hS0.2.2 dL_changes_187
      · skip
        refine va_calli (vx_runSW (As := [.ref h, .int (nI j7), .int (nI j9), .int (nI j11), .int 0]) (rest := []) ⟨hx, hb, hml, hown, hts⟩ (cl_L_addItem l hfl D G B0 X A h c0 c2 hS hn sv lab fl (nI j7) (nI j9) (nI j11) false (Nat.le_of_lt h8) s.heap.size) (vx_cwSW (hh := [(0, 9, 10, 13), (0, 9, 16, 15)]) 5 hts gl_189 rfl rfl rfl (by decide +kernel) ⟨Nat.le_of_ble_eq_true rfl, Nat.le_of_ble_eq_true rfl⟩) (ps_lw hK hW (hE.at hS0 hAB) (AH hA0 hS0) hAB) rfl rfl hl.1 rfl (lv_room (Nat.le_of_ble_eq_true rfl)) dL_changes_176 ⟨Nat.le_of_ble_eq_true rfl, Nat.le_of_ble_eq_true rfl⟩) hS0 (fun q _ h => h) (fun q h => h) (fun r u14 t9 H1 locs ht hvm hw hW hz1 hk1 hS0 => ?_)
        have hX : f_takeIn c0 (nI j7) (nI j9) (nI j11) = 1 := hX9
        rw [hX] at hw hW
        have hw : r = (-1001) := hw
        have hW : LW D G X A h c0 c2 hS hn sv lab fl H1 := LW_h ht hW
        obtain ⟨H, rfl⟩ : ∃ z, z = H1 := ⟨_, rfl⟩
        rw [hw]
        refine W.widen (k := 1) (n := 6) (Nat.le_of_ble_eq_true rfl) (Nat.le_of_ble_eq_true rfl) ?_
        refine lv_if_lt (tgt := 186) hx hb dL_changes_179 (by decide) (fun _ => ?_) (fun c_15 => absurd (by decide) c_15)
        refine lv_iconst (v := 0) hx hb dL_changes_186 (by decide) ?_
        refine W.widen (k := 75) (n := 1300) (Nat.le_of_ble_eq_true rfl) (Nat.le_of_ble_eq_true rfl) ?_
        exact W.zret (ty := .boolean) (v := 0) hx hb hr (by decide) (fun t ht hWm => ⟨⟨_, (c0, hS, hn, sv, fl), rfl, CH_0 hO hsv hs0 rfl, LW_t ht hW⟩, hS0.F ht⟩) hS0.2.2 dL_changes_187
      · skip
        refine va_calli (vx_runSW (As := [.ref h, .int (nI j7), .int (nI j9), .int (nI j11), .int 0]) (rest := []) ⟨hx, hb, hml, hown, hts⟩ (cl_L_addItem l hfl D G B0 X A h c0 c2 hS hn sv lab fl (nI j7) (nI j9) (nI j11) false (Nat.le_of_lt h8) s.heap.size) (vx_cwSW (hh := [(0, 9, 10, 13), (0, 9, 16, 15)]) 5 hts gl_189 rfl rfl rfl (by decide +kernel) ⟨Nat.le_of_ble_eq_true rfl, Nat.le_of_ble_eq_true rfl⟩) (ps_lw hK hW (hE.at hS0 hAB) (AH hA0 hS0) hAB) rfl rfl hl.1 rfl (lv_room (Nat.le_of_ble_eq_true rfl)) dL_changes_176 ⟨Nat.le_of_ble_eq_true rfl, Nat.le_of_ble_eq_true rfl⟩) hS0 (fun q _ h => h) (fun q h => h) (fun r u16 t9 H1 locs ht hvm hw hW hz1 hk1 hS0 => ?_)
        have hX : f_takeIn c0 (nI j7) (nI j9) (nI j11) = 4 := hX9
        rw [hX] at hw hW
        have hw : r = (-1002) := hw
        have hW : LW D G X A h c0 c2 hS hn sv lab fl H1 := LW_h ht hW
        obtain ⟨H, rfl⟩ : ∃ z, z = H1 := ⟨_, rfl⟩
        rw [hw]
        refine W.widen (k := 1) (n := 6) (Nat.le_of_ble_eq_true rfl) (Nat.le_of_ble_eq_true rfl) ?_
        refine lv_if_lt (tgt := 186) hx hb dL_changes_179 (by decide) (fun _ => ?_) (fun c_17 => absurd (by decide) c_17)
        refine lv_iconst (v := 0) hx hb dL_changes_186 (by decide) ?_
        refine W.widen (k := 75) (n := 1300) (Nat.le_of_ble_eq_true rfl) (Nat.le_of_ble_eq_true rfl) ?_
        exact W.zret (ty := .boolean) (v := 0) hx hb hr (by decide) (fun t ht hWm => ⟨⟨_, (c0, hS, hn, sv, fl), rfl, CH_0 hO hsv hs0 rfl, LW_t ht hW⟩, hS0.F ht⟩) hS0.2.2 dL_changes_187
    · skip
      refine lv_iconst (v := 1) hx hb dL_changes_171 (by decide) ?_
      refine lv_goto (tgt := 176) hx hb dL_changes_172 (by decide) ?_
      rcases rg_f_takeIn c0 (nI j7) (nI j9) (nI j11) with hX9 | hX9 | hX9
      · skip
        refine va_calli (vx_runSW (As := [.ref h, .int (nI j7), .int (nI j9), .int (nI j11), .int 1]) (rest := []) ⟨hx, hb, hml, hown, hts⟩ (cl_L_addItem l hfl D G B0 X A h c0 c2 hS hn sv lab fl (nI j7) (nI j9) (nI j11) true (Nat.le_of_lt h8) s.heap.size) (vx_cwSW (hh := [(0, 9, 10, 13), (0, 9, 16, 15)]) 5 hts gl_189 rfl rfl rfl (by decide +kernel) ⟨Nat.le_of_ble_eq_true rfl, Nat.le_of_ble_eq_true rfl⟩) (ps_lw hK hW (hE.at hS0 hAB) (AH hA0 hS0) hAB) rfl rfl hl.1 rfl (lv_room (Nat.le_of_ble_eq_true rfl)) dL_changes_176 ⟨Nat.le_of_ble_eq_true rfl, Nat.le_of_ble_eq_true rfl⟩) hS0 (fun q _ h => h) (fun q h => h) (fun r u18 t9 H1 locs ht hvm hw hW hz1 hk1 hS0 => ?_)
        have hX : f_takeIn c0 (nI j7) (nI j9) (nI j11) = 0 := hX9
        rw [hX] at hw hW
        have hw : r = (m_takeIn c0 (nI j7) (nI j9) (nI j11) true).1 := hw
        have hW : LW D G X A h ((m_takeIn c0 (nI j7) (nI j9) (nI j11) true).2) c2 (pS hS hn c0) (pN hn) sv lab fl H1 := LW_h ht hW
        obtain ⟨H, rfl⟩ : ∃ z, z = H1 := ⟨_, rfl⟩
        rw [hw]
        refine W.widen (k := 1) (n := 6) (Nat.le_of_ble_eq_true rfl) (Nat.le_of_ble_eq_true rfl) ?_
        refine lv_if_lt (tgt := 186) hx hb dL_changes_179 (by decide) (fun c_19 => absurd c_19 (nn_take hO (by omega) hX)) (fun _ => ?_)
        refine lv_iconst (v := 1) hx hb dL_changes_182 (by decide) ?_
        refine lv_goto (tgt := 187) hx hb dL_changes_183 (by decide) ?_
        refine W.widen (k := 75) (n := 1300) (Nat.le_of_ble_eq_true rfl) (Nat.le_of_ble_eq_true rfl) ?_
        have hOK : OKc (m9 + 11) ((m_takeIn c0 (nI j7) (nI j9) (nI j11) true).2) := ((OKc_takeIn hO _ _ _ _ (fr_takeIn hX)).mono (by omega))
        obtain ⟨c8, hc8⟩ : ∃ c8, c8 = (m_takeIn c0 (nI j7) (nI j9) (nI j11) true).2 := ⟨_, rfl⟩
        rw [← hc8] at hW hOK
        clear hc8
        exact W.zret (ty := .boolean) (v := 1) hx hb hr (by decide) (fun t ht hWm => ⟨⟨_, (c8, pS hS hn c0, pN hn, sv, fl), rfl, CH_1 h8 hOK hsv hs0 rfl, LW_t ht hW⟩, hS0.F ht⟩) hS0.2.2 dL_changes_187
      · skip
        refine va_calli (vx_runSW (As := [.ref h, .int (nI j7), .int (nI j9), .int (nI j11), .int 1]) (rest := []) ⟨hx, hb, hml, hown, hts⟩ (cl_L_addItem l hfl D G B0 X A h c0 c2 hS hn sv lab fl (nI j7) (nI j9) (nI j11) true (Nat.le_of_lt h8) s.heap.size) (vx_cwSW (hh := [(0, 9, 10, 13), (0, 9, 16, 15)]) 5 hts gl_189 rfl rfl rfl (by decide +kernel) ⟨Nat.le_of_ble_eq_true rfl, Nat.le_of_ble_eq_true rfl⟩) (ps_lw hK hW (hE.at hS0 hAB) (AH hA0 hS0) hAB) rfl rfl hl.1 rfl (lv_room (Nat.le_of_ble_eq_true rfl)) dL_changes_176 ⟨Nat.le_of_ble_eq_true rfl, Nat.le_of_ble_eq_true rfl⟩) hS0 (fun q _ h => h) (fun q h => h) (fun r u20 t9 H1 locs ht hvm hw hW hz1 hk1 hS0 => ?_)
        have hX : f_takeIn c0 (nI j7) (nI j9) (nI j11) = 1 := hX9
        rw [hX] at hw hW
        have hw : r = (-1001) := hw
        have hW : LW D G X A h c0 c2 hS hn sv lab fl H1 := LW_h ht hW
        obtain ⟨H, rfl⟩ : ∃ z, z = H1 := ⟨_, rfl⟩
        rw [hw]
        refine W.widen (k := 1) (n := 6) (Nat.le_of_ble_eq_true rfl) (Nat.le_of_ble_eq_true rfl) ?_
        refine lv_if_lt (tgt := 186) hx hb dL_changes_179 (by decide) (fun _ => ?_) (fun c_21 => absurd (by decide) c_21)
        refine lv_iconst (v := 0) hx hb dL_changes_186 (by decide) ?_
        refine W.widen (k := 75) (n := 1300) (Nat.le_of_ble_eq_true rfl) (Nat.le_of_ble_eq_true rfl) ?_
        exact W.zret (ty := .boolean) (v := 0) hx hb hr (by decide) (fun t ht hWm => ⟨⟨_, (c0, hS, hn, sv, fl), rfl, CH_0 hO hsv hs0 rfl, LW_t ht hW⟩, hS0.F ht⟩) hS0.2.2 dL_changes_187
      · skip
        refine va_calli (vx_runSW (As := [.ref h, .int (nI j7), .int (nI j9), .int (nI j11), .int 1]) (rest := []) ⟨hx, hb, hml, hown, hts⟩ (cl_L_addItem l hfl D G B0 X A h c0 c2 hS hn sv lab fl (nI j7) (nI j9) (nI j11) true (Nat.le_of_lt h8) s.heap.size) (vx_cwSW (hh := [(0, 9, 10, 13), (0, 9, 16, 15)]) 5 hts gl_189 rfl rfl rfl (by decide +kernel) ⟨Nat.le_of_ble_eq_true rfl, Nat.le_of_ble_eq_true rfl⟩) (ps_lw hK hW (hE.at hS0 hAB) (AH hA0 hS0) hAB) rfl rfl hl.1 rfl (lv_room (Nat.le_of_ble_eq_true rfl)) dL_changes_176 ⟨Nat.le_of_ble_eq_true rfl, Nat.le_of_ble_eq_true rfl⟩) hS0 (fun q _ h => h) (fun q h => h) (fun r u22 t9 H1 locs ht hvm hw hW hz1 hk1 hS0 => ?_)
        have hX : f_takeIn c0 (nI j7) (nI j9) (nI j11) = 4 := hX9
        rw [hX] at hw hW
        have hw : r = (-1002) := hw
        have hW : LW D G X A h c0 c2 hS hn sv lab fl H1 := LW_h ht hW
        obtain ⟨H, rfl⟩ : ∃ z, z = H1 := ⟨_, rfl⟩
        rw [hw]
        refine W.widen (k := 1) (n := 6) (Nat.le_of_ble_eq_true rfl) (Nat.le_of_ble_eq_true rfl) ?_
        refine lv_if_lt (tgt := 186) hx hb dL_changes_179 (by decide) (fun _ => ?_) (fun c_23 => absurd (by decide) c_23)
        refine lv_iconst (v := 0) hx hb dL_changes_186 (by decide) ?_
        refine W.widen (k := 75) (n := 1300) (Nat.le_of_ble_eq_true rfl) (Nat.le_of_ble_eq_true rfl) ?_
        exact W.zret (ty := .boolean) (v := 0) hx hb hr (by decide) (fun t ht hWm => ⟨⟨_, (c0, hS, hn, sv, fl), rfl, CH_0 hO hsv hs0 rfl, LW_t ht hW⟩, hS0.F ht⟩) hS0.2.2 dL_changes_187
  have J188 : ∀ ls : Array Slot, lv_has ls 4 [(3, .int (nI j4)), (2, .int (nI j2)), (0, .ref h), (1, .int x)] → W p9 l e (headSpec (wA yL_changes cL_changes 4 (some .boolean)) ({ frames := 10, cells := 75, slots := 1300, locals := 228 } : Room)).room s m ([.ref h, .int x] : List Value).toArray below meth c9 s.heap [] (0) (0) (MQ below (va_Qi (fun (r : Int32) (u : CS × (Nat → CS) × Nat × SV × (Nat → Int32)) => CHp m9 c0 hS hn fl r u) (fun u t9 => LW D G X A h u.1 c2 u.2.1 u.2.2.1 u.2.2.2.1 lab u.2.2.2.2 t9.heap) A) ([.ref h, .int x] : List Value).toArray s 75 1300 A) (F0 m 188 ls []) := by
    intro ls hl
    refine lv_aload_n hx hb dL_changes_188 rfl (lv_at hl 2 rfl) ?_
    refine lv_iload_n hx hb dL_changes_189 rfl (lv_at hl 1 rfl) ?_
    rcases rg_f_drop c0 (nI j2) with hX9 | hX9 | hX9
    · skip
      refine va_calli (vx_runSW (As := [.ref h, .int (nI j2)]) (rest := []) ⟨hx, hb, hml, hown, hts⟩ (cl_L_removeItem l hfl D G B0 X A h c0 c2 hS hn sv lab fl (nI j2) (Nat.le_of_lt h8) s.heap.size) (vx_cwSW (hh := [(0, 5, 6, 24), (0, 5, 11, 15)]) 2 hts gl_248 rfl rfl rfl (by decide +kernel) ⟨Nat.le_of_ble_eq_true rfl, Nat.le_of_ble_eq_true rfl⟩) (ps_lw hK hW (hE.at hS0 hAB) (AH hA0 hS0) hAB) rfl rfl hl.1 rfl (lv_room (Nat.le_of_ble_eq_true rfl)) dL_changes_190 ⟨Nat.le_of_ble_eq_true rfl, Nat.le_of_ble_eq_true rfl⟩) hS0 (fun q _ h => h) (fun q h => h) (fun r u24 t9 H1 locs ht hvm hw hW hz1 hk1 hS0 => ?_)
      have hX : f_drop c0 (nI j2) = 0 := hX9
      rw [hX] at hw hW
      have hw : r = (m_drop c0 (nI j2)).1 := hw
      have hW : LW D G X A h ((m_drop c0 (nI j2)).2) c2 (pS hS hn c0) (pN hn) sv lab fl H1 := LW_h ht hW
      obtain ⟨H, rfl⟩ : ∃ z, z = H1 := ⟨_, rfl⟩
      rw [hw]
      refine W.widen (k := 1) (n := 6) (Nat.le_of_ble_eq_true rfl) (Nat.le_of_ble_eq_true rfl) ?_
      refine lv_if_lt (tgt := 200) hx hb dL_changes_193 (by decide) (fun c_25 => absurd c_25 (nn_drop _ _)) (fun _ => ?_)
      refine lv_iconst (v := 1) hx hb dL_changes_196 (by decide) ?_
      refine lv_goto (tgt := 201) hx hb dL_changes_197 (by decide) ?_
      refine W.widen (k := 75) (n := 1300) (Nat.le_of_ble_eq_true rfl) (Nat.le_of_ble_eq_true rfl) ?_
      have hOK : OKc (m9 + 11) ((m_drop c0 (nI j2)).2) := ((OKc_drop hO _ (fr_drop hX)).mono (by omega))
      obtain ⟨c8, hc8⟩ : ∃ c8, c8 = (m_drop c0 (nI j2)).2 := ⟨_, rfl⟩
      rw [← hc8] at hW hOK
      clear hc8
      exact W.zret (ty := .boolean) (v := 1) hx hb hr (by decide) (fun t ht hWm => ⟨⟨_, (c8, pS hS hn c0, pN hn, sv, fl), rfl, CH_1 h8 hOK hsv hs0 rfl, LW_t ht hW⟩, hS0.F ht⟩) hS0.2.2 dL_changes_201
    · skip
      refine va_calli (vx_runSW (As := [.ref h, .int (nI j2)]) (rest := []) ⟨hx, hb, hml, hown, hts⟩ (cl_L_removeItem l hfl D G B0 X A h c0 c2 hS hn sv lab fl (nI j2) (Nat.le_of_lt h8) s.heap.size) (vx_cwSW (hh := [(0, 5, 6, 24), (0, 5, 11, 15)]) 2 hts gl_248 rfl rfl rfl (by decide +kernel) ⟨Nat.le_of_ble_eq_true rfl, Nat.le_of_ble_eq_true rfl⟩) (ps_lw hK hW (hE.at hS0 hAB) (AH hA0 hS0) hAB) rfl rfl hl.1 rfl (lv_room (Nat.le_of_ble_eq_true rfl)) dL_changes_190 ⟨Nat.le_of_ble_eq_true rfl, Nat.le_of_ble_eq_true rfl⟩) hS0 (fun q _ h => h) (fun q h => h) (fun r u26 t9 H1 locs ht hvm hw hW hz1 hk1 hS0 => ?_)
      have hX : f_drop c0 (nI j2) = 2 := hX9
      rw [hX] at hw hW
      have hw : r = (-1001) := hw
      have hW : LW D G X A h c0 c2 hS hn sv lab fl H1 := LW_h ht hW
      obtain ⟨H, rfl⟩ : ∃ z, z = H1 := ⟨_, rfl⟩
      rw [hw]
      refine W.widen (k := 1) (n := 6) (Nat.le_of_ble_eq_true rfl) (Nat.le_of_ble_eq_true rfl) ?_
      refine lv_if_lt (tgt := 200) hx hb dL_changes_193 (by decide) (fun _ => ?_) (fun c_27 => absurd (by decide) c_27)
      refine lv_iconst (v := 0) hx hb dL_changes_200 (by decide) ?_
      refine W.widen (k := 75) (n := 1300) (Nat.le_of_ble_eq_true rfl) (Nat.le_of_ble_eq_true rfl) ?_
      exact W.zret (ty := .boolean) (v := 0) hx hb hr (by decide) (fun t ht hWm => ⟨⟨_, (c0, hS, hn, sv, fl), rfl, CH_0 hO hsv hs0 rfl, LW_t ht hW⟩, hS0.F ht⟩) hS0.2.2 dL_changes_201
    · skip
      refine va_calli (vx_runSW (As := [.ref h, .int (nI j2)]) (rest := []) ⟨hx, hb, hml, hown, hts⟩ (cl_L_removeItem l hfl D G B0 X A h c0 c2 hS hn sv lab fl (nI j2) (Nat.le_of_lt h8) s.heap.size) (vx_cwSW (hh := [(0, 5, 6, 24), (0, 5, 11, 15)]) 2 hts gl_248 rfl rfl rfl (by decide +kernel) ⟨Nat.le_of_ble_eq_true rfl, Nat.le_of_ble_eq_true rfl⟩) (ps_lw hK hW (hE.at hS0 hAB) (AH hA0 hS0) hAB) rfl rfl hl.1 rfl (lv_room (Nat.le_of_ble_eq_true rfl)) dL_changes_190 ⟨Nat.le_of_ble_eq_true rfl, Nat.le_of_ble_eq_true rfl⟩) hS0 (fun q _ h => h) (fun q h => h) (fun r u28 t9 H1 locs ht hvm hw hW hz1 hk1 hS0 => ?_)
      have hX : f_drop c0 (nI j2) = 4 := hX9
      rw [hX] at hw hW
      have hw : r = (-1002) := hw
      have hW : LW D G X A h c0 c2 hS hn sv lab fl H1 := LW_h ht hW
      obtain ⟨H, rfl⟩ : ∃ z, z = H1 := ⟨_, rfl⟩
      rw [hw]
      refine W.widen (k := 1) (n := 6) (Nat.le_of_ble_eq_true rfl) (Nat.le_of_ble_eq_true rfl) ?_
      refine lv_if_lt (tgt := 200) hx hb dL_changes_193 (by decide) (fun _ => ?_) (fun c_29 => absurd (by decide) c_29)
      refine lv_iconst (v := 0) hx hb dL_changes_200 (by decide) ?_
      refine W.widen (k := 75) (n := 1300) (Nat.le_of_ble_eq_true rfl) (Nat.le_of_ble_eq_true rfl) ?_
      exact W.zret (ty := .boolean) (v := 0) hx hb hr (by decide) (fun t ht hWm => ⟨⟨_, (c0, hS, hn, sv, fl), rfl, CH_0 hO hsv hs0 rfl, LW_t ht hW⟩, hS0.F ht⟩) hS0.2.2 dL_changes_201
  have J202 : ∀ ls : Array Slot, lv_has ls 4 [(3, .int (nI j4)), (2, .int (nI j2)), (0, .ref h), (1, .int x)] → W p9 l e (headSpec (wA yL_changes cL_changes 4 (some .boolean)) ({ frames := 10, cells := 75, slots := 1300, locals := 228 } : Room)).room s m ([.ref h, .int x] : List Value).toArray below meth c9 s.heap [] (0) (0) (MQ below (va_Qi (fun (r : Int32) (u : CS × (Nat → CS) × Nat × SV × (Nat → Int32)) => CHp m9 c0 hS hn fl r u) (fun u t9 => LW D G X A h u.1 c2 u.2.1 u.2.2.1 u.2.2.2.1 lab u.2.2.2.2 t9.heap) A) ([.ref h, .int x] : List Value).toArray s 75 1300 A) (F0 m 202 ls []) := by
    intro ls hl
    refine lv_aload_n hx hb dL_changes_202 rfl (lv_at hl 2 rfl) ?_
    refine lv_iload_n hx hb dL_changes_203 rfl (lv_at hl 1 rfl) ?_
    refine lv_iload_n hx hb dL_changes_204 rfl (lv_at hl 0 rfl) ?_
    rcases rg_f_load c0 (nI j2) (nI j4) with hX9 | hX9 | hX9 | hX9 | hX9
    · skip
      refine va_calli (vx_runSW (As := [.ref h, .int (nI j2), .int (nI j4)]) (rest := []) ⟨hx, hb, hml, hown, hts⟩ (cl_L_pack l hfl D G B0 X A h c0 c2 hS hn sv lab fl (nI j2) (nI j4) (Nat.le_of_lt h8) s.heap.size) (vx_cwSW (hh := [(0, 6, 7, 24), (0, 6, 12, 30), (0, 6, 17, 15), (0, 6, 22, 32)]) 3 hts gl_192 rfl rfl rfl (by decide +kernel) ⟨Nat.le_of_ble_eq_true rfl, Nat.le_of_ble_eq_true rfl⟩) (ps_lw hK hW (hE.at hS0 hAB) (AH hA0 hS0) hAB) rfl rfl hl.1 rfl (lv_room (Nat.le_of_ble_eq_true rfl)) dL_changes_205 ⟨Nat.le_of_ble_eq_true rfl, Nat.le_of_ble_eq_true rfl⟩) hS0 (fun q _ h => h) (fun q h => h) (fun r u30 t9 H1 locs ht hvm hw hW hz1 hk1 hS0 => ?_)
      have hX : f_load c0 (nI j2) (nI j4) = 0 := hX9
      rw [hX] at hw hW
      have hw : r = (m_load c0 (nI j2) (nI j4)).1 := hw
      have hW : LW D G X A h ((m_load c0 (nI j2) (nI j4)).2) c2 (pS hS hn c0) (pN hn) sv lab (m_keep c0 fl 0 (nI j2) (nI j4)) H1 := LW_h ht hW
      obtain ⟨H, rfl⟩ : ∃ z, z = H1 := ⟨_, rfl⟩
      rw [hw]
      refine W.widen (k := 1) (n := 6) (Nat.le_of_ble_eq_true rfl) (Nat.le_of_ble_eq_true rfl) ?_
      refine lv_if_lt (tgt := 215) hx hb dL_changes_208 (by decide) (fun c_31 => absurd c_31 (nn_load hO hX)) (fun _ => ?_)
      refine lv_iconst (v := 1) hx hb dL_changes_211 (by decide) ?_
      refine lv_goto (tgt := 216) hx hb dL_changes_212 (by decide) ?_
      refine W.widen (k := 75) (n := 1300) (Nat.le_of_ble_eq_true rfl) (Nat.le_of_ble_eq_true rfl) ?_
      have hOK : OKc (m9 + 11) ((m_load c0 (nI j2) (nI j4)).2) := ((OKc_load hO hX).mono (by omega))
      obtain ⟨c8, hc8⟩ : ∃ c8, c8 = (m_load c0 (nI j2) (nI j4)).2 := ⟨_, rfl⟩
      rw [← hc8] at hW hOK
      clear hc8
      exact W.zret (ty := .boolean) (v := 1) hx hb hr (by decide) (fun t ht hWm => ⟨⟨_, (c8, pS hS hn c0, pN hn, sv, (m_keep c0 fl 0 (nI j2) (nI j4))), rfl, CH_1 h8 hOK hsv hs0 (keep_0 _ _ _ _ _), LW_t ht hW⟩, hS0.F ht⟩) hS0.2.2 dL_changes_216
    · skip
      refine va_calli (vx_runSW (As := [.ref h, .int (nI j2), .int (nI j4)]) (rest := []) ⟨hx, hb, hml, hown, hts⟩ (cl_L_pack l hfl D G B0 X A h c0 c2 hS hn sv lab fl (nI j2) (nI j4) (Nat.le_of_lt h8) s.heap.size) (vx_cwSW (hh := [(0, 6, 7, 24), (0, 6, 12, 30), (0, 6, 17, 15), (0, 6, 22, 32)]) 3 hts gl_192 rfl rfl rfl (by decide +kernel) ⟨Nat.le_of_ble_eq_true rfl, Nat.le_of_ble_eq_true rfl⟩) (ps_lw hK hW (hE.at hS0 hAB) (AH hA0 hS0) hAB) rfl rfl hl.1 rfl (lv_room (Nat.le_of_ble_eq_true rfl)) dL_changes_205 ⟨Nat.le_of_ble_eq_true rfl, Nat.le_of_ble_eq_true rfl⟩) hS0 (fun q _ h => h) (fun q h => h) (fun r u32 t9 H1 locs ht hvm hw hW hz1 hk1 hS0 => ?_)
      have hX : f_load c0 (nI j2) (nI j4) = 2 := hX9
      rw [hX] at hw hW
      have hw : r = (-1001) := hw
      have hW : LW D G X A h c0 c2 hS hn sv lab (m_keep c0 fl 2 (nI j2) (nI j4)) H1 := LW_h ht hW
      obtain ⟨H, rfl⟩ : ∃ z, z = H1 := ⟨_, rfl⟩
      rw [hw]
      refine W.widen (k := 1) (n := 6) (Nat.le_of_ble_eq_true rfl) (Nat.le_of_ble_eq_true rfl) ?_
      refine lv_if_lt (tgt := 215) hx hb dL_changes_208 (by decide) (fun _ => ?_) (fun c_33 => absurd (by decide) c_33)
      refine lv_iconst (v := 0) hx hb dL_changes_215 (by decide) ?_
      refine W.widen (k := 75) (n := 1300) (Nat.le_of_ble_eq_true rfl) (Nat.le_of_ble_eq_true rfl) ?_
      exact W.zret (ty := .boolean) (v := 0) hx hb hr (by decide) (fun t ht hWm => ⟨⟨_, (c0, hS, hn, sv, (m_keep c0 fl 2 (nI j2) (nI j4))), rfl, CH_0 hO hsv hs0 (keep_0 _ _ _ _ _), LW_t ht hW⟩, hS0.F ht⟩) hS0.2.2 dL_changes_216
    · skip
      refine va_calli (vx_runSW (As := [.ref h, .int (nI j2), .int (nI j4)]) (rest := []) ⟨hx, hb, hml, hown, hts⟩ (cl_L_pack l hfl D G B0 X A h c0 c2 hS hn sv lab fl (nI j2) (nI j4) (Nat.le_of_lt h8) s.heap.size) (vx_cwSW (hh := [(0, 6, 7, 24), (0, 6, 12, 30), (0, 6, 17, 15), (0, 6, 22, 32)]) 3 hts gl_192 rfl rfl rfl (by decide +kernel) ⟨Nat.le_of_ble_eq_true rfl, Nat.le_of_ble_eq_true rfl⟩) (ps_lw hK hW (hE.at hS0 hAB) (AH hA0 hS0) hAB) rfl rfl hl.1 rfl (lv_room (Nat.le_of_ble_eq_true rfl)) dL_changes_205 ⟨Nat.le_of_ble_eq_true rfl, Nat.le_of_ble_eq_true rfl⟩) hS0 (fun q _ h => h) (fun q h => h) (fun r u34 t9 H1 locs ht hvm hw hW hz1 hk1 hS0 => ?_)
      have hX : f_load c0 (nI j2) (nI j4) = 3 := hX9
      rw [hX] at hw hW
      have hw : r = (-1002) := hw
      have hW : LW D G X A h c0 c2 hS hn sv lab (m_keep c0 fl 3 (nI j2) (nI j4)) H1 := LW_h ht hW
      obtain ⟨H, rfl⟩ : ∃ z, z = H1 := ⟨_, rfl⟩
      rw [hw]
      refine W.widen (k := 1) (n := 6) (Nat.le_of_ble_eq_true rfl) (Nat.le_of_ble_eq_true rfl) ?_
      refine lv_if_lt (tgt := 215) hx hb dL_changes_208 (by decide) (fun _ => ?_) (fun c_35 => absurd (by decide) c_35)
      refine lv_iconst (v := 0) hx hb dL_changes_215 (by decide) ?_
      refine W.widen (k := 75) (n := 1300) (Nat.le_of_ble_eq_true rfl) (Nat.le_of_ble_eq_true rfl) ?_
      exact W.zret (ty := .boolean) (v := 0) hx hb hr (by decide) (fun t ht hWm => ⟨⟨_, (c0, hS, hn, sv, (m_keep c0 fl 3 (nI j2) (nI j4))), rfl, CH_0 hO hsv hs0 (keep_0 _ _ _ _ _), LW_t ht hW⟩, hS0.F ht⟩) hS0.2.2 dL_changes_216
    · skip
      refine va_calli (vx_runSW (As := [.ref h, .int (nI j2), .int (nI j4)]) (rest := []) ⟨hx, hb, hml, hown, hts⟩ (cl_L_pack l hfl D G B0 X A h c0 c2 hS hn sv lab fl (nI j2) (nI j4) (Nat.le_of_lt h8) s.heap.size) (vx_cwSW (hh := [(0, 6, 7, 24), (0, 6, 12, 30), (0, 6, 17, 15), (0, 6, 22, 32)]) 3 hts gl_192 rfl rfl rfl (by decide +kernel) ⟨Nat.le_of_ble_eq_true rfl, Nat.le_of_ble_eq_true rfl⟩) (ps_lw hK hW (hE.at hS0 hAB) (AH hA0 hS0) hAB) rfl rfl hl.1 rfl (lv_room (Nat.le_of_ble_eq_true rfl)) dL_changes_205 ⟨Nat.le_of_ble_eq_true rfl, Nat.le_of_ble_eq_true rfl⟩) hS0 (fun q _ h => h) (fun q h => h) (fun r u36 t9 H1 locs ht hvm hw hW hz1 hk1 hS0 => ?_)
      have hX : f_load c0 (nI j2) (nI j4) = 4 := hX9
      rw [hX] at hw hW
      have hw : r = (-1003) := hw
      have hW : LW D G X A h c0 c2 hS hn sv lab (m_keep c0 fl 4 (nI j2) (nI j4)) H1 := LW_h ht hW
      obtain ⟨H, rfl⟩ : ∃ z, z = H1 := ⟨_, rfl⟩
      rw [hw]
      refine W.widen (k := 1) (n := 6) (Nat.le_of_ble_eq_true rfl) (Nat.le_of_ble_eq_true rfl) ?_
      refine lv_if_lt (tgt := 215) hx hb dL_changes_208 (by decide) (fun _ => ?_) (fun c_37 => absurd (by decide) c_37)
      refine lv_iconst (v := 0) hx hb dL_changes_215 (by decide) ?_
      refine W.widen (k := 75) (n := 1300) (Nat.le_of_ble_eq_true rfl) (Nat.le_of_ble_eq_true rfl) ?_
      exact W.zret (ty := .boolean) (v := 0) hx hb hr (by decide) (fun t ht hWm => ⟨⟨_, (c0, hS, hn, sv, (m_keep c0 fl 4 (nI j2) (nI j4))), rfl, CH_0 hO hsv hs0 (keep_0 _ _ _ _ _), LW_t ht hW⟩, hS0.F ht⟩) hS0.2.2 dL_changes_216
    · skip
      refine va_calli (vx_runSW (As := [.ref h, .int (nI j2), .int (nI j4)]) (rest := []) ⟨hx, hb, hml, hown, hts⟩ (cl_L_pack l hfl D G B0 X A h c0 c2 hS hn sv lab fl (nI j2) (nI j4) (Nat.le_of_lt h8) s.heap.size) (vx_cwSW (hh := [(0, 6, 7, 24), (0, 6, 12, 30), (0, 6, 17, 15), (0, 6, 22, 32)]) 3 hts gl_192 rfl rfl rfl (by decide +kernel) ⟨Nat.le_of_ble_eq_true rfl, Nat.le_of_ble_eq_true rfl⟩) (ps_lw hK hW (hE.at hS0 hAB) (AH hA0 hS0) hAB) rfl rfl hl.1 rfl (lv_room (Nat.le_of_ble_eq_true rfl)) dL_changes_205 ⟨Nat.le_of_ble_eq_true rfl, Nat.le_of_ble_eq_true rfl⟩) hS0 (fun q _ h => h) (fun q h => h) (fun r u38 t9 H1 locs ht hvm hw hW hz1 hk1 hS0 => ?_)
      have hX : f_load c0 (nI j2) (nI j4) = 5 := hX9
      rw [hX] at hw hW
      have hw : r = (-1004) := hw
      have hW : LW D G X A h c0 c2 hS hn sv lab (m_keep c0 fl 5 (nI j2) (nI j4)) H1 := LW_h ht hW
      obtain ⟨H, rfl⟩ : ∃ z, z = H1 := ⟨_, rfl⟩
      rw [hw]
      refine W.widen (k := 1) (n := 6) (Nat.le_of_ble_eq_true rfl) (Nat.le_of_ble_eq_true rfl) ?_
      refine lv_if_lt (tgt := 215) hx hb dL_changes_208 (by decide) (fun _ => ?_) (fun c_39 => absurd (by decide) c_39)
      refine lv_iconst (v := 0) hx hb dL_changes_215 (by decide) ?_
      refine W.widen (k := 75) (n := 1300) (Nat.le_of_ble_eq_true rfl) (Nat.le_of_ble_eq_true rfl) ?_
      exact W.zret (ty := .boolean) (v := 0) hx hb hr (by decide) (fun t ht hWm => ⟨⟨_, (c0, hS, hn, sv, (m_keep c0 fl 5 (nI j2) (nI j4))), rfl, CH_0 hO hsv hs0 (keep_0 _ _ _ _ _), LW_t ht hW⟩, hS0.F ht⟩) hS0.2.2 dL_changes_216
  have J217 : ∀ ls : Array Slot, lv_has ls 4 [(3, .int (nI j4)), (2, .int (nI j2)), (0, .ref h), (1, .int x)] → W p9 l e (headSpec (wA yL_changes cL_changes 4 (some .boolean)) ({ frames := 10, cells := 75, slots := 1300, locals := 228 } : Room)).room s m ([.ref h, .int x] : List Value).toArray below meth c9 s.heap [] (0) (0) (MQ below (va_Qi (fun (r : Int32) (u : CS × (Nat → CS) × Nat × SV × (Nat → Int32)) => CHp m9 c0 hS hn fl r u) (fun u t9 => LW D G X A h u.1 c2 u.2.1 u.2.2.1 u.2.2.2.1 lab u.2.2.2.2 t9.heap) A) ([.ref h, .int x] : List Value).toArray s 75 1300 A) (F0 m 217 ls []) := by
    intro ls hl
    refine lv_aload_n hx hb dL_changes_217 rfl (lv_at hl 2 rfl) ?_
    refine lv_iload_n hx hb dL_changes_218 rfl (lv_at hl 1 rfl) ?_
    rcases rg_f_unload c0 (nI j2) with hX9 | hX9 | hX9
    · skip
      refine va_calli (vx_runSW (As := [.ref h, .int (nI j2)]) (rest := []) ⟨hx, hb, hml, hown, hts⟩ (cl_L_unpack l hfl D G B0 X A h c0 c2 hS hn sv lab fl (nI j2) (Nat.le_of_lt h8) s.heap.size) (vx_cwSW (hh := [(0, 5, 6, 24), (0, 5, 11, 15)]) 2 hts gl_250 rfl rfl rfl (by decide +kernel) ⟨Nat.le_of_ble_eq_true rfl, Nat.le_of_ble_eq_true rfl⟩) (ps_lw hK hW (hE.at hS0 hAB) (AH hA0 hS0) hAB) rfl rfl hl.1 rfl (lv_room (Nat.le_of_ble_eq_true rfl)) dL_changes_219 ⟨Nat.le_of_ble_eq_true rfl, Nat.le_of_ble_eq_true rfl⟩) hS0 (fun q _ h => h) (fun q h => h) (fun r u40 t9 H1 locs ht hvm hw hW hz1 hk1 hS0 => ?_)
      have hX : f_unload c0 (nI j2) = 0 := hX9
      rw [hX] at hw hW
      have hw : r = (m_unload c0 (nI j2)).1 := hw
      have hW : LW D G X A h ((m_unload c0 (nI j2)).2) c2 (pS hS hn c0) (pN hn) sv lab fl H1 := LW_h ht hW
      obtain ⟨H, rfl⟩ : ∃ z, z = H1 := ⟨_, rfl⟩
      rw [hw]
      refine W.widen (k := 1) (n := 6) (Nat.le_of_ble_eq_true rfl) (Nat.le_of_ble_eq_true rfl) ?_
      refine lv_if_lt (tgt := 229) hx hb dL_changes_222 (by decide) (fun c_41 => absurd c_41 (nn_unload hO (fr_unload hX))) (fun _ => ?_)
      refine lv_iconst (v := 1) hx hb dL_changes_225 (by decide) ?_
      refine lv_goto (tgt := 230) hx hb dL_changes_226 (by decide) ?_
      refine W.widen (k := 75) (n := 1300) (Nat.le_of_ble_eq_true rfl) (Nat.le_of_ble_eq_true rfl) ?_
      have hOK : OKc (m9 + 11) ((m_unload c0 (nI j2)).2) := ((OKc_unload hO _ (fr_unload hX)).mono (by omega))
      obtain ⟨c8, hc8⟩ : ∃ c8, c8 = (m_unload c0 (nI j2)).2 := ⟨_, rfl⟩
      rw [← hc8] at hW hOK
      clear hc8
      exact W.zret (ty := .boolean) (v := 1) hx hb hr (by decide) (fun t ht hWm => ⟨⟨_, (c8, pS hS hn c0, pN hn, sv, fl), rfl, CH_1 h8 hOK hsv hs0 rfl, LW_t ht hW⟩, hS0.F ht⟩) hS0.2.2 dL_changes_230
    · skip
      refine va_calli (vx_runSW (As := [.ref h, .int (nI j2)]) (rest := []) ⟨hx, hb, hml, hown, hts⟩ (cl_L_unpack l hfl D G B0 X A h c0 c2 hS hn sv lab fl (nI j2) (Nat.le_of_lt h8) s.heap.size) (vx_cwSW (hh := [(0, 5, 6, 24), (0, 5, 11, 15)]) 2 hts gl_250 rfl rfl rfl (by decide +kernel) ⟨Nat.le_of_ble_eq_true rfl, Nat.le_of_ble_eq_true rfl⟩) (ps_lw hK hW (hE.at hS0 hAB) (AH hA0 hS0) hAB) rfl rfl hl.1 rfl (lv_room (Nat.le_of_ble_eq_true rfl)) dL_changes_219 ⟨Nat.le_of_ble_eq_true rfl, Nat.le_of_ble_eq_true rfl⟩) hS0 (fun q _ h => h) (fun q h => h) (fun r u42 t9 H1 locs ht hvm hw hW hz1 hk1 hS0 => ?_)
      have hX : f_unload c0 (nI j2) = 2 := hX9
      rw [hX] at hw hW
      have hw : r = (-1001) := hw
      have hW : LW D G X A h c0 c2 hS hn sv lab fl H1 := LW_h ht hW
      obtain ⟨H, rfl⟩ : ∃ z, z = H1 := ⟨_, rfl⟩
      rw [hw]
      refine W.widen (k := 1) (n := 6) (Nat.le_of_ble_eq_true rfl) (Nat.le_of_ble_eq_true rfl) ?_
      refine lv_if_lt (tgt := 229) hx hb dL_changes_222 (by decide) (fun _ => ?_) (fun c_43 => absurd (by decide) c_43)
      refine lv_iconst (v := 0) hx hb dL_changes_229 (by decide) ?_
      refine W.widen (k := 75) (n := 1300) (Nat.le_of_ble_eq_true rfl) (Nat.le_of_ble_eq_true rfl) ?_
      exact W.zret (ty := .boolean) (v := 0) hx hb hr (by decide) (fun t ht hWm => ⟨⟨_, (c0, hS, hn, sv, fl), rfl, CH_0 hO hsv hs0 rfl, LW_t ht hW⟩, hS0.F ht⟩) hS0.2.2 dL_changes_230
    · skip
      refine va_calli (vx_runSW (As := [.ref h, .int (nI j2)]) (rest := []) ⟨hx, hb, hml, hown, hts⟩ (cl_L_unpack l hfl D G B0 X A h c0 c2 hS hn sv lab fl (nI j2) (Nat.le_of_lt h8) s.heap.size) (vx_cwSW (hh := [(0, 5, 6, 24), (0, 5, 11, 15)]) 2 hts gl_250 rfl rfl rfl (by decide +kernel) ⟨Nat.le_of_ble_eq_true rfl, Nat.le_of_ble_eq_true rfl⟩) (ps_lw hK hW (hE.at hS0 hAB) (AH hA0 hS0) hAB) rfl rfl hl.1 rfl (lv_room (Nat.le_of_ble_eq_true rfl)) dL_changes_219 ⟨Nat.le_of_ble_eq_true rfl, Nat.le_of_ble_eq_true rfl⟩) hS0 (fun q _ h => h) (fun q h => h) (fun r u44 t9 H1 locs ht hvm hw hW hz1 hk1 hS0 => ?_)
      have hX : f_unload c0 (nI j2) = 4 := hX9
      rw [hX] at hw hW
      have hw : r = (-1002) := hw
      have hW : LW D G X A h c0 c2 hS hn sv lab fl H1 := LW_h ht hW
      obtain ⟨H, rfl⟩ : ∃ z, z = H1 := ⟨_, rfl⟩
      rw [hw]
      refine W.widen (k := 1) (n := 6) (Nat.le_of_ble_eq_true rfl) (Nat.le_of_ble_eq_true rfl) ?_
      refine lv_if_lt (tgt := 229) hx hb dL_changes_222 (by decide) (fun _ => ?_) (fun c_45 => absurd (by decide) c_45)
      refine lv_iconst (v := 0) hx hb dL_changes_229 (by decide) ?_
      refine W.widen (k := 75) (n := 1300) (Nat.le_of_ble_eq_true rfl) (Nat.le_of_ble_eq_true rfl) ?_
      exact W.zret (ty := .boolean) (v := 0) hx hb hr (by decide) (fun t ht hWm => ⟨⟨_, (c0, hS, hn, sv, fl), rfl, CH_0 hO hsv hs0 rfl, LW_t ht hW⟩, hS0.F ht⟩) hS0.2.2 dL_changes_230
  have J231 : ∀ ls : Array Slot, lv_has ls 4 [(3, .int (nI j4)), (2, .int (nI j2)), (0, .ref h), (1, .int x)] → W p9 l e (headSpec (wA yL_changes cL_changes 4 (some .boolean)) ({ frames := 10, cells := 75, slots := 1300, locals := 228 } : Room)).room s m ([.ref h, .int x] : List Value).toArray below meth c9 s.heap [] (0) (0) (MQ below (va_Qi (fun (r : Int32) (u : CS × (Nat → CS) × Nat × SV × (Nat → Int32)) => CHp m9 c0 hS hn fl r u) (fun u t9 => LW D G X A h u.1 c2 u.2.1 u.2.2.1 u.2.2.2.1 lab u.2.2.2.2 t9.heap) A) ([.ref h, .int x] : List Value).toArray s 75 1300 A) (F0 m 231 ls []) := by
    intro ls hl
    refine lv_aload_n hx hb dL_changes_231 rfl (lv_at hl 2 rfl) ?_
    refine lv_iload_n hx hb dL_changes_232 rfl (lv_at hl 0 rfl) ?_
    rcases rg_f_fill c0 (nI j4) with hX9 | hX9
    · skip
      refine va_calli (vx_runSW (As := [.ref h, .int (nI j4)]) (rest := []) ⟨hx, hb, hml, hown, hts⟩ (cl_L_autoPack l hfl D G B0 X A h c0 c2 hS hn sv lab fl (nI j4) (Nat.le_of_lt h8) s.heap.size) (vx_cwSW (hh := [(0, 5, 6, 30)]) 2 hts gl_195 rfl rfl rfl (by decide +kernel) ⟨Nat.le_of_ble_eq_true rfl, Nat.le_of_ble_eq_true rfl⟩) (ps_lw hK hW (hE.at hS0 hAB) (AH hA0 hS0) hAB) rfl rfl hl.1 rfl (lv_room (Nat.le_of_ble_eq_true rfl)) dL_changes_233 ⟨Nat.le_of_ble_eq_true rfl, Nat.le_of_ble_eq_true rfl⟩) hS0 (fun q _ h => h) (fun q h => h) (fun r u46 t9 H1 locs ht hvm hw hW hz1 hk1 hS0 => ?_)
      have hX : f_fill c0 (nI j4) = 0 := hX9
      rw [hX] at hw hW
      have hw : r = (m_fill c0 (nI j4)).1 := hw
      have hW : LW D G X A h ((m_fill c0 (nI j4)).2) c2 (pS hS hn c0) (pN hn) sv lab fl H1 := LW_h ht hW
      obtain ⟨H, rfl⟩ : ∃ z, z = H1 := ⟨_, rfl⟩
      rw [hw]
      refine W.widen (k := 1) (n := 6) (Nat.le_of_ble_eq_true rfl) (Nat.le_of_ble_eq_true rfl) ?_
      refine lv_if_lt (tgt := 243) hx hb dL_changes_236 (by decide) (fun c_47 => absurd c_47 (nn_fill _ _)) (fun _ => ?_)
      refine lv_iconst (v := 1) hx hb dL_changes_239 (by decide) ?_
      refine lv_goto (tgt := 244) hx hb dL_changes_240 (by decide) ?_
      refine W.widen (k := 75) (n := 1300) (Nat.le_of_ble_eq_true rfl) (Nat.le_of_ble_eq_true rfl) ?_
      have hOK : OKc (m9 + 11) ((m_fill c0 (nI j4)).2) := ((OKc_fill hO _).mono (by omega))
      obtain ⟨c8, hc8⟩ : ∃ c8, c8 = (m_fill c0 (nI j4)).2 := ⟨_, rfl⟩
      rw [← hc8] at hW hOK
      clear hc8
      exact W.zret (ty := .boolean) (v := 1) hx hb hr (by decide) (fun t ht hWm => ⟨⟨_, (c8, pS hS hn c0, pN hn, sv, fl), rfl, CH_1 h8 hOK hsv hs0 rfl, LW_t ht hW⟩, hS0.F ht⟩) hS0.2.2 dL_changes_244
    · skip
      refine va_calli (vx_runSW (As := [.ref h, .int (nI j4)]) (rest := []) ⟨hx, hb, hml, hown, hts⟩ (cl_L_autoPack l hfl D G B0 X A h c0 c2 hS hn sv lab fl (nI j4) (Nat.le_of_lt h8) s.heap.size) (vx_cwSW (hh := [(0, 5, 6, 30)]) 2 hts gl_195 rfl rfl rfl (by decide +kernel) ⟨Nat.le_of_ble_eq_true rfl, Nat.le_of_ble_eq_true rfl⟩) (ps_lw hK hW (hE.at hS0 hAB) (AH hA0 hS0) hAB) rfl rfl hl.1 rfl (lv_room (Nat.le_of_ble_eq_true rfl)) dL_changes_233 ⟨Nat.le_of_ble_eq_true rfl, Nat.le_of_ble_eq_true rfl⟩) hS0 (fun q _ h => h) (fun q h => h) (fun r u48 t9 H1 locs ht hvm hw hW hz1 hk1 hS0 => ?_)
      have hX : f_fill c0 (nI j4) = 3 := hX9
      rw [hX] at hw hW
      have hw : r = (-1001) := hw
      have hW : LW D G X A h c0 c2 hS hn sv lab fl H1 := LW_h ht hW
      obtain ⟨H, rfl⟩ : ∃ z, z = H1 := ⟨_, rfl⟩
      rw [hw]
      refine W.widen (k := 1) (n := 6) (Nat.le_of_ble_eq_true rfl) (Nat.le_of_ble_eq_true rfl) ?_
      refine lv_if_lt (tgt := 243) hx hb dL_changes_236 (by decide) (fun _ => ?_) (fun c_49 => absurd (by decide) c_49)
      refine lv_iconst (v := 0) hx hb dL_changes_243 (by decide) ?_
      refine W.widen (k := 75) (n := 1300) (Nat.le_of_ble_eq_true rfl) (Nat.le_of_ble_eq_true rfl) ?_
      exact W.zret (ty := .boolean) (v := 0) hx hb hr (by decide) (fun t ht hWm => ⟨⟨_, (c0, hS, hn, sv, fl), rfl, CH_0 hO hsv hs0 rfl, LW_t ht hW⟩, hS0.F ht⟩) hS0.2.2 dL_changes_244
  have J245 : ∀ ls : Array Slot, lv_has ls 4 [(3, .int (nI j4)), (2, .int (nI j2)), (0, .ref h), (1, .int x)] → W p9 l e (headSpec (wA yL_changes cL_changes 4 (some .boolean)) ({ frames := 10, cells := 75, slots := 1300, locals := 228 } : Room)).room s m ([.ref h, .int x] : List Value).toArray below meth c9 s.heap [] (0) (0) (MQ below (va_Qi (fun (r : Int32) (u : CS × (Nat → CS) × Nat × SV × (Nat → Int32)) => CHp m9 c0 hS hn fl r u) (fun u t9 => LW D G X A h u.1 c2 u.2.1 u.2.2.1 u.2.2.2.1 lab u.2.2.2.2 t9.heap) A) ([.ref h, .int x] : List Value).toArray s 75 1300 A) (F0 m 245 ls []) := by
    intro ls hl
    refine lv_aload_n hx hb dL_changes_245 rfl (lv_at hl 2 rfl) ?_
    refine lv_iload_n hx hb dL_changes_246 rfl (lv_at hl 3 rfl) ?_
    refine lv_bipush (v := 6) hx hb dL_changes_247 (by decide) ?_
    refine lv_ishr hx hb dL_changes_249 ?_
    obtain ⟨i50, hv_50⟩ : ∃ z : Int32, z = x >>> (6 &&& 31) := ⟨_, rfl⟩
    rw [← hv_50]
    refine lv_iconst (v := 1) hx hb dL_changes_250 (by decide) ?_
    refine lv_iand hx hb dL_changes_251 ?_
    refine lv_if_ne (tgt := 283) hx hb dL_changes_252 (by decide) (fun c_b => ?_) (fun c_b => ?_)
    · skip
      have hj14 : j2 < 14 := by omega
      obtain ⟨Al, hAl⟩ : ∃ Al : Nat → Prop, Al = fun q => s.heap.size ≤ q := ⟨_, rfl⟩
      have hAn : ∀ q, s.heap.size ≤ q → Al q := by rw [hAl]; exact fun q h9 => h9
      have hAu : ∀ q, Al q → s.heap.size ≤ q := by rw [hAl]; exact fun q h9 => h9
      clear hAl
      have hABl : ∀ q, Al q → B0 ≤ q := fun q h9 => hAB _ (hA0 _ (hAu q h9))
      have hSb : va_S Al s.heap s.heap [] := va_S.rf
      refine va_new (D := D) (ci := 1) (fs := [.null, .int 0, .int 0, .int 0]) (C := RJ4) (T := TJ4) (N := 4) hx hb hts i_J4 tyJ4 tyJ4_ok hown (hts _ kw_1355) (hts _ kw_196) (hts _ kw_32) hK (P_none D s.heap) (D_none Al) hSb hAn rfl (fun j hj => by rcases (show j = 0 ∨ j = 1 ∨ j = 2 ∨ j = 3 by omega) with rfl | rfl | rfl | rfl <;> rfl) (show 0 + 1 ≤ 75 by omega) (show 0 + 4 ≤ 1300 by omega) dL_changes_283 (fun x0 H hP hD hSb => ?_)
      refine W.widen (k := 1) (n := 4) (Nat.le_of_ble_eq_true rfl) (Nat.le_of_ble_eq_true rfl) ?_
      refine lv_dup hx hb dL_changes_286 rfl ?_
      have hFc := free_end (W := ([] : va_W)) (c := ((x0, .inr (1, [.null, .int 0, .int 0, .int 0])) : Nat × va_E)) hD hSb hAn
      have hBc := B_end (W := ([] : va_W)) (c := ((x0, .inr (1, [.null, .int 0, .int 0, .int 0])) : Nat × va_E)) hD hABl
      refine va_callv (va_runI (As := []) (rest := [.ref x0, .ref h]) ⟨hx, hb, hml, hown, hts⟩ (c_J4_init_da8c8 l D G B0 X x0 H.size) (cwI 0 hts gi_J4_init_da8c8 rfl rfl rfl (hts _ kw_32) (hts _ kw_1356) (hts _ kw_198) rfl (by decide +kernel) ⟨Nat.le_of_ble_eq_true rfl, Nat.le_of_ble_eq_true rfl⟩) (pi_mk (W := ([] : va_W)) (c := ((x0, .inr (1, [.null, .int 0, .int 0, .int 0])) : Nat × va_E)) hK hP hBc (hE.at hSb hABl)) rfl rfl hl.1 rfl (lv_room (Nat.le_of_ble_eq_true rfl)) dL_changes_287 ⟨Nat.le_of_ble_eq_true rfl, Nat.le_of_ble_eq_true rfl⟩) hSb (fun q _ h => hFc q h) hFc (fun y0 t H locs ht hvm hw hB hz1 hk1 hSb => ?_)
      obtain ⟨hP, hB2⟩ := hB
      rw [ht] at hP
      have hD := hB2.weaken (fun _ _ _ h9 => hFc _ h9)
      clear hB2 hFc
      refine W.widen (k := 2) (n := 20) (Nat.le_of_ble_eq_true rfl) (Nat.le_of_ble_eq_true rfl) ?_
      refine va_ldcSW hx hb hown (hE.s.1 25 ("CourierBagsLaw", 270, "fill 0;unpack ") rfl) dL_changes_290 ?_
      have hFc := freeC hD hSb hAn
      refine va_callr (va_runV (As := [.ref (X 2 25)]) (rest := [.ref h]) ⟨hx, hb, hml, hown, hts⟩ (c_J4_append_15ec4 l D G B0 X x0 y0 16 (fun _ => 0) 0 0 (Nat.zero_le 16) (by decide) (fun _ => rfl) 25 (by decide) (by have := dg_1 j2 hj14; have h24 : strL.getD 24 0 = 2 := rfl; have h23 : strL.getD 23 0 = 16 := rfl; have h25 : strL.getD 25 0 = 14 := rfl; omega) H.size) (cwV 1 hts gw_L_257 rfl rfl rfl (by decide +kernel) ⟨Nat.le_of_ble_eq_true rfl, Nat.le_of_ble_eq_true rfl⟩) (pv_lb hK hP hD hABl (hE.at hSb hABl)) rfl rfl hl.1 rfl (lv_room (Nat.le_of_ble_eq_true rfl)) dL_changes_293 ⟨Nat.le_of_ble_eq_true rfl, Nat.le_of_ble_eq_true rfl⟩) hSb (fun q _ h => hFc q h) hFc (fun u1 q9 t9 H locs ht hvm hw hB hz1 hk1 hSb => ?_)
      obtain ⟨e9, hP, hB2⟩ := hB
      have e9 := e9.symm
      subst e9
      rw [ht] at hP
      have hD := hB2.weaken (fun _ _ _ h9 => hFc _ h9)
      clear hB2 hFc
      obtain ⟨f1_0, f1_1, f1_2, f1_3, f1_4⟩ := hw
      refine W.widen (k := 3) (n := 222) (Nat.le_of_ble_eq_true rfl) (Nat.le_of_ble_eq_true rfl) ?_
      refine lv_iload_n hx hb dL_changes_296 rfl (lv_at hl 1 rfl) ?_
      have hFc := freeC hD hSb hAn
      refine va_callr (va_runV (As := [.int (nI j2)]) (rest := [.ref h]) ⟨hx, hb, hml, hown, hts⟩ (c_J4_append_bf812 l D G B0 X x0 u1.1 u1.2.1 u1.2.2 (0 + strL.getD 25 0) 0 f1_3 f1_4 f1_2 j2 (by omega) (by have := dg_1 j2 hj14; have h24 : strL.getD 24 0 = 2 := rfl; have h23 : strL.getD 23 0 = 16 := rfl; have h25 : strL.getD 25 0 = 14 := rfl; omega) H.size) (cwV 1 hts gw_L_261 rfl rfl rfl (by decide +kernel) ⟨Nat.le_of_ble_eq_true rfl, Nat.le_of_ble_eq_true rfl⟩) (pv_lb hK hP hD hABl (hE.at hSb hABl)) rfl rfl hl.1 rfl (lv_room (Nat.le_of_ble_eq_true rfl)) dL_changes_297 ⟨Nat.le_of_ble_eq_true rfl, Nat.le_of_ble_eq_true rfl⟩) hSb (fun q _ h => hFc q h) hFc (fun u2 q9 t9 H locs ht hvm hw hB hz1 hk1 hSb => ?_)
      obtain ⟨e9, hP, hB2⟩ := hB
      have e9 := e9.symm
      subst e9
      rw [ht] at hP
      have hD := hB2.weaken (fun _ _ _ h9 => hFc _ h9)
      clear hB2 hFc
      obtain ⟨f2_0, f2_1, f2_2, f2_3, f2_4⟩ := hw
      refine W.widen (k := 4) (n := 424) (Nat.le_of_ble_eq_true rfl) (Nat.le_of_ble_eq_true rfl) ?_
      have hTx := (txU f1_1 f2_0 f2_1)
      have hFc := freeC hD hSb hAn
      refine va_callr (va_runV (As := []) (rest := [.ref h]) ⟨hx, hb, hml, hown, hts⟩ (c_J4_toString_0e30d l D G B0 X x0 u2.1 u2.2.1 u2.2.2 (0 + strL.getD 25 0 + dg j2) 0 f2_3 f2_4 f2_2 H.size) (cwV 0 hts gw_L_266 rfl rfl rfl (by decide +kernel) ⟨Nat.le_of_ble_eq_true rfl, Nat.le_of_ble_eq_true rfl⟩) (pv_lb hK hP hD hABl (hE.at hSb hABl)) rfl rfl hl.1 rfl (lv_room (Nat.le_of_ble_eq_true rfl)) dL_changes_300 ⟨Nat.le_of_ble_eq_true rfl, Nat.le_of_ble_eq_true rfl⟩) hSb (fun q _ h => hFc q h) hFc (fun u9 q9 t9 H locs ht hvm hw hB hz1 hk1 hSb => ?_)
      obtain ⟨hP, hB2⟩ := hB
      rw [ht] at hP
      have hD := hB2.weaken (fun _ _ _ h9 => hFc _ h9)
      clear hB2 hFc
      refine W.widen (k := 6) (n := 630) (Nat.le_of_ble_eq_true rfl) (Nat.le_of_ble_eq_true rfl) ?_
      have hq9 : s.heap.size ≤ q9 ∧ q9 < H.size := ⟨hAu _ (hD.2 0 _ rfl), (hP 0 _ rfl).lt⟩
      have hv9 : s.heap.size ≤ u9.1 ∧ u9.1 < H.size := ⟨hAu _ (hD.2 1 _ rfl), (hP 1 _ rfl).lt⟩
      obtain ⟨A2, hA2⟩ : ∃ A2 : Nat → Prop, A2 = fun q => (A q ∧ q < s.heap.size) ∨ H.size ≤ q := ⟨_, rfl⟩
      have hz9 := hSb.1
      have hA2A : ∀ q, A2 q → A q := by rw [hA2]; exact fun q h9 => h9.elim (fun h => h.1) (fun h => hA0 q (Nat.le_trans hz9 h))
      have hA2n : ∀ q, H.size ≤ q → A2 q := by rw [hA2]; exact fun q h9 => Or.inr h9
      have nq9 : ¬ A2 q9 := by rw [hA2]; rintro (h9 | h9) <;> omega
      have nv9 : ¬ A2 u9.1 := by rw [hA2]; rintro (h9 | h9) <;> omega
      have hTx9 := stw_X hts hK hP nq9 nv9
      have hW := LW_old (A2 := A2) hW hSb hAu (by rw [hA2]; exact fun q h1 h2 => Or.inl ⟨h1, h2⟩)
      clear hA2
      have hS0 : va_S A s.heap H locs := S_up hSb (fun q h9 => hA0 q (hAu q h9))
      have hT20 := (tU_ok j2 hj14).2.1
      refine va_calli (va_runS (As := [.ref h, .ref q9]) (rest := []) ⟨hx, hb, hml, hown, hts⟩ (cl_L_runs l hfl D G B0 X A2 h c0 c2 hS hn sv lab fl q9 u9.1 (0 + strL.getD 25 0 + dg j2) u9.2 (Nat.le_of_lt h8) hsv hs0 hO.1 (tU j2) (lU j2 hj14) (tx_f (lU j2 hj14) hT20 hw hTx (tU_ok j2 hj14).2.2) (Nat.le_trans hT20 (by decide)) (fun j hj => ((tU_ok j2 hj14).2.2 j (by omega) hj).2) H.size) (va_cwS 2 hts gw_L_272 rfl rfl rfl (by decide +kernel) ⟨Nat.le_of_ble_eq_true rfl, Nat.le_of_ble_eq_true rfl⟩) (ps_lx hK hW (hE.at hS0 hAB) hA2n (fun q h9 => hAB q (hA2A q h9)) hTx9) rfl rfl hl.1 rfl (lv_room (Nat.le_of_ble_eq_true rfl)) dL_changes_303 ⟨Nat.le_of_ble_eq_true rfl, Nat.le_of_ble_eq_true rfl⟩) hS0 (fun q _ h => hA2A q h) hA2A (fun r u t9 H1 locs ht hvm hw hW hz1 hk1 hS0 => ?_)
      refine W.widen (k := 68) (n := 1002) (Nat.le_of_ble_eq_true rfl) (Nat.le_of_ble_eq_true rfl) ?_
      have hsvT := (ty_ok (T := (tU j2)) hsv hs0 (tU j2).length (Nat.le_trans hT20 (by decide)))
      have hW := LW_weak hW (fun q _ h9 => hA2A q h9)
      rw [ht] at hW
      have hw : r = w_exec c0 fl (v_tyL sv (tU j2)) := hw
      rcases rg_x_exec c0 fl (v_tyL sv (tU j2)) with hX | hX | hX
      · skip
        rw [sel_0 hX, sel_0 hX, sel_0 hX] at hW
        have hw : r = (v_ct (v_tyL sv (tU j2))).1 := by rw [hw]; unfold w_exec; rw [sel_0 hX]
        have hW : LW D G X A h ((e_r c0 fl (v_tyL sv (tU j2))).2.1) c2 (pS hS hn c0) (pN hn) (e_sv c0 fl (v_tyL sv (tU j2))) lab (e_fl c0 fl (v_tyL sv (tU j2))) H1 := hW
        obtain ⟨H, rfl⟩ : ∃ z, z = H1 := ⟨_, rfl⟩
        rw [hw]
        refine lv_if_lt (tgt := 313) hx hb dL_changes_306 (by decide) (fun c_51 => absurd c_51 (nn_exec hX)) (fun _ => ?_)
        refine lv_iconst (v := 1) hx hb dL_changes_309 (by decide) ?_
        refine lv_goto (tgt := 314) hx hb dL_changes_310 (by decide) ?_
        refine W.widen (k := 75) (n := 1300) (Nat.le_of_ble_eq_true rfl) (Nat.le_of_ble_eq_true rfl) ?_
        have hSV := SVok_e (c0 := c0) (fl := fl) hsvT.1
        have hFL := e_fl_0 c0 fl (v_tyL sv (tU j2))
        obtain ⟨sv8, hsv8⟩ : ∃ z, z = (e_sv c0 fl (v_tyL sv (tU j2))) := ⟨_, rfl⟩
        obtain ⟨fl8, hfl8⟩ : ∃ z, z = (e_fl c0 fl (v_tyL sv (tU j2))) := ⟨_, rfl⟩
        rw [← hsv8] at hW hSV
        rw [← hfl8] at hW hFL
        clear hsv8 hfl8
        have hOK : OKc (m9 + 11) ((e_r c0 fl (v_tyL sv (tU j2))).2.1) := (OKc_exec hO (Nat.le_trans (Nat.le_of_eq hsvT.2) hT20))
        obtain ⟨c8, hc8⟩ : ∃ c8, c8 = (e_r c0 fl (v_tyL sv (tU j2))).2.1 := ⟨_, rfl⟩
        rw [← hc8] at hW hOK
        clear hc8
        exact W.zret (ty := .boolean) (v := 1) hx hb hr (by decide) (fun t ht hWm => ⟨⟨_, (c8, (pS hS hn c0), (pN hn), sv8, fl8), rfl, CH_1 h8 hOK hSV.1 hSV.2 hFL, LW_t ht hW⟩, hS0.F ht⟩) hS0.2.2 dL_changes_314
      · skip
        have hX0 : x_exec c0 fl (v_tyL sv (tU j2)) ≠ 0 := by rw [hX]; decide
        rw [sel_n hX0, sel_n hX0, sel_n hX0] at hW
        have hw : r = (-1001) := by rw [hw]; unfold w_exec; rw [hX]; rfl
        have hW : LW D G X A h c0 c2 hS hn (e_sv c0 fl (v_tyL sv (tU j2))) lab (e_fl c0 fl (v_tyL sv (tU j2))) H1 := hW
        obtain ⟨H, rfl⟩ : ∃ z, z = H1 := ⟨_, rfl⟩
        rw [hw]
        refine lv_if_lt (tgt := 313) hx hb dL_changes_306 (by decide) (fun _ => ?_) (fun c_52 => absurd (by decide) c_52)
        refine lv_iconst (v := 0) hx hb dL_changes_313 (by decide) ?_
        refine W.widen (k := 75) (n := 1300) (Nat.le_of_ble_eq_true rfl) (Nat.le_of_ble_eq_true rfl) ?_
        have hSV := SVok_e (c0 := c0) (fl := fl) hsvT.1
        have hFL := e_fl_0 c0 fl (v_tyL sv (tU j2))
        obtain ⟨sv8, hsv8⟩ : ∃ z, z = (e_sv c0 fl (v_tyL sv (tU j2))) := ⟨_, rfl⟩
        obtain ⟨fl8, hfl8⟩ : ∃ z, z = (e_fl c0 fl (v_tyL sv (tU j2))) := ⟨_, rfl⟩
        rw [← hsv8] at hW hSV
        rw [← hfl8] at hW hFL
        clear hsv8 hfl8
        exact W.zret (ty := .boolean) (v := 0) hx hb hr (by decide) (fun t ht hWm => ⟨⟨_, (c0, hS, hn, sv8, fl8), rfl, CH_0 hO hSV.1 hSV.2 hFL, LW_t ht hW⟩, hS0.F ht⟩) hS0.2.2 dL_changes_314
      · skip
        have hX0 : x_exec c0 fl (v_tyL sv (tU j2)) ≠ 0 := by rw [hX]; decide
        rw [sel_n hX0, sel_n hX0, sel_n hX0] at hW
        have hw : r = (-1002) := by rw [hw]; unfold w_exec; rw [hX]; rfl
        have hW : LW D G X A h c0 c2 hS hn (e_sv c0 fl (v_tyL sv (tU j2))) lab (e_fl c0 fl (v_tyL sv (tU j2))) H1 := hW
        obtain ⟨H, rfl⟩ : ∃ z, z = H1 := ⟨_, rfl⟩
        rw [hw]
        refine lv_if_lt (tgt := 313) hx hb dL_changes_306 (by decide) (fun _ => ?_) (fun c_53 => absurd (by decide) c_53)
        refine lv_iconst (v := 0) hx hb dL_changes_313 (by decide) ?_
        refine W.widen (k := 75) (n := 1300) (Nat.le_of_ble_eq_true rfl) (Nat.le_of_ble_eq_true rfl) ?_
        have hSV := SVok_e (c0 := c0) (fl := fl) hsvT.1
        have hFL := e_fl_0 c0 fl (v_tyL sv (tU j2))
        obtain ⟨sv8, hsv8⟩ : ∃ z, z = (e_sv c0 fl (v_tyL sv (tU j2))) := ⟨_, rfl⟩
        obtain ⟨fl8, hfl8⟩ : ∃ z, z = (e_fl c0 fl (v_tyL sv (tU j2))) := ⟨_, rfl⟩
        rw [← hsv8] at hW hSV
        rw [← hfl8] at hW hFL
        clear hsv8 hfl8
        exact W.zret (ty := .boolean) (v := 0) hx hb hr (by decide) (fun t ht hWm => ⟨⟨_, (c0, hS, hn, sv8, fl8), rfl, CH_0 hO hSV.1 hSV.2 hFL, LW_t ht hW⟩, hS0.F ht⟩) hS0.2.2 dL_changes_314
    · skip
      have hj14 : j2 < 14 := by omega
      obtain ⟨Al, hAl⟩ : ∃ Al : Nat → Prop, Al = fun q => s.heap.size ≤ q := ⟨_, rfl⟩
      have hAn : ∀ q, s.heap.size ≤ q → Al q := by rw [hAl]; exact fun q h9 => h9
      have hAu : ∀ q, Al q → s.heap.size ≤ q := by rw [hAl]; exact fun q h9 => h9
      clear hAl
      have hABl : ∀ q, Al q → B0 ≤ q := fun q h9 => hAB _ (hA0 _ (hAu q h9))
      have hSb : va_S Al s.heap s.heap [] := va_S.rf
      refine va_new (D := D) (ci := 1) (fs := [.null, .int 0, .int 0, .int 0]) (C := RJ4) (T := TJ4) (N := 4) hx hb hts i_J4 tyJ4 tyJ4_ok hown (hts _ kw_1355) (hts _ kw_196) (hts _ kw_32) hK (P_none D s.heap) (D_none Al) hSb hAn rfl (fun j hj => by rcases (show j = 0 ∨ j = 1 ∨ j = 2 ∨ j = 3 by omega) with rfl | rfl | rfl | rfl <;> rfl) (show 0 + 1 ≤ 75 by omega) (show 0 + 4 ≤ 1300 by omega) dL_changes_255 (fun x0 H hP hD hSb => ?_)
      refine W.widen (k := 1) (n := 4) (Nat.le_of_ble_eq_true rfl) (Nat.le_of_ble_eq_true rfl) ?_
      refine lv_dup hx hb dL_changes_258 rfl ?_
      have hFc := free_end (W := ([] : va_W)) (c := ((x0, .inr (1, [.null, .int 0, .int 0, .int 0])) : Nat × va_E)) hD hSb hAn
      have hBc := B_end (W := ([] : va_W)) (c := ((x0, .inr (1, [.null, .int 0, .int 0, .int 0])) : Nat × va_E)) hD hABl
      refine va_callv (va_runI (As := []) (rest := [.ref x0, .ref h]) ⟨hx, hb, hml, hown, hts⟩ (c_J4_init_da8c8 l D G B0 X x0 H.size) (cwI 0 hts gi_J4_init_da8c8 rfl rfl rfl (hts _ kw_32) (hts _ kw_1356) (hts _ kw_198) rfl (by decide +kernel) ⟨Nat.le_of_ble_eq_true rfl, Nat.le_of_ble_eq_true rfl⟩) (pi_mk (W := ([] : va_W)) (c := ((x0, .inr (1, [.null, .int 0, .int 0, .int 0])) : Nat × va_E)) hK hP hBc (hE.at hSb hABl)) rfl rfl hl.1 rfl (lv_room (Nat.le_of_ble_eq_true rfl)) dL_changes_259 ⟨Nat.le_of_ble_eq_true rfl, Nat.le_of_ble_eq_true rfl⟩) hSb (fun q _ h => hFc q h) hFc (fun y0 t H locs ht hvm hw hB hz1 hk1 hSb => ?_)
      obtain ⟨hP, hB2⟩ := hB
      rw [ht] at hP
      have hD := hB2.weaken (fun _ _ _ h9 => hFc _ h9)
      clear hB2 hFc
      refine W.widen (k := 2) (n := 20) (Nat.le_of_ble_eq_true rfl) (Nat.le_of_ble_eq_true rfl) ?_
      refine va_ldcS hx hb hown (hE.s.1 23 ("CourierBagsLaw", 255, "item 1 1 1;pack ") rfl) dL_changes_262 ?_
      have hFc := freeC hD hSb hAn
      refine va_callr (va_runV (As := [.ref (X 2 23)]) (rest := [.ref h]) ⟨hx, hb, hml, hown, hts⟩ (c_J4_append_15ec4 l D G B0 X x0 y0 16 (fun _ => 0) 0 0 (Nat.zero_le 16) (by decide) (fun _ => rfl) 23 (by decide) (by have := dg_1 j2 hj14; have h24 : strL.getD 24 0 = 2 := rfl; have h23 : strL.getD 23 0 = 16 := rfl; have h25 : strL.getD 25 0 = 14 := rfl; omega) H.size) (cwV 1 hts gw_L_257 rfl rfl rfl (by decide +kernel) ⟨Nat.le_of_ble_eq_true rfl, Nat.le_of_ble_eq_true rfl⟩) (pv_lb hK hP hD hABl (hE.at hSb hABl)) rfl rfl hl.1 rfl (lv_room (Nat.le_of_ble_eq_true rfl)) dL_changes_264 ⟨Nat.le_of_ble_eq_true rfl, Nat.le_of_ble_eq_true rfl⟩) hSb (fun q _ h => hFc q h) hFc (fun u1 q9 t9 H locs ht hvm hw hB hz1 hk1 hSb => ?_)
      obtain ⟨e9, hP, hB2⟩ := hB
      have e9 := e9.symm
      subst e9
      rw [ht] at hP
      have hD := hB2.weaken (fun _ _ _ h9 => hFc _ h9)
      clear hB2 hFc
      obtain ⟨f1_0, f1_1, f1_2, f1_3, f1_4⟩ := hw
      refine W.widen (k := 3) (n := 222) (Nat.le_of_ble_eq_true rfl) (Nat.le_of_ble_eq_true rfl) ?_
      refine lv_iload_n hx hb dL_changes_267 rfl (lv_at hl 1 rfl) ?_
      have hFc := freeC hD hSb hAn
      refine va_callr (va_runV (As := [.int (nI j2)]) (rest := [.ref h]) ⟨hx, hb, hml, hown, hts⟩ (c_J4_append_bf812 l D G B0 X x0 u1.1 u1.2.1 u1.2.2 (0 + strL.getD 23 0) 0 f1_3 f1_4 f1_2 j2 (by omega) (by have := dg_1 j2 hj14; have h24 : strL.getD 24 0 = 2 := rfl; have h23 : strL.getD 23 0 = 16 := rfl; have h25 : strL.getD 25 0 = 14 := rfl; omega) H.size) (cwV 1 hts gw_L_261 rfl rfl rfl (by decide +kernel) ⟨Nat.le_of_ble_eq_true rfl, Nat.le_of_ble_eq_true rfl⟩) (pv_lb hK hP hD hABl (hE.at hSb hABl)) rfl rfl hl.1 rfl (lv_room (Nat.le_of_ble_eq_true rfl)) dL_changes_268 ⟨Nat.le_of_ble_eq_true rfl, Nat.le_of_ble_eq_true rfl⟩) hSb (fun q _ h => hFc q h) hFc (fun u2 q9 t9 H locs ht hvm hw hB hz1 hk1 hSb => ?_)
      obtain ⟨e9, hP, hB2⟩ := hB
      have e9 := e9.symm
      subst e9
      rw [ht] at hP
      have hD := hB2.weaken (fun _ _ _ h9 => hFc _ h9)
      clear hB2 hFc
      obtain ⟨f2_0, f2_1, f2_2, f2_3, f2_4⟩ := hw
      refine W.widen (k := 4) (n := 424) (Nat.le_of_ble_eq_true rfl) (Nat.le_of_ble_eq_true rfl) ?_
      refine va_ldcSW hx hb hown (hE.s.1 24 ("CourierBagsLaw", 264, " 0") rfl) dL_changes_271 ?_
      have hFc := freeC hD hSb hAn
      refine va_callr (va_runV (As := [.ref (X 2 24)]) (rest := [.ref h]) ⟨hx, hb, hml, hown, hts⟩ (c_J4_append_15ec4 l D G B0 X x0 u2.1 u2.2.1 u2.2.2 (0 + strL.getD 23 0 + dg j2) 0 f2_3 f2_4 f2_2 24 (by decide) (by have := dg_1 j2 hj14; have h24 : strL.getD 24 0 = 2 := rfl; have h23 : strL.getD 23 0 = 16 := rfl; have h25 : strL.getD 25 0 = 14 := rfl; omega) H.size) (cwV 1 hts gw_L_257 rfl rfl rfl (by decide +kernel) ⟨Nat.le_of_ble_eq_true rfl, Nat.le_of_ble_eq_true rfl⟩) (pv_lb hK hP hD hABl (hE.at hSb hABl)) rfl rfl hl.1 rfl (lv_room (Nat.le_of_ble_eq_true rfl)) dL_changes_274 ⟨Nat.le_of_ble_eq_true rfl, Nat.le_of_ble_eq_true rfl⟩) hSb (fun q _ h => hFc q h) hFc (fun u3 q9 t9 H locs ht hvm hw hB hz1 hk1 hSb => ?_)
      obtain ⟨e9, hP, hB2⟩ := hB
      have e9 := e9.symm
      subst e9
      rw [ht] at hP
      have hD := hB2.weaken (fun _ _ _ h9 => hFc _ h9)
      clear hB2 hFc
      obtain ⟨f3_0, f3_1, f3_2, f3_3, f3_4⟩ := hw
      refine W.widen (k := 5) (n := 626) (Nat.le_of_ble_eq_true rfl) (Nat.le_of_ble_eq_true rfl) ?_
      have hTx := (txI f1_1 f2_0 f2_1 f3_0 f3_1)
      have hFc := freeC hD hSb hAn
      refine va_callr (va_runV (As := []) (rest := [.ref h]) ⟨hx, hb, hml, hown, hts⟩ (c_J4_toString_0e30d l D G B0 X x0 u3.1 u3.2.1 u3.2.2 (0 + strL.getD 23 0 + dg j2 + strL.getD 24 0) 0 f3_3 f3_4 f3_2 H.size) (cwV 0 hts gw_L_266 rfl rfl rfl (by decide +kernel) ⟨Nat.le_of_ble_eq_true rfl, Nat.le_of_ble_eq_true rfl⟩) (pv_lb hK hP hD hABl (hE.at hSb hABl)) rfl rfl hl.1 rfl (lv_room (Nat.le_of_ble_eq_true rfl)) dL_changes_277 ⟨Nat.le_of_ble_eq_true rfl, Nat.le_of_ble_eq_true rfl⟩) hSb (fun q _ h => hFc q h) hFc (fun u9 q9 t9 H locs ht hvm hw hB hz1 hk1 hSb => ?_)
      obtain ⟨hP, hB2⟩ := hB
      rw [ht] at hP
      have hD := hB2.weaken (fun _ _ _ h9 => hFc _ h9)
      clear hB2 hFc
      refine W.widen (k := 7) (n := 832) (Nat.le_of_ble_eq_true rfl) (Nat.le_of_ble_eq_true rfl) ?_
      refine lv_goto (tgt := 303) hx hb dL_changes_280 (by decide) ?_
      have hq9 : s.heap.size ≤ q9 ∧ q9 < H.size := ⟨hAu _ (hD.2 0 _ rfl), (hP 0 _ rfl).lt⟩
      have hv9 : s.heap.size ≤ u9.1 ∧ u9.1 < H.size := ⟨hAu _ (hD.2 1 _ rfl), (hP 1 _ rfl).lt⟩
      obtain ⟨A2, hA2⟩ : ∃ A2 : Nat → Prop, A2 = fun q => (A q ∧ q < s.heap.size) ∨ H.size ≤ q := ⟨_, rfl⟩
      have hz9 := hSb.1
      have hA2A : ∀ q, A2 q → A q := by rw [hA2]; exact fun q h9 => h9.elim (fun h => h.1) (fun h => hA0 q (Nat.le_trans hz9 h))
      have hA2n : ∀ q, H.size ≤ q → A2 q := by rw [hA2]; exact fun q h9 => Or.inr h9
      have nq9 : ¬ A2 q9 := by rw [hA2]; rintro (h9 | h9) <;> omega
      have nv9 : ¬ A2 u9.1 := by rw [hA2]; rintro (h9 | h9) <;> omega
      have hTx9 := stw_X hts hK hP nq9 nv9
      have hW := LW_old (A2 := A2) hW hSb hAu (by rw [hA2]; exact fun q h1 h2 => Or.inl ⟨h1, h2⟩)
      clear hA2
      have hS0 : va_S A s.heap H locs := S_up hSb (fun q h9 => hA0 q (hAu q h9))
      have hT20 := (tI_ok j2 hj14).2.1
      refine va_calli (va_runS (As := [.ref h, .ref q9]) (rest := []) ⟨hx, hb, hml, hown, hts⟩ (cl_L_runs l hfl D G B0 X A2 h c0 c2 hS hn sv lab fl q9 u9.1 (0 + strL.getD 23 0 + dg j2 + strL.getD 24 0) u9.2 (Nat.le_of_lt h8) hsv hs0 hO.1 (tI j2) (lI j2 hj14) (tx_f (lI j2 hj14) hT20 hw hTx (tI_ok j2 hj14).2.2) (Nat.le_trans hT20 (by decide)) (fun j hj => ((tI_ok j2 hj14).2.2 j (by omega) hj).2) H.size) (va_cwS 2 hts gw_L_272 rfl rfl rfl (by decide +kernel) ⟨Nat.le_of_ble_eq_true rfl, Nat.le_of_ble_eq_true rfl⟩) (ps_lx hK hW (hE.at hS0 hAB) hA2n (fun q h9 => hAB q (hA2A q h9)) hTx9) rfl rfl hl.1 rfl (lv_room (Nat.le_of_ble_eq_true rfl)) dL_changes_303 ⟨Nat.le_of_ble_eq_true rfl, Nat.le_of_ble_eq_true rfl⟩) hS0 (fun q _ h => hA2A q h) hA2A (fun r u t9 H1 locs ht hvm hw hW hz1 hk1 hS0 => ?_)
      refine W.widen (k := 69) (n := 1204) (Nat.le_of_ble_eq_true rfl) (Nat.le_of_ble_eq_true rfl) ?_
      have hsvT := (ty_ok (T := (tI j2)) hsv hs0 (tI j2).length (Nat.le_trans hT20 (by decide)))
      have hW := LW_weak hW (fun q _ h9 => hA2A q h9)
      rw [ht] at hW
      have hw : r = w_exec c0 fl (v_tyL sv (tI j2)) := hw
      rcases rg_x_exec c0 fl (v_tyL sv (tI j2)) with hX | hX | hX
      · skip
        rw [sel_0 hX, sel_0 hX, sel_0 hX] at hW
        have hw : r = (v_ct (v_tyL sv (tI j2))).1 := by rw [hw]; unfold w_exec; rw [sel_0 hX]
        have hW : LW D G X A h ((e_r c0 fl (v_tyL sv (tI j2))).2.1) c2 (pS hS hn c0) (pN hn) (e_sv c0 fl (v_tyL sv (tI j2))) lab (e_fl c0 fl (v_tyL sv (tI j2))) H1 := hW
        obtain ⟨H, rfl⟩ : ∃ z, z = H1 := ⟨_, rfl⟩
        rw [hw]
        refine lv_if_lt (tgt := 313) hx hb dL_changes_306 (by decide) (fun c_54 => absurd c_54 (nn_exec hX)) (fun _ => ?_)
        refine lv_iconst (v := 1) hx hb dL_changes_309 (by decide) ?_
        refine lv_goto (tgt := 314) hx hb dL_changes_310 (by decide) ?_
        refine W.widen (k := 75) (n := 1300) (Nat.le_of_ble_eq_true rfl) (Nat.le_of_ble_eq_true rfl) ?_
        have hSV := SVok_e (c0 := c0) (fl := fl) hsvT.1
        have hFL := e_fl_0 c0 fl (v_tyL sv (tI j2))
        obtain ⟨sv8, hsv8⟩ : ∃ z, z = (e_sv c0 fl (v_tyL sv (tI j2))) := ⟨_, rfl⟩
        obtain ⟨fl8, hfl8⟩ : ∃ z, z = (e_fl c0 fl (v_tyL sv (tI j2))) := ⟨_, rfl⟩
        rw [← hsv8] at hW hSV
        rw [← hfl8] at hW hFL
        clear hsv8 hfl8
        have hOK : OKc (m9 + 11) ((e_r c0 fl (v_tyL sv (tI j2))).2.1) := (OKc_exec hO (Nat.le_trans (Nat.le_of_eq hsvT.2) hT20))
        obtain ⟨c8, hc8⟩ : ∃ c8, c8 = (e_r c0 fl (v_tyL sv (tI j2))).2.1 := ⟨_, rfl⟩
        rw [← hc8] at hW hOK
        clear hc8
        exact W.zret (ty := .boolean) (v := 1) hx hb hr (by decide) (fun t ht hWm => ⟨⟨_, (c8, (pS hS hn c0), (pN hn), sv8, fl8), rfl, CH_1 h8 hOK hSV.1 hSV.2 hFL, LW_t ht hW⟩, hS0.F ht⟩) hS0.2.2 dL_changes_314
      · skip
        have hX0 : x_exec c0 fl (v_tyL sv (tI j2)) ≠ 0 := by rw [hX]; decide
        rw [sel_n hX0, sel_n hX0, sel_n hX0] at hW
        have hw : r = (-1001) := by rw [hw]; unfold w_exec; rw [hX]; rfl
        have hW : LW D G X A h c0 c2 hS hn (e_sv c0 fl (v_tyL sv (tI j2))) lab (e_fl c0 fl (v_tyL sv (tI j2))) H1 := hW
        obtain ⟨H, rfl⟩ : ∃ z, z = H1 := ⟨_, rfl⟩
        rw [hw]
        refine lv_if_lt (tgt := 313) hx hb dL_changes_306 (by decide) (fun _ => ?_) (fun c_55 => absurd (by decide) c_55)
        refine lv_iconst (v := 0) hx hb dL_changes_313 (by decide) ?_
        refine W.widen (k := 75) (n := 1300) (Nat.le_of_ble_eq_true rfl) (Nat.le_of_ble_eq_true rfl) ?_
        have hSV := SVok_e (c0 := c0) (fl := fl) hsvT.1
        have hFL := e_fl_0 c0 fl (v_tyL sv (tI j2))
        obtain ⟨sv8, hsv8⟩ : ∃ z, z = (e_sv c0 fl (v_tyL sv (tI j2))) := ⟨_, rfl⟩
        obtain ⟨fl8, hfl8⟩ : ∃ z, z = (e_fl c0 fl (v_tyL sv (tI j2))) := ⟨_, rfl⟩
        rw [← hsv8] at hW hSV
        rw [← hfl8] at hW hFL
        clear hsv8 hfl8
        exact W.zret (ty := .boolean) (v := 0) hx hb hr (by decide) (fun t ht hWm => ⟨⟨_, (c0, hS, hn, sv8, fl8), rfl, CH_0 hO hSV.1 hSV.2 hFL, LW_t ht hW⟩, hS0.F ht⟩) hS0.2.2 dL_changes_314
      · skip
        have hX0 : x_exec c0 fl (v_tyL sv (tI j2)) ≠ 0 := by rw [hX]; decide
        rw [sel_n hX0, sel_n hX0, sel_n hX0] at hW
        have hw : r = (-1002) := by rw [hw]; unfold w_exec; rw [hX]; rfl
        have hW : LW D G X A h c0 c2 hS hn (e_sv c0 fl (v_tyL sv (tI j2))) lab (e_fl c0 fl (v_tyL sv (tI j2))) H1 := hW
        obtain ⟨H, rfl⟩ : ∃ z, z = H1 := ⟨_, rfl⟩
        rw [hw]
        refine lv_if_lt (tgt := 313) hx hb dL_changes_306 (by decide) (fun _ => ?_) (fun c_56 => absurd (by decide) c_56)
        refine lv_iconst (v := 0) hx hb dL_changes_313 (by decide) ?_
        refine W.widen (k := 75) (n := 1300) (Nat.le_of_ble_eq_true rfl) (Nat.le_of_ble_eq_true rfl) ?_
        have hSV := SVok_e (c0 := c0) (fl := fl) hsvT.1
        have hFL := e_fl_0 c0 fl (v_tyL sv (tI j2))
        obtain ⟨sv8, hsv8⟩ : ∃ z, z = (e_sv c0 fl (v_tyL sv (tI j2))) := ⟨_, rfl⟩
        obtain ⟨fl8, hfl8⟩ : ∃ z, z = (e_fl c0 fl (v_tyL sv (tI j2))) := ⟨_, rfl⟩
        rw [← hsv8] at hW hSV
        rw [← hfl8] at hW hFL
        clear hsv8 hfl8
        exact W.zret (ty := .boolean) (v := 0) hx hb hr (by decide) (fun t ht hWm => ⟨⟨_, (c0, hS, hn, sv8, fl8), rfl, CH_0 hO hSV.1 hSV.2 hFL, LW_t ht hW⟩, hS0.F ht⟩) hS0.2.2 dL_changes_314
  have J315 : ∀ ls : Array Slot, lv_has ls 4 [(3, .int (nI j4)), (2, .int (nI j2)), (0, .ref h), (1, .int x)] → W p9 l e (headSpec (wA yL_changes cL_changes 4 (some .boolean)) ({ frames := 10, cells := 75, slots := 1300, locals := 228 } : Room)).room s m ([.ref h, .int x] : List Value).toArray below meth c9 s.heap [] (0) (0) (MQ below (va_Qi (fun (r : Int32) (u : CS × (Nat → CS) × Nat × SV × (Nat → Int32)) => CHp m9 c0 hS hn fl r u) (fun u t9 => LW D G X A h u.1 c2 u.2.1 u.2.2.1 u.2.2.2.1 lab u.2.2.2.2 t9.heap) A) ([.ref h, .int x] : List Value).toArray s 75 1300 A) (F0 m 315 ls []) := by
    intro ls hl
    refine lv_aload_n hx hb dL_changes_315 rfl (lv_at hl 2 rfl) ?_
    rcases rg_f_handOver c0 with hX9 | hX9
    · skip
      refine va_calli (vx_runSW (As := [.ref h]) (rest := []) ⟨hx, hb, hml, hown, hts⟩ (cl_L_deliver l hfl D G B0 X A h c0 c2 hS hn sv lab fl (Nat.le_of_lt h8) s.heap.size) (vx_cwSW (hh := [(0, 4, 5, 15)]) 1 hts gl_276 rfl rfl rfl (by decide +kernel) ⟨Nat.le_of_ble_eq_true rfl, Nat.le_of_ble_eq_true rfl⟩) (ps_lw hK hW (hE.at hS0 hAB) (AH hA0 hS0) hAB) rfl rfl hl.1 rfl (lv_room (Nat.le_of_ble_eq_true rfl)) dL_changes_316 ⟨Nat.le_of_ble_eq_true rfl, Nat.le_of_ble_eq_true rfl⟩) hS0 (fun q _ h => h) (fun q h => h) (fun r u57 t9 H1 locs ht hvm hw hW hz1 hk1 hS0 => ?_)
      have hX : f_handOver c0 = 0 := hX9
      rw [hX] at hw hW
      have hw : r = (m_handOver c0).1 := hw
      have hW : LW D G X A h ((m_handOver c0).2) c2 (pS hS hn c0) (pN hn) sv lab fl H1 := LW_h ht hW
      obtain ⟨H, rfl⟩ : ∃ z, z = H1 := ⟨_, rfl⟩
      rw [hw]
      refine W.widen (k := 1) (n := 6) (Nat.le_of_ble_eq_true rfl) (Nat.le_of_ble_eq_true rfl) ?_
      refine lv_if_lt (tgt := 326) hx hb dL_changes_319 (by decide) (fun c_58 => absurd c_58 (nn_hand _)) (fun _ => ?_)
      refine lv_iconst (v := 1) hx hb dL_changes_322 (by decide) ?_
      refine lv_goto (tgt := 327) hx hb dL_changes_323 (by decide) ?_
      refine W.widen (k := 75) (n := 1300) (Nat.le_of_ble_eq_true rfl) (Nat.le_of_ble_eq_true rfl) ?_
      have hOK : OKc (m9 + 11) ((m_handOver c0).2) := ((OKc_hand hO).mono (by omega))
      obtain ⟨c8, hc8⟩ : ∃ c8, c8 = (m_handOver c0).2 := ⟨_, rfl⟩
      rw [← hc8] at hW hOK
      clear hc8
      exact W.zret (ty := .boolean) (v := 1) hx hb hr (by decide) (fun t ht hWm => ⟨⟨_, (c8, pS hS hn c0, pN hn, sv, fl), rfl, CH_1 h8 hOK hsv hs0 rfl, LW_t ht hW⟩, hS0.F ht⟩) hS0.2.2 dL_changes_327
    · skip
      refine va_calli (vx_runSW (As := [.ref h]) (rest := []) ⟨hx, hb, hml, hown, hts⟩ (cl_L_deliver l hfl D G B0 X A h c0 c2 hS hn sv lab fl (Nat.le_of_lt h8) s.heap.size) (vx_cwSW (hh := [(0, 4, 5, 15)]) 1 hts gl_276 rfl rfl rfl (by decide +kernel) ⟨Nat.le_of_ble_eq_true rfl, Nat.le_of_ble_eq_true rfl⟩) (ps_lw hK hW (hE.at hS0 hAB) (AH hA0 hS0) hAB) rfl rfl hl.1 rfl (lv_room (Nat.le_of_ble_eq_true rfl)) dL_changes_316 ⟨Nat.le_of_ble_eq_true rfl, Nat.le_of_ble_eq_true rfl⟩) hS0 (fun q _ h => h) (fun q h => h) (fun r u59 t9 H1 locs ht hvm hw hW hz1 hk1 hS0 => ?_)
      have hX : f_handOver c0 = 4 := hX9
      rw [hX] at hw hW
      have hw : r = (-1001) := hw
      have hW : LW D G X A h c0 c2 hS hn sv lab fl H1 := LW_h ht hW
      obtain ⟨H, rfl⟩ : ∃ z, z = H1 := ⟨_, rfl⟩
      rw [hw]
      refine W.widen (k := 1) (n := 6) (Nat.le_of_ble_eq_true rfl) (Nat.le_of_ble_eq_true rfl) ?_
      refine lv_if_lt (tgt := 326) hx hb dL_changes_319 (by decide) (fun _ => ?_) (fun c_60 => absurd (by decide) c_60)
      refine lv_iconst (v := 0) hx hb dL_changes_326 (by decide) ?_
      refine W.widen (k := 75) (n := 1300) (Nat.le_of_ble_eq_true rfl) (Nat.le_of_ble_eq_true rfl) ?_
      exact W.zret (ty := .boolean) (v := 0) hx hb hr (by decide) (fun t ht hWm => ⟨⟨_, (c0, hS, hn, sv, fl), rfl, CH_0 hO hsv hs0 rfl, LW_t ht hW⟩, hS0.F ht⟩) hS0.2.2 dL_changes_327
  rcases (show j5 = 0 ∨ j5 = 1 ∨ j5 = 2 ∨ j5 = 3 ∨ j5 = 4 ∨ j5 = 5 ∨ j5 = 6 ∨ j5 = 7 ∨ j5 = 8 ∨ j5 = 9 ∨ j5 = 10 ∨ j5 = 11 ∨ j5 = 12 ∨ j5 = 13 ∨ j5 = 14 ∨ j5 = 15 ∨ j5 = 16 ∨ j5 = 17 ∨ j5 = 18 ∨ j5 = 19 ∨ j5 = 20 ∨ j5 = 21 by omega) with rfl | rfl | rfl | rfl | rfl | rfl | rfl | rfl | rfl | rfl | rfl | rfl | rfl | rfl | rfl | rfl | rfl | rfl | rfl | rfl | rfl | rfl
  · skip
    refine lv_tableIn (tgt := 116) hx hb dL_changes_29 (by decide) (by decide) rfl (by decide) ?_
    refine lv_aload_n hx hb dL_changes_116 rfl (lv_at hl 2 rfl) ?_
    refine lv_iload_n hx hb dL_changes_117 rfl (lv_at hl 3 rfl) ?_
    refine lv_iconst (v := 4) hx hb dL_changes_118 (by decide) ?_
    refine lv_ishr hx hb dL_changes_119 ?_
    obtain ⟨i61, hv_61⟩ : ∃ z : Int32, z = x >>> (4 &&& 31) := ⟨_, rfl⟩
    rw [← hv_61]
    refine lv_bipush (v := 101) hx hb dL_changes_120 (by decide) ?_
    refine vp_callSi (va_runS (As := [.int i61, .int (nI 101)]) (rest := [.ref h]) ⟨hx, hb, hml, hown, hts⟩ (cl_L_some l i61 101 (by omega) (by omega)) (va_cwS 2 hts gw_L_184 rfl rfl rfl (by decide +kernel) ⟨Nat.le_of_ble_eq_true rfl, Nat.le_of_ble_eq_true rfl⟩) ps_0 rfl rfl hl.1 rfl (lv_room (Nat.le_of_ble_eq_true rfl)) dL_changes_122 ⟨Nat.le_of_ble_eq_true rfl, Nat.le_of_ble_eq_true rfl⟩).run (fun r62 h9 => ?_)
    obtain ⟨j62, hj62, rfl⟩ := h9
    rcases rg_f_open c0 (nI j62) with hX9 | hX9 | hX9
    · skip
      refine va_calli (vx_runSW (As := [.ref h, .int (nI j62)]) (rest := []) ⟨hx, hb, hml, hown, hts⟩ (cl_L_addBag l hfl D G B0 X A h c0 c2 hS hn sv lab fl (nI j62) (Nat.le_of_lt h8) hO.1 s.heap.size) (vx_cwSW (hh := [(0, 5, 6, 13), (0, 5, 11, 15)]) 2 hts gl_187 rfl rfl rfl (by decide +kernel) ⟨Nat.le_of_ble_eq_true rfl, Nat.le_of_ble_eq_true rfl⟩) (ps_lw hK hW (hE.at hS0 hAB) (AH hA0 hS0) hAB) rfl rfl hl.1 rfl (lv_room (Nat.le_of_ble_eq_true rfl)) dL_changes_125 ⟨Nat.le_of_ble_eq_true rfl, Nat.le_of_ble_eq_true rfl⟩) hS0 (fun q _ h => h) (fun q h => h) (fun r u63 t9 H1 locs ht hvm hw hW hz1 hk1 hS0 => ?_)
      have hX : f_open c0 (nI j62) = 0 := hX9
      rw [hX] at hw hW
      have hw : r = (m_open c0 (nI j62)).1 := hw
      have hW : LW D G X A h ((m_open c0 (nI j62)).2) c2 (pS hS hn c0) (pN hn) sv lab fl H1 := LW_h ht hW
      obtain ⟨H, rfl⟩ : ∃ z, z = H1 := ⟨_, rfl⟩
      rw [hw]
      refine W.widen (k := 1) (n := 6) (Nat.le_of_ble_eq_true rfl) (Nat.le_of_ble_eq_true rfl) ?_
      refine lv_if_lt (tgt := 135) hx hb dL_changes_128 (by decide) (fun c_64 => absurd c_64 (nn_open hO.1 _)) (fun _ => ?_)
      refine lv_iconst (v := 1) hx hb dL_changes_131 (by decide) ?_
      refine lv_goto (tgt := 136) hx hb dL_changes_132 (by decide) ?_
      refine W.widen (k := 75) (n := 1300) (Nat.le_of_ble_eq_true rfl) (Nat.le_of_ble_eq_true rfl) ?_
      have hOK : OKc (m9 + 11) ((m_open c0 (nI j62)).2) := ((OKc_open hO _).mono (by omega))
      obtain ⟨c8, hc8⟩ : ∃ c8, c8 = (m_open c0 (nI j62)).2 := ⟨_, rfl⟩
      rw [← hc8] at hW hOK
      clear hc8
      exact W.zret (ty := .boolean) (v := 1) hx hb hr (by decide) (fun t ht hWm => ⟨⟨_, (c8, pS hS hn c0, pN hn, sv, fl), rfl, CH_1 h8 hOK hsv hs0 rfl, LW_t ht hW⟩, hS0.F ht⟩) hS0.2.2 dL_changes_136
    · skip
      refine va_calli (vx_runSW (As := [.ref h, .int (nI j62)]) (rest := []) ⟨hx, hb, hml, hown, hts⟩ (cl_L_addBag l hfl D G B0 X A h c0 c2 hS hn sv lab fl (nI j62) (Nat.le_of_lt h8) hO.1 s.heap.size) (vx_cwSW (hh := [(0, 5, 6, 13), (0, 5, 11, 15)]) 2 hts gl_187 rfl rfl rfl (by decide +kernel) ⟨Nat.le_of_ble_eq_true rfl, Nat.le_of_ble_eq_true rfl⟩) (ps_lw hK hW (hE.at hS0 hAB) (AH hA0 hS0) hAB) rfl rfl hl.1 rfl (lv_room (Nat.le_of_ble_eq_true rfl)) dL_changes_125 ⟨Nat.le_of_ble_eq_true rfl, Nat.le_of_ble_eq_true rfl⟩) hS0 (fun q _ h => h) (fun q h => h) (fun r u65 t9 H1 locs ht hvm hw hW hz1 hk1 hS0 => ?_)
      have hX : f_open c0 (nI j62) = 1 := hX9
      rw [hX] at hw hW
      have hw : r = (-1001) := hw
      have hW : LW D G X A h c0 c2 hS hn sv lab fl H1 := LW_h ht hW
      obtain ⟨H, rfl⟩ : ∃ z, z = H1 := ⟨_, rfl⟩
      rw [hw]
      refine W.widen (k := 1) (n := 6) (Nat.le_of_ble_eq_true rfl) (Nat.le_of_ble_eq_true rfl) ?_
      refine lv_if_lt (tgt := 135) hx hb dL_changes_128 (by decide) (fun _ => ?_) (fun c_66 => absurd (by decide) c_66)
      refine lv_iconst (v := 0) hx hb dL_changes_135 (by decide) ?_
      refine W.widen (k := 75) (n := 1300) (Nat.le_of_ble_eq_true rfl) (Nat.le_of_ble_eq_true rfl) ?_
      exact W.zret (ty := .boolean) (v := 0) hx hb hr (by decide) (fun t ht hWm => ⟨⟨_, (c0, hS, hn, sv, fl), rfl, CH_0 hO hsv hs0 rfl, LW_t ht hW⟩, hS0.F ht⟩) hS0.2.2 dL_changes_136
    · skip
      refine va_calli (vx_runSW (As := [.ref h, .int (nI j62)]) (rest := []) ⟨hx, hb, hml, hown, hts⟩ (cl_L_addBag l hfl D G B0 X A h c0 c2 hS hn sv lab fl (nI j62) (Nat.le_of_lt h8) hO.1 s.heap.size) (vx_cwSW (hh := [(0, 5, 6, 13), (0, 5, 11, 15)]) 2 hts gl_187 rfl rfl rfl (by decide +kernel) ⟨Nat.le_of_ble_eq_true rfl, Nat.le_of_ble_eq_true rfl⟩) (ps_lw hK hW (hE.at hS0 hAB) (AH hA0 hS0) hAB) rfl rfl hl.1 rfl (lv_room (Nat.le_of_ble_eq_true rfl)) dL_changes_125 ⟨Nat.le_of_ble_eq_true rfl, Nat.le_of_ble_eq_true rfl⟩) hS0 (fun q _ h => h) (fun q h => h) (fun r u67 t9 H1 locs ht hvm hw hW hz1 hk1 hS0 => ?_)
      have hX : f_open c0 (nI j62) = 4 := hX9
      rw [hX] at hw hW
      have hw : r = (-1002) := hw
      have hW : LW D G X A h c0 c2 hS hn sv lab fl H1 := LW_h ht hW
      obtain ⟨H, rfl⟩ : ∃ z, z = H1 := ⟨_, rfl⟩
      rw [hw]
      refine W.widen (k := 1) (n := 6) (Nat.le_of_ble_eq_true rfl) (Nat.le_of_ble_eq_true rfl) ?_
      refine lv_if_lt (tgt := 135) hx hb dL_changes_128 (by decide) (fun _ => ?_) (fun c_68 => absurd (by decide) c_68)
      refine lv_iconst (v := 0) hx hb dL_changes_135 (by decide) ?_
      refine W.widen (k := 75) (n := 1300) (Nat.le_of_ble_eq_true rfl) (Nat.le_of_ble_eq_true rfl) ?_
      exact W.zret (ty := .boolean) (v := 0) hx hb hr (by decide) (fun t ht hWm => ⟨⟨_, (c0, hS, hn, sv, fl), rfl, CH_0 hO hsv hs0 rfl, LW_t ht hW⟩, hS0.F ht⟩) hS0.2.2 dL_changes_136
  · skip
    refine lv_tableIn (tgt := 137) hx hb dL_changes_29 (by decide) (by decide) rfl (by decide) ?_
    exact J137 ls (lv_sub hl [0, 1, 2, 3] rfl)
  · skip
    refine lv_tableIn (tgt := 137) hx hb dL_changes_29 (by decide) (by decide) rfl (by decide) ?_
    exact J137 ls (lv_sub hl [0, 1, 2, 3] rfl)
  · skip
    refine lv_tableIn (tgt := 137) hx hb dL_changes_29 (by decide) (by decide) rfl (by decide) ?_
    exact J137 ls (lv_sub hl [0, 1, 2, 3] rfl)
  · skip
    refine lv_tableIn (tgt := 188) hx hb dL_changes_29 (by decide) (by decide) rfl (by decide) ?_
    exact J188 ls (lv_sub hl [0, 1, 2, 3] rfl)
  · skip
    refine lv_tableIn (tgt := 188) hx hb dL_changes_29 (by decide) (by decide) rfl (by decide) ?_
    exact J188 ls (lv_sub hl [0, 1, 2, 3] rfl)
  · skip
    refine lv_tableIn (tgt := 202) hx hb dL_changes_29 (by decide) (by decide) rfl (by decide) ?_
    exact J202 ls (lv_sub hl [0, 1, 2, 3] rfl)
  · skip
    refine lv_tableIn (tgt := 202) hx hb dL_changes_29 (by decide) (by decide) rfl (by decide) ?_
    exact J202 ls (lv_sub hl [0, 1, 2, 3] rfl)
  · skip
    refine lv_tableIn (tgt := 202) hx hb dL_changes_29 (by decide) (by decide) rfl (by decide) ?_
    exact J202 ls (lv_sub hl [0, 1, 2, 3] rfl)
  · skip
    refine lv_tableIn (tgt := 202) hx hb dL_changes_29 (by decide) (by decide) rfl (by decide) ?_
    exact J202 ls (lv_sub hl [0, 1, 2, 3] rfl)
  · skip
    refine lv_tableIn (tgt := 202) hx hb dL_changes_29 (by decide) (by decide) rfl (by decide) ?_
    exact J202 ls (lv_sub hl [0, 1, 2, 3] rfl)
  · skip
    refine lv_tableIn (tgt := 217) hx hb dL_changes_29 (by decide) (by decide) rfl (by decide) ?_
    exact J217 ls (lv_sub hl [0, 1, 2, 3] rfl)
  · skip
    refine lv_tableIn (tgt := 217) hx hb dL_changes_29 (by decide) (by decide) rfl (by decide) ?_
    exact J217 ls (lv_sub hl [0, 1, 2, 3] rfl)
  · skip
    refine lv_tableIn (tgt := 217) hx hb dL_changes_29 (by decide) (by decide) rfl (by decide) ?_
    exact J217 ls (lv_sub hl [0, 1, 2, 3] rfl)
  · skip
    refine lv_tableIn (tgt := 231) hx hb dL_changes_29 (by decide) (by decide) rfl (by decide) ?_
    exact J231 ls (lv_sub hl [0, 1, 2, 3] rfl)
  · skip
    refine lv_tableIn (tgt := 231) hx hb dL_changes_29 (by decide) (by decide) rfl (by decide) ?_
    exact J231 ls (lv_sub hl [0, 1, 2, 3] rfl)
  · skip
    refine lv_tableIn (tgt := 245) hx hb dL_changes_29 (by decide) (by decide) rfl (by decide) ?_
    exact J245 ls (lv_sub hl [0, 1, 2, 3] rfl)
  · skip
    refine lv_tableIn (tgt := 245) hx hb dL_changes_29 (by decide) (by decide) rfl (by decide) ?_
    exact J245 ls (lv_sub hl [0, 1, 2, 3] rfl)
  · skip
    refine lv_tableOut (tgt := 315) hx hb dL_changes_29 (Or.inr (by decide)) (by decide) ?_
    exact J315 ls (lv_sub hl [0, 1, 2, 3] rfl)
  · skip
    refine lv_tableOut (tgt := 315) hx hb dL_changes_29 (Or.inr (by decide)) (by decide) ?_
    exact J315 ls (lv_sub hl [0, 1, 2, 3] rfl)
  · skip
    refine lv_tableOut (tgt := 315) hx hb dL_changes_29 (Or.inr (by decide)) (by decide) ?_
    exact J315 ls (lv_sub hl [0, 1, 2, 3] rfl)
  · skip
    refine lv_tableOut (tgt := 315) hx hb dL_changes_29 (Or.inr (by decide)) (by decide) ?_
    exact J315 ls (lv_sub hl [0, 1, 2, 3] rfl)
