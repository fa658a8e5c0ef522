theorem nI_nn {n : Nat} {z : Int32} (h : n < 2 ^ 31) (hz : z < 0) : ¬ nI n = z := fun e => nI_pos h (by rw [e]; exact hz)
theorem gw_L_180 : GoodIn tb (va_wsS RL 180 yL_at (wA yL_at cL_at 2 (some .int))) := gS kw_322 kw_323 kw_23 kw_324
theorem gw_L_184 : GoodIn tb (va_wsS RL 184 yL_some (wA yL_some cL_some 3 (some .int))) := gS kw_919 kw_920 kw_23 kw_921
theorem gl_195 : GoodIn tb (va_wsS RL 195 yL_autoPack (wH yL_autoPack cL_autoPack 3 (some .int) [(0, 5, 6, 30)])) := gSW kw_576 kw_577 kw_23 kw_578
theorem gl_192 : GoodIn tb (va_wsS RL 192 yL_pack (wH yL_pack cL_pack 4 (some .int) [(0, 6, 7, 24), (0, 6, 12, 30), (0, 6, 17, 15), (0, 6, 22, 32)])) := gSW kw_922 kw_923 kw_23 kw_924
theorem gl_189 : GoodIn tb (va_wsS RL 189 yL_addItem (wH yL_addItem cL_addItem 6 (some .int) [(0, 9, 10, 13), (0, 9, 16, 15)])) := gSW kw_504 kw_505 kw_23 kw_506
theorem gl_187 : GoodIn tb (va_wsS RL 187 yL_addBag (wH yL_addBag cL_addBag 3 (some .int) [(0, 5, 6, 13), (0, 5, 11, 15)])) := gSW kw_325 kw_326 kw_23 kw_327
set_option maxRecDepth 100000 in
set_option maxHeartbeats 8000000 in
theorem cl_L_makes (l : Launch) (hfl : l.stackTraces = false) (D : va_G) (G : GA) (B0 : Nat) (X : Nat → Nat → Nat) (A : Nat → Prop) (h : Nat) (c0 c2 : CS) (hS : Nat → CS) (hn : Nat) (sv : SV) (lab : List Int32) (fl : Nat → Int32) (b L : Nat) (xs : Nat → Int32) (hL : L ≤ 260) (hMK : MKc 0 c0) (hb0 : nbg c0 = 0) (hh : hn ≤ 8) (sz : Nat) : Met l yL_makes (wA yL_makes cL_makes 6 (some .boolean)) ({ frames := 9, cells := 60, slots := 360, locals := 163 } : Room) (va_Pc [.ref h, .ref b] (fun U => (LWp D G B0 X A h c0 c2 hS hn sv lab fl sz U) ∧ XPp b L xs U ∧ ¬ A b)) (va_Qi (fun (r : Int32) (u : CS × (Nat → CS) × Nat × (Nat → Int32)) => r = 1 ∧ MKc 11 u.1 ∧ 1 ≤ nbg u.1 ∧ u.2.2.1 ≤ 8) (fun u t9 => LW D G X A h u.1 c2 u.2.1 u.2.2.1 sv lab u.2.2.2 t9.heap) A) 60 360 A := by
  refine Met.ofW (cc := cL_makes) (maxL := 6) (ret := (some .boolean)) (by decide) rfl ?_
  intro p9 e s m args below meth c9 s₁ B hml hv
  obtain ⟨rfl, ⟨hsz, hW, hK, hE, hA0, hAB⟩, ⟨hX, hbl⟩, hbA⟩ := hv
  subst hsz
  have hx := B.exec
  have hb := B.bytes
  have hr := B.returns
  have hts : ∀ w9 ∈ tb, w9.before ([.ref h, .ref b] : List Value).toArray s = true := fun w9 h9 => atoms_spec (ws := (wA yL_makes cL_makes 6 (some .boolean))) B.pre w9 (List.mem_cons_of_mem _ h9)
  have hown : s.vm.findClass RL = some m.cls := findClass_of_methodNamed B.named
  have hlocks := B.notSynchronized
  have hS0 : va_S A s.heap s.heap [] := va_S.rf
  have hl := lv_entry ([.ref h, .ref b]) (n := 6) (Nat.le_of_ble_eq_true rfl)
  rw [lg_entry_eq]
  generalize (lg_sl ([.ref h, .ref b]) ++ List.replicate (6 - (lg_sl ([.ref h, .ref b])).length) Slot.unset).toArray = ls at hl ⊢
  have hl : lv_has ls 6 [(0, .ref h), (1, .ref b)] := hl
  refine lv_iconst (v := 1) hx hb dL_makes_0 (by decide) ?_
  refine lv_aload_n hx hb dL_makes_1 rfl (lv_at hl 1 rfl) ?_
  refine lv_iconst (v := 0) hx hb dL_makes_2 (by decide) ?_
  refine vp_callSi (va_runS (As := [.ref b, .int (nI 0)]) (rest := [.int 1]) ⟨hx, hb, hml, hown, hts⟩ (cl_L_at l b L xs 0 hL (by omega)) (va_cwS 2 hts gw_L_180 rfl rfl rfl (by decide +kernel) ⟨Nat.le_of_ble_eq_true rfl, Nat.le_of_ble_eq_true rfl⟩) (ps_x (X_at hX hbl hbA hS0) (Nat.lt_of_lt_of_le hbl hS0.1)) rfl rfl hl.1 rfl (lv_room (Nat.le_of_ble_eq_true rfl)) dL_makes_3 ⟨Nat.le_of_ble_eq_true rfl, Nat.le_of_ble_eq_true rfl⟩).run (fun r1 _ => ?_)
  refine lv_iconst (v := 3) hx hb dL_makes_6 (by decide) ?_
  refine vp_callSi (va_runS (As := [.int r1, .int (nI 3)]) (rest := [.int 1]) ⟨hx, hb, hml, hown, hts⟩ (cl_L_some l r1 3 (by omega) (by omega)) (va_cwS 2 hts gw_L_184 rfl rfl rfl (by decide +kernel) ⟨Nat.le_of_ble_eq_true rfl, Nat.le_of_ble_eq_true rfl⟩) ps_0 rfl rfl hl.1 rfl (lv_room (Nat.le_of_ble_eq_true rfl)) dL_makes_7 ⟨Nat.le_of_ble_eq_true rfl, Nat.le_of_ble_eq_true rfl⟩).run (fun r2 h9 => ?_)
  obtain ⟨j2, hj2, rfl⟩ := h9
  refine lv_iadd hx hb dL_makes_10 ?_
  rw [show (1 + (nI j2) : Int32) = nI (1 + j2) from nI_add 1 j2]
  refine lv_istore_n (lv' := [(2, .int (nI (1 + j2))), (0, .ref h), (1, .ref b)]) hx hb dL_makes_11 rfl hl (by decide) rfl (fun ls hl => ?_)
  refine lv_iconst (v := 0) hx hb dL_makes_12 (by decide) ?_
  refine lv_istore_n (lv' := [(3, .int 0), (2, .int (nI (1 + j2))), (0, .ref h), (1, .ref b)]) hx hb dL_makes_13 rfl hl (by decide) rfl (fun ls hl => ?_)
  have L14 : ∀ (m9 k : Nat), k + m9 = (1 + j2) → ∀ (c8 : CS) (s8 : Nat → CS) (n8 : Nat) (H : Heap) (locs : List Loc), MKc 0 c8 → nbg c8 = k → n8 ≤ 8 → LW D G X A h c8 c2 s8 n8 sv lab fl H → va_S A s.heap H locs → ∀ ls : Array Slot, lv_has ls 6 [(3, .int (nI k)), (2, .int (nI (1 + j2))), (0, .ref h), (1, .ref b)] → W p9 l e (headSpec (wA yL_makes cL_makes 6 (some .boolean)) ({ frames := 9, cells := 60, slots := 360, locals := 163 } : Room)).room s m ([.ref h, .ref b] : List Value).toArray below meth c9 H locs (0 + (6 - 2 * m9)) (0 + (36 - 12 * m9)) (MQ below (va_Qi (fun (r : Int32) (u : CS × (Nat → CS) × Nat × (Nat → Int32)) => r = 1 ∧ MKc 11 u.1 ∧ 1 ≤ nbg u.1 ∧ u.2.2.1 ≤ 8) (fun u t9 => LW D G X A h u.1 c2 u.2.1 u.2.2.1 sv lab u.2.2.2 t9.heap) A) ([.ref h, .ref b] : List Value).toArray s 60 360 A) (F0 m 14 ls []) := by
    intro m9
    induction m9 with
    | zero =>
      intro k hk1 c8 s8 n8 H locs hM hbk hq8 hW hS0 ls hl
      obtain rfl : k = (1 + j2) := by omega
      refine W.widen (k := 6) (n := 36) (by omega) (by omega) ?_
      refine lv_iload_n hx hb dL_makes_14 rfl (lv_at hl 0 rfl) ?_
      refine lv_iload_n hx hb dL_makes_15 rfl (lv_at hl 1 rfl) ?_
      refine lv_icmp_ge (tgt := 50) hx hb dL_makes_16 (by decide) (fun _ => ?_) (fun c_3 => absurd (nI_le (a := (1 + j2)) (b := (1 + j2)) (by omega) (by omega)) c_3)
      refine lv_iconst (v := 0) hx hb dL_makes_50 (by decide) ?_
      refine lv_istore_n (lv' := [(3, .int 0), (2, .int (nI (1 + j2))), (0, .ref h), (1, .ref b)]) hx hb dL_makes_51 rfl hl (by decide) rfl (fun ls hl => ?_)
      have L52 : ∀ (m8 k : Nat), k + m8 = 11 → ∀ (c8 : CS) (s8 : Nat → CS) (n8 : Nat) (H : Heap) (locs : List Loc), MKc k c8 → nbg c8 = (1 + j2) → n8 ≤ 8 → LW D G X A h c8 c2 s8 n8 sv lab fl H → va_S A s.heap H locs → ∀ ls : Array Slot, lv_has ls 6 [(3, .int (nI k)), (2, .int (nI (1 + j2))), (0, .ref h), (1, .ref b)] → W p9 l e (headSpec (wA yL_makes cL_makes 6 (some .boolean)) ({ frames := 9, cells := 60, slots := 360, locals := 163 } : Room)).room s m ([.ref h, .ref b] : List Value).toArray below meth c9 H locs (6 + (22 - 2 * m8)) (36 + (132 - 12 * m8)) (MQ below (va_Qi (fun (r : Int32) (u : CS × (Nat → CS) × Nat × (Nat → Int32)) => r = 1 ∧ MKc 11 u.1 ∧ 1 ≤ nbg u.1 ∧ u.2.2.1 ≤ 8) (fun u t9 => LW D G X A h u.1 c2 u.2.1 u.2.2.1 sv lab u.2.2.2 t9.heap) A) ([.ref h, .ref b] : List Value).toArray s 60 360 A) (F0 m 52 ls []) := by
        intro m8
        induction m8 with
        | zero =>
          intro k hk2 c8 s8 n8 H locs hM hbk hq8 hW hS0 ls hl
          obtain rfl : k = 11 := by omega
          refine W.widen (k := 28) (n := 168) (by omega) (by omega) ?_
          refine lv_iload_n hx hb dL_makes_52 rfl (lv_at hl 0 rfl) ?_
          refine lv_bipush (v := 11) hx hb dL_makes_53 (by decide) ?_
          refine lv_icmp_ge (tgt := 130) hx hb dL_makes_55 (by decide) (fun _ => ?_) (fun c_4 => absurd (nI_le (a := 11) (b := 11) (by omega) (by omega)) c_4)
          refine lv_iconst (v := 0) hx hb dL_makes_130 (by decide) ?_
          refine lv_istore_n (lv' := [(3, .int 0), (2, .int (nI (1 + j2))), (0, .ref h), (1, .ref b)]) hx hb dL_makes_131 rfl hl (by decide) rfl (fun ls hl => ?_)
          have L132 : ∀ (m7 k : Nat), k + m7 = 6 → ∀ (c8 : CS) (s8 : Nat → CS) (n8 : Nat) (f8 : Nat → Int32) (H : Heap) (locs : List Loc), MKc 11 c8 → nbg c8 = (1 + j2) → n8 ≤ 8 → LW D G X A h c8 c2 s8 n8 sv lab f8 H → va_S A s.heap H locs → ∀ ls : Array Slot, lv_has ls 6 [(3, .int (nI k)), (2, .int (nI (1 + j2))), (0, .ref h), (1, .ref b)] → W p9 l e (headSpec (wA yL_makes cL_makes 6 (some .boolean)) ({ frames := 9, cells := 60, slots := 360, locals := 163 } : Room)).room s m ([.ref h, .ref b] : List Value).toArray below meth c9 H locs (28 + (12 - 2 * m7)) (168 + (72 - 12 * m7)) (MQ below (va_Qi (fun (r : Int32) (u : CS × (Nat → CS) × Nat × (Nat → Int32)) => r = 1 ∧ MKc 11 u.1 ∧ 1 ≤ nbg u.1 ∧ u.2.2.1 ≤ 8) (fun u t9 => LW D G X A h u.1 c2 u.2.1 u.2.2.1 sv lab u.2.2.2 t9.heap) A) ([.ref h, .ref b] : List Value).toArray s 60 360 A) (F0 m 132 ls []) := by
            intro m7
            induction m7 with
            | zero =>
              intro k hk3 c8 s8 n8 f8 H locs hM hbk hq8 hW hS0 ls hl
              obtain rfl : k = 6 := by omega
              refine W.widen (k := 40) (n := 240) (by omega) (by omega) ?_
              refine lv_iload_n hx hb dL_makes_132 rfl (lv_at hl 0 rfl) ?_
              refine lv_bipush (v := 6) hx hb dL_makes_133 (by decide) ?_
              refine lv_icmp_ge (tgt := 193) hx hb dL_makes_135 (by decide) (fun _ => ?_) (fun c_5 => absurd (nI_le (a := 6) (b := 6) (by omega) (by omega)) c_5)
              refine lv_aload_n hx hb dL_makes_193 rfl (lv_at hl 3 rfl) ?_
              refine lv_bipush (v := 21) hx hb dL_makes_194 (by decide) ?_
              refine vp_callSi (va_runS (As := [.ref b, .int (nI 21)]) (rest := []) ⟨hx, hb, hml, hown, hts⟩ (cl_L_at l b L xs 21 hL (by omega)) (va_cwS 2 hts gw_L_180 rfl rfl rfl (by decide +kernel) ⟨Nat.le_of_ble_eq_true rfl, Nat.le_of_ble_eq_true rfl⟩) (ps_x (X_at hX hbl hbA hS0) (Nat.lt_of_lt_of_le hbl hS0.1)) rfl rfl hl.1 rfl (lv_room (Nat.le_of_ble_eq_true rfl)) dL_makes_196 ⟨Nat.le_of_ble_eq_true rfl, Nat.le_of_ble_eq_true rfl⟩).run (fun r6 _ => ?_)
              refine lv_iconst (v := 1) hx hb dL_makes_199 (by decide) ?_
              refine lv_iand hx hb dL_makes_200 ?_
              refine lv_if_eq (tgt := 223) hx hb dL_makes_201 (by decide) (fun c_7 => ?_) (fun c_7 => ?_)
              · skip
                refine lv_iconst (v := 1) hx hb dL_makes_223 (by decide) ?_
                refine lv_goto (tgt := 228) hx hb dL_makes_224 (by decide) ?_
                refine W.widen (k := 60) (n := 360) (Nat.le_of_ble_eq_true rfl) (Nat.le_of_ble_eq_true rfl) ?_
                exact W.zret (ty := .boolean) (v := 1) hx hb hr (by decide) (fun t ht hWm => ⟨⟨_, (c8, s8, n8, f8), rfl, ⟨rfl, hM, (by rw [hbk]; omega), hq8⟩, LW_t ht hW⟩, hS0.F ht⟩) hS0.2.2 dL_makes_228
              · skip
                refine lv_aload_n hx hb dL_makes_204 rfl (lv_at hl 2 rfl) ?_
                refine lv_aload_n hx hb dL_makes_205 rfl (lv_at hl 3 rfl) ?_
                refine lv_bipush (v := 21) hx hb dL_makes_206 (by decide) ?_
                refine vp_callSi (va_runS (As := [.ref b, .int (nI 21)]) (rest := [.ref h]) ⟨hx, hb, hml, hown, hts⟩ (cl_L_at l b L xs 21 hL (by omega)) (va_cwS 2 hts gw_L_180 rfl rfl rfl (by decide +kernel) ⟨Nat.le_of_ble_eq_true rfl, Nat.le_of_ble_eq_true rfl⟩) (ps_x (X_at hX hbl hbA hS0) (Nat.lt_of_lt_of_le hbl hS0.1)) rfl rfl hl.1 rfl (lv_room (Nat.le_of_ble_eq_true rfl)) dL_makes_208 ⟨Nat.le_of_ble_eq_true rfl, Nat.le_of_ble_eq_true rfl⟩).run (fun r8 _ => ?_)
                refine lv_iconst (v := 2) hx hb dL_makes_211 (by decide) ?_
                refine lv_ishr hx hb dL_makes_212 ?_
                obtain ⟨i9, hv_9⟩ : ∃ z : Int32, z = r8 >>> (2 &&& 31) := ⟨_, rfl⟩
                rw [← hv_9]
                refine lv_iload_n hx hb dL_makes_213 rfl (lv_at hl 1 rfl) ?_
                refine vp_callSi (va_runS (As := [.int i9, .int (nI (1 + j2))]) (rest := [.ref h]) ⟨hx, hb, hml, hown, hts⟩ (cl_L_some l i9 (1 + j2) (by omega) (by omega)) (va_cwS 2 hts gw_L_184 rfl rfl rfl (by decide +kernel) ⟨Nat.le_of_ble_eq_true rfl, Nat.le_of_ble_eq_true rfl⟩) ps_0 rfl rfl hl.1 rfl (lv_room (Nat.le_of_ble_eq_true rfl)) dL_makes_214 ⟨Nat.le_of_ble_eq_true rfl, Nat.le_of_ble_eq_true rfl⟩).run (fun r10 h9 => ?_)
                obtain ⟨j10, hj10, rfl⟩ := h9
                refine va_calli (vx_runSW (As := [.ref h, .int (nI j10)]) (rest := []) ⟨hx, hb, hml, hown, hts⟩ (cl_L_autoPack l hfl D G B0 X A h c8 c2 s8 n8 sv lab f8 (nI j10) hq8 H.size) (vx_cwSW (hh := [(0, 5, 6, 30)]) 2 hts gl_195 rfl rfl rfl (by decide +kernel) ⟨Nat.le_of_ble_eq_true rfl, Nat.le_of_ble_eq_true rfl⟩) (ps_lw hK hW (hE.at hS0 hAB) (AH hA0 hS0) hAB) rfl rfl hl.1 rfl (lv_room (Nat.le_of_ble_eq_true rfl)) dL_makes_217 ⟨Nat.le_of_ble_eq_true rfl, Nat.le_of_ble_eq_true rfl⟩) hS0 (fun q _ h => h) (fun q h => h) (fun r u11 t9 H1 locs ht hvm hw hW hz1 hk1 hS0 => ?_)
                have hX : f_fill c8 (nI j10) = 0 := f_fill_0 hM.1.1 (by rw [hbk]; omega)
                rw [hX] at hw hW
                have hw : r = (m_fill c8 (nI j10)).1 := hw
                have hW : LW D G X A h ((m_fill c8 (nI j10)).2) c2 (pS s8 n8 c8) (pN n8) sv lab f8 H1 := LW_h ht hW
                obtain ⟨H, rfl⟩ : ∃ z, z = H1 := ⟨_, rfl⟩
                rw [hw]
                refine W.widen (k := 41) (n := 246) (Nat.le_of_ble_eq_true rfl) (Nat.le_of_ble_eq_true rfl) ?_
                obtain ⟨w9, hw9, ew9⟩ := fill_a c8 (nI j10)
                rw [ew9]
                refine lv_if_lt (tgt := 227) hx hb dL_makes_220 (by decide) (fun c_12 => absurd c_12 (nI_pos (by omega))) (fun _ => ?_)
                refine lv_iconst (v := 1) hx hb dL_makes_223 (by decide) ?_
                refine lv_goto (tgt := 228) hx hb dL_makes_224 (by decide) ?_
                refine W.widen (k := 60) (n := 360) (Nat.le_of_ble_eq_true rfl) (Nat.le_of_ble_eq_true rfl) ?_
                exact W.zret (ty := .boolean) (v := 1) hx hb hr (by decide) (fun t ht hWm => ⟨⟨_, ((m_fill c8 (nI j10)).2, pS s8 n8 c8, pN n8, f8), rfl, ⟨rfl, (MK_fill hM (by omega)), (by rw [nbg_fill, hbk]; omega), (pN_le hq8)⟩, LW_t ht hW⟩, hS0.F ht⟩) hS0.2.2 dL_makes_228
            | succ m7 ih3 =>
              intro k hk3 c8 s8 n8 f8 H locs hM hbk hq8 hW hS0 ls hl
              have hlt3 : k < 6 := by omega
              refine W.widen (k := (28 + (12 - 2 * (m7 + 1))) + 0) (n := (168 + (72 - 12 * (m7 + 1))) + 0) (by omega) (by omega) ?_
              refine lv_iload_n hx hb dL_makes_132 rfl (lv_at hl 0 rfl) ?_
              refine lv_bipush (v := 6) hx hb dL_makes_133 (by decide) ?_
              refine lv_icmp_ge (tgt := 193) hx hb dL_makes_135 (by decide) (fun c_13 => absurd c_13 (nI_ge (a := k) (b := 6) (by omega) (by omega))) (fun _ => ?_)
              refine lv_aload_n hx hb dL_makes_138 rfl (lv_at hl 3 rfl) ?_
              refine lv_bipush (v := 15) hx hb dL_makes_139 (by decide) ?_
              refine lv_iload_n hx hb dL_makes_141 rfl (lv_at hl 0 rfl) ?_
              refine lv_iadd hx hb dL_makes_142 ?_
              rw [show (15 + (nI k) : Int32) = nI (15 + k) from nI_add 15 k]
              refine vp_callSi (va_runS (As := [.ref b, .int (nI (15 + k))]) (rest := []) ⟨hx, hb, hml, hown, hts⟩ (cl_L_at l b L xs (15 + k) hL (by omega)) (va_cwS 2 hts gw_L_180 rfl rfl rfl (by decide +kernel) ⟨Nat.le_of_ble_eq_true rfl, Nat.le_of_ble_eq_true rfl⟩) (ps_x (X_at hX hbl hbA hS0) (Nat.lt_of_lt_of_le hbl hS0.1)) rfl rfl hl.1 rfl (lv_room (Nat.le_of_ble_eq_true rfl)) dL_makes_143 ⟨(show (28 + (12 - 2 * (m7 + 1))) + 0 + 0 ≤ 60 by omega), (show (168 + (72 - 12 * (m7 + 1))) + 0 + 0 ≤ 360 by omega)⟩).run (fun r14 _ => ?_)
              refine lv_istore (lv' := [(4, .int r14), (3, .int (nI k)), (2, .int (nI (1 + j2))), (0, .ref h), (1, .ref b)]) hx hb dL_makes_146 hl (by decide) rfl (fun ls hl => ?_)
              refine lv_aload_n hx hb dL_makes_148 rfl (lv_at hl 3 rfl) ?_
              refine lv_iload hx hb dL_makes_149 (lv_at hl 0 rfl) ?_
              refine lv_bipush (v := 11) hx hb dL_makes_151 (by decide) ?_
              refine vp_callSi (va_runS (As := [.int r14, .int (nI 11)]) (rest := [.ref h]) ⟨hx, hb, hml, hown, hts⟩ (cl_L_some l r14 11 (by omega) (by omega)) (va_cwS 2 hts gw_L_184 rfl rfl rfl (by decide +kernel) ⟨Nat.le_of_ble_eq_true rfl, Nat.le_of_ble_eq_true rfl⟩) ps_0 rfl rfl hl.1 rfl (lv_room (Nat.le_of_ble_eq_true rfl)) dL_makes_153 ⟨(show (28 + (12 - 2 * (m7 + 1))) + 0 + 0 ≤ 60 by omega), (show (168 + (72 - 12 * (m7 + 1))) + 0 + 0 ≤ 360 by omega)⟩).run (fun r15 h9 => ?_)
              obtain ⟨j15, hj15, rfl⟩ := h9
              refine lv_iload hx hb dL_makes_156 (lv_at hl 0 rfl) ?_
              refine lv_iconst (v := 4) hx hb dL_makes_158 (by decide) ?_
              refine lv_ishr hx hb dL_makes_159 ?_
              obtain ⟨i16, hv_16⟩ : ∃ z : Int32, z = r14 >>> (4 &&& 31) := ⟨_, rfl⟩
              rw [← hv_16]
              refine lv_iload_n hx hb dL_makes_160 rfl (lv_at hl 2 rfl) ?_
              refine vp_callSi (va_runS (As := [.int i16, .int (nI (1 + j2))]) (rest := [.int (nI j15), .ref h]) ⟨hx, hb, hml, hown, hts⟩ (cl_L_some l i16 (1 + j2) (by omega) (by omega)) (va_cwS 2 hts gw_L_184 rfl rfl rfl (by decide +kernel) ⟨Nat.le_of_ble_eq_true rfl, Nat.le_of_ble_eq_true rfl⟩) ps_0 rfl rfl hl.1 rfl (lv_room (Nat.le_of_ble_eq_true rfl)) dL_makes_161 ⟨(show (28 + (12 - 2 * (m7 + 1))) + 0 + 0 ≤ 60 by omega), (show (168 + (72 - 12 * (m7 + 1))) + 0 + 0 ≤ 360 by omega)⟩).run (fun r17 h9 => ?_)
              obtain ⟨j17, hj17, rfl⟩ := h9
              rcases load_cases hM (i := j15) (j := j17) (by omega) (by rw [hbk]; omega) with hx9 | hx9 | hx9
              · skip
                refine va_calli (vx_runSW (As := [.ref h, .int (nI j15), .int (nI j17)]) (rest := []) ⟨hx, hb, hml, hown, hts⟩ (cl_L_pack l hfl D G B0 X A h c8 c2 s8 n8 sv lab f8 (nI j15) (nI j17) hq8 H.size) (vx_cwSW (hh := [(0, 6, 7, 24), (0, 6, 12, 30), (0, 6, 17, 15), (0, 6, 22, 32)]) 3 hts gl_192 rfl rfl rfl (by decide +kernel) ⟨Nat.le_of_ble_eq_true rfl, Nat.le_of_ble_eq_true rfl⟩) (ps_lw hK hW (hE.at hS0 hAB) (AH hA0 hS0) hAB) rfl rfl hl.1 rfl (lv_room (Nat.le_of_ble_eq_true rfl)) dL_makes_164 ⟨(show (28 + (12 - 2 * (m7 + 1))) + 0 + 1 ≤ 60 by omega), (show (168 + (72 - 12 * (m7 + 1))) + 0 + 6 ≤ 360 by omega)⟩) hS0 (fun q _ h => h) (fun q h => h) (fun r u18 t9 H1 locs ht hvm hw hW hz1 hk1 hS0 => ?_)
                have hX : f_load c8 (nI j15) (nI j17) = 0 := hx9
                rw [hX] at hw hW
                have hw : r = (m_load c8 (nI j15) (nI j17)).1 := hw
                have hW : LW D G X A h ((m_load c8 (nI j15) (nI j17)).2) c2 (pS s8 n8 c8) (pN n8) sv lab (m_keep c8 f8 0 (nI j15) (nI j17)) H1 := LW_h ht hW
                obtain ⟨H, rfl⟩ : ∃ z, z = H1 := ⟨_, rfl⟩
                rw [hw]
                refine W.widen (k := (28 + (12 - 2 * (m7 + 1))) + 1) (n := (168 + (72 - 12 * (m7 + 1))) + 6) (by omega) (by omega) ?_
                obtain ⟨w9, hw9, ew9⟩ := load_a hM.1.ly hX
                rw [ew9]
                refine lv_istore (lv' := [(5, .int (nI w9)), (4, .int r14), (3, .int (nI k)), (2, .int (nI (1 + j2))), (0, .ref h), (1, .ref b)]) hx hb dL_makes_167 hl (by decide) rfl (fun ls hl => ?_)
                refine lv_iload hx hb dL_makes_169 (lv_at hl 0 rfl) ?_
                refine lv_sipush (v := -1001) hx hb dL_makes_171 (by decide) ?_
                refine lv_icmp_eq (tgt := 185) hx hb dL_makes_174 (by decide) (fun c_19 => absurd c_19 (nI_nn (by omega) (by decide))) (fun _ => ?_)
                refine lv_iload hx hb dL_makes_177 (lv_at hl 0 rfl) ?_
                refine lv_sipush (v := -1002) hx hb dL_makes_179 (by decide) ?_
                refine lv_icmp_ne (tgt := 187) hx hb dL_makes_182 (by decide) (fun _ => ?_) (fun c_20 => absurd c_20 (nI_nn (by omega) (by decide)))
                refine lv_iinc (v := nI (k + 1)) (lv' := [(3, .int (nI (k + 1))), (5, .int (nI w9)), (4, .int r14), (2, .int (nI (1 + j2))), (0, .ref h), (1, .ref b)]) hx hb dL_makes_187 hl (k := 2) rfl (by exact nI_1 k) (by decide) rfl (fun ls hl => ?_)
                refine lv_goto (tgt := 132) hx hb dL_makes_190 (by decide) ?_
                refine W.widen (k := (28 + (12 - 2 * m7))) (n := (168 + (72 - 12 * m7))) (by omega) (by omega) ?_
                exact ih3 (k + 1) (by omega) ((m_load c8 (nI j15) (nI j17)).2) (pS s8 n8 c8) (pN n8) (m_keep c8 f8 0 (nI j15) (nI j17)) _ _ (MK_load hM (by omega) hX) ((nbg_load _ _ _).trans hbk) (pN_le hq8) hW hS0 ls (lv_sub hl [0, 3, 4, 5] rfl)
              · skip
                refine va_calli (vx_runSW (As := [.ref h, .int (nI j15), .int (nI j17)]) (rest := []) ⟨hx, hb, hml, hown, hts⟩ (cl_L_pack l hfl D G B0 X A h c8 c2 s8 n8 sv lab f8 (nI j15) (nI j17) hq8 H.size) (vx_cwSW (hh := [(0, 6, 7, 24), (0, 6, 12, 30), (0, 6, 17, 15), (0, 6, 22, 32)]) 3 hts gl_192 rfl rfl rfl (by decide +kernel) ⟨Nat.le_of_ble_eq_true rfl, Nat.le_of_ble_eq_true rfl⟩) (ps_lw hK hW (hE.at hS0 hAB) (AH hA0 hS0) hAB) rfl rfl hl.1 rfl (lv_room (Nat.le_of_ble_eq_true rfl)) dL_makes_164 ⟨(show (28 + (12 - 2 * (m7 + 1))) + 0 + 1 ≤ 60 by omega), (show (168 + (72 - 12 * (m7 + 1))) + 0 + 6 ≤ 360 by omega)⟩) hS0 (fun q _ h => h) (fun q h => h) (fun r u21 t9 H1 locs ht hvm hw hW hz1 hk1 hS0 => ?_)
                have hX : f_load c8 (nI j15) (nI j17) = 4 := hx9
                rw [hX] at hw hW
                have hw : r = (-1003) := hw
                have hW : LW D G X A h c8 c2 s8 n8 sv lab (m_keep c8 f8 4 (nI j15) (nI j17)) H1 := LW_h ht hW
                obtain ⟨H, rfl⟩ : ∃ z, z = H1 := ⟨_, rfl⟩
                rw [hw]
                refine W.widen (k := (28 + (12 - 2 * (m7 + 1))) + 1) (n := (168 + (72 - 12 * (m7 + 1))) + 6) (by omega) (by omega) ?_
                refine lv_istore (lv' := [(5, .int (-1003)), (4, .int r14), (3, .int (nI k)), (2, .int (nI (1 + j2))), (0, .ref h), (1, .ref b)]) hx hb dL_makes_167 hl (by decide) rfl (fun ls hl => ?_)
                refine lv_iload hx hb dL_makes_169 (lv_at hl 0 rfl) ?_
                refine lv_sipush (v := -1001) hx hb dL_makes_171 (by decide) ?_
                refine lv_icmp_eq (tgt := 185) hx hb dL_makes_174 (by decide) (fun c_22 => absurd c_22 (by decide)) (fun _ => ?_)
                refine lv_iload hx hb dL_makes_177 (lv_at hl 0 rfl) ?_
                refine lv_sipush (v := -1002) hx hb dL_makes_179 (by decide) ?_
                refine lv_icmp_ne (tgt := 187) hx hb dL_makes_182 (by decide) (fun _ => ?_) (fun c_23 => absurd c_23 (by decide))
                refine lv_iinc (v := nI (k + 1)) (lv' := [(3, .int (nI (k + 1))), (5, .int (-1003)), (4, .int r14), (2, .int (nI (1 + j2))), (0, .ref h), (1, .ref b)]) hx hb dL_makes_187 hl (k := 2) rfl (by exact nI_1 k) (by decide) rfl (fun ls hl => ?_)
                refine lv_goto (tgt := 132) hx hb dL_makes_190 (by decide) ?_
                refine W.widen (k := (28 + (12 - 2 * m7))) (n := (168 + (72 - 12 * m7))) (by omega) (by omega) ?_
                exact ih3 (k + 1) (by omega) c8 s8 n8 (m_keep c8 f8 4 (nI j15) (nI j17)) _ _ hM hbk hq8 hW hS0 ls (lv_sub hl [0, 3, 4, 5] rfl)
              · skip
                refine va_calli (vx_runSW (As := [.ref h, .int (nI j15), .int (nI j17)]) (rest := []) ⟨hx, hb, hml, hown, hts⟩ (cl_L_pack l hfl D G B0 X A h c8 c2 s8 n8 sv lab f8 (nI j15) (nI j17) hq8 H.size) (vx_cwSW (hh := [(0, 6, 7, 24), (0, 6, 12, 30), (0, 6, 17, 15), (0, 6, 22, 32)]) 3 hts gl_192 rfl rfl rfl (by decide +kernel) ⟨Nat.le_of_ble_eq_true rfl, Nat.le_of_ble_eq_true rfl⟩) (ps_lw hK hW (hE.at hS0 hAB) (AH hA0 hS0) hAB) rfl rfl hl.1 rfl (lv_room (Nat.le_of_ble_eq_true rfl)) dL_makes_164 ⟨(show (28 + (12 - 2 * (m7 + 1))) + 0 + 1 ≤ 60 by omega), (show (168 + (72 - 12 * (m7 + 1))) + 0 + 6 ≤ 360 by omega)⟩) hS0 (fun q _ h => h) (fun q h => h) (fun r u24 t9 H1 locs ht hvm hw hW hz1 hk1 hS0 => ?_)
                have hX : f_load c8 (nI j15) (nI j17) = 5 := hx9
                rw [hX] at hw hW
                have hw : r = (-1004) := hw
                have hW : LW D G X A h c8 c2 s8 n8 sv lab (m_keep c8 f8 5 (nI j15) (nI j17)) H1 := LW_h ht hW
                obtain ⟨H, rfl⟩ : ∃ z, z = H1 := ⟨_, rfl⟩
                rw [hw]
                refine W.widen (k := (28 + (12 - 2 * (m7 + 1))) + 1) (n := (168 + (72 - 12 * (m7 + 1))) + 6) (by omega) (by omega) ?_
                refine lv_istore (lv' := [(5, .int (-1004)), (4, .int r14), (3, .int (nI k)), (2, .int (nI (1 + j2))), (0, .ref h), (1, .ref b)]) hx hb dL_makes_167 hl (by decide) rfl (fun ls hl => ?_)
                refine lv_iload hx hb dL_makes_169 (lv_at hl 0 rfl) ?_
                refine lv_sipush (v := -1001) hx hb dL_makes_171 (by decide) ?_
                refine lv_icmp_eq (tgt := 185) hx hb dL_makes_174 (by decide) (fun c_25 => absurd c_25 (by decide)) (fun _ => ?_)
                refine lv_iload hx hb dL_makes_177 (lv_at hl 0 rfl) ?_
                refine lv_sipush (v := -1002) hx hb dL_makes_179 (by decide) ?_
                refine lv_icmp_ne (tgt := 187) hx hb dL_makes_182 (by decide) (fun _ => ?_) (fun c_26 => absurd c_26 (by decide))
                refine lv_iinc (v := nI (k + 1)) (lv' := [(3, .int (nI (k + 1))), (5, .int (-1004)), (4, .int r14), (2, .int (nI (1 + j2))), (0, .ref h), (1, .ref b)]) hx hb dL_makes_187 hl (k := 2) rfl (by exact nI_1 k) (by decide) rfl (fun ls hl => ?_)
                refine lv_goto (tgt := 132) hx hb dL_makes_190 (by decide) ?_
                refine W.widen (k := (28 + (12 - 2 * m7))) (n := (168 + (72 - 12 * m7))) (by omega) (by omega) ?_
                exact ih3 (k + 1) (by omega) c8 s8 n8 (m_keep c8 f8 5 (nI j15) (nI j17)) _ _ hM hbk hq8 hW hS0 ls (lv_sub hl [0, 3, 4, 5] rfl)
          refine W.widen (k := (28 + (12 - 2 * 6))) (n := (168 + (72 - 12 * 6))) (by omega) (by omega) ?_
          exact L132 6 0 (by omega) c8 s8 n8 fl _ _ hM hbk hq8 hW hS0 ls (lv_sub hl [0, 1, 2, 3] rfl)
        | succ m8 ih2 =>
          intro k hk2 c8 s8 n8 H locs hM hbk hq8 hW hS0 ls hl
          have hlt2 : k < 11 := by omega
          refine W.widen (k := (6 + (22 - 2 * (m8 + 1))) + 0) (n := (36 + (132 - 12 * (m8 + 1))) + 0) (by omega) (by omega) ?_
          refine lv_iload_n hx hb dL_makes_52 rfl (lv_at hl 0 rfl) ?_
          refine lv_bipush (v := 11) hx hb dL_makes_53 (by decide) ?_
          refine lv_icmp_ge (tgt := 130) hx hb dL_makes_55 (by decide) (fun c_27 => absurd c_27 (nI_ge (a := k) (b := 11) (by omega) (by omega))) (fun _ => ?_)
          refine lv_aload_n hx hb dL_makes_58 rfl (lv_at hl 3 rfl) ?_
          refine lv_iconst (v := 4) hx hb dL_makes_59 (by decide) ?_
          refine lv_iload_n hx hb dL_makes_60 rfl (lv_at hl 0 rfl) ?_
          refine lv_iadd hx hb dL_makes_61 ?_
          rw [show (4 + (nI k) : Int32) = nI (4 + k) from nI_add 4 k]
          refine vp_callSi (va_runS (As := [.ref b, .int (nI (4 + k))]) (rest := []) ⟨hx, hb, hml, hown, hts⟩ (cl_L_at l b L xs (4 + k) hL (by omega)) (va_cwS 2 hts gw_L_180 rfl rfl rfl (by decide +kernel) ⟨Nat.le_of_ble_eq_true rfl, Nat.le_of_ble_eq_true rfl⟩) (ps_x (X_at hX hbl hbA hS0) (Nat.lt_of_lt_of_le hbl hS0.1)) rfl rfl hl.1 rfl (lv_room (Nat.le_of_ble_eq_true rfl)) dL_makes_62 ⟨(show (6 + (22 - 2 * (m8 + 1))) + 0 + 0 ≤ 60 by omega), (show (36 + (132 - 12 * (m8 + 1))) + 0 + 0 ≤ 360 by omega)⟩).run (fun r28 _ => ?_)
          refine lv_istore (lv' := [(4, .int r28), (3, .int (nI k)), (2, .int (nI (1 + j2))), (0, .ref h), (1, .ref b)]) hx hb dL_makes_65 hl (by decide) rfl (fun ls hl => ?_)
          refine lv_aload_n hx hb dL_makes_67 rfl (lv_at hl 3 rfl) ?_
          refine lv_iconst (v := 1) hx hb dL_makes_68 (by decide) ?_
          refine lv_iload hx hb dL_makes_69 (lv_at hl 0 rfl) ?_
          refine lv_bipush (v := 10) hx hb dL_makes_71 (by decide) ?_
          refine vp_callSi (va_runS (As := [.int r28, .int (nI 10)]) (rest := [.int 1, .ref h]) ⟨hx, hb, hml, hown, hts⟩ (cl_L_some l r28 10 (by omega) (by omega)) (va_cwS 2 hts gw_L_184 rfl rfl rfl (by decide +kernel) ⟨Nat.le_of_ble_eq_true rfl, Nat.le_of_ble_eq_true rfl⟩) ps_0 rfl rfl hl.1 rfl (lv_room (Nat.le_of_ble_eq_true rfl)) dL_makes_73 ⟨(show (6 + (22 - 2 * (m8 + 1))) + 0 + 0 ≤ 60 by omega), (show (36 + (132 - 12 * (m8 + 1))) + 0 + 0 ≤ 360 by omega)⟩).run (fun r29 h9 => ?_)
          obtain ⟨j29, hj29, rfl⟩ := h9
          refine lv_iadd hx hb dL_makes_76 ?_
          rw [show (1 + (nI j29) : Int32) = nI (1 + j29) from nI_add 1 j29]
          refine lv_iconst (v := 1) hx hb dL_makes_77 (by decide) ?_
          refine lv_iload hx hb dL_makes_78 (lv_at hl 0 rfl) ?_
          refine lv_iconst (v := 4) hx hb dL_makes_80 (by decide) ?_
          refine lv_ishr hx hb dL_makes_81 ?_
          obtain ⟨i30, hv_30⟩ : ∃ z : Int32, z = r28 >>> (4 &&& 31) := ⟨_, rfl⟩
          rw [← hv_30]
          refine lv_bipush (v := 8) hx hb dL_makes_82 (by decide) ?_
          refine vp_callSi (va_runS (As := [.int i30, .int (nI 8)]) (rest := [.int 1, .int (nI (1 + j29)), .ref h]) ⟨hx, hb, hml, hown, hts⟩ (cl_L_some l i30 8 (by omega) (by omega)) (va_cwS 2 hts gw_L_184 rfl rfl rfl (by decide +kernel) ⟨Nat.le_of_ble_eq_true rfl, Nat.le_of_ble_eq_true rfl⟩) ps_0 rfl rfl hl.1 rfl (lv_room (Nat.le_of_ble_eq_true rfl)) dL_makes_84 ⟨(show (6 + (22 - 2 * (m8 + 1))) + 0 + 0 ≤ 60 by omega), (show (36 + (132 - 12 * (m8 + 1))) + 0 + 0 ≤ 360 by omega)⟩).run (fun r31 h9 => ?_)
          obtain ⟨j31, hj31, rfl⟩ := h9
          refine lv_iadd hx hb dL_makes_87 ?_
          rw [show (1 + (nI j31) : Int32) = nI (1 + j31) from nI_add 1 j31]
          refine lv_iconst (v := 1) hx hb dL_makes_88 (by decide) ?_
          refine lv_iload hx hb dL_makes_89 (lv_at hl 0 rfl) ?_
          refine lv_bipush (v := 8) hx hb dL_makes_91 (by decide) ?_
          refine lv_ishr hx hb dL_makes_93 ?_
          obtain ⟨i32, hv_32⟩ : ∃ z : Int32, z = r28 >>> (8 &&& 31) := ⟨_, rfl⟩
          rw [← hv_32]
          refine lv_bipush (v := 6) hx hb dL_makes_94 (by decide) ?_
          refine vp_callSi (va_runS (As := [.int i32, .int (nI 6)]) (rest := [.int 1, .int (nI (1 + j31)), .int (nI (1 + j29)), .ref h]) ⟨hx, hb, hml, hown, hts⟩ (cl_L_some l i32 6 (by omega) (by omega)) (va_cwS 2 hts gw_L_184 rfl rfl rfl (by decide +kernel) ⟨Nat.le_of_ble_eq_true rfl, Nat.le_of_ble_eq_true rfl⟩) ps_0 rfl rfl hl.1 rfl (lv_room (Nat.le_of_ble_eq_true rfl)) dL_makes_96 ⟨(show (6 + (22 - 2 * (m8 + 1))) + 0 + 0 ≤ 60 by omega), (show (36 + (132 - 12 * (m8 + 1))) + 0 + 0 ≤ 360 by omega)⟩).run (fun r33 h9 => ?_)
          obtain ⟨j33, hj33, rfl⟩ := h9
          refine lv_iadd hx hb dL_makes_99 ?_
          rw [show (1 + (nI j33) : Int32) = nI (1 + j33) from nI_add 1 j33]
          refine lv_iload hx hb dL_makes_100 (lv_at hl 0 rfl) ?_
          refine lv_bipush (v := 12) hx hb dL_makes_102 (by decide) ?_
          refine lv_ishr hx hb dL_makes_104 ?_
          obtain ⟨i34, hv_34⟩ : ∃ z : Int32, z = r28 >>> (12 &&& 31) := ⟨_, rfl⟩
          rw [← hv_34]
          refine lv_iconst (v := 3) hx hb dL_makes_105 (by decide) ?_
          refine lv_iand hx hb dL_makes_106 ?_
          refine lv_if_ne (tgt := 114) hx hb dL_makes_107 (by decide) (fun c_35 => ?_) (fun c_35 => ?_)
          · skip
            refine lv_iconst (v := 0) hx hb dL_makes_114 (by decide) ?_
            refine va_calli (vx_runSW (As := [.ref h, .int (nI (1 + j29)), .int (nI (1 + j31)), .int (nI (1 + j33)), .int 0]) (rest := []) ⟨hx, hb, hml, hown, hts⟩ (cl_L_addItem l hfl D G B0 X A h c8 c2 s8 n8 sv lab fl (nI (1 + j29)) (nI (1 + j31)) (nI (1 + j33)) false hq8 H.size) (vx_cwSW (hh := [(0, 9, 10, 13), (0, 9, 16, 15)]) 5 hts gl_189 rfl rfl rfl (by decide +kernel) ⟨Nat.le_of_ble_eq_true rfl, Nat.le_of_ble_eq_true rfl⟩) (ps_lw hK hW (hE.at hS0 hAB) (AH hA0 hS0) hAB) rfl rfl hl.1 rfl (lv_room (Nat.le_of_ble_eq_true rfl)) dL_makes_115 ⟨(show (6 + (22 - 2 * (m8 + 1))) + 0 + 1 ≤ 60 by omega), (show (36 + (132 - 12 * (m8 + 1))) + 0 + 6 ≤ 360 by omega)⟩) hS0 (fun q _ h => h) (fun q h => h) (fun r u36 t9 H1 locs ht hvm hw hW hz1 hk1 hS0 => ?_)
            have hX : f_takeIn c8 (nI (1 + j29)) (nI (1 + j31)) (nI (1 + j33)) = 0 := f_takeIn_0 ⟨by omega, by omega⟩ ⟨by omega, by omega⟩ ⟨by omega, by omega⟩ (by have := hM.2.2.2.2.2; omega)
            rw [hX] at hw hW
            have hw : r = (m_takeIn c8 (nI (1 + j29)) (nI (1 + j31)) (nI (1 + j33)) false).1 := hw
            have hW : LW D G X A h ((m_takeIn c8 (nI (1 + j29)) (nI (1 + j31)) (nI (1 + j33)) false).2) c2 (pS s8 n8 c8) (pN n8) sv lab fl H1 := LW_h ht hW
            obtain ⟨H, rfl⟩ : ∃ z, z = H1 := ⟨_, rfl⟩
            rw [hw]
            refine W.widen (k := (6 + (22 - 2 * (m8 + 1))) + 1) (n := (36 + (132 - 12 * (m8 + 1))) + 6) (by omega) (by omega) ?_
            rw [show ((m_takeIn c8 (nI (1 + j29)) (nI (1 + j31)) (nI (1 + j33)) false).1) = nI k from (takeIn_a (fr_takeIn hX)).trans hM.2.1]
            refine lv_iload_n hx hb dL_makes_118 rfl (lv_at hl 1 rfl) ?_
            refine lv_icmp_eq (tgt := 124) hx hb dL_makes_119 (by decide) (fun _ => ?_) (fun c_37 => absurd rfl c_37)
            refine lv_iinc (v := nI (k + 1)) (lv' := [(3, .int (nI (k + 1))), (4, .int r28), (2, .int (nI (1 + j2))), (0, .ref h), (1, .ref b)]) hx hb dL_makes_124 hl (k := 1) rfl (by exact nI_1 k) (by decide) rfl (fun ls hl => ?_)
            refine lv_goto (tgt := 52) hx hb dL_makes_127 (by decide) ?_
            refine W.widen (k := (6 + (22 - 2 * m8))) (n := (36 + (132 - 12 * m8))) (by omega) (by omega) ?_
            exact ih2 (k + 1) (by omega) ((m_takeIn c8 (nI (1 + j29)) (nI (1 + j31)) (nI (1 + j33)) false).2) (pS s8 n8 c8) (pN n8) _ _ (MK_take hM (by omega) ⟨by omega, by omega⟩ ⟨by omega, by omega⟩ (fr_takeIn hX)) ((nbg_take _ _ _ _ _).trans hbk) (pN_le hq8) hW hS0 ls (lv_sub hl [0, 2, 3, 4] rfl)
          · skip
            refine lv_iconst (v := 1) hx hb dL_makes_110 (by decide) ?_
            refine lv_goto (tgt := 115) hx hb dL_makes_111 (by decide) ?_
            refine va_calli (vx_runSW (As := [.ref h, .int (nI (1 + j29)), .int (nI (1 + j31)), .int (nI (1 + j33)), .int 1]) (rest := []) ⟨hx, hb, hml, hown, hts⟩ (cl_L_addItem l hfl D G B0 X A h c8 c2 s8 n8 sv lab fl (nI (1 + j29)) (nI (1 + j31)) (nI (1 + j33)) true hq8 H.size) (vx_cwSW (hh := [(0, 9, 10, 13), (0, 9, 16, 15)]) 5 hts gl_189 rfl rfl rfl (by decide +kernel) ⟨Nat.le_of_ble_eq_true rfl, Nat.le_of_ble_eq_true rfl⟩) (ps_lw hK hW (hE.at hS0 hAB) (AH hA0 hS0) hAB) rfl rfl hl.1 rfl (lv_room (Nat.le_of_ble_eq_true rfl)) dL_makes_115 ⟨(show (6 + (22 - 2 * (m8 + 1))) + 0 + 1 ≤ 60 by omega), (show (36 + (132 - 12 * (m8 + 1))) + 0 + 6 ≤ 360 by omega)⟩) hS0 (fun q _ h => h) (fun q h => h) (fun r u38 t9 H1 locs ht hvm hw hW hz1 hk1 hS0 => ?_)
            have hX : f_takeIn c8 (nI (1 + j29)) (nI (1 + j31)) (nI (1 + j33)) = 0 := f_takeIn_0 ⟨by omega, by omega⟩ ⟨by omega, by omega⟩ ⟨by omega, by omega⟩ (by have := hM.2.2.2.2.2; omega)
            rw [hX] at hw hW
            have hw : r = (m_takeIn c8 (nI (1 + j29)) (nI (1 + j31)) (nI (1 + j33)) true).1 := hw
            have hW : LW D G X A h ((m_takeIn c8 (nI (1 + j29)) (nI (1 + j31)) (nI (1 + j33)) true).2) c2 (pS s8 n8 c8) (pN n8) sv lab fl H1 := LW_h ht hW
            obtain ⟨H, rfl⟩ : ∃ z, z = H1 := ⟨_, rfl⟩
            rw [hw]
            refine W.widen (k := (6 + (22 - 2 * (m8 + 1))) + 1) (n := (36 + (132 - 12 * (m8 + 1))) + 6) (by omega) (by omega) ?_
            rw [show ((m_takeIn c8 (nI (1 + j29)) (nI (1 + j31)) (nI (1 + j33)) true).1) = nI k from (takeIn_a (fr_takeIn hX)).trans hM.2.1]
            refine lv_iload_n hx hb dL_makes_118 rfl (lv_at hl 1 rfl) ?_
            refine lv_icmp_eq (tgt := 124) hx hb dL_makes_119 (by decide) (fun _ => ?_) (fun c_39 => absurd rfl c_39)
            refine lv_iinc (v := nI (k + 1)) (lv' := [(3, .int (nI (k + 1))), (4, .int r28), (2, .int (nI (1 + j2))), (0, .ref h), (1, .ref b)]) hx hb dL_makes_124 hl (k := 1) rfl (by exact nI_1 k) (by decide) rfl (fun ls hl => ?_)
            refine lv_goto (tgt := 52) hx hb dL_makes_127 (by decide) ?_
            refine W.widen (k := (6 + (22 - 2 * m8))) (n := (36 + (132 - 12 * m8))) (by omega) (by omega) ?_
            exact ih2 (k + 1) (by omega) ((m_takeIn c8 (nI (1 + j29)) (nI (1 + j31)) (nI (1 + j33)) true).2) (pS s8 n8 c8) (pN n8) _ _ (MK_take hM (by omega) ⟨by omega, by omega⟩ ⟨by omega, by omega⟩ (fr_takeIn hX)) ((nbg_take _ _ _ _ _).trans hbk) (pN_le hq8) hW hS0 ls (lv_sub hl [0, 2, 3, 4] rfl)
      refine W.widen (k := (6 + (22 - 2 * 11))) (n := (36 + (132 - 12 * 11))) (by omega) (by omega) ?_
      exact L52 11 0 (by omega) c8 s8 n8 _ _ hM hbk hq8 hW hS0 ls (lv_sub hl [0, 1, 2, 3] rfl)
    | succ m9 ih1 =>
      intro k hk1 c8 s8 n8 H locs hM hbk hq8 hW hS0 ls hl
      have hlt1 : k < (1 + j2) := by omega
      refine W.widen (k := (0 + (6 - 2 * (m9 + 1))) + 0) (n := (0 + (36 - 12 * (m9 + 1))) + 0) (by omega) (by omega) ?_
      refine lv_iload_n hx hb dL_makes_14 rfl (lv_at hl 0 rfl) ?_
      refine lv_iload_n hx hb dL_makes_15 rfl (lv_at hl 1 rfl) ?_
      refine lv_icmp_ge (tgt := 50) hx hb dL_makes_16 (by decide) (fun c_40 => absurd c_40 (nI_ge (a := k) (b := (1 + j2)) (by omega) (by omega))) (fun _ => ?_)
      refine lv_aload_n hx hb dL_makes_19 rfl (lv_at hl 2 rfl) ?_
      refine lv_bipush (v := 20) hx hb dL_makes_20 (by decide) ?_
      refine lv_aload_n hx hb dL_makes_22 rfl (lv_at hl 3 rfl) ?_
      refine lv_iconst (v := 1) hx hb dL_makes_23 (by decide) ?_
      refine lv_iload_n hx hb dL_makes_24 rfl (lv_at hl 0 rfl) ?_
      refine lv_iadd hx hb dL_makes_25 ?_
      rw [show (1 + (nI k) : Int32) = nI (1 + k) from nI_add 1 k]
      refine vp_callSi (va_runS (As := [.ref b, .int (nI (1 + k))]) (rest := [.int 20, .ref h]) ⟨hx, hb, hml, hown, hts⟩ (cl_L_at l b L xs (1 + k) hL (by omega)) (va_cwS 2 hts gw_L_180 rfl rfl rfl (by decide +kernel) ⟨Nat.le_of_ble_eq_true rfl, Nat.le_of_ble_eq_true rfl⟩) (ps_x (X_at hX hbl hbA hS0) (Nat.lt_of_lt_of_le hbl hS0.1)) rfl rfl hl.1 rfl (lv_room (Nat.le_of_ble_eq_true rfl)) dL_makes_26 ⟨(show (0 + (6 - 2 * (m9 + 1))) + 0 + 0 ≤ 60 by omega), (show (0 + (36 - 12 * (m9 + 1))) + 0 + 0 ≤ 360 by omega)⟩).run (fun r41 _ => ?_)
      refine lv_bipush (v := 79) hx hb dL_makes_29 (by decide) ?_
      refine vp_callSi (va_runS (As := [.int r41, .int (nI 79)]) (rest := [.int 20, .ref h]) ⟨hx, hb, hml, hown, hts⟩ (cl_L_some l r41 79 (by omega) (by omega)) (va_cwS 2 hts gw_L_184 rfl rfl rfl (by decide +kernel) ⟨Nat.le_of_ble_eq_true rfl, Nat.le_of_ble_eq_true rfl⟩) ps_0 rfl rfl hl.1 rfl (lv_room (Nat.le_of_ble_eq_true rfl)) dL_makes_31 ⟨(show (0 + (6 - 2 * (m9 + 1))) + 0 + 0 ≤ 60 by omega), (show (0 + (36 - 12 * (m9 + 1))) + 0 + 0 ≤ 360 by omega)⟩).run (fun r42 h9 => ?_)
      obtain ⟨j42, hj42, rfl⟩ := h9
      refine lv_iadd hx hb dL_makes_34 ?_
      rw [show (20 + (nI j42) : Int32) = nI (20 + j42) from nI_add 20 j42]
      refine va_calli (vx_runSW (As := [.ref h, .int (nI (20 + j42))]) (rest := []) ⟨hx, hb, hml, hown, hts⟩ (cl_L_addBag l hfl D G B0 X A h c8 c2 s8 n8 sv lab fl (nI (20 + j42)) hq8 hM.1.1 H.size) (vx_cwSW (hh := [(0, 5, 6, 13), (0, 5, 11, 15)]) 2 hts gl_187 rfl rfl rfl (by decide +kernel) ⟨Nat.le_of_ble_eq_true rfl, Nat.le_of_ble_eq_true rfl⟩) (ps_lw hK hW (hE.at hS0 hAB) (AH hA0 hS0) hAB) rfl rfl hl.1 rfl (lv_room (Nat.le_of_ble_eq_true rfl)) dL_makes_35 ⟨(show (0 + (6 - 2 * (m9 + 1))) + 0 + 1 ≤ 60 by omega), (show (0 + (36 - 12 * (m9 + 1))) + 0 + 6 ≤ 360 by omega)⟩) hS0 (fun q _ h => h) (fun q h => h) (fun r u43 t9 H1 locs ht hvm hw hW hz1 hk1 hS0 => ?_)
      have hX : f_open c8 (nI (20 + j42)) = 0 := f_open_0 hM.1.1 (by omega) (by omega) (by omega)
      rw [hX] at hw hW
      have hw : r = (m_open c8 (nI (20 + j42))).1 := hw
      have hW : LW D G X A h ((m_open c8 (nI (20 + j42))).2) c2 (pS s8 n8 c8) (pN n8) sv lab fl H1 := LW_h ht hW
      obtain ⟨H, rfl⟩ : ∃ z, z = H1 := ⟨_, rfl⟩
      rw [hw]
      refine W.widen (k := (0 + (6 - 2 * (m9 + 1))) + 1) (n := (0 + (36 - 12 * (m9 + 1))) + 6) (by omega) (by omega) ?_
      rw [show ((m_open c8 (nI (20 + j42))).1) = nI k from (open_a (by omega)).elim (fun h => h.1.trans (by rw [hbk])) (fun h => absurd hM.1.1 h)]
      refine lv_iload_n hx hb dL_makes_38 rfl (lv_at hl 0 rfl) ?_
      refine lv_icmp_eq (tgt := 44) hx hb dL_makes_39 (by decide) (fun _ => ?_) (fun c_44 => absurd rfl c_44)
      refine lv_iinc (v := nI (k + 1)) (lv' := [(3, .int (nI (k + 1))), (2, .int (nI (1 + j2))), (0, .ref h), (1, .ref b)]) hx hb dL_makes_44 hl (k := 0) rfl (by exact nI_1 k) (by decide) rfl (fun ls hl => ?_)
      refine lv_goto (tgt := 14) hx hb dL_makes_47 (by decide) ?_
      refine W.widen (k := (0 + (6 - 2 * m9))) (n := (0 + (36 - 12 * m9))) (by omega) (by omega) ?_
      exact ih1 (k + 1) (by omega) ((m_open c8 (nI (20 + j42))).2) (pS s8 n8 c8) (pN n8) _ _ (MK_open hM _) ((open_a (by omega)).elim (fun h => h.2.trans (by rw [hbk])) (fun h => absurd hM.1.1 h)) (pN_le hq8) hW hS0 ls (lv_sub hl [0, 1, 2, 3] rfl)
  refine W.widen (k := (0 + (6 - 2 * (1 + j2)))) (n := (0 + (36 - 12 * (1 + j2)))) (by omega) (by omega) ?_
  exact L14 (1 + j2) 0 (by omega) c0 hS hn _ _ hMK hb0 hh hW hS0 ls (lv_sub hl [0, 1, 2, 3] rfl)
