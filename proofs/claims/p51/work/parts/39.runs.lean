def StrX (A : Nat → Prop) (U : State) (H : Heap) (q v len : Nat) (f : Nat → Int32) : Prop := va_O "java/lang/String" q A U H ∧ va_OF "java/lang/String" "coder" "B" (.int 0) q A U H ∧ va_OF "java/lang/String" "value" "[B" (.ref v) q A U H ∧ va_T .byte v len (fun j => .int (f j)) A U H
theorem StrX.moved {A : Nat → Prop} {u U : State} {H : Heap} {q v len : Nat} {f : Nat → Int32} (hv : u.vm.Alike U.vm) (h : StrX A u H q v len f) : StrX A U H q v len f := ⟨va_O.moved hv h.1, va_OF.moved hv h.2.1, va_OF.moved hv h.2.2.1, va_T.moved hv h.2.2.2⟩
theorem StrX.kept {A : Nat → Prop} {U : State} {H H1 : Heap} {q v len : Nat} {f : Nat → Int32} (h : StrX A U H q v len f) (hq : ∀ a : Nat, a < H.size → ¬ A a → H1[a]? = H[a]?) : StrX A U H1 q v len f := ⟨va_O.kept h.1 hq, va_OF.kept h.2.1 hq, va_OF.kept h.2.2.1 hq, va_T.kept h.2.2.2 hq⟩
theorem StrX.a {A : Nat → Prop} {U : State} {H : Heap} {q v len : Nat} {f : Nat → Int32} (h : StrX A U H q v len f) : StrA U H q v len f := ⟨h.1.narrow (fun _ hq => hq.elim), h.2.1.narrow (fun _ hq => hq.elim), h.2.2.1.narrow (fun _ hq => hq.elim), va_T.narrow h.2.2.2 (fun _ hq => hq.elim)⟩
/-- typing a text's letters -/
def ty (T : List Int32) (j : Nat) (s : SV) : SV := v_typ s (T.getD j 0)
abbrev v_tyL (sv : SV) (T : List Int32) : SV := lp (ty T) T.length sv
theorem ty_ok {T : List Int32} {sv : SV} (h : SVok sv) (h0 : sv.2.2.1 = 0) : ∀ i, i ≤ 60 → SVok (lp (ty T) i sv) ∧ (lp (ty T) i sv).2.2.1 = i := by
  intro i
  induction i with
  | zero => intro _; exact ⟨h, h0⟩
  | succ i ih =>
    intro hi
    obtain ⟨⟨i1, i2, i3, i4⟩, i5⟩ := ih (by omega)
    rw [lp_s]
    exact ⟨⟨by show (lp (ty T) i sv).2.2.1 + 1 ≤ 60; omega, i2, i3, i4⟩, by show (lp (ty T) i sv).2.2.1 + 1 = i + 1; omega⟩
theorem ch_ok {ch : Int32} (h1 : ¬ ch < 32) (h2 : ch ≤ 126) : vp_nar .char ch = ch := by
  have e1 := Int32.le_iff_toInt_le.mp h2
  have e2 : (32 : Int) ≤ ch.toInt := by
    rcases Int.lt_or_le ch.toInt 32 with h | h
    · exact absurd (Int32.lt_iff_toInt_lt.mpr h) h1
    · exact h
  have e3 : (126 : Int32).toInt = 126 := by decide
  rw [e3] at e1
  rw [vp_nar_char]
  exact lg_i2c_small (by omega) (by omega)
theorem x_type_0 {sv : SV} {ch : Int32} (h1 : ¬ ch < 32) (h2 : ch ≤ 126) (hn : sv.2.2.1 < 60) : x_type sv ch = 0 := by
  unfold x_type r_full
  rw [if_neg h1, if_pos h2, if_pos hn]
  rfl
abbrev w_exec (c0 : CS) (fl : Nat → Int32) (sv : SV) : Int32 := sel (x_exec c0 fl sv) ((v_ct sv).1) (if x_exec c0 fl sv = 1 then (-1001) else (-1002))
theorem gw_L_153 : GoodIn tb (wsV RL 153 RJ0 yJ0_length_8abf5 (wA yJ0_length_8abf5 cJ0_length_8abf5 1 (some .int))) := gV kw_1366 kw_773 kw_774 kw_33 kw_775
theorem gl_166 : GoodIn tb (va_wsS RL 166 yL_execute (wH yL_execute cL_execute 2 (some .int) [(0, 4, 5, 13), (0, 4, 10, 15)])) := gSW kw_747 kw_748 kw_23 kw_749
theorem gw_L_158 : GoodIn tb (wsV RL 158 RJ0 yJ0_charAt_5068e (wA yJ0_charAt_5068e cJ0_charAt_5068e 2 (some .char))) := gV kw_1367 kw_782 kw_783 kw_33 kw_784
theorem gl_161 : GoodIn tb (va_wsS RL 161 yL_type (wH yL_type cL_type 3 (some .int) [(0, 5, 6, 13), (0, 5, 11, 15)])) := gSW kw_729 kw_730 kw_23 kw_731
set_option maxRecDepth 100000 in
set_option maxHeartbeats 8000000 in
theorem cl_L_runs (l : Launch) (hfl : l.stackTraces = false) (D : va_G) (G : GA) (B0 : Nat) (X : Nat → Nat → Nat) (A : Nat → Prop) (h : Nat) (c0 c2 : CS) (hS : Nat → CS) (hn : Nat) (sv : SV) (lab : List Int32) (fl : Nat → Int32) (q v len : Nat) (f : Nat → Int32) (hh : hn ≤ 8) (hsv : SVok sv) (hs0 : sv.2.2.1 = 0) (hBG : BG c0) (T : List Int32) (hlen : len = T.length) (hTf : ∀ j, j < len → f j &&& 255 = T.getD j 0) (hT60 : T.length ≤ 60) (hTc : ∀ j, j < T.length → ¬ T.getD j 0 < 32 ∧ T.getD j 0 ≤ 126) (sz : Nat) : Met l yL_runs (wA yL_runs cL_runs 3 (some .int)) ({ frames := 9, cells := 62, slots := 372, locals := 206 } : Room) (va_Pc [.ref h, .ref q] (fun U => (LWp D G B0 X A h c0 c2 hS hn sv lab fl sz U) ∧ StrX A U U.heap q v len f)) (va_Qi (fun (r : Int32) (_ : Unit) => r = w_exec c0 fl (v_tyL sv T)) (fun _ t9 => LW D G X A h (sel (x_exec c0 fl (v_tyL sv T)) (e_r c0 fl (v_tyL sv T)).2.1 c0) c2 (sel (x_exec c0 fl (v_tyL sv T)) (pS hS hn c0) hS) (sel (x_exec c0 fl (v_tyL sv T)) (pN hn) hn) (e_sv c0 fl (v_tyL sv T)) lab (e_fl c0 fl (v_tyL sv T)) t9.heap) A) 62 372 A := by
  refine Met.ofW (cc := cL_runs) (maxL := 3) (ret := (some .int)) (by decide) rfl ?_
  intro p9 e s m args below meth c9 s₁ B hml hv
  obtain ⟨rfl, ⟨hsz, hW, hK, hE, hA0, hAB⟩, hT⟩ := hv
  subst hsz
  have hx := B.exec
  have hb := B.bytes
  have hr := B.returns
  have hts : ∀ w9 ∈ tb, w9.before ([.ref h, .ref q] : List Value).toArray s = true := fun w9 h9 => atoms_spec (ws := (wA yL_runs cL_runs 3 (some .int))) B.pre w9 (List.mem_cons_of_mem _ h9)
  have hown : s.vm.findClass RL = some m.cls := findClass_of_methodNamed B.named
  have hlocks := B.notSynchronized
  have hS0 : va_S A s.heap s.heap [] := va_S.rf
  have hl := lv_entry ([.ref h, .ref q]) (n := 3) (Nat.le_of_ble_eq_true rfl)
  rw [lg_entry_eq]
  generalize (lg_sl ([.ref h, .ref q]) ++ List.replicate (3 - (lg_sl ([.ref h, .ref q])).length) Slot.unset).toArray = ls at hl ⊢
  have hl : lv_has ls 3 [(0, .ref h), (1, .ref q)] := hl
  refine lv_iconst (v := 0) hx hb dL_runs_0 (by decide) ?_
  refine lv_istore_n (lv' := [(2, .int 0), (0, .ref h), (1, .ref q)]) hx hb dL_runs_1 rfl hl (by decide) rfl (fun ls hl => ?_)
  have L2 : ∀ (m9 i : Nat), i + m9 = T.length → ∀ (H : Heap) (locs : List Loc), LW D G X A h c0 c2 hS hn (lp (ty T) i sv) lab fl H → va_S A s.heap H locs → ∀ ls : Array Slot, lv_has ls 3 [(2, .int (nI i)), (0, .ref h), (1, .ref q)] → W p9 l e (headSpec (wA yL_runs cL_runs 3 (some .int)) ({ frames := 9, cells := 62, slots := 372, locals := 206 } : Room)).room s m ([.ref h, .ref q] : List Value).toArray below meth c9 H locs (0 + (60 - 1 * m9)) (0 + (360 - 6 * m9)) (MQ below (va_Qi (fun (r : Int32) (_ : Unit) => r = w_exec c0 fl (v_tyL sv T)) (fun _ t9 => LW D G X A h (sel (x_exec c0 fl (v_tyL sv T)) (e_r c0 fl (v_tyL sv T)).2.1 c0) c2 (sel (x_exec c0 fl (v_tyL sv T)) (pS hS hn c0) hS) (sel (x_exec c0 fl (v_tyL sv T)) (pN hn) hn) (e_sv c0 fl (v_tyL sv T)) lab (e_fl c0 fl (v_tyL sv T)) t9.heap) A) ([.ref h, .ref q] : List Value).toArray s 62 372 A) (F0 m 2 ls []) := by
    intro m9
    induction m9 with
    | zero =>
      intro i hk1  H locs  hW hS0 ls hl
      obtain rfl : i = T.length := by omega
      refine W.widen (k := 60) (n := 360) (by omega) (by omega) ?_
      refine lv_iload_n hx hb dL_runs_2 rfl (lv_at hl 0 rfl) ?_
      refine lv_aload_n hx hb dL_runs_3 rfl (lv_at hl 2 rfl) ?_
      have hSt := StrX.kept hT hS0.2.1
      refine vp_callSi (va_runV (As := []) (rest := [.int (nI T.length)]) ⟨hx, hb, hml, hown, hts⟩ (c_J0_length_8abf5 l q v len f (by omega)) (cwV 0 hts gw_L_153 rfl rfl rfl (by decide +kernel) ⟨Nat.le_of_ble_eq_true rfl, Nat.le_of_ble_eq_true rfl⟩) (pv_st hSt.a (JZ.of (hE.at hS0 hAB))) rfl rfl hl.1 rfl (lv_room (Nat.le_of_ble_eq_true rfl)) dL_runs_4 ⟨Nat.le_of_ble_eq_true rfl, Nat.le_of_ble_eq_true rfl⟩).run (nm_e ?_)
      rw [hlen]
      refine lv_icmp_ge (tgt := 35) hx hb dL_runs_7 (by decide) (fun _ => ?_) (fun c_1 => absurd (nI_le (a := T.length) (b := T.length) (by omega) (by omega)) c_1)
      refine lv_aload_n hx hb dL_runs_35 rfl (lv_at hl 1 rfl) ?_
      refine va_calli (vx_runSW (As := [.ref h]) (rest := []) ⟨hx, hb, hml, hown, hts⟩ (cl_L_execute l hfl D G B0 X A h c0 c2 hS hn (lp (ty T) T.length sv) lab fl hh (ty_ok hsv hs0 T.length hT60).1 hBG H.size) (vx_cwSW (hh := [(0, 4, 5, 13), (0, 4, 10, 15)]) 1 hts gl_166 rfl rfl rfl (by decide +kernel) ⟨Nat.le_of_ble_eq_true rfl, Nat.le_of_ble_eq_true rfl⟩) (ps_lw hK hW (hE.at hS0 hAB) (AH hA0 hS0) hAB) rfl rfl hl.1 rfl (lv_room (Nat.le_of_ble_eq_true rfl)) dL_runs_36 ⟨Nat.le_of_ble_eq_true rfl, Nat.le_of_ble_eq_true rfl⟩) hS0 (fun q _ h => h) (fun q h => h) (fun r u2 t9 H1 locs ht hvm hw hW hz1 hk1 hS0 => ?_)
      have hW : LW D G X A h (sel (x_exec c0 fl (lp (ty T) T.length sv)) ((e_r c0 fl (lp (ty T) T.length sv)).2.1) c0) c2 (sel (x_exec c0 fl (lp (ty T) T.length sv)) (pS hS hn c0) hS) (sel (x_exec c0 fl (lp (ty T) T.length sv)) (pN hn) hn) (e_sv c0 fl (lp (ty T) T.length sv)) lab (e_fl c0 fl (lp (ty T) T.length sv)) H1 := LW_h ht hW
      obtain ⟨H, rfl⟩ : ∃ z, z = H1 := ⟨_, rfl⟩
      rw [hw]
      refine W.widen (k := 61) (n := 366) (Nat.le_of_ble_eq_true rfl) (Nat.le_of_ble_eq_true rfl) ?_
      refine W.widen (k := 62) (n := 372) (Nat.le_of_ble_eq_true rfl) (Nat.le_of_ble_eq_true rfl) ?_
      exact W.iret (v := (sel (x_exec c0 fl (lp (ty T) T.length sv)) ((v_ct (lp (ty T) T.length sv)).1) (if x_exec c0 fl (lp (ty T) T.length sv) = 1 then (-1001) else (-1002)))) hx hb hr (fun t ht hWm => ⟨⟨_, (), rfl, rfl, LW_t ht hW⟩, hS0.F ht⟩) hS0.2.2 dL_runs_39
    | succ m9 ih1 =>
      intro i hk1  H locs  hW hS0 ls hl
      have hlt1 : i < T.length := by omega
      refine W.widen (k := (0 + (60 - 1 * (m9 + 1))) + 0) (n := (0 + (360 - 6 * (m9 + 1))) + 0) (by omega) (by omega) ?_
      refine lv_iload_n hx hb dL_runs_2 rfl (lv_at hl 0 rfl) ?_
      refine lv_aload_n hx hb dL_runs_3 rfl (lv_at hl 2 rfl) ?_
      have hSt := StrX.kept hT hS0.2.1
      refine vp_callSi (va_runV (As := []) (rest := [.int (nI i)]) ⟨hx, hb, hml, hown, hts⟩ (c_J0_length_8abf5 l q v len f (by omega)) (cwV 0 hts gw_L_153 rfl rfl rfl (by decide +kernel) ⟨Nat.le_of_ble_eq_true rfl, Nat.le_of_ble_eq_true rfl⟩) (pv_st hSt.a (JZ.of (hE.at hS0 hAB))) rfl rfl hl.1 rfl (lv_room (Nat.le_of_ble_eq_true rfl)) dL_runs_4 ⟨(show (0 + (60 - 1 * (m9 + 1))) + 0 + 0 ≤ 62 by omega), (show (0 + (360 - 6 * (m9 + 1))) + 0 + 0 ≤ 372 by omega)⟩).run (nm_e ?_)
      rw [hlen]
      refine lv_icmp_ge (tgt := 35) hx hb dL_runs_7 (by decide) (fun c_3 => absurd c_3 (nI_ge (a := i) (b := T.length) (by omega) (by omega))) (fun _ => ?_)
      refine lv_aload_n hx hb dL_runs_10 rfl (lv_at hl 1 rfl) ?_
      refine lv_aload_n hx hb dL_runs_11 rfl (lv_at hl 2 rfl) ?_
      refine lv_iload_n hx hb dL_runs_12 rfl (lv_at hl 0 rfl) ?_
      have hSt := StrX.kept hT hS0.2.1
      refine vp_callSi (va_runV (As := [.int (nI i)]) (rest := [.ref h]) ⟨hx, hb, hml, hown, hts⟩ (c_J0_charAt_5068e l q v len f i (by omega) (by omega)) (cwV 1 hts gw_L_158 rfl rfl rfl (by decide +kernel) ⟨Nat.le_of_ble_eq_true rfl, Nat.le_of_ble_eq_true rfl⟩) (pv_st hSt.a (JZ.of (hE.at hS0 hAB))) rfl rfl hl.1 rfl (lv_room (Nat.le_of_ble_eq_true rfl)) dL_runs_13 ⟨(show (0 + (60 - 1 * (m9 + 1))) + 0 + 0 ≤ 62 by omega), (show (0 + (360 - 6 * (m9 + 1))) + 0 + 0 ≤ 372 by omega)⟩).run (nm_e ?_)
      rw [hTf i (by omega)]
      refine va_calli (vx_runSW (As := [.ref h, .int (T.getD i 0)]) (rest := []) ⟨hx, hb, hml, hown, hts⟩ (cl_L_type l hfl D G B0 X A h c0 c2 hS hn (lp (ty T) i sv) lab fl (T.getD i 0) (ty_ok hsv hs0 i (by omega)).1 (ch_ok (hTc i hlt1).1 (hTc i hlt1).2) H.size) (vx_cwSW (hh := [(0, 5, 6, 13), (0, 5, 11, 15)]) 2 hts gl_161 rfl rfl rfl (by decide +kernel) ⟨Nat.le_of_ble_eq_true rfl, Nat.le_of_ble_eq_true rfl⟩) (ps_lw hK hW (hE.at hS0 hAB) (AH hA0 hS0) hAB) rfl rfl hl.1 rfl (lv_room (Nat.le_of_ble_eq_true rfl)) dL_runs_16 ⟨(show (0 + (60 - 1 * (m9 + 1))) + 0 + 1 ≤ 62 by omega), (show (0 + (360 - 6 * (m9 + 1))) + 0 + 6 ≤ 372 by omega)⟩) hS0 (fun q _ h => h) (fun q h => h) (fun r u4 t9 H1 locs ht hvm hw hW hz1 hk1 hS0 => ?_)
      have hX : x_type (lp (ty T) i sv) (T.getD i 0) = 0 := x_type_0 (hTc i hlt1).1 (hTc i hlt1).2 (by rw [(ty_ok hsv hs0 i (by omega)).2]; omega)
      rw [hX] at hw hW
      have hw : r = nI ((lp (ty T) i sv).2.2.1 + 1) := hw
      have hW : LW D G X A h c0 c2 hS hn (lp (ty T) (i + 1) sv) lab fl H1 := LW_h ht hW
      obtain ⟨H, rfl⟩ : ∃ z, z = H1 := ⟨_, rfl⟩
      rw [hw]
      refine W.widen (k := (0 + (60 - 1 * (m9 + 1))) + 1) (n := (0 + (360 - 6 * (m9 + 1))) + 6) (by omega) (by omega) ?_
      rw [show (nI ((lp (ty T) i sv).2.2.1 + 1)) = nI (i + 1) from by rw [(ty_ok hsv hs0 i (by omega)).2]]
      refine lv_iload_n hx hb dL_runs_19 rfl (lv_at hl 0 rfl) ?_
      refine lv_iconst (v := 1) hx hb dL_runs_20 (by decide) ?_
      refine lv_iadd hx hb dL_runs_21 ?_
      refine lv_icmp_eq (tgt := 29) hx hb dL_runs_22 (by decide) (fun _ => ?_) (fun c_5 => absurd (nI_1 i).symm c_5)
      refine lv_iinc (v := nI (i + 1)) (lv' := [(2, .int (nI (i + 1))), (0, .ref h), (1, .ref q)]) hx hb dL_runs_29 hl (k := 0) rfl (by exact nI_1 i) (by decide) rfl (fun ls hl => ?_)
      refine lv_goto (tgt := 2) hx hb dL_runs_32 (by decide) ?_
      refine W.widen (k := (0 + (60 - 1 * m9))) (n := (0 + (360 - 6 * m9))) (by omega) (by omega) ?_
      exact ih1 (i + 1) (by omega) _ _ hW hS0 ls (lv_sub hl [0, 1, 2] rfl)
  refine W.widen (k := (0 + (60 - 1 * T.length))) (n := (0 + (360 - 6 * T.length))) (by omega) (by omega) ?_
  exact L2 T.length 0 (by omega) _ _ hW hS0 ls (lv_sub hl [0, 1, 2] rfl)
