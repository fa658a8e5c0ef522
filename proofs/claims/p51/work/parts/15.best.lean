def s_best (st : CS) : Nat → Nat → Int32 → Int32
  | 0, _, _ => 0
  | n + 1, k, room => if p_depot (itm st k) = true then (if itm st k 2 ≤ room then (if s_best st n (k + 1) room < itm st k 1 + s_best st n (k + 1) (room - itm st k 2) then itm st k 1 + s_best st n (k + 1) (room - itm st k 2) else s_best st n (k + 1) room) else s_best st n (k + 1) room) else s_best st n (k + 1) room
def s_bests (st : CS) (b : Int32) : Int32 := s_best st 12 0 (s_roomIn st b)
theorem gw_X1_207 : GoodIn tb (va_wsS RX1 207 yX1_bestFrom (wA yX1_bestFrom cX1_bestFrom 5 (some .int))) := gS kw_1017 kw_1018 kw_25 kw_1019
set_option maxRecDepth 100000 in
set_option maxHeartbeats 4000000 in
theorem c_X1_bestFrom (l : Launch) (D : va_G) (G : GA) (a : Nat → Nat) (st : CS) : ∀ (n k : Nat), k + n = 12 → ∀ room : Int32, Met l yX1_bestFrom (wA yX1_bestFrom cX1_bestFrom 5 (some .int)) ({ frames := n + 1, cells := 0, slots := 0, locals := 24 * n + 48 } : Room) (va_Pc [.ref (a 1), .int (nI k), .int room] (CWp D G a st)) (vp_Si (fun r => r = s_best st n k room)) 0 0 (fun _ => False) := by
  intro n
  induction n with
  | zero =>
    intro k hk room
    refine Met.ofW (cc := cX1_bestFrom) (maxL := 5) (ret := (some .int)) (by decide) rfl ?_
    intro p e s m args below meth c s₁ B hml hv
    obtain ⟨rfl, hP, hK⟩ := hv
    have hx := B.exec
    have hb := B.bytes
    have hr := B.returns
    have hts : ∀ w9 ∈ tb, w9.before ([.ref (a 1), .int (nI k), .int room] : List Value).toArray s = true := fun w9 h9 => atoms_spec (ws := (wA yX1_bestFrom cX1_bestFrom 5 (some .int))) B.pre w9 (List.mem_cons_of_mem _ h9)
    have hown : s.vm.findClass RX1 = some m.cls := findClass_of_methodNamed B.named
    have hlocks := B.notSynchronized
    have hl := lv_entry ([.ref (a 1), .int (nI k), .int room]) (n := 5) (Nat.le_of_ble_eq_true rfl)
    rw [lg_entry_eq]
    generalize (lg_sl ([.ref (a 1), .int (nI k), .int room]) ++ List.replicate (5 - (lg_sl ([.ref (a 1), .int (nI k), .int room])).length) Slot.unset).toArray = ls at hl ⊢
    have hl : lv_has ls 5 [(0, .ref (a 1)), (1, .int (nI k)), (2, .int room)] := hl
    refine lv_iload_n hx hb dX1_bestFrom_0 rfl (lv_at hl 1 rfl) ?_
    refine lv_if_lt (tgt := 10) hx hb dX1_bestFrom_1 (by decide) (fun c_1 => absurd c_1 (nI_pos (n := k) (by omega))) (fun _ => ?_)
    refine lv_iload_n hx hb dX1_bestFrom_4 rfl (lv_at hl 1 rfl) ?_
    refine lv_aload_n hx hb dX1_bestFrom_5 rfl (lv_at hl 0 rfl) ?_
    refine va_alen (v := nI 12) hx hb hK hP 1 0 rfl rfl rfl dX1_bestFrom_6 ?_
    refine lv_icmp_lt (tgt := 12) hx hb dX1_bestFrom_7 (by decide) (fun c_2 => absurd c_2 (fun h9 => absurd ((nI_ltI (a := k) (b := 12) (by omega) (by omega)).mp h9) (by omega))) (fun _ => ?_)
    refine lv_iconst (v := 0) hx hb dX1_bestFrom_10 (by decide) ?_
    exact W.iret (v := 0) hx hb hr (fun t ht hW => ⟨0, rfl, (by rfl), ht⟩) (fun q h => absurd h List.not_mem_nil) dX1_bestFrom_11
  | succ n ih =>
    intro k hk room
    refine Met.ofW (cc := cX1_bestFrom) (maxL := 5) (ret := (some .int)) (by decide) rfl ?_
    intro p e s m args below meth c s₁ B hml hv
    obtain ⟨rfl, hP, hK⟩ := hv
    have hx := B.exec
    have hb := B.bytes
    have hr := B.returns
    have hts : ∀ w9 ∈ tb, w9.before ([.ref (a 1), .int (nI k), .int room] : List Value).toArray s = true := fun w9 h9 => atoms_spec (ws := (wA yX1_bestFrom cX1_bestFrom 5 (some .int))) B.pre w9 (List.mem_cons_of_mem _ h9)
    have hown : s.vm.findClass RX1 = some m.cls := findClass_of_methodNamed B.named
    have hlocks := B.notSynchronized
    have hl := lv_entry ([.ref (a 1), .int (nI k), .int room]) (n := 5) (Nat.le_of_ble_eq_true rfl)
    rw [lg_entry_eq]
    generalize (lg_sl ([.ref (a 1), .int (nI k), .int room]) ++ List.replicate (5 - (lg_sl ([.ref (a 1), .int (nI k), .int room])).length) Slot.unset).toArray = ls at hl ⊢
    have hl : lv_has ls 5 [(0, .ref (a 1)), (1, .int (nI k)), (2, .int room)] := hl
    refine lv_iload_n hx hb dX1_bestFrom_0 rfl (lv_at hl 1 rfl) ?_
    refine lv_if_lt (tgt := 10) hx hb dX1_bestFrom_1 (by decide) (fun c_3 => absurd c_3 (nI_pos (n := k) (by omega))) (fun _ => ?_)
    refine lv_iload_n hx hb dX1_bestFrom_4 rfl (lv_at hl 1 rfl) ?_
    refine lv_aload_n hx hb dX1_bestFrom_5 rfl (lv_at hl 0 rfl) ?_
    refine va_alen (v := nI 12) hx hb hK hP 1 0 rfl rfl rfl dX1_bestFrom_6 ?_
    refine lv_icmp_lt (tgt := 12) hx hb dX1_bestFrom_7 (by decide) (fun _ => ?_) (fun c_4 => absurd (nI_lt (a := k) (b := 12) (by omega) (by omega)) c_4)
    refine lv_aload_n hx hb dX1_bestFrom_12 rfl (lv_at hl 0 rfl) ?_
    refine lv_iload_n hx hb dX1_bestFrom_13 rfl (lv_at hl 1 rfl) ?_
    refine va_aldq hx hb hK hP 1 0 rfl rfl (vp_in_nI (by omega) (by decide)) dX1_bestFrom_14 ?_
    rw [nI_clamp (n := k) (by omega)]
    refine lv_astore_n (x := (a (3 + k))) (lv' := [(3, .ref (a (3 + k))), (0, .ref (a 1)), (1, .int (nI k)), (2, .int room)]) hx hb dX1_bestFrom_15 rfl hl (by decide) rfl (fun ls hl => ?_)
    refine lv_aload_n hx hb dX1_bestFrom_16 rfl (lv_at hl 1 rfl) ?_
    refine lv_iload_n hx hb dX1_bestFrom_17 rfl (lv_at hl 2 rfl) ?_
    refine lv_iconst (v := 1) hx hb dX1_bestFrom_18 (by decide) ?_
    refine lv_iadd hx hb dX1_bestFrom_19 ?_
    rw [nI_1 k]
    refine lv_iload_n hx hb dX1_bestFrom_20 rfl (lv_at hl 3 rfl) ?_
    refine vp_callSi (va_runS (As := [.ref (a 1), .int (nI (k + 1)), .int room]) (rest := []) ⟨hx, hb, hml, hown, hts⟩ (ih (k + 1) (by omega) room) (va_cwS 3 hts gw_X1_207 rfl rfl rfl (by decide +kernel) ⟨Nat.le_refl (n + 1 + 1), show 8 + (5 + 11) + (24 * n + 48) ≤ 24 * (n + 1) + 48 by omega⟩) (ps_cw hK hP) rfl rfl hl.1 rfl (lv_room (Nat.le_of_ble_eq_true rfl)) dX1_bestFrom_21 ⟨Nat.le_of_ble_eq_true rfl, Nat.le_of_ble_eq_true rfl⟩).run (nm_e ?_)
    refine lv_istore (lv' := [(4, .int (s_best st n (k + 1) room)), (3, .ref (a (3 + k))), (0, .ref (a 1)), (1, .int (nI k)), (2, .int room)]) hx hb dX1_bestFrom_24 hl (by decide) rfl (fun ls hl => ?_)
    refine lv_aload_n hx hb dX1_bestFrom_26 rfl (lv_at hl 1 rfl) ?_
    refine vp_callSi (va_runV (As := []) (rest := []) ⟨hx, hb, hml, hown, hts⟩ (c_X4_isInDepot l D G (a (3 + k)) (itm st k)) (cwV 0 hts gw_X1_127 rfl rfl rfl (by decide +kernel) ⟨show 0 + 1 ≤ n + 1 + 1 by omega, show 8 + (1 + 11) + 0 ≤ 24 * (n + 1) + 48 by omega⟩) (pv_it hK hP (cw_it G a st (by omega))) rfl rfl hl.1 rfl (lv_room (Nat.le_of_ble_eq_true rfl)) dX1_bestFrom_27 ⟨Nat.le_of_ble_eq_true rfl, Nat.le_of_ble_eq_true rfl⟩).run (nm_e ?_)
    cases hb_5 : p_depot (itm st k)
    case true =>
      refine lv_if_eq (tgt := 41) hx hb dX1_bestFrom_30 (by decide) (fun c_6 => absurd c_6 (by decide)) (fun _ => ?_)
      refine lv_aload_n hx hb dX1_bestFrom_33 rfl (lv_at hl 1 rfl) ?_
      refine va_get (D := D) (ci := 6) (v := .int (itm st k 2)) (C := RX4) (T := TX4) (N := 8) hx hb hts i_X4 hown hK hP (3 + k) (cw_it G a st (by omega)) rfl 2 (by decide) (hts _ kw_85) (fun _ h9 => h9) rfl dX1_bestFrom_34 ?_
      refine lv_iload_n hx hb dX1_bestFrom_37 rfl (lv_at hl 4 rfl) ?_
      refine lv_icmp_le (tgt := 44) hx hb dX1_bestFrom_38 (by decide) (fun c_7 => ?_) (fun c_7 => ?_)
      · skip
        refine lv_iload hx hb dX1_bestFrom_44 (lv_at hl 0 rfl) ?_
        refine lv_aload_n hx hb dX1_bestFrom_46 rfl (lv_at hl 1 rfl) ?_
        refine va_get (D := D) (ci := 6) (v := .int (itm st k 1)) (C := RX4) (T := TX4) (N := 8) hx hb hts i_X4 hown hK hP (3 + k) (cw_it G a st (by omega)) rfl 1 (by decide) (hts _ kw_82) (fun _ h9 => h9) rfl dX1_bestFrom_47 ?_
        refine lv_aload_n hx hb dX1_bestFrom_50 rfl (lv_at hl 2 rfl) ?_
        refine lv_iload_n hx hb dX1_bestFrom_51 rfl (lv_at hl 3 rfl) ?_
        refine lv_iconst (v := 1) hx hb dX1_bestFrom_52 (by decide) ?_
        refine lv_iadd hx hb dX1_bestFrom_53 ?_
        rw [nI_1 k]
        refine lv_iload_n hx hb dX1_bestFrom_54 rfl (lv_at hl 4 rfl) ?_
        refine lv_aload_n hx hb dX1_bestFrom_55 rfl (lv_at hl 1 rfl) ?_
        refine va_get (D := D) (ci := 6) (v := .int (itm st k 2)) (C := RX4) (T := TX4) (N := 8) hx hb hts i_X4 hown hK hP (3 + k) (cw_it G a st (by omega)) rfl 2 (by decide) (hts _ kw_85) (fun _ h9 => h9) rfl dX1_bestFrom_56 ?_
        refine lv_isub hx hb dX1_bestFrom_59 ?_
        refine vp_callSi (va_runS (As := [.ref (a 1), .int (nI (k + 1)), .int (room - (itm st k 2))]) (rest := [.int (itm st k 1), .int (s_best st n (k + 1) room)]) ⟨hx, hb, hml, hown, hts⟩ (ih (k + 1) (by omega) (room - (itm st k 2))) (va_cwS 3 hts gw_X1_207 rfl rfl rfl (by decide +kernel) ⟨Nat.le_refl (n + 1 + 1), show 8 + (5 + 11) + (24 * n + 48) ≤ 24 * (n + 1) + 48 by omega⟩) (ps_cw hK hP) rfl rfl hl.1 rfl (lv_room (Nat.le_of_ble_eq_true rfl)) dX1_bestFrom_60 ⟨Nat.le_of_ble_eq_true rfl, Nat.le_of_ble_eq_true rfl⟩).run (nm_e ?_)
        refine lv_iadd hx hb dX1_bestFrom_63 ?_
        refine va_mmax hx hb (hml.trans hl.1.symm) hown (hts _ kw_561) (hts _ kw_562) (hts _ kw_46) (hts _ kw_563) (by show 1 ≤ n + 1 + 1; omega) (by show 0 + 13 ≤ 24 * (n + 1) + 48; omega) (Nat.le_of_ble_eq_true rfl) (Nat.le_of_ble_eq_true rfl) dX1_bestFrom_64 ?_
        exact W.iret (v := (if (s_best st n (k + 1) room) < (itm st k 1) + (s_best st n (k + 1) (room - (itm st k 2))) then (itm st k 1) + (s_best st n (k + 1) (room - (itm st k 2))) else (s_best st n (k + 1) room))) hx hb hr (fun t ht hW => ⟨(if (s_best st n (k + 1) room) < (itm st k 1) + (s_best st n (k + 1) (room - (itm st k 2))) then (itm st k 1) + (s_best st n (k + 1) (room - (itm st k 2))) else (s_best st n (k + 1) room)), rfl, (by simp only [s_best, if_pos hb_5, if_pos c_7] <;> rfl), ht⟩) (fun q h => absurd h List.not_mem_nil) dX1_bestFrom_67
      · skip
        refine lv_iload hx hb dX1_bestFrom_41 (lv_at hl 0 rfl) ?_
        exact W.iret (v := (s_best st n (k + 1) room)) hx hb hr (fun t ht hW => ⟨(s_best st n (k + 1) room), rfl, (by simp only [s_best, if_pos hb_5, if_neg c_7] <;> rfl), ht⟩) (fun q h => absurd h List.not_mem_nil) dX1_bestFrom_43
    case false =>
      refine lv_if_eq (tgt := 41) hx hb dX1_bestFrom_30 (by decide) (fun _ => ?_) (fun c_8 => absurd (by decide) c_8)
      refine lv_iload hx hb dX1_bestFrom_41 (lv_at hl 0 rfl) ?_
      exact W.iret (v := (s_best st n (k + 1) room)) hx hb hr (fun t ht hW => ⟨(s_best st n (k + 1) room), rfl, (by simp only [s_best, if_neg (bf hb_5)] <;> rfl), ht⟩) (fun q h => absurd h List.not_mem_nil) dX1_bestFrom_43
set_option maxRecDepth 100000 in
set_option maxHeartbeats 4000000 in
theorem c_X1_bestBySets (l : Launch) (D : va_G) (G : GA) (a : Nat → Nat) (st : CS) (b : Int32) : Met l yX1_bestBySets (wA yX1_bestBySets cX1_bestBySets 2 (some .int)) ({ frames := 14, cells := 0, slots := 0, locals := 360 } : Room) (va_Pc [.ref (a 0), .int b] (CWp D G a st)) (vp_Si (fun r => r = s_bests st b)) 0 0 (fun _ => False) := by
  refine Met.ofW (cc := cX1_bestBySets) (maxL := 2) (ret := (some .int)) (by decide) rfl ?_
  intro p e s m args below meth c s₁ B hml hv
  obtain ⟨rfl, hP, hK⟩ := hv
  have hx := B.exec
  have hb := B.bytes
  have hr := B.returns
  have hts : ∀ w9 ∈ tb, w9.before ([.ref (a 0), .int b] : List Value).toArray s = true := fun w9 h9 => atoms_spec (ws := (wA yX1_bestBySets cX1_bestBySets 2 (some .int))) B.pre w9 (List.mem_cons_of_mem _ h9)
  have hown : s.vm.findClass RX1 = some m.cls := findClass_of_methodNamed B.named
  have hlocks := B.notSynchronized
  have hl := lv_entry ([.ref (a 0), .int b]) (n := 2) (Nat.le_of_ble_eq_true rfl)
  rw [lg_entry_eq]
  generalize (lg_sl ([.ref (a 0), .int b]) ++ List.replicate (2 - (lg_sl ([.ref (a 0), .int b])).length) Slot.unset).toArray = ls at hl ⊢
  have hl : lv_has ls 2 [(0, .ref (a 0)), (1, .int b)] := hl
  refine lv_aload_n hx hb dX1_bestBySets_0 rfl (lv_at hl 0 rfl) ?_
  refine va_get (D := D) (ci := 4) (v := .ref (a 1)) (C := RX1) (T := TX1) (N := 7) hx hb hts i_X1 hown hK hP 0 rfl rfl 0 (by decide) (hts _ kw_118) (fun _ h9 => h9) rfl dX1_bestBySets_1 ?_
  refine lv_iconst (v := 0) hx hb dX1_bestBySets_4 (by decide) ?_
  refine lv_aload_n hx hb dX1_bestBySets_5 rfl (lv_at hl 0 rfl) ?_
  refine lv_iload_n hx hb dX1_bestBySets_6 rfl (lv_at hl 1 rfl) ?_
  refine vp_callSi (va_runV (As := [.int b]) (rest := [.int 0, .ref (a 1)]) ⟨hx, hb, hml, hown, hts⟩ (c_X1_roomIn l D G a st b) (cwV 1 hts gw_X1_146 rfl rfl rfl (by decide +kernel) ⟨Nat.le_of_ble_eq_true rfl, Nat.le_of_ble_eq_true rfl⟩) (pv_cw hK hP) rfl rfl hl.1 rfl (lv_room (Nat.le_of_ble_eq_true rfl)) dX1_bestBySets_7 ⟨Nat.le_of_ble_eq_true rfl, Nat.le_of_ble_eq_true rfl⟩).run (nm_e ?_)
  refine vp_callSi (va_runS (As := [.ref (a 1), .int (nI 0), .int (s_roomIn st b)]) (rest := []) ⟨hx, hb, hml, hown, hts⟩ (c_X1_bestFrom l D G a st 12 0 rfl (s_roomIn st b)) (va_cwS 3 hts gw_X1_207 rfl rfl rfl (by decide +kernel) ⟨Nat.le_of_ble_eq_true rfl, Nat.le_of_ble_eq_true rfl⟩) (ps_cw hK hP) rfl rfl hl.1 rfl (lv_room (Nat.le_of_ble_eq_true rfl)) dX1_bestBySets_10 ⟨Nat.le_of_ble_eq_true rfl, Nat.le_of_ble_eq_true rfl⟩).run (nm_e ?_)
  exact W.iret (v := (s_best st 12 0 (s_roomIn st b))) hx hb hr (fun t ht hW => ⟨(s_best st 12 0 (s_roomIn st b)), rfl, (by rfl), ht⟩) (fun q h => absurd h List.not_mem_nil) dX1_bestBySets_13
