theorem gw_X1_26 : GoodIn tb (wsV RX1 26 RX4 yX4_copyFrom (wA yX4_copyFrom cX4_copyFrom 2 none)) := gV kw_318 kw_319 kw_320 kw_26 kw_321
set_option maxRecDepth 100000 in
set_option maxHeartbeats 4000000 in
theorem c_X4_copyFrom (l : Launch) (D : va_G) (G : GA) (h : Nat) (f : Nat → Int32) (h' : Nat) (f' : Nat → Int32) (sz : Nat) : Met l yX4_copyFrom (wA yX4_copyFrom cX4_copyFrom 2 none) ({ frames := 0, cells := 0, slots := 0, locals := 0 } : Room) (va_Pc [.ref h, .ref h'] (I2p D G h f h' f' sz)) (va_Qv (fun _ : Unit => True) (fun _ t9 => va_P D vwCl [itC h f'] t9.heap) (va_A [itC h f] sz)) 0 0 (va_A [itC h f] sz) := by
  refine Met.ofW (cc := cX4_copyFrom) (maxL := 2) (ret := none) (by decide) rfl ?_
  intro p e s m args below meth c s₁ B hml hv
  obtain ⟨rfl, hsz, hPP, hK, hne⟩ := hv
  have hx := B.exec
  have hb := B.bytes
  have hr := B.returns
  have hts : ∀ w9 ∈ tb, w9.before ([.ref h, .ref h'] : List Value).toArray s = true := fun w9 h9 => atoms_spec (ws := (wA yX4_copyFrom cX4_copyFrom 2 none)) B.pre w9 (List.mem_cons_of_mem _ h9)
  have hown : s.vm.findClass RX4 = some m.cls := findClass_of_methodNamed B.named
  have hlocks := B.notSynchronized
  subst hsz
  have hP : va_P D vwCl [itC h f] s.heap := P_one hPP (k := 0) rfl
  have hO : va_P D vwCl [itC h' f'] s.heap := P_one hPP (k := 1) rfl
  have hD : va_D (va_A [itC h f] s.heap.size) [itC h f] := D_of (by simp) (fun q hq => A_of hq)
  have hno : ∀ q ∈ [itC h' f'], ¬ va_A [itC h f] s.heap.size q.1 := fun q hq hA => by
    rw [List.mem_singleton.mp hq] at hA
    rcases A_one hA with h9 | h9
    · exact hne h9.symm
    · have := (hO 0 _ rfl).lt
      exact absurd this (Nat.not_lt.mpr h9)
  generalize hAe : va_A [itC h f] s.heap.size = A at hD hno ⊢
  have hS : va_S A s.heap s.heap [] := va_S.rf
  have hl := lv_entry ([.ref h, .ref h']) (n := 2) (Nat.le_of_ble_eq_true rfl)
  rw [lg_entry_eq]
  generalize (lg_sl ([.ref h, .ref h']) ++ List.replicate (2 - (lg_sl ([.ref h, .ref h'])).length) Slot.unset).toArray = ls at hl ⊢
  have hl : lv_has ls 2 [(0, .ref h), (1, .ref h')] := hl
  refine lv_aload_n hx hb dX4_copyFrom_0 rfl (lv_at hl 0 rfl) ?_
  refine lv_aload_n hx hb dX4_copyFrom_1 rfl (lv_at hl 1 rfl) ?_
  refine va_get (D := D) (ci := 6) (v := .int (f' 0)) (C := RX4) (T := TX4) (N := 8) hx hb hts i_X4 hown hK (P_S hO hno hS) 0 rfl rfl 0 (by decide) (hts _ kw_78) (fun _ h9 => h9) rfl dX4_copyFrom_2 ?_
  refine va_put (D := D) (ci := 6) (v := .int (f' 0)) (ty := .int) (C := RX4) (T := TX4) (N := 8) hx hb hts i_X4 tyX4 tyX4_ok nmX4 hown hK hP hD hS 0 rfl rfl 0 (by decide) (hts _ kw_78) (fun _ h9 => h9) rfl (by decide +kernel) rfl rfl (Nat.le_of_ble_eq_true rfl) dX4_copyFrom_5 (fun H locs hP hD hS => ?_)
  have hP : va_P D vwCl [itC h (upd f 0 (f' 0))] H := hP
  have hD : va_D A [itC h (upd f 0 (f' 0))] := hD
  refine lv_aload_n hx hb dX4_copyFrom_8 rfl (lv_at hl 0 rfl) ?_
  refine lv_aload_n hx hb dX4_copyFrom_9 rfl (lv_at hl 1 rfl) ?_
  refine va_get (D := D) (ci := 6) (v := .int (f' 1)) (C := RX4) (T := TX4) (N := 8) hx hb hts i_X4 hown hK (P_S hO hno hS) 0 rfl rfl 1 (by decide) (hts _ kw_81) (fun _ h9 => h9) rfl dX4_copyFrom_10 ?_
  refine va_put (D := D) (ci := 6) (v := .int (f' 1)) (ty := .int) (C := RX4) (T := TX4) (N := 8) hx hb hts i_X4 tyX4 tyX4_ok nmX4 hown hK hP hD hS 0 rfl rfl 1 (by decide) (hts _ kw_81) (fun _ h9 => h9) rfl (by decide +kernel) rfl rfl (Nat.le_of_ble_eq_true rfl) dX4_copyFrom_13 (fun H locs hP hD hS => ?_)
  have hP : va_P D vwCl [itC h (upd (upd f 0 (f' 0)) 1 (f' 1))] H := hP
  have hD : va_D A [itC h (upd (upd f 0 (f' 0)) 1 (f' 1))] := hD
  refine lv_aload_n hx hb dX4_copyFrom_16 rfl (lv_at hl 0 rfl) ?_
  refine lv_aload_n hx hb dX4_copyFrom_17 rfl (lv_at hl 1 rfl) ?_
  refine va_get (D := D) (ci := 6) (v := .int (f' 2)) (C := RX4) (T := TX4) (N := 8) hx hb hts i_X4 hown hK (P_S hO hno hS) 0 rfl rfl 2 (by decide) (hts _ kw_84) (fun _ h9 => h9) rfl dX4_copyFrom_18 ?_
  refine va_put (D := D) (ci := 6) (v := .int (f' 2)) (ty := .int) (C := RX4) (T := TX4) (N := 8) hx hb hts i_X4 tyX4 tyX4_ok nmX4 hown hK hP hD hS 0 rfl rfl 2 (by decide) (hts _ kw_84) (fun _ h9 => h9) rfl (by decide +kernel) rfl rfl (Nat.le_of_ble_eq_true rfl) dX4_copyFrom_21 (fun H locs hP hD hS => ?_)
  have hP : va_P D vwCl [itC h (upd (upd (upd f 0 (f' 0)) 1 (f' 1)) 2 (f' 2))] H := hP
  have hD : va_D A [itC h (upd (upd (upd f 0 (f' 0)) 1 (f' 1)) 2 (f' 2))] := hD
  refine lv_aload_n hx hb dX4_copyFrom_24 rfl (lv_at hl 0 rfl) ?_
  refine lv_aload_n hx hb dX4_copyFrom_25 rfl (lv_at hl 1 rfl) ?_
  refine va_get (D := D) (ci := 6) (v := .int (f' 3)) (C := RX4) (T := TX4) (N := 8) hx hb hts i_X4 hown hK (P_S hO hno hS) 0 rfl rfl 3 (by decide) (hts _ kw_87) (fun _ h9 => h9) rfl dX4_copyFrom_26 ?_
  refine va_put (D := D) (ci := 6) (v := .int (f' 3)) (ty := .int) (C := RX4) (T := TX4) (N := 8) hx hb hts i_X4 tyX4 tyX4_ok nmX4 hown hK hP hD hS 0 rfl rfl 3 (by decide) (hts _ kw_87) (fun _ h9 => h9) rfl (by decide +kernel) rfl rfl (Nat.le_of_ble_eq_true rfl) dX4_copyFrom_29 (fun H locs hP hD hS => ?_)
  have hP : va_P D vwCl [itC h (upd (upd (upd (upd f 0 (f' 0)) 1 (f' 1)) 2 (f' 2)) 3 (f' 3))] H := hP
  have hD : va_D A [itC h (upd (upd (upd (upd f 0 (f' 0)) 1 (f' 1)) 2 (f' 2)) 3 (f' 3))] := hD
  refine lv_aload_n hx hb dX4_copyFrom_32 rfl (lv_at hl 0 rfl) ?_
  refine lv_aload_n hx hb dX4_copyFrom_33 rfl (lv_at hl 1 rfl) ?_
  refine va_get (D := D) (ci := 6) (v := .int (z01 (f' 4))) (C := RX4) (T := TX4) (N := 8) hx hb hts i_X4 hown hK (P_S hO hno hS) 0 rfl rfl 4 (by decide) (hts _ kw_90) (fun _ h9 => h9) rfl dX4_copyFrom_34 ?_
  refine va_put (D := D) (ci := 6) (v := .int (z01 (f' 4))) (ty := .boolean) (C := RX4) (T := TX4) (N := 8) hx hb hts i_X4 tyX4 tyX4_ok nmX4 hown hK hP hD hS 0 rfl rfl 4 (by decide) (hts _ kw_90) (fun _ h9 => h9) rfl (by decide +kernel) (z01_nar _) (z01_fit _) (Nat.le_of_ble_eq_true rfl) dX4_copyFrom_37 (fun H locs hP hD hS => ?_)
  have hP : va_P D vwCl [itC h (upd (upd (upd (upd (upd f 0 (f' 0)) 1 (f' 1)) 2 (f' 2)) 3 (f' 3)) 4 (f' 4))] H := hP
  have hD : va_D A [itC h (upd (upd (upd (upd (upd f 0 (f' 0)) 1 (f' 1)) 2 (f' 2)) 3 (f' 3)) 4 (f' 4))] := hD
  refine lv_aload_n hx hb dX4_copyFrom_40 rfl (lv_at hl 0 rfl) ?_
  refine lv_aload_n hx hb dX4_copyFrom_41 rfl (lv_at hl 1 rfl) ?_
  refine va_get (D := D) (ci := 6) (v := .int (f' 5)) (C := RX4) (T := TX4) (N := 8) hx hb hts i_X4 hown hK (P_S hO hno hS) 0 rfl rfl 5 (by decide) (hts _ kw_93) (fun _ h9 => h9) rfl dX4_copyFrom_42 ?_
  refine va_put (D := D) (ci := 6) (v := .int (f' 5)) (ty := .int) (C := RX4) (T := TX4) (N := 8) hx hb hts i_X4 tyX4 tyX4_ok nmX4 hown hK hP hD hS 0 rfl rfl 5 (by decide) (hts _ kw_93) (fun _ h9 => h9) rfl (by decide +kernel) rfl rfl (Nat.le_of_ble_eq_true rfl) dX4_copyFrom_45 (fun H locs hP hD hS => ?_)
  have hP : va_P D vwCl [itC h (upd (upd (upd (upd (upd (upd f 0 (f' 0)) 1 (f' 1)) 2 (f' 2)) 3 (f' 3)) 4 (f' 4)) 5 (f' 5))] H := hP
  have hD : va_D A [itC h (upd (upd (upd (upd (upd (upd f 0 (f' 0)) 1 (f' 1)) 2 (f' 2)) 3 (f' 3)) 4 (f' 4)) 5 (f' 5))] := hD
  refine lv_aload_n hx hb dX4_copyFrom_48 rfl (lv_at hl 0 rfl) ?_
  refine lv_aload_n hx hb dX4_copyFrom_49 rfl (lv_at hl 1 rfl) ?_
  refine va_get (D := D) (ci := 6) (v := .int (f' 6)) (C := RX4) (T := TX4) (N := 8) hx hb hts i_X4 hown hK (P_S hO hno hS) 0 rfl rfl 6 (by decide) (hts _ kw_96) (fun _ h9 => h9) rfl dX4_copyFrom_50 ?_
  refine va_put (D := D) (ci := 6) (v := .int (f' 6)) (ty := .int) (C := RX4) (T := TX4) (N := 8) hx hb hts i_X4 tyX4 tyX4_ok nmX4 hown hK hP hD hS 0 rfl rfl 6 (by decide) (hts _ kw_96) (fun _ h9 => h9) rfl (by decide +kernel) rfl rfl (Nat.le_of_ble_eq_true rfl) dX4_copyFrom_53 (fun H locs hP hD hS => ?_)
  have hP : va_P D vwCl [itC h (upd (upd (upd (upd (upd (upd (upd f 0 (f' 0)) 1 (f' 1)) 2 (f' 2)) 3 (f' 3)) 4 (f' 4)) 5 (f' 5)) 6 (f' 6))] H := hP
  have hD : va_D A [itC h (upd (upd (upd (upd (upd (upd (upd f 0 (f' 0)) 1 (f' 1)) 2 (f' 2)) 3 (f' 3)) 4 (f' 4)) 5 (f' 5)) 6 (f' 6))] := hD
  refine lv_aload_n hx hb dX4_copyFrom_56 rfl (lv_at hl 0 rfl) ?_
  refine lv_aload_n hx hb dX4_copyFrom_57 rfl (lv_at hl 1 rfl) ?_
  refine va_get (D := D) (ci := 6) (v := .int (f' 7)) (C := RX4) (T := TX4) (N := 8) hx hb hts i_X4 hown hK (P_S hO hno hS) 0 rfl rfl 7 (by decide) (hts _ kw_99) (fun _ h9 => h9) rfl dX4_copyFrom_58 ?_
  refine va_put (D := D) (ci := 6) (v := .int (f' 7)) (ty := .int) (C := RX4) (T := TX4) (N := 8) hx hb hts i_X4 tyX4 tyX4_ok nmX4 hown hK hP hD hS 0 rfl rfl 7 (by decide) (hts _ kw_99) (fun _ h9 => h9) rfl (by decide +kernel) rfl rfl (Nat.le_of_ble_eq_true rfl) dX4_copyFrom_61 (fun H locs hP hD hS => ?_)
  have hP : va_P D vwCl [itC h (upd (upd (upd (upd (upd (upd (upd (upd f 0 (f' 0)) 1 (f' 1)) 2 (f' 2)) 3 (f' 3)) 4 (f' 4)) 5 (f' 5)) 6 (f' 6)) 7 (f' 7))] H := hP
  have hD : va_D A [itC h (upd (upd (upd (upd (upd (upd (upd (upd f 0 (f' 0)) 1 (f' 1)) 2 (f' 2)) 3 (f' 3)) 4 (f' 4)) 5 (f' 5)) 6 (f' 6)) 7 (f' 7))] := hD
  have hP : va_P D vwCl [itC h f'] H := hP
  exact W.vret hx hb hr (fun t ht hW => ⟨⟨(), rfl, trivial, by show va_P D vwCl _ t.heap; rw [ht]; exact hP⟩, hS.F ht⟩) hS.2.2 dX4_copyFrom_64
set_option maxRecDepth 100000 in
set_option maxHeartbeats 4000000 in
theorem c_X1_copyFrom (l : Launch) (D : va_G) (G : GA) (a : Nat → Nat) (st : CS) (a' : Nat → Nat) (st' : CS) (sz : Nat) : Met l yX1_copyFrom (wA yX1_copyFrom cX1_copyFrom 3 none) ({ frames := 1, cells := 0, slots := 0, locals := 21 } : Room) (va_Pc [.ref (a 0), .ref (a' 0)] (CCp D G a st a' st' sz)) (va_Qv (fun _ : Unit => True) (fun _ t9 => va_P D vwCl (cw G a st') t9.heap) (va_A (cw G a st) sz)) 0 0 (va_A (cw G a st) sz) := by
  refine Met.ofW (cc := cX1_copyFrom) (maxL := 3) (ret := none) (by decide) rfl ?_
  intro p e s m args below meth c s₁ B hml hv
  obtain ⟨rfl, hsz, hP, hO, hK, hDD⟩ := hv
  have hx := B.exec
  have hb := B.bytes
  have hr := B.returns
  have hts : ∀ w9 ∈ tb, w9.before ([.ref (a 0), .ref (a' 0)] : List Value).toArray s = true := fun w9 h9 => atoms_spec (ws := (wA yX1_copyFrom cX1_copyFrom 3 none)) B.pre w9 (List.mem_cons_of_mem _ h9)
  have hown : s.vm.findClass RX1 = some m.cls := findClass_of_methodNamed B.named
  have hlocks := B.notSynchronized
  subst hsz
  obtain ⟨hD1, hD2, hdj⟩ := D_apart hDD
  have hD := hD1.self (sz := s.heap.size)
  have hno : ∀ q ∈ cw G a' st', ¬ va_A (cw G a st) s.heap.size q.1 := fun q hq hA => by
    rcases A_mem hA with ⟨p9, hp9, e9⟩ | h9
    · exact hdj p9 hp9 q hq e9
    · exact absurd ((P_mem hO hq).lt) (Nat.not_lt.mpr h9)
  generalize hAe : va_A (cw G a st) s.heap.size = A at hD hno ⊢
  have hA : ∀ q : Nat, s.heap.size ≤ q → A q := fun q h => by rw [← hAe]; exact Or.inr h
  have hS : va_S A s.heap s.heap [] := va_S.rf
  have hl := lv_entry ([.ref (a 0), .ref (a' 0)]) (n := 3) (Nat.le_of_ble_eq_true rfl)
  rw [lg_entry_eq]
  generalize (lg_sl ([.ref (a 0), .ref (a' 0)]) ++ List.replicate (3 - (lg_sl ([.ref (a 0), .ref (a' 0)])).length) Slot.unset).toArray = ls at hl ⊢
  have hl : lv_has ls 3 [(0, .ref (a 0)), (1, .ref (a' 0))] := hl
  refine lv_iconst (v := 0) hx hb dX1_copyFrom_0 (by decide) ?_
  refine lv_istore_n (lv' := [(2, .int 0), (0, .ref (a 0)), (1, .ref (a' 0))]) hx hb dX1_copyFrom_1 rfl hl (by decide) rfl (fun ls hl => ?_)
  have L2 : ∀ (n k : Nat), k + n = 12 → ∀ (H : Heap) (locs : List Loc), va_P D vwCl (cw G a (lp (q_cpI st') k st)) H → va_D A (cw G a (lp (q_cpI st') k st)) → va_S A s.heap H locs → ∀ ls : Array Slot, lv_has ls 3 [(2, .int (nI k)), (0, .ref (a 0)), (1, .ref (a' 0))] → W p l e (headSpec (wA yX1_copyFrom cX1_copyFrom 3 none) ({ frames := 1, cells := 0, slots := 0, locals := 21 } : Room)).room s m ([.ref (a 0), .ref (a' 0)] : List Value).toArray below meth c H locs 0 0 (MQ below (va_Qv (fun _ : Unit => True) (fun _ t9 => va_P D vwCl (cw G a st') t9.heap) A) ([.ref (a 0), .ref (a' 0)] : List Value).toArray s 0 0 A) (F0 m 2 ls []) := by
    intro n
    induction n with
    | zero =>
      intro k hk0 H locs hP hD hS ls hl
      obtain rfl : k = 12 := by omega
      refine lv_iload_n hx hb dX1_copyFrom_2 rfl (lv_at hl 0 rfl) ?_
      refine lv_bipush (v := 12) hx hb dX1_copyFrom_3 (by decide) ?_
      refine lv_icmp_ge (tgt := 29) hx hb dX1_copyFrom_5 (by decide) (fun _ => ?_) (fun c_1 => absurd (nI_le (a := 12) (b := 12) (by omega) (by omega)) c_1)
      refine lv_iconst (v := 0) hx hb dX1_copyFrom_29 (by decide) ?_
      refine lv_istore_n (lv' := [(2, .int 0), (0, .ref (a 0)), (1, .ref (a' 0))]) hx hb dX1_copyFrom_30 rfl hl (by decide) rfl (fun ls hl => ?_)
      have L31 : ∀ (n k : Nat), k + n = 3 → ∀ (H : Heap) (locs : List Loc), va_P D vwCl (cw G a (lp (q_cpL st') k (lp (q_cpI st') 12 st))) H → va_D A (cw G a (lp (q_cpL st') k (lp (q_cpI st') 12 st))) → va_S A s.heap H locs → ∀ ls : Array Slot, lv_has ls 3 [(2, .int (nI k)), (0, .ref (a 0)), (1, .ref (a' 0))] → W p l e (headSpec (wA yX1_copyFrom cX1_copyFrom 3 none) ({ frames := 1, cells := 0, slots := 0, locals := 21 } : Room)).room s m ([.ref (a 0), .ref (a' 0)] : List Value).toArray below meth c H locs 0 0 (MQ below (va_Qv (fun _ : Unit => True) (fun _ t9 => va_P D vwCl (cw G a st') t9.heap) A) ([.ref (a 0), .ref (a' 0)] : List Value).toArray s 0 0 A) (F0 m 31 ls []) := by
        intro n
        induction n with
        | zero =>
          intro k hk0 H locs hP hD hS ls hl
          obtain rfl : k = 3 := by omega
          refine lv_iload_n hx hb dX1_copyFrom_31 rfl (lv_at hl 0 rfl) ?_
          refine lv_iconst (v := 3) hx hb dX1_copyFrom_32 (by decide) ?_
          refine lv_icmp_ge (tgt := 54) hx hb dX1_copyFrom_33 (by decide) (fun _ => ?_) (fun c_2 => absurd (nI_le (a := 3) (b := 3) (by omega) (by omega)) c_2)
          refine lv_aload_n hx hb dX1_copyFrom_54 rfl (lv_at hl 1 rfl) ?_
          refine lv_aload_n hx hb dX1_copyFrom_55 rfl (lv_at hl 2 rfl) ?_
          refine va_get (D := D) (ci := 4) (v := .int (st'.2.2 0)) (C := RX1) (T := TX1) (N := 7) hx hb hts i_X1 hown hK (P_S hO hno hS) 0 rfl rfl 3 (by decide) (hts _ kw_121) (fun _ h9 => h9) rfl dX1_copyFrom_56 ?_
          refine va_put (D := D) (ci := 4) (v := .int (st'.2.2 0)) (ty := .int) (C := RX1) (T := TX1) (N := 7) hx hb hts i_X1 tyX1 tyX1_ok nmX1 hown hK hP hD hS 0 rfl rfl 3 (by decide) (hts _ kw_121) (fun _ h9 => h9) rfl (by decide +kernel) rfl rfl (Nat.le_of_ble_eq_true rfl) dX1_copyFrom_59 (fun H locs hP hD hS => ?_)
          have hP : va_P D vwCl (cw G a (sN (lp (q_cpL st') 3 (lp (q_cpI st') 12 st)) 0 (st'.2.2 0))) H := by rw [← cw_n0 G a (lp (q_cpL st') 3 (lp (q_cpI st') 12 st)) (st'.2.2 0)]; exact hP
          have hD : va_D A (cw G a (sN (lp (q_cpL st') 3 (lp (q_cpI st') 12 st)) 0 (st'.2.2 0))) := by rw [← cw_n0 G a (lp (q_cpL st') 3 (lp (q_cpI st') 12 st)) (st'.2.2 0)]; exact hD
          refine lv_aload_n hx hb dX1_copyFrom_62 rfl (lv_at hl 1 rfl) ?_
          refine lv_aload_n hx hb dX1_copyFrom_63 rfl (lv_at hl 2 rfl) ?_
          refine va_get (D := D) (ci := 4) (v := .int (st'.2.2 1)) (C := RX1) (T := TX1) (N := 7) hx hb hts i_X1 hown hK (P_S hO hno hS) 0 rfl rfl 4 (by decide) (hts _ kw_122) (fun _ h9 => h9) rfl dX1_copyFrom_64 ?_
          refine va_put (D := D) (ci := 4) (v := .int (st'.2.2 1)) (ty := .int) (C := RX1) (T := TX1) (N := 7) hx hb hts i_X1 tyX1 tyX1_ok nmX1 hown hK hP hD hS 0 rfl rfl 4 (by decide) (hts _ kw_122) (fun _ h9 => h9) rfl (by decide +kernel) rfl rfl (Nat.le_of_ble_eq_true rfl) dX1_copyFrom_67 (fun H locs hP hD hS => ?_)
          have hP : va_P D vwCl (cw G a (sN (sN (lp (q_cpL st') 3 (lp (q_cpI st') 12 st)) 0 (st'.2.2 0)) 1 (st'.2.2 1))) H := by rw [← cw_n1 G a (sN (lp (q_cpL st') 3 (lp (q_cpI st') 12 st)) 0 (st'.2.2 0)) (st'.2.2 1)]; exact hP
          have hD : va_D A (cw G a (sN (sN (lp (q_cpL st') 3 (lp (q_cpI st') 12 st)) 0 (st'.2.2 0)) 1 (st'.2.2 1))) := by rw [← cw_n1 G a (sN (lp (q_cpL st') 3 (lp (q_cpI st') 12 st)) 0 (st'.2.2 0)) (st'.2.2 1)]; exact hD
          refine lv_aload_n hx hb dX1_copyFrom_70 rfl (lv_at hl 1 rfl) ?_
          refine lv_aload_n hx hb dX1_copyFrom_71 rfl (lv_at hl 2 rfl) ?_
          refine va_get (D := D) (ci := 4) (v := .int (st'.2.2 2)) (C := RX1) (T := TX1) (N := 7) hx hb hts i_X1 hown hK (P_S hO hno hS) 0 rfl rfl 5 (by decide) (hts _ kw_124) (fun _ h9 => h9) rfl dX1_copyFrom_72 ?_
          refine va_put (D := D) (ci := 4) (v := .int (st'.2.2 2)) (ty := .int) (C := RX1) (T := TX1) (N := 7) hx hb hts i_X1 tyX1 tyX1_ok nmX1 hown hK hP hD hS 0 rfl rfl 5 (by decide) (hts _ kw_124) (fun _ h9 => h9) rfl (by decide +kernel) rfl rfl (Nat.le_of_ble_eq_true rfl) dX1_copyFrom_75 (fun H locs hP hD hS => ?_)
          have hP : va_P D vwCl (cw G a (sN (sN (sN (lp (q_cpL st') 3 (lp (q_cpI st') 12 st)) 0 (st'.2.2 0)) 1 (st'.2.2 1)) 2 (st'.2.2 2))) H := by rw [← cw_n2 G a (sN (sN (lp (q_cpL st') 3 (lp (q_cpI st') 12 st)) 0 (st'.2.2 0)) 1 (st'.2.2 1)) (st'.2.2 2)]; exact hP
          have hD : va_D A (cw G a (sN (sN (sN (lp (q_cpL st') 3 (lp (q_cpI st') 12 st)) 0 (st'.2.2 0)) 1 (st'.2.2 1)) 2 (st'.2.2 2))) := by rw [← cw_n2 G a (sN (sN (lp (q_cpL st') 3 (lp (q_cpI st') 12 st)) 0 (st'.2.2 0)) 1 (st'.2.2 1)) (st'.2.2 2)]; exact hD
          refine lv_aload_n hx hb dX1_copyFrom_78 rfl (lv_at hl 1 rfl) ?_
          refine lv_aload_n hx hb dX1_copyFrom_79 rfl (lv_at hl 2 rfl) ?_
          refine va_get (D := D) (ci := 4) (v := .int (st'.2.2 3)) (C := RX1) (T := TX1) (N := 7) hx hb hts i_X1 hown hK (P_S hO hno hS) 0 rfl rfl 6 (by decide) (hts _ kw_126) (fun _ h9 => h9) rfl dX1_copyFrom_80 ?_
          refine va_put (D := D) (ci := 4) (v := .int (st'.2.2 3)) (ty := .int) (C := RX1) (T := TX1) (N := 7) hx hb hts i_X1 tyX1 tyX1_ok nmX1 hown hK hP hD hS 0 rfl rfl 6 (by decide) (hts _ kw_126) (fun _ h9 => h9) rfl (by decide +kernel) rfl rfl (Nat.le_of_ble_eq_true rfl) dX1_copyFrom_83 (fun H locs hP hD hS => ?_)
          have hP : va_P D vwCl (cw G a (sN (sN (sN (sN (lp (q_cpL st') 3 (lp (q_cpI st') 12 st)) 0 (st'.2.2 0)) 1 (st'.2.2 1)) 2 (st'.2.2 2)) 3 (st'.2.2 3))) H := by rw [← cw_n3 G a (sN (sN (sN (lp (q_cpL st') 3 (lp (q_cpI st') 12 st)) 0 (st'.2.2 0)) 1 (st'.2.2 1)) 2 (st'.2.2 2)) (st'.2.2 3)]; exact hP
          have hD : va_D A (cw G a (sN (sN (sN (sN (lp (q_cpL st') 3 (lp (q_cpI st') 12 st)) 0 (st'.2.2 0)) 1 (st'.2.2 1)) 2 (st'.2.2 2)) 3 (st'.2.2 3))) := by rw [← cw_n3 G a (sN (sN (sN (lp (q_cpL st') 3 (lp (q_cpI st') 12 st)) 0 (st'.2.2 0)) 1 (st'.2.2 1)) 2 (st'.2.2 2)) (st'.2.2 3)]; exact hD
          have hP := cpDone hP
          exact W.vret hx hb hr (fun t ht hW => ⟨⟨(), rfl, trivial, by show va_P D vwCl _ t.heap; rw [ht]; exact hP⟩, hS.F ht⟩) hS.2.2 dX1_copyFrom_86
        | succ n ih =>
          intro k hk0 H locs hP hD hS ls hl
          have hk12 : k < 3 := by omega
          refine lv_iload_n hx hb dX1_copyFrom_31 rfl (lv_at hl 0 rfl) ?_
          refine lv_iconst (v := 3) hx hb dX1_copyFrom_32 (by decide) ?_
          refine lv_icmp_ge (tgt := 54) hx hb dX1_copyFrom_33 (by decide) (fun c_3 => absurd c_3 (nI_ge (a := k) (b := 3) (by omega) (by omega))) (fun _ => ?_)
          refine lv_aload_n hx hb dX1_copyFrom_36 rfl (lv_at hl 1 rfl) ?_
          refine va_get (D := D) (ci := 4) (v := .ref (a 2)) (C := RX1) (T := TX1) (N := 7) hx hb hts i_X1 hown hK hP 0 rfl rfl 2 (by decide) (hts _ kw_120) (fun _ h9 => h9) rfl dX1_copyFrom_37 ?_
          refine lv_iload_n hx hb dX1_copyFrom_40 rfl (lv_at hl 0 rfl) ?_
          refine lv_aload_n hx hb dX1_copyFrom_41 rfl (lv_at hl 2 rfl) ?_
          refine va_get (D := D) (ci := 4) (v := .ref (a' 2)) (C := RX1) (T := TX1) (N := 7) hx hb hts i_X1 hown hK (P_S hO hno hS) 0 rfl rfl 2 (by decide) (hts _ kw_120) (fun _ h9 => h9) rfl dX1_copyFrom_42 ?_
          refine lv_iload_n hx hb dX1_copyFrom_45 rfl (lv_at hl 0 rfl) ?_
          refine va_iald hx hb hK (P_S hO hno hS) 2 1 rfl rfl (vp_in_nI (by omega) (by decide)) dX1_copyFrom_46 ?_
          rw [nI_clamp (n := k) (by omega)]
          refine va_iast hx hb hK hP hD hS 2 1 rfl rfl (vp_in_nI (n := k) (by omega) (by decide)) dX1_copyFrom_47 (fun H locs hP hD hS => ?_)
          rw [nI_clamp (n := k) (by omega)] at hP hD
          have hP : va_P D vwCl (cw G a (q_cpL st' k (lp (q_cpL st') k (lp (q_cpI st') 12 st)))) H := hP
          have hD : va_D A (cw G a (q_cpL st' k (lp (q_cpL st') k (lp (q_cpI st') 12 st)))) := hD
          refine lv_iinc (v := nI (k + 1)) (lv' := [(2, .int (nI (k + 1))), (0, .ref (a 0)), (1, .ref (a' 0))]) hx hb dX1_copyFrom_48 hl (k := 0) rfl (by exact nI_1 k) (by decide) rfl (fun ls hl => ?_)
          refine lv_goto (tgt := 31) hx hb dX1_copyFrom_51 (by decide) ?_
          exact ih (k + 1) (by omega) _ _ hP hD hS ls (lv_sub hl [0, 1, 2] rfl)
      exact L31 3 0 (by omega) _ _ hP hD hS ls (lv_sub hl [0, 1, 2] rfl)
    | succ n ih =>
      intro k hk0 H locs hP hD hS ls hl
      have hk12 : k < 12 := by omega
      refine lv_iload_n hx hb dX1_copyFrom_2 rfl (lv_at hl 0 rfl) ?_
      refine lv_bipush (v := 12) hx hb dX1_copyFrom_3 (by decide) ?_
      refine lv_icmp_ge (tgt := 29) hx hb dX1_copyFrom_5 (by decide) (fun c_4 => absurd c_4 (nI_ge (a := k) (b := 12) (by omega) (by omega))) (fun _ => ?_)
      refine lv_aload_n hx hb dX1_copyFrom_8 rfl (lv_at hl 1 rfl) ?_
      refine va_get (D := D) (ci := 4) (v := .ref (a 1)) (C := RX1) (T := TX1) (N := 7) hx hb hts i_X1 hown hK hP 0 rfl rfl 0 (by decide) (hts _ kw_118) (fun _ h9 => h9) rfl dX1_copyFrom_9 ?_
      refine lv_iload_n hx hb dX1_copyFrom_12 rfl (lv_at hl 0 rfl) ?_
      refine va_aldq hx hb hK hP 1 0 rfl rfl (vp_in_nI (by omega) (by decide)) dX1_copyFrom_13 ?_
      rw [nI_clamp (n := k) (by omega)]
      refine lv_aload_n hx hb dX1_copyFrom_14 rfl (lv_at hl 2 rfl) ?_
      refine va_get (D := D) (ci := 4) (v := .ref (a' 1)) (C := RX1) (T := TX1) (N := 7) hx hb hts i_X1 hown hK (P_S hO hno hS) 0 rfl rfl 0 (by decide) (hts _ kw_118) (fun _ h9 => h9) rfl dX1_copyFrom_15 ?_
      refine lv_iload_n hx hb dX1_copyFrom_18 rfl (lv_at hl 0 rfl) ?_
      refine va_aldq hx hb hK (P_S hO hno hS) 1 0 rfl rfl (vp_in_nI (by omega) (by decide)) dX1_copyFrom_19 ?_
      rw [nI_clamp (n := k) (by omega)]
      have hne : a (3 + k) ≠ a' (3 + k) := by intro e9; have h8 : A (a (3 + k)) := hD.2 _ _ (cw_it G a (lp (q_cpI st') k st) (k := k) (by omega)); rw [e9] at h8; exact hno _ (List.mem_of_getElem? (cw_it G a' st' (k := k) (by omega))) h8
      have hFc := free1 hD (cw_it G a (lp (q_cpI st') k st) (k := k) (by omega)) hS hA
      refine va_callv (va_runV (As := [.ref (a' (3 + k))]) (rest := []) ⟨hx, hb, hml, hown, hts⟩ (c_X4_copyFrom l D G (a (3 + k)) (itm (lp (q_cpI st') k st) k) (a' (3 + k)) (itm st' k) H.size) (cwV 1 hts gw_X1_26 rfl rfl rfl (by decide +kernel) ⟨Nat.le_of_ble_eq_true rfl, Nat.le_of_ble_eq_true rfl⟩) (pv_i2 hK hP (P_S hO hno hS) (cw_it G a (lp (q_cpI st') k st) (by omega)) (cw_it G a' st' (by omega)) hne) rfl rfl hl.1 rfl (lv_room (Nat.le_of_ble_eq_true rfl)) dX1_copyFrom_20 ⟨Nat.le_of_ble_eq_true rfl, Nat.le_of_ble_eq_true rfl⟩) hS (fun q _ h => hFc q h) hFc (fun u t H1 locs ht hvm hw hB hz1 hk1 hS => ?_)
      have hB : va_P D vwCl [itC (a (3 + k)) (itm st' k)] H1 := by have h9 := hB; rw [ht] at h9; exact h9
      have hP : va_P D vwCl (cw G a (q_cpI st' k (lp (q_cpI st') k st))) H1 := by have h8 : va_P D vwCl ((cw G a (lp (q_cpI st') k st)).set (3 + k) (itC (a (3 + k)) (itm st' k))) H1 := P_set1 hP hD (cw_it G a (lp (q_cpI st') k st) (k := k) (by omega)) hk1 hB; rw [cw_setI G a (lp (q_cpI st') k st) (k := k) (by omega) (itm st' k)] at h8; exact h8
      have hD : va_D A (cw G a (q_cpI st' k (lp (q_cpI st') k st))) := cwD hD
      obtain ⟨H, rfl⟩ : ∃ z, z = H1 := ⟨_, rfl⟩
      refine lv_iinc (v := nI (k + 1)) (lv' := [(2, .int (nI (k + 1))), (0, .ref (a 0)), (1, .ref (a' 0))]) hx hb dX1_copyFrom_23 hl (k := 0) rfl (by exact nI_1 k) (by decide) rfl (fun ls hl => ?_)
      refine lv_goto (tgt := 2) hx hb dX1_copyFrom_26 (by decide) ?_
      exact ih (k + 1) (by omega) _ _ hP hD hS ls (lv_sub hl [0, 1, 2] rfl)
  exact L2 12 0 (by omega) _ _ hP hD hS ls (lv_sub hl [0, 1, 2] rfl)
