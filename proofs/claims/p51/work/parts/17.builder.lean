/-! BUILDERS OF TEXT: x the builder, y its bytes t (cap of them), n how many count, ml its mark -/
abbrev BR : Type := Nat × Nat × (Nat → Int32)
def bF (t : Nat → Int32) : Prop := ∀ j, fits .byte (.int (t j)) = true
abbrev LRp (D : va_G) (G : GA) (B0 : Nat) (X : Nat → Nat → Nat) (x y cap : Nat) (t : Nat → Int32) (n : Nat) (ml : Int32) (U : State) : Prop := va_P D vwCl (lb G x y cap t n ml) U.heap ∧ KK D G U ∧ EN B0 X U U.heap
abbrev LBp (D : va_G) (G : GA) (B0 : Nat) (X : Nat → Nat → Nat) (x y cap : Nat) (t : Nat → Int32) (n : Nat) (ml : Int32) (sz : Nat) (U : State) : Prop := U.heap.size = sz ∧ va_P D vwCl (lb G x y cap t n ml) U.heap ∧ KK D G U ∧ va_D (bA B0) (lb G x y cap t n ml) ∧ EN B0 X U U.heap
section PVL
variable {s : State} {H : Heap} {D : va_G} {G : GA} {B0 : Nat} {X : Nat → Nat → Nat} {x y cap n : Nat} {t : Nat → Int32} {ml : Int32}
theorem pv_lr {As : List Value} (hK : KK D G s) (hP : va_P D vwCl (lb G x y cap t n ml) H) (hE : EN B0 X s H) : PreV s H RJ4 x (va_Pc (.ref x :: As) (LRp D G B0 X x y cap t n ml)) As :=
  ⟨fun A U g mk q => ⟨q.1, q.2.1, va_K.moved (Vm.Alike.refl U.vm) q.2.2.1, EN.warm (s := U) (State.WarmedH.refl U) q.2.2.2⟩, va_recv hK hP (ci := 1) (q0 := 0) rfl rfl, fun U hU hW => ⟨rfl, by rw [hU]; exact hP, va_K.moved hW.alike hK, by rw [hU]; exact hE.warm hW⟩⟩
theorem pv_lb {A : Nat → Prop} {As : List Value} (hK : KK D G s) (hP : va_P D vwCl (lb G x y cap t n ml) H) (hD : va_D A (lb G x y cap t n ml)) (hAB : ∀ q, A q → B0 ≤ q) (hE : EN B0 X s H) : PreV s H RJ4 x (va_Pc (.ref x :: As) (LBp D G B0 X x y cap t n ml H.size)) As :=
  ⟨fun A U g mk q => ⟨q.1, q.2.1, q.2.2.1, va_K.moved (Vm.Alike.refl U.vm) q.2.2.2.1, q.2.2.2.2.1, EN.warm (s := U) (State.WarmedH.refl U) q.2.2.2.2.2⟩, va_recv hK hP (ci := 1) (q0 := 0) rfl rfl, fun U hU hW => ⟨rfl, by rw [hU], by rw [hU]; exact hP, va_K.moved hW.alike hK, hD.weaken (fun _ q _ h => hAB q.1 h), by rw [hU]; exact hE.warm hW⟩⟩
end PVL
theorem lbD {A : Nat → Prop} {G : GA} {x y cap cap' n n' : Nat} {t t' : Nat → Int32} {ml ml' : Int32} (h : va_D A (lb G x y cap t n ml)) : va_D A (lb G x y cap' t' n' ml') := D_addr h rfl
theorem sc_shl0 (v : Int32) : v <<< ((0 : Int32) &&& 31) = v := by
  have h : ((0 : Int32) &&& 31) = 0 := by decide
  rw [h]
  apply Int32.toBitVec_inj.mp
  simp
def ncap (cap nd : Nat) : Nat := cap + (if nd - cap < cap + 2 then cap + 2 else nd - cap)
theorem ncap_le {cap nd : Nat} (h1 : cap < nd) (h2 : nd ≤ 100) : ncap cap nd ≤ 202 := by
  unfold ncap
  split <;> omega
theorem ncap_ge {cap nd : Nat} : nd ≤ ncap cap nd ∧ cap < ncap cap nd := by
  unfold ncap
  split <;> omega
theorem bF_cpy {t : Nat → Int32} {k : Nat} (h : bF t) : bF (va_cpy t (fun _ => 0) 0 0 k) := by
  intro j
  unfold va_cpy
  split
  · exact h _
  · show fits .byte (.int 0) = true
    decide
theorem bF_upd {t : Nat → Int32} {k : Nat} {v : Int32} (h : bF t) (hv : fits .byte (.int v) = true) : bF (upd t k v) := by
  intro j
  by_cases e : j = k
  · rw [e, pk_us]; exact hv
  · rw [pk_un e]; exact h j
theorem cpy_at {t : Nat → Int32} {k j : Nat} (h : j < k) : va_cpy t (fun _ => 0) 0 0 k j = t j := by
  unfold va_cpy
  rw [if_pos ⟨Nat.zero_le _, by omega⟩]
  congr 1
  omega
theorem gU {own C owner : String} {idx : Nat} {x y : MethodName} {c : ByteArray} {n : Nat} {r : Option FieldType} (h1 : .methodLink own idx x ∈ tb) (h2 : .sameMethod x.cls owner x.name x.desc ∈ tb) (h3 : .selects C x y ∈ tb) (h4 : .instanceMethod y ∈ tb) (h5 : .initialized y.cls ∈ tb) (h6 : .code y c n r ∈ tb) : GoodIn tb (va_wsU own idx C owner x y (wA y c n r)) := by
  refine g_tb (fun w hw => ?_)
  rcases List.mem_append.mp hw with h | h
  · simp only [List.mem_cons, List.not_mem_nil, or_false] at h
    rcases h with rfl | rfl | rfl | rfl | rfl <;> assumption
  · rcases List.mem_cons.mp h with rfl | h
    · exact h6
    · exact h
theorem gO {own C owner : String} {idx : Nat} {x y : MethodName} {c : ByteArray} {n : Nat} {r : Option FieldType} (h1 : .methodLink own idx x ∈ tb) (h2 : .sameMethod x.cls owner x.name x.desc ∈ tb) (h7 : .instanceMethod ⟨owner, x.name, x.desc⟩ ∈ tb) (h3 : .selects C x y ∈ tb) (h4 : .instanceMethod y ∈ tb) (h5 : .initialized y.cls ∈ tb) (h6 : .code y c n r ∈ tb) : GoodIn tb (va_wsO own idx C owner x y (wA y c n r)) := by
  refine g_tb (fun w hw => ?_)
  rcases List.mem_append.mp hw with h | h
  · simp only [List.mem_cons, List.not_mem_nil, or_false] at h
    rcases h with rfl | rfl | rfl | rfl | rfl | rfl <;> assumption
  · rcases List.mem_cons.mp h with rfl | h
    · exact h6
    · exact h
theorem gSU {own : String} {idx : Nat} {y : MethodName} {c : ByteArray} {n : Nat} {r : Option FieldType} (h1 : .methodLink own idx y ∈ tb) (h2 : .sameMethod y.cls y.cls y.name y.desc ∈ tb) (h3 : .superclass own y.cls ∈ tb) (h4 : .instanceMethod y ∈ tb) (h5 : .initialized y.cls ∈ tb) (h6 : .code y c n r ∈ tb) : GoodIn tb (va_wsSU own idx y (wA y c n r)) := by
  refine g_tb (fun w hw => ?_)
  rcases List.mem_append.mp hw with h | h
  · simp only [List.mem_cons, List.not_mem_nil, or_false] at h
    rcases h with rfl | rfl | rfl | rfl | rfl <;> assumption
  · rcases List.mem_cons.mp h with rfl | h
    · exact h6
    · exact h
theorem cwUP {R : Room} {s : State} {args : Array Value} {own C : String} {index maxL mc ms : Nat} {y : MethodName} {bytes : ByteArray} {ret : Option FieldType} {rm : Room} (n : Nat) (ht : ∀ w ∈ tb, w.before args s = true) (h1 : .methodLink own index y ∈ tb) (h2 : .sameMethod y.cls y.cls y.name y.desc ∈ tb) (h4 : .instanceMethod y ∈ tb) (h5 : .initialized y.cls ∈ tb) (h6 : .code y bytes maxL ret ∈ tb)
    (hsel : (Cond.selects C y y).before args s = true) (hrc : rm.cells = mc) (hrs : rm.slots = ms) (hd : y.cls ≠ "java/lang/invoke/MethodHandle" ∧ y.cls ≠ "java/lang/invoke/VarHandle" ∧ (parseMethodDescriptor y.desc).map (fun d => d.parameters.length) = some n) (hR : rm.frames + 1 ≤ R.frames ∧ 8 + (maxL + 11) + rm.locals ≤ R.locals) : va_CU R s args own C y.cls index y y bytes maxL ret (wA y bytes maxL ret) rm mc ms n := by
  refine ⟨⟨hrc, hrs, hR.1, hR.2, pay_in ht (gI h6), List.mem_cons_self⟩, ht _ h6, ht _ h5, ⟨hd.1, hd.2.1⟩, fun sig h => ?_, ht _ h1, ht _ h2, va_Decl.of (ht _ h4) (ht _ h6), hsel, ht _ h4⟩
  have h9 := hd.2.2
  rw [h] at h9
  exact (Option.some.inj h9).symm
def dg (k : Nat) : Nat := if k < 10 then 1 else 2
def digs (k : Nat) : List Int32 := if k < 10 then [dOnes.getD k 0] else [dTens.getD k 0, dOnes.getD k 0]
theorem dg_le (k : Nat) : 1 ≤ dg k ∧ dg k ≤ 2 := by
  unfold dg
  split <;> omega
theorem ng_10 : ∀ k, k < 100 → (-(nI k) ≤ (-10 : Int32) ↔ 10 ≤ k) := by decide
theorem ng_100 : ∀ k, k < 100 → ¬ (-(nI k) ≤ (10 : Int32) * (-10)) := by decide
theorem ng_g100 : ∀ k, k < 100 → (-100 : Int32) < -(nI k) := by decide
theorem ng_9 : ∀ k, k < 100 → ((-9 : Int32) ≤ -(nI k) ↔ k < 10) := by decide
theorem ng_ng : ∀ k, k < 100 → -(-(nI k)) = nI k := by decide
theorem ones_nar : ∀ k, k < 100 → vp_nar .byte (dOnes.getD k 0) = dOnes.getD k 0 := by decide
theorem tens_nar : ∀ k, k < 100 → vp_nar .byte (dTens.getD k 0) = dTens.getD k 0 := by decide
theorem ones_fit : ∀ k, k < 100 → fits .byte (.int (dOnes.getD k 0)) = true := by decide
theorem tens_fit : ∀ k, k < 100 → fits .byte (.int (dTens.getD k 0)) = true := by decide
theorem nI_m1 {e : Nat} (h : 1 ≤ e) : nI e + (-1) = nI (e - 1) := by
  obtain ⟨m, rfl⟩ : ∃ m, e = m + 1 := ⟨e - 1, by omega⟩
  rw [← nI_1 m, Nat.add_sub_cancel, Int32.add_assoc]
  rw [show (1 : Int32) + (-1) = 0 from by decide, Int32.add_zero]
theorem nI_sub_le {a b : Nat} (h : a ≤ b) (hb : b < 1000) : nI a - nI b ≤ 0 := by
  have e1 : (nI a - nI b).toInt = (a : Int) - b := pk_sub_toInt (by omega) (by omega)
  rw [Int32.le_iff_toInt_le, e1, Int32.toInt_zero]
  omega
theorem nI_sub_nle {a b : Nat} (h : b < a) (hb : a < 1000) : ¬ nI a - nI b ≤ 0 := by
  have e1 : (nI a - nI b).toInt = (a : Int) - b := pk_sub_toInt (by omega) (by omega)
  rw [Int32.le_iff_toInt_le, e1, Int32.toInt_zero]
  omega
theorem ps_lb {s : State} {H : Heap} {D : va_G} {G : GA} {B0 : Nat} {X : Nat → Nat → Nat} {x y cap n : Nat} {t : Nat → Int32} {ml : Int32} {A : Nat → Prop} {As : List Value} (hK : KK D G s) (hP : va_P D vwCl (lb G x y cap t n ml) H) (hD : va_D A (lb G x y cap t n ml)) (hAB : ∀ q, A q → B0 ≤ q) (hE : EN B0 X s H) : PreS s H (va_Pc As (LBp D G B0 X x y cap t n ml H.size)) As :=
  ⟨fun A U g mk q => ⟨q.1, q.2.1, q.2.2.1, va_K.moved (Vm.Alike.refl U.vm) q.2.2.2.1, q.2.2.2.2.1, EN.warm (s := U) (State.WarmedH.refl U) q.2.2.2.2.2⟩, fun U hU hW => ⟨rfl, by rw [hU], by rw [hU]; exact hP, va_K.moved hW.alike hK, hD.weaken (fun _ q _ h => hAB q.1 h), by rw [hU]; exact hE.warm hW⟩⟩
theorem cl0 : (0 : Int32).toNatClampNeg = 0 := by decide
theorem g_one {k e9 : Nat} {t : Nat → Int32} (hdg : dg k = 1) (c2 : k < 10) (h2 : dg k ≤ e9) {j : Nat} (hj : j < dg k) : upd t (e9 - 1) (dOnes.getD k 0) (e9 - dg k + j) = (digs k).getD j 0 := by
  rw [hdg] at hj ⊢
  rw [digs, if_pos c2]
  obtain rfl : j = 0 := by omega
  exact pk_us
theorem g_two {k e9 : Nat} {t : Nat → Int32} (hdg : dg k = 2) (c2 : ¬ k < 10) (h2 : dg k ≤ e9) {j : Nat} (hj : j < dg k) : upd (upd t (e9 - 1) (dOnes.getD k 0)) (e9 - 1 - 1) (dTens.getD k 0) (e9 - dg k + j) = (digs k).getD j 0 := by
  rw [hdg] at hj h2 ⊢
  rw [digs, if_neg c2]
  rcases (show j = 0 ∨ j = 1 by omega) with rfl | rfl
  · have e : e9 - 2 + 0 = e9 - 1 - 1 := by omega
    rw [e]
    exact pk_us
  · have e : e9 - 2 + 1 = e9 - 1 := by omega
    rw [e]
    exact (pk_un (by omega)).trans pk_us
theorem mn_nat {a b : Nat} (ha : a < 1000) (hb : b < 1000) (h : a ≤ b) : (if nI b < nI a then nI b else nI a) = nI a := if_neg (nI_nlt (by omega) (by omega))

set_option maxRecDepth 100000 in
set_option maxHeartbeats 4000000 in
theorem c_J8_newLength_cabcc (l : Launch)  (ka : Nat) (kb : Nat) (kd : Nat) (h1 : ka + kb + kd < 1000) (h2 : 0 < kd) : Met l yJ8_newLength_cabcc (wA yJ8_newLength_cabcc cJ8_newLength_cabcc 4 (some .int)) ({ frames := 1, cells := 0, slots := 0, locals := 21 } : Room) (va_Pc [.int (nI ka), .int (nI kb), .int (nI kd)] (JZp)) (vp_Si (fun r => r = nI (ka + (if kb < kd then kd else kb)))) 0 0 (fun _ => False) := by
  refine Met.ofW (cc := cJ8_newLength_cabcc) (maxL := 4) (ret := (some .int)) (by decide) rfl ?_
  intro p e s m args below meth c s₁ B hml hv
  obtain ⟨rfl, hZ⟩ := hv
  have hx := B.exec
  have hb := B.bytes
  have hr := B.returns
  have hts : ∀ w9 ∈ tb, w9.before ([.int (nI ka), .int (nI kb), .int (nI kd)] : List Value).toArray s = true := fun w9 h9 => atoms_spec (ws := (wA yJ8_newLength_cabcc cJ8_newLength_cabcc 4 (some .int))) B.pre w9 (List.mem_cons_of_mem _ h9)
  have hown : s.vm.findClass RJ8 = some m.cls := findClass_of_methodNamed B.named
  have hlocks := B.notSynchronized
  have hl := lv_entry ([.int (nI ka), .int (nI kb), .int (nI kd)]) (n := 4) (Nat.le_of_ble_eq_true rfl)
  rw [lg_entry_eq]
  generalize (lg_sl ([.int (nI ka), .int (nI kb), .int (nI kd)]) ++ List.replicate (4 - (lg_sl ([.int (nI ka), .int (nI kb), .int (nI kd)])).length) Slot.unset).toArray = ls at hl ⊢
  have hl : lv_has ls 4 [(0, .int (nI ka)), (1, .int (nI kb)), (2, .int (nI kd))] := hl
  refine lv_iload_n hx hb dJ8_newLength_cabcc_0 rfl (lv_at hl 0 rfl) ?_
  refine lv_iload_n hx hb dJ8_newLength_cabcc_1 rfl (lv_at hl 1 rfl) ?_
  refine lv_iload_n hx hb dJ8_newLength_cabcc_2 rfl (lv_at hl 2 rfl) ?_
  refine va_mmax hx hb (hml.trans hl.1.symm) hown (hts _ kw_1064) (hts _ kw_562) (hts _ kw_46) (hts _ kw_563) (Nat.le_of_ble_eq_true rfl) (Nat.le_of_ble_eq_true rfl) (Nat.le_of_ble_eq_true rfl) (Nat.le_of_ble_eq_true rfl) dJ8_newLength_cabcc_3 ?_
  rw [mx_nat (a := kb) (b := kd) (by omega) (by omega)]
  refine lv_iadd hx hb dJ8_newLength_cabcc_6 ?_
  rw [show ((nI ka) + (nI (if kb < kd then kd else kb)) : Int32) = nI (ka + (if kb < kd then kd else kb)) from nI_add _ _]
  refine lv_istore_n (lv' := [(3, .int (nI (ka + (if kb < kd then kd else kb)))), (0, .int (nI ka)), (1, .int (nI kb)), (2, .int (nI kd))]) hx hb dJ8_newLength_cabcc_7 rfl hl (by decide) rfl (fun ls hl => ?_)
  refine lv_iconst (v := 0) hx hb dJ8_newLength_cabcc_8 (by decide) ?_
  refine lv_iload_n hx hb dJ8_newLength_cabcc_9 rfl (lv_at hl 0 rfl) ?_
  have h3 : 0 < ka + (if kb < kd then kd else kb) ∧ ka + (if kb < kd then kd else kb) < 2000 := by split <;> omega
  refine lv_icmp_ge (tgt := 21) hx hb dJ8_newLength_cabcc_10 (by decide) (fun c_1 => absurd c_1 (fun h9 => absurd ((nI_leI (a := ka + (if kb < kd then kd else kb)) (b := 0) (by omega) (by omega)).mp h9) (by omega))) (fun _ => ?_)
  refine lv_iload_n hx hb dJ8_newLength_cabcc_13 rfl (lv_at hl 0 rfl) ?_
  refine lv_ldc (v := 2147483639) hx hb hown (hts _ kw_1065) dJ8_newLength_cabcc_14 ?_
  refine lv_icmp_gt (tgt := 21) hx hb dJ8_newLength_cabcc_16 (by decide) (fun c_2 => absurd c_2 (fun h9 => absurd ((nI_ltI (a := 2147483639) (b := ka + (if kb < kd then kd else kb)) (by omega) (by omega)).mp h9) (by omega))) (fun _ => ?_)
  refine lv_iload_n hx hb dJ8_newLength_cabcc_19 rfl (lv_at hl 0 rfl) ?_
  exact W.iret (v := nI (ka + (if kb < kd then kd else kb))) hx hb hr (fun t ht hW => ⟨_, rfl, rfl, ht⟩) (fun q h => absurd h List.not_mem_nil) dJ8_newLength_cabcc_20
set_option maxRecDepth 100000 in
set_option maxHeartbeats 4000000 in
theorem c_J5_length_8abf5 (l : Launch) (D : va_G) (G : GA) (B0 : Nat) (X : Nat → Nat → Nat) (x y cap : Nat) (t : Nat → Int32) (n : Nat) (ml : Int32) (hn : n ≤ cap) (hcap : cap ≤ 202) (hf : bF t) : Met l yJ5_length_8abf5 (wA yJ5_length_8abf5 cJ5_length_8abf5 1 (some .int)) ({ frames := 0, cells := 0, slots := 0, locals := 0 } : Room) (va_Pc [.ref x] (LRp D G B0 X x y cap t n ml)) (vp_Si (fun r => r = nI n)) 0 0 (fun _ => False) := by
  refine Met.ofW (cc := cJ5_length_8abf5) (maxL := 1) (ret := (some .int)) (by decide) rfl ?_
  intro p9 e s m args below meth c9 s₁ B hml hv
  obtain ⟨rfl, hP, hK, hE⟩ := hv
  have hx := B.exec
  have hb := B.bytes
  have hr := B.returns
  have hts : ∀ w9 ∈ tb, w9.before ([.ref x] : List Value).toArray s = true := fun w9 h9 => atoms_spec (ws := (wA yJ5_length_8abf5 cJ5_length_8abf5 1 (some .int))) B.pre w9 (List.mem_cons_of_mem _ h9)
  have hown : s.vm.findClass RJ5 = some m.cls := findClass_of_methodNamed B.named
  have hlocks := B.notSynchronized
  have hl := lv_entry ([.ref x]) (n := 1) (Nat.le_of_ble_eq_true rfl)
  rw [lg_entry_eq]
  generalize (lg_sl ([.ref x]) ++ List.replicate (1 - (lg_sl ([.ref x])).length) Slot.unset).toArray = ls at hl ⊢
  have hl : lv_has ls 1 [(0, .ref x)] := hl
  refine lv_aload_n hx hb dJ5_length_8abf5_0 rfl (lv_at hl 0 rfl) ?_
  refine va_get (D := D) (ci := 1) (v := .int (nI n)) (C := RJ4) (T := TJ4) (N := 4) hx hb hts i_J4 hown hK hP 0 rfl rfl 3 (by decide) (hts _ kw_217) (fun _ h9 => h9) rfl dJ5_length_8abf5_1 ?_
  exact W.iret (v := nI n) hx hb hr (fun t ht hW => ⟨_, rfl, rfl, ht⟩) (fun q h => absurd h List.not_mem_nil) dJ5_length_8abf5_4
set_option maxRecDepth 100000 in
set_option maxHeartbeats 4000000 in
theorem c_J4_length_8abf5 (l : Launch) (D : va_G) (G : GA) (B0 : Nat) (X : Nat → Nat → Nat) (x y cap : Nat) (t : Nat → Int32) (n : Nat) (ml : Int32) (hn : n ≤ cap) (hcap : cap ≤ 202) (hf : bF t) : Met l yJ4_length_8abf5 (wA yJ4_length_8abf5 cJ4_length_8abf5 1 (some .int)) ({ frames := 1, cells := 0, slots := 0, locals := 20 } : Room) (va_Pc [.ref x] (LRp D G B0 X x y cap t n ml)) (vp_Si (fun r => r = nI n)) 0 0 (fun _ => False) := by
  refine Met.ofW (cc := cJ4_length_8abf5) (maxL := 1) (ret := (some .int)) (by decide) rfl ?_
  intro p9 e s m args below meth c9 s₁ B hml hv
  obtain ⟨rfl, hP, hK, hE⟩ := hv
  have hx := B.exec
  have hb := B.bytes
  have hr := B.returns
  have hts : ∀ w9 ∈ tb, w9.before ([.ref x] : List Value).toArray s = true := fun w9 h9 => atoms_spec (ws := (wA yJ4_length_8abf5 cJ4_length_8abf5 1 (some .int))) B.pre w9 (List.mem_cons_of_mem _ h9)
  have hown : s.vm.findClass RJ4 = some m.cls := findClass_of_methodNamed B.named
  have hlocks := B.notSynchronized
  have hl := lv_entry ([.ref x]) (n := 1) (Nat.le_of_ble_eq_true rfl)
  rw [lg_entry_eq]
  generalize (lg_sl ([.ref x]) ++ List.replicate (1 - (lg_sl ([.ref x])).length) Slot.unset).toArray = ls at hl ⊢
  have hl : lv_has ls 1 [(0, .ref x)] := hl
  refine lv_aload_n hx hb dJ4_length_8abf5_0 rfl (lv_at hl 0 rfl) ?_
  refine vp_callSi (va_runSU (As := []) (rest := []) (hK.1 1 _ rfl).2 ⟨hx, hb, hml, hown, hts⟩ (c_J5_length_8abf5 l D G B0 X x y cap t n ml (by omega) (by omega) hf) (va_cwSU 0 hts (gSU kw_1187 kw_1183 kw_226 kw_1182 kw_31 kw_1188) rfl rfl rfl (by decide +kernel) ⟨Nat.le_of_ble_eq_true rfl, Nat.le_of_ble_eq_true rfl⟩) (pv_lr hK hP hE) rfl rfl hl.1 rfl (lv_room (Nat.le_of_ble_eq_true rfl)) dJ4_length_8abf5_1 ⟨Nat.le_of_ble_eq_true rfl, Nat.le_of_ble_eq_true rfl⟩).run (nm_e ?_)
  exact W.iret (v := nI n) hx hb hr (fun t ht hW => ⟨_, rfl, rfl, ht⟩) (fun q h => absurd h List.not_mem_nil) dJ4_length_8abf5_4
set_option maxRecDepth 100000 in
set_option maxHeartbeats 4000000 in
theorem c_J5_isLatin1_aae02 (l : Launch) (D : va_G) (G : GA) (B0 : Nat) (X : Nat → Nat → Nat) (x y cap : Nat) (t : Nat → Int32) (n : Nat) (ml : Int32) (hn : n ≤ cap) (hcap : cap ≤ 202) (hf : bF t) : Met l yJ5_isLatin1_aae02 (wA yJ5_isLatin1_aae02 cJ5_isLatin1_aae02 1 (some .boolean)) ({ frames := 0, cells := 0, slots := 0, locals := 0 } : Room) (va_Pc [.ref x] (LRp D G B0 X x y cap t n ml)) (vp_Si (fun r => r = 1)) 0 0 (fun _ => False) := by
  refine Met.ofW (cc := cJ5_isLatin1_aae02) (maxL := 1) (ret := (some .boolean)) (by decide) rfl ?_
  intro p9 e s m args below meth c9 s₁ B hml hv
  obtain ⟨rfl, hP, hK, hE⟩ := hv
  have hx := B.exec
  have hb := B.bytes
  have hr := B.returns
  have hts : ∀ w9 ∈ tb, w9.before ([.ref x] : List Value).toArray s = true := fun w9 h9 => atoms_spec (ws := (wA yJ5_isLatin1_aae02 cJ5_isLatin1_aae02 1 (some .boolean))) B.pre w9 (List.mem_cons_of_mem _ h9)
  have hown : s.vm.findClass RJ5 = some m.cls := findClass_of_methodNamed B.named
  have hlocks := B.notSynchronized
  have hl := lv_entry ([.ref x]) (n := 1) (Nat.le_of_ble_eq_true rfl)
  rw [lg_entry_eq]
  generalize (lg_sl ([.ref x]) ++ List.replicate (1 - (lg_sl ([.ref x])).length) Slot.unset).toArray = ls at hl ⊢
  have hl : lv_has ls 1 [(0, .ref x)] := hl
  refine va_gets (C := "java/lang/String") (n := "COMPACT_STRINGS") (d := "Z") (v := .int 1) hx hb hE.j.1 va_S.rf hown (hts _ kw_204) (fun _ h9 => h9) dJ5_isLatin1_aae02_0 ?_
  refine lv_if_eq (tgt := 17) hx hb dJ5_isLatin1_aae02_3 (by decide) (fun c_1 => absurd c_1 (by decide)) (fun _ => ?_)
  refine lv_aload_n hx hb dJ5_isLatin1_aae02_6 rfl (lv_at hl 0 rfl) ?_
  refine va_get (D := D) (ci := 1) (v := .int 0) (C := RJ4) (T := TJ4) (N := 4) hx hb hts i_J4 hown hK hP 0 rfl rfl 1 (by decide) (hts _ kw_214) (fun _ h9 => h9) rfl dJ5_isLatin1_aae02_7 ?_
  refine lv_if_ne (tgt := 17) hx hb dJ5_isLatin1_aae02_10 (by decide) (fun c_2 => absurd (by decide) c_2) (fun _ => ?_)
  refine lv_iconst (v := 1) hx hb dJ5_isLatin1_aae02_13 (by decide) ?_
  refine lv_goto (tgt := 18) hx hb dJ5_isLatin1_aae02_14 (by decide) ?_
  exact W.zret (ty := .boolean) (v := 1) hx hb hr (by decide) (fun t ht hW => ⟨_, rfl, rfl, ht⟩) (fun q h => absurd h List.not_mem_nil) dJ5_isLatin1_aae02_18
set_option maxRecDepth 100000 in
set_option maxHeartbeats 4000000 in
theorem c_J5_newCapacity_0f7a4 (l : Launch) (D : va_G) (G : GA) (B0 : Nat) (X : Nat → Nat → Nat) (x y cap : Nat) (t : Nat → Int32) (n : Nat) (ml : Int32) (hn : n ≤ cap) (hcap : cap ≤ 202) (hf : bF t) (nd : Nat) (h1 : cap < nd) (h2 : nd ≤ 100) : Met l yJ5_newCapacity_0f7a4 (wA yJ5_newCapacity_0f7a4 cJ5_newCapacity_0f7a4 6 (some .int)) ({ frames := 2, cells := 0, slots := 0, locals := 44 } : Room) (va_Pc [.ref x, .int (nI nd)] (LRp D G B0 X x y cap t n ml)) (vp_Si (fun r => r = nI (ncap cap nd))) 0 0 (fun _ => False) := by
  refine Met.ofW (cc := cJ5_newCapacity_0f7a4) (maxL := 6) (ret := (some .int)) (by decide) rfl ?_
  intro p9 e s m args below meth c9 s₁ B hml hv
  obtain ⟨rfl, hP, hK, hE⟩ := hv
  have hx := B.exec
  have hb := B.bytes
  have hr := B.returns
  have hts : ∀ w9 ∈ tb, w9.before ([.ref x, .int (nI nd)] : List Value).toArray s = true := fun w9 h9 => atoms_spec (ws := (wA yJ5_newCapacity_0f7a4 cJ5_newCapacity_0f7a4 6 (some .int))) B.pre w9 (List.mem_cons_of_mem _ h9)
  have hown : s.vm.findClass RJ5 = some m.cls := findClass_of_methodNamed B.named
  have hlocks := B.notSynchronized
  have hl := lv_entry ([.ref x, .int (nI nd)]) (n := 6) (Nat.le_of_ble_eq_true rfl)
  rw [lg_entry_eq]
  generalize (lg_sl ([.ref x, .int (nI nd)]) ++ List.replicate (6 - (lg_sl ([.ref x, .int (nI nd)])).length) Slot.unset).toArray = ls at hl ⊢
  have hl : lv_has ls 6 [(0, .ref x), (1, .int (nI nd))] := hl
  refine lv_aload_n hx hb dJ5_newCapacity_0f7a4_0 rfl (lv_at hl 0 rfl) ?_
  refine va_get (D := D) (ci := 1) (v := .ref y) (C := RJ4) (T := TJ4) (N := 4) hx hb hts i_J4 hown hK hP 0 rfl rfl 0 (by decide) (hts _ kw_213) (fun _ h9 => h9) rfl dJ5_newCapacity_0f7a4_1 ?_
  refine va_alen (v := nI cap) hx hb hK hP 1 4 rfl rfl rfl dJ5_newCapacity_0f7a4_4 ?_
  refine lv_istore_n (lv' := [(2, .int (nI cap)), (0, .ref x), (1, .int (nI nd))]) hx hb dJ5_newCapacity_0f7a4_5 rfl hl (by decide) rfl (fun ls hl => ?_)
  refine lv_iload_n hx hb dJ5_newCapacity_0f7a4_6 rfl (lv_at hl 2 rfl) ?_
  refine lv_aload_n hx hb dJ5_newCapacity_0f7a4_7 rfl (lv_at hl 1 rfl) ?_
  refine va_get (D := D) (ci := 1) (v := .int 0) (C := RJ4) (T := TJ4) (N := 4) hx hb hts i_J4 hown hK hP 0 rfl rfl 1 (by decide) (hts _ kw_214) (fun _ h9 => h9) rfl dJ5_newCapacity_0f7a4_8 ?_
  refine lv_ishl hx hb dJ5_newCapacity_0f7a4_11 ?_
  rw [sc_shl0]
  refine lv_istore_n (lv' := [(3, .int (nI nd)), (2, .int (nI cap)), (0, .ref x), (1, .int (nI nd))]) hx hb dJ5_newCapacity_0f7a4_12 rfl hl (by decide) rfl (fun ls hl => ?_)
  refine lv_iload_n hx hb dJ5_newCapacity_0f7a4_13 rfl (lv_at hl 0 rfl) ?_
  refine lv_iload_n hx hb dJ5_newCapacity_0f7a4_14 rfl (lv_at hl 1 rfl) ?_
  refine lv_isub hx hb dJ5_newCapacity_0f7a4_15 ?_
  rw [show ((nI nd) - (nI cap) : Int32) = nI (nd - cap) from pk_sub (by omega)]
  refine lv_istore (lv' := [(4, .int (nI (nd - cap))), (3, .int (nI nd)), (2, .int (nI cap)), (0, .ref x), (1, .int (nI nd))]) hx hb dJ5_newCapacity_0f7a4_16 hl (by decide) rfl (fun ls hl => ?_)
  refine lv_iload_n hx hb dJ5_newCapacity_0f7a4_18 rfl (lv_at hl 2 rfl) ?_
  refine lv_iload hx hb dJ5_newCapacity_0f7a4_19 (lv_at hl 0 rfl) ?_
  refine lv_iload_n hx hb dJ5_newCapacity_0f7a4_21 rfl (lv_at hl 2 rfl) ?_
  refine lv_iconst (v := 2) hx hb dJ5_newCapacity_0f7a4_22 (by decide) ?_
  refine lv_aload_n hx hb dJ5_newCapacity_0f7a4_23 rfl (lv_at hl 3 rfl) ?_
  refine va_get (D := D) (ci := 1) (v := .int 0) (C := RJ4) (T := TJ4) (N := 4) hx hb hts i_J4 hown hK hP 0 rfl rfl 1 (by decide) (hts _ kw_214) (fun _ h9 => h9) rfl dJ5_newCapacity_0f7a4_24 ?_
  refine lv_ishl hx hb dJ5_newCapacity_0f7a4_27 ?_
  rw [sc_shl0]
  refine lv_iadd hx hb dJ5_newCapacity_0f7a4_28 ?_
  rw [show ((nI cap) + 2 : Int32) = nI (cap + 2) from nI_add _ _]
  refine vp_callSi (va_runS (As := [.int (nI cap), .int (nI (nd - cap)), .int (nI (cap + 2))]) (rest := []) ⟨hx, hb, hml, hown, hts⟩ (c_J8_newLength_cabcc l cap (nd - cap) (cap + 2) (by omega) (by omega)) (va_cwS 3 hts (gS kw_1061 kw_1062 kw_53 kw_1063) rfl rfl rfl (by decide +kernel) ⟨Nat.le_of_ble_eq_true rfl, Nat.le_of_ble_eq_true rfl⟩) (ps_z (JZ.of hE)) rfl rfl hl.1 rfl (lv_room (Nat.le_of_ble_eq_true rfl)) dJ5_newCapacity_0f7a4_29 ⟨Nat.le_of_ble_eq_true rfl, Nat.le_of_ble_eq_true rfl⟩).run (nm_e ?_)
  rw [show (cap + (if (nd - cap) < (cap + 2) then (cap + 2) else (nd - cap))) = ncap cap nd from rfl]
  have := ncap_le h1 h2
  refine lv_istore (lv' := [(5, .int (nI (ncap cap nd))), (4, .int (nI (nd - cap))), (3, .int (nI nd)), (2, .int (nI cap)), (0, .ref x), (1, .int (nI nd))]) hx hb dJ5_newCapacity_0f7a4_32 hl (by decide) rfl (fun ls hl => ?_)
  refine lv_iload hx hb dJ5_newCapacity_0f7a4_34 (lv_at hl 0 rfl) ?_
  refine lv_ldc (v := 2147483647) hx hb hown (hts _ kw_1069) dJ5_newCapacity_0f7a4_36 ?_
  refine lv_icmp_ne (tgt := 51) hx hb dJ5_newCapacity_0f7a4_38 (by decide) (fun _ => ?_) (fun c_1 => absurd c_1 (fun h9 => absurd ((nI_eq (a := (ncap cap nd)) (b := 2147483647) (by omega) (by omega)).mp h9) (by omega)))
  refine lv_iload hx hb dJ5_newCapacity_0f7a4_51 (lv_at hl 0 rfl) ?_
  refine lv_aload_n hx hb dJ5_newCapacity_0f7a4_53 rfl (lv_at hl 4 rfl) ?_
  refine va_get (D := D) (ci := 1) (v := .int 0) (C := RJ4) (T := TJ4) (N := 4) hx hb hts i_J4 hown hK hP 0 rfl rfl 1 (by decide) (hts _ kw_214) (fun _ h9 => h9) rfl dJ5_newCapacity_0f7a4_54 ?_
  refine lv_ishr hx hb dJ5_newCapacity_0f7a4_57 ?_
  rw [sc_shr0 (by omega)]
  exact W.iret (v := nI (ncap cap nd)) hx hb hr (fun t ht hW => ⟨_, rfl, rfl, ht⟩) (fun q h => absurd h List.not_mem_nil) dJ5_newCapacity_0f7a4_58
set_option maxRecDepth 100000 in
set_option maxHeartbeats 4000000 in
theorem c_J7_copyOf_9075b (l : Launch) (D : va_G) (G : GA) (B0 : Nat) (X : Nat → Nat → Nat) (y cap : Nat) (t : Nat → Int32) (hf : bF t) (k : Nat) (h1 : cap < k) (h2 : k ≤ 202) (sz : Nat) : Met l yJ7_copyOf_9075b (wA yJ7_copyOf_9075b cJ7_copyOf_9075b 3 (some (.array .byte))) ({ frames := 1, cells := 1, slots := 202, locals := 40 } : Room) (va_Pc [.ref y, .int (nI k)] (MKp D G B0 X ((y, .inl (G 4, cap, .inl t)) : Nat × va_E) sz)) (va_Qr (fun _ : Unit => True) (fun _ q9 t9 => va_P D vwCl [((q9, .inl (G 4, k, .inl (va_cpy t (fun _ => 0) 0 0 cap))) : Nat × va_E)] t9.heap ∧ va_D (va_A [((y, .inl (G 4, cap, .inl t)) : Nat × va_E)] sz) [((q9, .inl (G 4, k, .inl (va_cpy t (fun _ => 0) 0 0 cap))) : Nat × va_E)]) (va_A [((y, .inl (G 4, cap, .inl t)) : Nat × va_E)] sz)) 1 202 (va_A [((y, .inl (G 4, cap, .inl t)) : Nat × va_E)] sz) := by
  refine Met.ofW (cc := cJ7_copyOf_9075b) (maxL := 3) (ret := (some (.array .byte))) (by decide) rfl ?_
  intro p9 e s m args below meth c9 s₁ B hml hv
  obtain ⟨rfl, hsz, hP, hK, hB0, hE⟩ := hv
  have hx := B.exec
  have hb := B.bytes
  have hr := B.returns
  have hts : ∀ w9 ∈ tb, w9.before ([.ref y, .int (nI k)] : List Value).toArray s = true := fun w9 h9 => atoms_spec (ws := (wA yJ7_copyOf_9075b cJ7_copyOf_9075b 3 (some (.array .byte)))) B.pre w9 (List.mem_cons_of_mem _ h9)
  have hown : s.vm.findClass RJ7 = some m.cls := findClass_of_methodNamed B.named
  have hlocks := B.notSynchronized
  subst hsz
  have hD : va_D (va_A [((y, .inl (G 4, cap, .inl t)) : Nat × va_E)] s.heap.size) [((y, .inl (G 4, cap, .inl t)) : Nat × va_E)] := D_1 _ _
  have hAB := A_B (c := ((y, .inl (G 4, cap, .inl t)) : Nat × va_E)) hB0 hE.1
  generalize hAe : va_A [((y, .inl (G 4, cap, .inl t)) : Nat × va_E)] s.heap.size = A at hD hAB ⊢
  have hA : ∀ q : Nat, s.heap.size ≤ q → A q := fun q h => by rw [← hAe]; exact Or.inr h
  have hS : va_S A s.heap s.heap [] := va_S.rf
  have hl := lv_entry ([.ref y, .int (nI k)]) (n := 3) (Nat.le_of_ble_eq_true rfl)
  rw [lg_entry_eq]
  generalize (lg_sl ([.ref y, .int (nI k)]) ++ List.replicate (3 - (lg_sl ([.ref y, .int (nI k)])).length) Slot.unset).toArray = ls at hl ⊢
  have hl : lv_has ls 3 [(0, .ref y), (1, .int (nI k))] := hl
  refine lv_iload_n hx hb dJ7_copyOf_9075b_0 rfl (lv_at hl 1 rfl) ?_
  refine lv_aload_n hx hb dJ7_copyOf_9075b_1 rfl (lv_at hl 0 rfl) ?_
  refine va_alen (v := nI cap) hx hb hK hP 0 4 rfl rfl rfl dJ7_copyOf_9075b_2 ?_
  refine lv_icmp_ne (tgt := 14) hx hb dJ7_copyOf_9075b_3 (by decide) (fun _ => ?_) (fun c_1 => absurd c_1 (fun h9 => absurd ((nI_eq (a := k) (b := cap) (by omega) (by omega)).mp h9) (by omega)))
  refine lv_iload_n hx hb dJ7_copyOf_9075b_14 rfl (lv_at hl 1 rfl) ?_
  refine va_newa hx hb (atype := .byte) (hts _ kw_227) (ty := .byte) rfl hK hP hD hS hA (a0 := (k, .inl (fun _ => 0))) (fun _ => rfl) (N' := k) (nI_pos (n := k) (by omega)) (nI_clamp (n := k) (by omega)) (by show k * 1 ≤ 536870912; omega) (show 0 + 1 ≤ 1 by omega) (show 0 + k ≤ 202 by omega) dJ7_copyOf_9075b_15 (fun q1 cA H hK2 hP hD hS => ?_)
  rw [row_id (i := 4) (g := G 4) hK2 rfl] at hP hD
  clear hK2 cA
  refine W.widen (k := 1) (n := 202) (by omega) (by omega) ?_
  have hP : va_P D vwCl ([((y, .inl (G 4, cap, .inl t)) : Nat × va_E), (q1, .inl (G 4, k, .inl (fun _ => 0)))] : va_W) H := hP
  have hD : va_D A ([((y, .inl (G 4, cap, .inl t)) : Nat × va_E), (q1, .inl (G 4, k, .inl (fun _ => 0)))] : va_W) := hD
  refine lv_astore_n (x := q1) (lv' := [(2, .ref q1), (0, .ref y), (1, .int (nI k))]) hx hb dJ7_copyOf_9075b_17 rfl hl (by decide) rfl (fun ls hl => ?_)
  refine lv_aload_n hx hb dJ7_copyOf_9075b_18 rfl (lv_at hl 1 rfl) ?_
  refine lv_iconst (v := 0) hx hb dJ7_copyOf_9075b_19 (by decide) ?_
  refine lv_aload_n hx hb dJ7_copyOf_9075b_20 rfl (lv_at hl 0 rfl) ?_
  refine lv_iconst (v := 0) hx hb dJ7_copyOf_9075b_21 (by decide) ?_
  refine lv_aload_n hx hb dJ7_copyOf_9075b_22 rfl (lv_at hl 1 rfl) ?_
  refine va_alen (v := nI cap) hx hb hK hP 0 4 rfl rfl rfl dJ7_copyOf_9075b_23 ?_
  refine lv_iload_n hx hb dJ7_copyOf_9075b_24 rfl (lv_at hl 2 rfl) ?_
  refine va_mmin hx hb (hml.trans hl.1.symm) hown (hts _ kw_1080) (hts _ kw_694) (hts _ kw_46) (hts _ kw_695) (Nat.le_of_ble_eq_true rfl) (Nat.le_of_ble_eq_true rfl) (Nat.le_of_ble_eq_true rfl) (Nat.le_of_ble_eq_true rfl) dJ7_copyOf_9075b_25 ?_
  rw [if_neg (nI_nlt (a := k) (b := cap) (by omega) (by omega))]
  refine va_copyi hx hb (hml.trans hl.1.symm) hown (hts _ kw_1081) (hts _ kw_1083) (hts _ kw_1082) (hts _ kw_55) hK hP hD hS 0 1 4 4 rfl rfl rfl rfl rfl (by decide) (by decide) (nI_pos (n := cap) (by omega)) (by rw [cl0, nI_clamp (by omega)]; omega) (by rw [cl0, nI_clamp (by omega)]; omega) (fun i _ => hf _) (Nat.le_of_ble_eq_true rfl) (Nat.le_of_ble_eq_true rfl) dJ7_copyOf_9075b_28 (fun H locs hP hD hS => ?_)
  rw [cl0, nI_clamp (n := cap) (by omega)] at hP hD
  have hP : va_P D vwCl ([((y, .inl (G 4, cap, .inl t)) : Nat × va_E), (q1, .inl (G 4, k, .inl (va_cpy t (fun _ => 0) 0 0 cap)))] : va_W) H := hP
  have hD : va_D A ([((y, .inl (G 4, cap, .inl t)) : Nat × va_E), (q1, .inl (G 4, k, .inl (va_cpy t (fun _ => 0) 0 0 cap)))] : va_W) := hD
  refine lv_aload_n hx hb dJ7_copyOf_9075b_31 rfl (lv_at hl 0 rfl) ?_
  have hP9 := P_one hP (k := 1) rfl
  have hA9 : A q1 := hD.2 1 _ rfl
  exact W.aret (v := .ref q1) hx hb hr (Or.inr ⟨_, rfl⟩) (Or.inr ⟨_, rfl⟩) (fun t ht hW => ⟨⟨(), q1, rfl, trivial, by rw [ht]; exact hP9, D_of (by simp) (fun z hz => by rw [List.mem_singleton.mp hz]; exact hA9)⟩, hS.F ht⟩) hS.2.2 dJ7_copyOf_9075b_32
set_option maxRecDepth 100000 in
set_option maxHeartbeats 4000000 in
theorem c_J5_ensureCapacityInternal_d00df (l : Launch) (D : va_G) (G : GA) (B0 : Nat) (X : Nat → Nat → Nat) (x y cap : Nat) (t : Nat → Int32) (n : Nat) (ml : Int32) (hn : n ≤ cap) (hcap : cap ≤ 202) (hf : bF t) (nd : Nat) (h2 : nd ≤ 100) (sz : Nat) : Met l yJ5_ensureCapacityInternal_d00df (wA yJ5_ensureCapacityInternal_d00df cJ5_ensureCapacityInternal_d00df 3 none) ({ frames := 3, cells := 1, slots := 202, locals := 69 } : Room) (va_Pc [.ref x, .int (nI nd)] (LBp D G B0 X x y cap t n ml sz)) (va_Qv (fun u : BR => (∀ j, j < cap → u.2.2 j = t j) ∧ bF u.2.2 ∧ nd ≤ u.2.1 ∧ u.2.1 ≤ 202 ∧ cap ≤ u.2.1) (fun u t9 => va_P D vwCl (lb G x u.1 u.2.1 u.2.2 n ml) t9.heap ∧ va_D (va_A (lb G x y cap t n ml) sz) (lb G x u.1 u.2.1 u.2.2 n ml)) (va_A (lb G x y cap t n ml) sz)) 1 202 (va_A (lb G x y cap t n ml) sz) := by
  refine Met.ofW (cc := cJ5_ensureCapacityInternal_d00df) (maxL := 3) (ret := none) (by decide) rfl ?_
  intro p9 e s m args below meth c9 s₁ B hml hv
  obtain ⟨rfl, hsz, hP, hK, hDB, hE⟩ := hv
  have hx := B.exec
  have hb := B.bytes
  have hr := B.returns
  have hts : ∀ w9 ∈ tb, w9.before ([.ref x, .int (nI nd)] : List Value).toArray s = true := fun w9 h9 => atoms_spec (ws := (wA yJ5_ensureCapacityInternal_d00df cJ5_ensureCapacityInternal_d00df 3 none)) B.pre w9 (List.mem_cons_of_mem _ h9)
  have hown : s.vm.findClass RJ5 = some m.cls := findClass_of_methodNamed B.named
  have hlocks := B.notSynchronized
  subst hsz
  have hD := hDB.self (sz := s.heap.size)
  have hAB := A_sub hDB hE.1
  generalize hAe : va_A (lb G x y cap t n ml) s.heap.size = A at hD hAB ⊢
  have hA : ∀ q : Nat, s.heap.size ≤ q → A q := fun q h => by rw [← hAe]; exact Or.inr h
  have hS : va_S A s.heap s.heap [] := va_S.rf
  have hl := lv_entry ([.ref x, .int (nI nd)]) (n := 3) (Nat.le_of_ble_eq_true rfl)
  rw [lg_entry_eq]
  generalize (lg_sl ([.ref x, .int (nI nd)]) ++ List.replicate (3 - (lg_sl ([.ref x, .int (nI nd)])).length) Slot.unset).toArray = ls at hl ⊢
  have hl : lv_has ls 3 [(0, .ref x), (1, .int (nI nd))] := hl
  refine lv_aload_n hx hb dJ5_ensureCapacityInternal_d00df_0 rfl (lv_at hl 0 rfl) ?_
  refine va_get (D := D) (ci := 1) (v := .ref y) (C := RJ4) (T := TJ4) (N := 4) hx hb hts i_J4 hown hK hP 0 rfl rfl 0 (by decide) (hts _ kw_213) (fun _ h9 => h9) rfl dJ5_ensureCapacityInternal_d00df_1 ?_
  refine va_alen (v := nI cap) hx hb hK hP 1 4 rfl rfl rfl dJ5_ensureCapacityInternal_d00df_4 ?_
  refine lv_aload_n hx hb dJ5_ensureCapacityInternal_d00df_5 rfl (lv_at hl 0 rfl) ?_
  refine va_get (D := D) (ci := 1) (v := .int 0) (C := RJ4) (T := TJ4) (N := 4) hx hb hts i_J4 hown hK hP 0 rfl rfl 1 (by decide) (hts _ kw_214) (fun _ h9 => h9) rfl dJ5_ensureCapacityInternal_d00df_6 ?_
  refine lv_ishr hx hb dJ5_ensureCapacityInternal_d00df_9 ?_
  rw [sc_shr0 (by omega)]
  refine lv_istore_n (lv' := [(2, .int (nI cap)), (0, .ref x), (1, .int (nI nd))]) hx hb dJ5_ensureCapacityInternal_d00df_10 rfl hl (by decide) rfl (fun ls hl => ?_)
  refine lv_iload_n hx hb dJ5_ensureCapacityInternal_d00df_11 rfl (lv_at hl 2 rfl) ?_
  refine lv_iload_n hx hb dJ5_ensureCapacityInternal_d00df_12 rfl (lv_at hl 0 rfl) ?_
  refine lv_isub hx hb dJ5_ensureCapacityInternal_d00df_13 ?_
  by_cases h1 : nd ≤ cap
  · skip
    refine lv_if_le (tgt := 38) hx hb dJ5_ensureCapacityInternal_d00df_14 (by decide) (fun _ => ?_) (fun c_1 => absurd (nI_sub_le h1 (by omega)) c_1)
    refine W.widen (k := 1) (n := 202) (by omega) (by omega) ?_
    have hP9 : va_P D vwCl (lb G x y cap t n ml) s.heap := hP
    have hD9 : va_D A (lb G x y cap t n ml) := lbD hD
    exact W.vret hx hb hr (fun t8 ht hW => ⟨⟨(y, cap, t), rfl, ⟨fun _ _ => rfl, hf, h1, hcap, Nat.le_refl _⟩, by rw [ht]; exact hP9, hD9⟩, hS.F ht⟩) hS.2.2 dJ5_ensureCapacityInternal_d00df_38
  · skip
    have h1 : cap < nd := Nat.lt_of_not_le h1
    refine lv_if_le (tgt := 38) hx hb dJ5_ensureCapacityInternal_d00df_14 (by decide) (fun c_2 => absurd c_2 (nI_sub_nle h1 (by omega))) (fun _ => ?_)
    refine lv_aload_n hx hb dJ5_ensureCapacityInternal_d00df_17 rfl (lv_at hl 1 rfl) ?_
    refine lv_aload_n hx hb dJ5_ensureCapacityInternal_d00df_18 rfl (lv_at hl 1 rfl) ?_
    refine va_get (D := D) (ci := 1) (v := .ref y) (C := RJ4) (T := TJ4) (N := 4) hx hb hts i_J4 hown hK hP 0 rfl rfl 0 (by decide) (hts _ kw_213) (fun _ h9 => h9) rfl dJ5_ensureCapacityInternal_d00df_19 ?_
    refine lv_aload_n hx hb dJ5_ensureCapacityInternal_d00df_22 rfl (lv_at hl 1 rfl) ?_
    refine lv_iload_n hx hb dJ5_ensureCapacityInternal_d00df_23 rfl (lv_at hl 2 rfl) ?_
    refine vp_callSi (va_runU (As := [.int (nI nd)]) (rest := [.ref y, .ref x]) ⟨hx, hb, hml, hown, hts⟩ (c_J5_newCapacity_0f7a4 l D G B0 X x y cap t n ml (by omega) (by omega) hf nd (by omega) (by omega)) (va_cwU 1 hts (gU kw_1057 kw_1492 kwx_1 kw_1059 kw_31 kw_1060) rfl rfl rfl rfl (by decide +kernel) ⟨Nat.le_of_ble_eq_true rfl, Nat.le_of_ble_eq_true rfl⟩) (pv_lr hK hP (hE.at hS hAB)) rfl rfl hl.1 rfl (lv_room (Nat.le_of_ble_eq_true rfl)) dJ5_ensureCapacityInternal_d00df_24 ⟨Nat.le_of_ble_eq_true rfl, Nat.le_of_ble_eq_true rfl⟩).run (nm_e ?_)
    refine lv_aload_n hx hb dJ5_ensureCapacityInternal_d00df_27 rfl (lv_at hl 1 rfl) ?_
    refine va_get (D := D) (ci := 1) (v := .int 0) (C := RJ4) (T := TJ4) (N := 4) hx hb hts i_J4 hown hK hP 0 rfl rfl 1 (by decide) (hts _ kw_214) (fun _ h9 => h9) rfl dJ5_ensureCapacityInternal_d00df_28 ?_
    refine lv_ishl hx hb dJ5_ensureCapacityInternal_d00df_31 ?_
    rw [sc_shl0]
    have hFc := free_end (W := [((x, .inr (1, [.ref y, .int 0, .int (z01 ml), .int (nI n)])) : Nat × va_E)]) (c := ((y, .inl (G 4, cap, .inl t)) : Nat × va_E)) hD hS hA
    have hBc := B_end (W := [((x, .inr (1, [.ref y, .int 0, .int (z01 ml), .int (nI n)])) : Nat × va_E)]) (c := ((y, .inl (G 4, cap, .inl t)) : Nat × va_E)) hD hAB
    refine va_callr (va_runS (As := [.ref y, .int (nI (ncap cap nd))]) (rest := [.ref x]) ⟨hx, hb, hml, hown, hts⟩ (c_J7_copyOf_9075b l D G B0 X y cap t hf (ncap cap nd) ncap_ge.2 (ncap_le h1 h2) s.heap.size) (va_cwS 2 hts (gS kw_1070 kw_1071 kw_54 kw_1072) rfl rfl rfl (by decide +kernel) ⟨Nat.le_of_ble_eq_true rfl, Nat.le_of_ble_eq_true rfl⟩) (pi_mk (W := [((x, .inr (1, [.ref y, .int 0, .int (z01 ml), .int (nI n)])) : Nat × va_E)]) (c := ((y, .inl (G 4, cap, .inl t)) : Nat × va_E)) hK hP hBc (hE.at hS hAB)) rfl rfl hl.1 rfl (lv_room (Nat.le_of_ble_eq_true rfl)) dJ5_ensureCapacityInternal_d00df_32 ⟨Nat.le_of_ble_eq_true rfl, Nat.le_of_ble_eq_true rfl⟩) hS (fun q _ h => hFc q h) hFc (fun u q9 t9 H1 locs ht hvm hw hB hz1 hk1 hS => ?_)
    obtain ⟨hB1, hB2⟩ := hB
    rw [ht] at hB1
    obtain ⟨hP, hD⟩ := W_end (W := [((x, .inr (1, [.ref y, .int 0, .int (z01 ml), .int (nI n)])) : Nat × va_E)]) (q0 := ((y, .inl (G 4, cap, .inl t)) : Nat × va_E)) hP hD hFc hk1 hB1 hB2
    obtain ⟨H, rfl⟩ : ∃ z, z = H1 := ⟨_, rfl⟩
    refine va_put (D := D) (ci := 1) (v := .ref q9) (ty := .array .byte) (C := RJ4) (T := TJ4) (N := 4) hx hb hts i_J4 tyJ4 tyJ4_ok nmJ4 hown hK hP hD hS 0 rfl rfl 0 (by decide) (hts _ kw_213) (fun _ h9 => h9) rfl (by decide +kernel) rfl rfl (Nat.le_of_ble_eq_true rfl) dJ5_ensureCapacityInternal_d00df_35 (fun H locs hP hD hS => ?_)
    have hP : va_P D vwCl (lb G x q9 (ncap cap nd) (va_cpy t (fun _ => 0) 0 0 cap) n ml) H := hP
    have hD : va_D A (lb G x q9 (ncap cap nd) (va_cpy t (fun _ => 0) 0 0 cap) n ml) := hD
    refine W.widen (k := 1) (n := 202) (by omega) (by omega) ?_
    have hP9 : va_P D vwCl (lb G x q9 (ncap cap nd) (va_cpy t (fun _ => 0) 0 0 cap) n ml) H := hP
    have hD9 : va_D A (lb G x q9 (ncap cap nd) (va_cpy t (fun _ => 0) 0 0 cap) n ml) := lbD hD
    exact W.vret hx hb hr (fun t8 ht hW => ⟨⟨(q9, ncap cap nd, va_cpy t (fun _ => 0) 0 0 cap), rfl, ⟨fun j hj => cpy_at hj, bF_cpy hf, ncap_ge.1, ncap_le h1 h2, Nat.le_of_lt ncap_ge.2⟩, by rw [ht]; exact hP9, hD9⟩, hS.F ht⟩) hS.2.2 dJ5_ensureCapacityInternal_d00df_38
set_option maxRecDepth 100000 in
set_option maxHeartbeats 4000000 in
theorem c_J5_setLength_d00df (l : Launch) (D : va_G) (G : GA) (B0 : Nat) (X : Nat → Nat → Nat) (x y cap : Nat) (t : Nat → Int32) (n : Nat) (ml : Int32) (hn : n ≤ cap) (hcap : cap ≤ 202) (hf : bF t) (sz : Nat) : Met l yJ5_setLength_d00df (wA yJ5_setLength_d00df cJ5_setLength_d00df 2 none) ({ frames := 4, cells := 1, slots := 202, locals := 91 } : Room) (va_Pc [.ref x, .int 0] (LBp D G B0 X x y cap t n ml sz)) (va_Qv (fun u : BR => bF u.2.2 ∧ u.2.1 ≤ 202 ∧ cap ≤ u.2.1) (fun u t9 => va_P D vwCl (lb G x u.1 u.2.1 u.2.2 0 (if n ≤ 0 then ml else 1)) t9.heap ∧ va_D (va_A (lb G x y cap t n ml) sz) (lb G x u.1 u.2.1 u.2.2 0 (if n ≤ 0 then ml else 1))) (va_A (lb G x y cap t n ml) sz)) 1 202 (va_A (lb G x y cap t n ml) sz) := by
  refine Met.ofW (cc := cJ5_setLength_d00df) (maxL := 2) (ret := none) (by decide) rfl ?_
  intro p9 e s m args below meth c9 s₁ B hml hv
  obtain ⟨rfl, hsz, hP, hK, hDB, hE⟩ := hv
  have hx := B.exec
  have hb := B.bytes
  have hr := B.returns
  have hts : ∀ w9 ∈ tb, w9.before ([.ref x, .int 0] : List Value).toArray s = true := fun w9 h9 => atoms_spec (ws := (wA yJ5_setLength_d00df cJ5_setLength_d00df 2 none)) B.pre w9 (List.mem_cons_of_mem _ h9)
  have hown : s.vm.findClass RJ5 = some m.cls := findClass_of_methodNamed B.named
  have hlocks := B.notSynchronized
  subst hsz
  have hD := hDB.self (sz := s.heap.size)
  have hAB := A_sub hDB hE.1
  generalize hAe : va_A (lb G x y cap t n ml) s.heap.size = A at hD hAB ⊢
  have hA : ∀ q : Nat, s.heap.size ≤ q → A q := fun q h => by rw [← hAe]; exact Or.inr h
  have hS : va_S A s.heap s.heap [] := va_S.rf
  have hl := lv_entry ([.ref x, .int 0]) (n := 2) (Nat.le_of_ble_eq_true rfl)
  rw [lg_entry_eq]
  generalize (lg_sl ([.ref x, .int 0]) ++ List.replicate (2 - (lg_sl ([.ref x, .int 0])).length) Slot.unset).toArray = ls at hl ⊢
  have hl : lv_has ls 2 [(0, .ref x), (1, .int 0)] := hl
  refine lv_iload_n hx hb dJ5_setLength_d00df_0 rfl (lv_at hl 1 rfl) ?_
  refine lv_if_ge (tgt := 13) hx hb dJ5_setLength_d00df_1 (by decide) (fun _ => ?_) (fun c_1 => absurd (by decide) c_1)
  refine lv_aload_n hx hb dJ5_setLength_d00df_13 rfl (lv_at hl 0 rfl) ?_
  refine lv_iload_n hx hb dJ5_setLength_d00df_14 rfl (lv_at hl 1 rfl) ?_
  have hFc := freeC hD hS hA
  refine va_callv (va_runU (As := [.int 0]) (rest := []) ⟨hx, hb, hml, hown, hts⟩ (c_J5_ensureCapacityInternal_d00df l D G B0 X x y cap t n ml (by omega) (by omega) hf 0 (by omega) s.heap.size) (va_cwU 1 hts (gU kw_1053 kw_1491 kwx_0 kw_1055 kw_31 kw_1056) rfl rfl rfl rfl (by decide +kernel) ⟨Nat.le_of_ble_eq_true rfl, Nat.le_of_ble_eq_true rfl⟩) (pv_lb hK hP hD hAB (hE.at hS hAB)) rfl rfl hl.1 rfl (lv_room (Nat.le_of_ble_eq_true rfl)) dJ5_setLength_d00df_15 ⟨Nat.le_of_ble_eq_true rfl, Nat.le_of_ble_eq_true rfl⟩) hS (fun q _ h => hFc q h) hFc (fun u2 t9 H locs ht hvm hw hB hz1 hk1 hS => ?_)
  obtain ⟨hB, hB2⟩ := hB
  rw [ht] at hB
  obtain ⟨f2_0, f2_1, f2_2, f2_3, f2_4⟩ := hw
  have hP : va_P D vwCl (lb G x u2.1 u2.2.1 u2.2.2 n ml) H := hB
  have hD : va_D A (lb G x u2.1 u2.2.1 u2.2.2 n ml) := hB2.weaken (fun _ _ _ h9 => hFc _ h9)
  refine lv_aload_n hx hb dJ5_setLength_d00df_18 rfl (lv_at hl 0 rfl) ?_
  refine va_get (D := D) (ci := 1) (v := .int (nI n)) (C := RJ4) (T := TJ4) (N := 4) hx hb hts i_J4 hown hK hP 0 rfl rfl 3 (by decide) (hts _ kw_217) (fun _ h9 => h9) rfl dJ5_setLength_d00df_19 ?_
  refine lv_iload_n hx hb dJ5_setLength_d00df_22 rfl (lv_at hl 1 rfl) ?_
  refine lv_icmp_ge (tgt := 63) hx hb dJ5_setLength_d00df_23 (by decide) (fun _ => ?_) (fun c_3 => absurd (nI_le (a := 0) (b := n) (by omega) (by omega)) c_3)
  refine lv_aload_n hx hb dJ5_setLength_d00df_63 rfl (lv_at hl 0 rfl) ?_
  refine va_get (D := D) (ci := 1) (v := .int (nI n)) (C := RJ4) (T := TJ4) (N := 4) hx hb hts i_J4 hown hK hP 0 rfl rfl 3 (by decide) (hts _ kw_217) (fun _ h9 => h9) rfl dJ5_setLength_d00df_64 ?_
  refine lv_iload_n hx hb dJ5_setLength_d00df_67 rfl (lv_at hl 1 rfl) ?_
  refine lv_icmp_le (tgt := 76) hx hb dJ5_setLength_d00df_68 (by decide) (fun c_4 => ?_) (fun c_4 => ?_)
  · skip
    have d_5 : n ≤ 0 := (nI_leI (a := n) (b := 0) (by omega) (by omega)).mp c_4
    refine lv_aload_n hx hb dJ5_setLength_d00df_76 rfl (lv_at hl 0 rfl) ?_
    refine lv_iload_n hx hb dJ5_setLength_d00df_77 rfl (lv_at hl 1 rfl) ?_
    refine va_put (D := D) (ci := 1) (v := .int 0) (ty := .int) (C := RJ4) (T := TJ4) (N := 4) hx hb hts i_J4 tyJ4 tyJ4_ok nmJ4 hown hK hP hD hS 0 rfl rfl 3 (by decide) (hts _ kw_217) (fun _ h9 => h9) rfl (by decide +kernel) rfl rfl (Nat.le_of_ble_eq_true rfl) dJ5_setLength_d00df_78 (fun H locs hP hD hS => ?_)
    have hP : va_P D vwCl (lb G x u2.1 u2.2.1 u2.2.2 0 ml) H := hP
    have hD : va_D A (lb G x u2.1 u2.2.1 u2.2.2 0 ml) := hD
    refine W.widen (k := 1) (n := 202) (by omega) (by omega) ?_
    have hP9 : va_P D vwCl (lb G x u2.1 u2.2.1 u2.2.2 0 (if n ≤ 0 then ml else 1)) H := by rw [if_pos d_5]; exact hP
    have hD9 : va_D A (lb G x u2.1 u2.2.1 u2.2.2 0 (if n ≤ 0 then ml else 1)) := lbD hD
    exact W.vret hx hb hr (fun t8 ht hW => ⟨⟨(u2.1, u2.2.1, u2.2.2), rfl, ⟨f2_1, f2_3, f2_4⟩, by rw [ht]; exact hP9, hD9⟩, hS.F ht⟩) hS.2.2 dJ5_setLength_d00df_81
  · skip
    have d_5 : ¬ n ≤ 0 := fun h9 => c_4 (nI_le (a := n) (b := 0) h9 (by omega))
    refine lv_aload_n hx hb dJ5_setLength_d00df_71 rfl (lv_at hl 0 rfl) ?_
    refine lv_iconst (v := 1) hx hb dJ5_setLength_d00df_72 (by decide) ?_
    refine va_put (D := D) (ci := 1) (v := .int 1) (ty := .boolean) (C := RJ4) (T := TJ4) (N := 4) hx hb hts i_J4 tyJ4 tyJ4_ok nmJ4 hown hK hP hD hS 0 rfl rfl 2 (by decide) (hts _ kw_215) (fun _ h9 => h9) rfl (by decide +kernel) (by decide) (by decide) (Nat.le_of_ble_eq_true rfl) dJ5_setLength_d00df_73 (fun H locs hP hD hS => ?_)
    have hP : va_P D vwCl (lb G x u2.1 u2.2.1 u2.2.2 n 1) H := hP
    have hD : va_D A (lb G x u2.1 u2.2.1 u2.2.2 n 1) := hD
    refine lv_aload_n hx hb dJ5_setLength_d00df_76 rfl (lv_at hl 0 rfl) ?_
    refine lv_iload_n hx hb dJ5_setLength_d00df_77 rfl (lv_at hl 1 rfl) ?_
    refine va_put (D := D) (ci := 1) (v := .int 0) (ty := .int) (C := RJ4) (T := TJ4) (N := 4) hx hb hts i_J4 tyJ4 tyJ4_ok nmJ4 hown hK hP hD hS 0 rfl rfl 3 (by decide) (hts _ kw_217) (fun _ h9 => h9) rfl (by decide +kernel) rfl rfl (Nat.le_of_ble_eq_true rfl) dJ5_setLength_d00df_78 (fun H locs hP hD hS => ?_)
    have hP : va_P D vwCl (lb G x u2.1 u2.2.1 u2.2.2 0 1) H := hP
    have hD : va_D A (lb G x u2.1 u2.2.1 u2.2.2 0 1) := hD
    refine W.widen (k := 1) (n := 202) (by omega) (by omega) ?_
    have hP9 : va_P D vwCl (lb G x u2.1 u2.2.1 u2.2.2 0 (if n ≤ 0 then ml else 1)) H := by rw [if_neg d_5]; exact hP
    have hD9 : va_D A (lb G x u2.1 u2.2.1 u2.2.2 0 (if n ≤ 0 then ml else 1)) := lbD hD
    exact W.vret hx hb hr (fun t8 ht hW => ⟨⟨(u2.1, u2.2.1, u2.2.2), rfl, ⟨f2_1, f2_3, f2_4⟩, by rw [ht]; exact hP9, hD9⟩, hS.F ht⟩) hS.2.2 dJ5_setLength_d00df_81
set_option maxRecDepth 100000 in
set_option maxHeartbeats 4000000 in
theorem c_J4_setLength_d00df (l : Launch) (D : va_G) (G : GA) (B0 : Nat) (X : Nat → Nat → Nat) (x y cap : Nat) (t : Nat → Int32) (n : Nat) (ml : Int32) (hn : n ≤ cap) (hcap : cap ≤ 202) (hf : bF t) (sz : Nat) : Met l yJ4_setLength_d00df (wA yJ4_setLength_d00df cJ4_setLength_d00df 2 none) ({ frames := 5, cells := 1, slots := 202, locals := 112 } : Room) (va_Pc [.ref x, .int 0] (LBp D G B0 X x y cap t n ml sz)) (va_Qv (fun u : BR => bF u.2.2 ∧ u.2.1 ≤ 202 ∧ cap ≤ u.2.1) (fun u t9 => va_P D vwCl (lb G x u.1 u.2.1 u.2.2 0 (if n ≤ 0 then ml else 1)) t9.heap ∧ va_D (va_A (lb G x y cap t n ml) sz) (lb G x u.1 u.2.1 u.2.2 0 (if n ≤ 0 then ml else 1))) (va_A (lb G x y cap t n ml) sz)) 1 202 (va_A (lb G x y cap t n ml) sz) := by
  refine Met.ofW (cc := cJ4_setLength_d00df) (maxL := 2) (ret := none) (by decide) rfl ?_
  intro p9 e s m args below meth c9 s₁ B hml hv
  obtain ⟨rfl, hsz, hP, hK, hDB, hE⟩ := hv
  have hx := B.exec
  have hb := B.bytes
  have hr := B.returns
  have hts : ∀ w9 ∈ tb, w9.before ([.ref x, .int 0] : List Value).toArray s = true := fun w9 h9 => atoms_spec (ws := (wA yJ4_setLength_d00df cJ4_setLength_d00df 2 none)) B.pre w9 (List.mem_cons_of_mem _ h9)
  have hown : s.vm.findClass RJ4 = some m.cls := findClass_of_methodNamed B.named
  have hlocks := B.notSynchronized
  subst hsz
  have hD := hDB.self (sz := s.heap.size)
  have hAB := A_sub hDB hE.1
  generalize hAe : va_A (lb G x y cap t n ml) s.heap.size = A at hD hAB ⊢
  have hA : ∀ q : Nat, s.heap.size ≤ q → A q := fun q h => by rw [← hAe]; exact Or.inr h
  have hS : va_S A s.heap s.heap [] := va_S.rf
  have hl := lv_entry ([.ref x, .int 0]) (n := 2) (Nat.le_of_ble_eq_true rfl)
  rw [lg_entry_eq]
  generalize (lg_sl ([.ref x, .int 0]) ++ List.replicate (2 - (lg_sl ([.ref x, .int 0])).length) Slot.unset).toArray = ls at hl ⊢
  have hl : lv_has ls 2 [(0, .ref x), (1, .int 0)] := hl
  refine lv_aload_n hx hb dJ4_setLength_d00df_0 rfl (lv_at hl 0 rfl) ?_
  refine lv_iload_n hx hb dJ4_setLength_d00df_1 rfl (lv_at hl 1 rfl) ?_
  have hFc := freeC hD hS hA
  refine va_callv (va_runSU (As := [.int 0]) (rest := []) (hK.1 1 _ rfl).2 ⟨hx, hb, hml, hown, hts⟩ (c_J5_setLength_d00df l D G B0 X x y cap t n ml (by omega) (by omega) hf s.heap.size) (va_cwSU 1 hts (gSU kw_1031 kw_1488 kw_226 kw_1032 kw_31 kw_1033) rfl rfl rfl (by decide +kernel) ⟨Nat.le_of_ble_eq_true rfl, Nat.le_of_ble_eq_true rfl⟩) (pv_lb hK hP hD hAB (hE.at hS hAB)) rfl rfl hl.1 rfl (lv_room (Nat.le_of_ble_eq_true rfl)) dJ4_setLength_d00df_2 ⟨Nat.le_of_ble_eq_true rfl, Nat.le_of_ble_eq_true rfl⟩) hS (fun q _ h => hFc q h) hFc (fun u1 t9 H locs ht hvm hw hB hz1 hk1 hS => ?_)
  obtain ⟨hB, hB2⟩ := hB
  rw [ht] at hB
  obtain ⟨f1_0, f1_1, f1_2⟩ := hw
  have hP : va_P D vwCl (lb G x u1.1 u1.2.1 u1.2.2 0 (if n ≤ 0 then ml else 1)) H := hB
  have hD : va_D A (lb G x u1.1 u1.2.1 u1.2.2 0 (if n ≤ 0 then ml else 1)) := hB2.weaken (fun _ _ _ h9 => hFc _ h9)
  refine W.widen (k := 1) (n := 202) (by omega) (by omega) ?_
  have hP9 : va_P D vwCl (lb G x u1.1 u1.2.1 u1.2.2 0 (if n ≤ 0 then ml else 1)) H := hP
  have hD9 : va_D A (lb G x u1.1 u1.2.1 u1.2.2 0 (if n ≤ 0 then ml else 1)) := lbD hD
  exact W.vret hx hb hr (fun t8 ht hW => ⟨⟨(u1.1, u1.2.1, u1.2.2), rfl, ⟨f1_0, f1_1, f1_2⟩, by rw [ht]; exact hP9, hD9⟩, hS.F ht⟩) hS.2.2 dJ4_setLength_d00df_5
set_option maxRecDepth 100000 in
set_option maxHeartbeats 4000000 in
theorem c_J1_canEncode_fc78d (l : Launch)  (ch : Int32) (h1 : ¬ 255 < ch) : Met l yJ1_canEncode_fc78d (wA yJ1_canEncode_fc78d cJ1_canEncode_fc78d 1 (some .boolean)) ({ frames := 0, cells := 0, slots := 0, locals := 0 } : Room) (va_Pc [.int ch] (JZp)) (vp_Si (fun r => r = 1)) 0 0 (fun _ => False) := by
  refine Met.ofW (cc := cJ1_canEncode_fc78d) (maxL := 1) (ret := (some .boolean)) (by decide) rfl ?_
  intro p e s m args below meth c s₁ B hml hv
  obtain ⟨rfl, hZ⟩ := hv
  have hx := B.exec
  have hb := B.bytes
  have hr := B.returns
  have hts : ∀ w9 ∈ tb, w9.before ([.int ch] : List Value).toArray s = true := fun w9 h9 => atoms_spec (ws := (wA yJ1_canEncode_fc78d cJ1_canEncode_fc78d 1 (some .boolean))) B.pre w9 (List.mem_cons_of_mem _ h9)
  have hown : s.vm.findClass RJ1 = some m.cls := findClass_of_methodNamed B.named
  have hlocks := B.notSynchronized
  have hl := lv_entry ([.int ch]) (n := 1) (Nat.le_of_ble_eq_true rfl)
  rw [lg_entry_eq]
  generalize (lg_sl ([.int ch]) ++ List.replicate (1 - (lg_sl ([.int ch])).length) Slot.unset).toArray = ls at hl ⊢
  have hl : lv_has ls 1 [(0, .int ch)] := hl
  refine lv_iload_n hx hb dJ1_canEncode_fc78d_0 rfl (lv_at hl 0 rfl) ?_
  refine lv_sipush (v := 255) hx hb dJ1_canEncode_fc78d_1 (by decide) ?_
  refine lv_icmp_gt (tgt := 11) hx hb dJ1_canEncode_fc78d_4 (by decide) (fun c_1 => absurd c_1 h1) (fun _ => ?_)
  refine lv_iconst (v := 1) hx hb dJ1_canEncode_fc78d_7 (by decide) ?_
  refine lv_goto (tgt := 12) hx hb dJ1_canEncode_fc78d_8 (by decide) ?_
  exact W.zret (ty := .boolean) (v := 1) hx hb hr (by decide) (fun t ht hW => ⟨_, rfl, rfl, ht⟩) (fun q h => absurd h List.not_mem_nil) dJ1_canEncode_fc78d_12
set_option maxRecDepth 100000 in
set_option maxHeartbeats 4000000 in
theorem c_J5_append_3fe6f (l : Launch) (D : va_G) (G : GA) (B0 : Nat) (X : Nat → Nat → Nat) (x y cap : Nat) (t : Nat → Int32) (n : Nat) (ml : Int32) (hn : n ≤ cap) (hcap : cap ≤ 202) (hf : bF t) (ch : Int32) (h1 : ¬ 255 < ch) (h2 : ch.toInt8.toInt32 = ch) (h3 : vp_nar .byte ch = ch) (h4 : fits .byte (.int ch) = true) (h5 : n + 1 ≤ 100) (sz : Nat) : Met l yJ5_append_3fe6f (wA yJ5_append_3fe6f cJ5_append_3fe6f 2 (some (.object "java/lang/AbstractStringBuilder"))) ({ frames := 4, cells := 1, slots := 202, locals := 91 } : Room) (va_Pc [.ref x, .int ch] (LBp D G B0 X x y cap t n ml sz)) (va_Qr (fun u : BR => (∀ j, j < n → u.2.2 j = t j) ∧ u.2.2 n = ch ∧ bF u.2.2 ∧ n + 1 ≤ u.2.1 ∧ u.2.1 ≤ 202) (fun u q9 t9 => q9 = x ∧ va_P D vwCl (lb G x u.1 u.2.1 u.2.2 (n + 1) ml) t9.heap ∧ va_D (va_A (lb G x y cap t n ml) sz) (lb G x u.1 u.2.1 u.2.2 (n + 1) ml)) (va_A (lb G x y cap t n ml) sz)) 1 202 (va_A (lb G x y cap t n ml) sz) := by
  refine Met.ofW (cc := cJ5_append_3fe6f) (maxL := 2) (ret := (some (.object "java/lang/AbstractStringBuilder"))) (by decide) rfl ?_
  intro p9 e s m args below meth c9 s₁ B hml hv
  obtain ⟨rfl, hsz, hP, hK, hDB, hE⟩ := hv
  have hx := B.exec
  have hb := B.bytes
  have hr := B.returns
  have hts : ∀ w9 ∈ tb, w9.before ([.ref x, .int ch] : List Value).toArray s = true := fun w9 h9 => atoms_spec (ws := (wA yJ5_append_3fe6f cJ5_append_3fe6f 2 (some (.object "java/lang/AbstractStringBuilder")))) B.pre w9 (List.mem_cons_of_mem _ h9)
  have hown : s.vm.findClass RJ5 = some m.cls := findClass_of_methodNamed B.named
  have hlocks := B.notSynchronized
  subst hsz
  have hD := hDB.self (sz := s.heap.size)
  have hAB := A_sub hDB hE.1
  generalize hAe : va_A (lb G x y cap t n ml) s.heap.size = A at hD hAB ⊢
  have hA : ∀ q : Nat, s.heap.size ≤ q → A q := fun q h => by rw [← hAe]; exact Or.inr h
  have hS : va_S A s.heap s.heap [] := va_S.rf
  have hl := lv_entry ([.ref x, .int ch]) (n := 2) (Nat.le_of_ble_eq_true rfl)
  rw [lg_entry_eq]
  generalize (lg_sl ([.ref x, .int ch]) ++ List.replicate (2 - (lg_sl ([.ref x, .int ch])).length) Slot.unset).toArray = ls at hl ⊢
  have hl : lv_has ls 2 [(0, .ref x), (1, .int ch)] := hl
  refine lv_aload_n hx hb dJ5_append_3fe6f_0 rfl (lv_at hl 0 rfl) ?_
  refine lv_aload_n hx hb dJ5_append_3fe6f_1 rfl (lv_at hl 0 rfl) ?_
  refine va_get (D := D) (ci := 1) (v := .int (nI n)) (C := RJ4) (T := TJ4) (N := 4) hx hb hts i_J4 hown hK hP 0 rfl rfl 3 (by decide) (hts _ kw_217) (fun _ h9 => h9) rfl dJ5_append_3fe6f_2 ?_
  refine lv_iconst (v := 1) hx hb dJ5_append_3fe6f_5 (by decide) ?_
  refine lv_iadd hx hb dJ5_append_3fe6f_6 ?_
  rw [nI_1 n]
  have hFc := freeC hD hS hA
  refine va_callv (va_runU (As := [.int (nI (n + 1))]) (rest := []) ⟨hx, hb, hml, hown, hts⟩ (c_J5_ensureCapacityInternal_d00df l D G B0 X x y cap t n ml (by omega) (by omega) hf (n + 1) (by omega) s.heap.size) (va_cwU 1 hts (gU kw_1053 kw_1491 kwx_0 kw_1055 kw_31 kw_1056) rfl rfl rfl rfl (by decide +kernel) ⟨Nat.le_of_ble_eq_true rfl, Nat.le_of_ble_eq_true rfl⟩) (pv_lb hK hP hD hAB (hE.at hS hAB)) rfl rfl hl.1 rfl (lv_room (Nat.le_of_ble_eq_true rfl)) dJ5_append_3fe6f_7 ⟨Nat.le_of_ble_eq_true rfl, Nat.le_of_ble_eq_true rfl⟩) hS (fun q _ h => hFc q h) hFc (fun u1 t9 H locs ht hvm hw hB hz1 hk1 hS => ?_)
  obtain ⟨hB, hB2⟩ := hB
  rw [ht] at hB
  obtain ⟨f1_0, f1_1, f1_2, f1_3, f1_4⟩ := hw
  have hP : va_P D vwCl (lb G x u1.1 u1.2.1 u1.2.2 n ml) H := hB
  have hD : va_D A (lb G x u1.1 u1.2.1 u1.2.2 n ml) := hB2.weaken (fun _ _ _ h9 => hFc _ h9)
  refine lv_aload_n hx hb dJ5_append_3fe6f_10 rfl (lv_at hl 0 rfl) ?_
  refine vp_callSi (va_runU (As := []) (rest := []) ⟨hx, hb, hml, hown, hts⟩ (c_J5_isLatin1_aae02 l D G B0 X x u1.1 u1.2.1 u1.2.2 n ml (by omega) (by omega) f1_1) (va_cwU 0 hts (gU kw_1084 kw_1086 kw_1087 kw_1085 kw_31 kw_1088) rfl rfl rfl rfl (by decide +kernel) ⟨Nat.le_of_ble_eq_true rfl, Nat.le_of_ble_eq_true rfl⟩) (pv_lr hK hP (hE.at hS hAB)) rfl rfl hl.1 rfl (lv_room (Nat.le_of_ble_eq_true rfl)) dJ5_append_3fe6f_11 ⟨Nat.le_of_ble_eq_true rfl, Nat.le_of_ble_eq_true rfl⟩).run (nm_e ?_)
  refine lv_if_eq (tgt := 45) hx hb dJ5_append_3fe6f_14 (by decide) (fun c_2 => absurd c_2 (by decide)) (fun _ => ?_)
  refine lv_iload_n hx hb dJ5_append_3fe6f_17 rfl (lv_at hl 1 rfl) ?_
  refine vp_callSi (va_runS (As := [.int ch]) (rest := []) ⟨hx, hb, hml, hown, hts⟩ (c_J1_canEncode_fc78d l ch h1) (va_cwS 1 hts (gS kw_1269 kw_1270 kw_44 kw_1271) rfl rfl rfl (by decide +kernel) ⟨Nat.le_of_ble_eq_true rfl, Nat.le_of_ble_eq_true rfl⟩) (ps_z (JZ.of (hE.at hS hAB))) rfl rfl hl.1 rfl (lv_room (Nat.le_of_ble_eq_true rfl)) dJ5_append_3fe6f_18 ⟨Nat.le_of_ble_eq_true rfl, Nat.le_of_ble_eq_true rfl⟩).run (nm_e ?_)
  refine lv_if_eq (tgt := 45) hx hb dJ5_append_3fe6f_21 (by decide) (fun c_3 => absurd c_3 (by decide)) (fun _ => ?_)
  refine lv_aload_n hx hb dJ5_append_3fe6f_24 rfl (lv_at hl 0 rfl) ?_
  refine va_get (D := D) (ci := 1) (v := .ref u1.1) (C := RJ4) (T := TJ4) (N := 4) hx hb hts i_J4 hown hK hP 0 rfl rfl 0 (by decide) (hts _ kw_213) (fun _ h9 => h9) rfl dJ5_append_3fe6f_25 ?_
  refine lv_aload_n hx hb dJ5_append_3fe6f_28 rfl (lv_at hl 0 rfl) ?_
  refine lv_dup hx hb dJ5_append_3fe6f_29 rfl ?_
  refine va_get (D := D) (ci := 1) (v := .int (nI n)) (C := RJ4) (T := TJ4) (N := 4) hx hb hts i_J4 hown hK hP 0 rfl rfl 3 (by decide) (hts _ kw_217) (fun _ h9 => h9) rfl dJ5_append_3fe6f_30 ?_
  refine lv_dup_x1 hx hb dJ5_append_3fe6f_33 rfl rfl ?_
  refine lv_iconst (v := 1) hx hb dJ5_append_3fe6f_34 (by decide) ?_
  refine lv_iadd hx hb dJ5_append_3fe6f_35 ?_
  rw [nI_1 n]
  refine va_put (D := D) (ci := 1) (v := .int (nI (n + 1))) (ty := .int) (C := RJ4) (T := TJ4) (N := 4) hx hb hts i_J4 tyJ4 tyJ4_ok nmJ4 hown hK hP hD hS 0 rfl rfl 3 (by decide) (hts _ kw_217) (fun _ h9 => h9) rfl (by decide +kernel) rfl rfl (Nat.le_of_ble_eq_true rfl) dJ5_append_3fe6f_36 (fun H locs hP hD hS => ?_)
  have hP : va_P D vwCl (lb G x u1.1 u1.2.1 u1.2.2 (n + 1) ml) H := hP
  have hD : va_D A (lb G x u1.1 u1.2.1 u1.2.2 (n + 1) ml) := hD
  refine lv_iload_n hx hb dJ5_append_3fe6f_39 rfl (lv_at hl 1 rfl) ?_
  refine lv_i2b (v := ch) hx hb dJ5_append_3fe6f_40 h2 ?_
  refine va_bast hx hb hK hP hD hS 1 4 rfl rfl (vp_in_nI (n := n) (by omega) (by omega)) dJ5_append_3fe6f_41 (fun H locs hP hD hS => ?_)
  rw [nI_clamp (n := n) (by omega), h3] at hP hD
  have hP : va_P D vwCl (lb G x u1.1 u1.2.1 (upd u1.2.2 n ch) (n + 1) ml) H := hP
  have hD : va_D A (lb G x u1.1 u1.2.1 (upd u1.2.2 n ch) (n + 1) ml) := hD
  refine lv_goto (tgt := 75) hx hb dJ5_append_3fe6f_42 (by decide) ?_
  refine lv_aload_n hx hb dJ5_append_3fe6f_75 rfl (lv_at hl 0 rfl) ?_
  refine W.widen (k := 1) (n := 202) (by omega) (by omega) ?_
  have hP9 : va_P D vwCl (lb G x u1.1 u1.2.1 (upd u1.2.2 n ch) (n + 1) ml) H := hP
  have hD9 : va_D A (lb G x u1.1 u1.2.1 (upd u1.2.2 n ch) (n + 1) ml) := lbD hD
  exact W.aret (v := .ref x) hx hb hr (Or.inl ⟨_, rfl⟩) (Or.inr ⟨_, rfl⟩) (fun t8 ht hW => ⟨⟨(u1.1, u1.2.1, upd u1.2.2 n ch), x, rfl, ⟨fun j hj => (pk_un (by omega)).trans (f1_0 j (by omega)), pk_us, bF_upd f1_1 h4, f1_2, f1_3⟩, rfl, by rw [ht]; exact hP9, hD9⟩, hS.F ht⟩) hS.2.2 dJ5_append_3fe6f_76
set_option maxRecDepth 100000 in
set_option maxHeartbeats 4000000 in
theorem c_J4_append_cf468 (l : Launch) (D : va_G) (G : GA) (B0 : Nat) (X : Nat → Nat → Nat) (x y cap : Nat) (t : Nat → Int32) (n : Nat) (ml : Int32) (hn : n ≤ cap) (hcap : cap ≤ 202) (hf : bF t) (ch : Int32) (h1 : ¬ 255 < ch) (h2 : ch.toInt8.toInt32 = ch) (h3 : vp_nar .byte ch = ch) (h4 : fits .byte (.int ch) = true) (h5 : n + 1 ≤ 100) (sz : Nat) : Met l yJ4_append_cf468 (wA yJ4_append_cf468 cJ4_append_cf468 2 (some (.object "java/lang/StringBuilder"))) ({ frames := 5, cells := 1, slots := 202, locals := 112 } : Room) (va_Pc [.ref x, .int ch] (LBp D G B0 X x y cap t n ml sz)) (va_Qr (fun u : BR => (∀ j, j < n → u.2.2 j = t j) ∧ u.2.2 n = ch ∧ bF u.2.2 ∧ n + 1 ≤ u.2.1 ∧ u.2.1 ≤ 202) (fun u q9 t9 => q9 = x ∧ va_P D vwCl (lb G x u.1 u.2.1 u.2.2 (n + 1) ml) t9.heap ∧ va_D (va_A (lb G x y cap t n ml) sz) (lb G x u.1 u.2.1 u.2.2 (n + 1) ml)) (va_A (lb G x y cap t n ml) sz)) 1 202 (va_A (lb G x y cap t n ml) sz) := by
  refine Met.ofW (cc := cJ4_append_cf468) (maxL := 2) (ret := (some (.object "java/lang/StringBuilder"))) (by decide) rfl ?_
  intro p9 e s m args below meth c9 s₁ B hml hv
  obtain ⟨rfl, hsz, hP, hK, hDB, hE⟩ := hv
  have hx := B.exec
  have hb := B.bytes
  have hr := B.returns
  have hts : ∀ w9 ∈ tb, w9.before ([.ref x, .int ch] : List Value).toArray s = true := fun w9 h9 => atoms_spec (ws := (wA yJ4_append_cf468 cJ4_append_cf468 2 (some (.object "java/lang/StringBuilder")))) B.pre w9 (List.mem_cons_of_mem _ h9)
  have hown : s.vm.findClass RJ4 = some m.cls := findClass_of_methodNamed B.named
  have hlocks := B.notSynchronized
  subst hsz
  have hD := hDB.self (sz := s.heap.size)
  have hAB := A_sub hDB hE.1
  generalize hAe : va_A (lb G x y cap t n ml) s.heap.size = A at hD hAB ⊢
  have hA : ∀ q : Nat, s.heap.size ≤ q → A q := fun q h => by rw [← hAe]; exact Or.inr h
  have hS : va_S A s.heap s.heap [] := va_S.rf
  have hl := lv_entry ([.ref x, .int ch]) (n := 2) (Nat.le_of_ble_eq_true rfl)
  rw [lg_entry_eq]
  generalize (lg_sl ([.ref x, .int ch]) ++ List.replicate (2 - (lg_sl ([.ref x, .int ch])).length) Slot.unset).toArray = ls at hl ⊢
  have hl : lv_has ls 2 [(0, .ref x), (1, .int ch)] := hl
  refine lv_aload_n hx hb dJ4_append_cf468_0 rfl (lv_at hl 0 rfl) ?_
  refine lv_iload_n hx hb dJ4_append_cf468_1 rfl (lv_at hl 1 rfl) ?_
  have hFc := freeC hD hS hA
  refine va_callr (va_runSU (As := [.int ch]) (rest := []) (hK.1 1 _ rfl).2 ⟨hx, hb, hml, hown, hts⟩ (c_J5_append_3fe6f l D G B0 X x y cap t n ml (by omega) (by omega) hf ch h1 h2 h3 h4 (by omega) s.heap.size) (va_cwSU 1 hts (gSU kw_1266 kw_1497 kw_226 kw_1267 kw_31 kw_1268) rfl rfl rfl (by decide +kernel) ⟨Nat.le_of_ble_eq_true rfl, Nat.le_of_ble_eq_true rfl⟩) (pv_lb hK hP hD hAB (hE.at hS hAB)) rfl rfl hl.1 rfl (lv_room (Nat.le_of_ble_eq_true rfl)) dJ4_append_cf468_2 ⟨Nat.le_of_ble_eq_true rfl, Nat.le_of_ble_eq_true rfl⟩) hS (fun q _ h => hFc q h) hFc (fun u1 q9 t9 H locs ht hvm hw hB hz1 hk1 hS => ?_)
  obtain ⟨e9, hB, hB2⟩ := hB
  have e9 := e9.symm
  subst e9
  rw [ht] at hB
  obtain ⟨f1_0, f1_1, f1_2, f1_3, f1_4⟩ := hw
  have hP : va_P D vwCl (lb G x u1.1 u1.2.1 u1.2.2 (n + 1) ml) H := hB
  have hD : va_D A (lb G x u1.1 u1.2.1 u1.2.2 (n + 1) ml) := hB2.weaken (fun _ _ _ h9 => hFc _ h9)
  refine lv_pop hx hb dJ4_append_cf468_5 rfl ?_
  refine lv_aload_n hx hb dJ4_append_cf468_6 rfl (lv_at hl 0 rfl) ?_
  refine W.widen (k := 1) (n := 202) (by omega) (by omega) ?_
  have hP9 : va_P D vwCl (lb G x u1.1 u1.2.1 u1.2.2 (n + 1) ml) H := hP
  have hD9 : va_D A (lb G x u1.1 u1.2.1 u1.2.2 (n + 1) ml) := lbD hD
  exact W.aret (v := .ref x) hx hb hr (Or.inl ⟨_, rfl⟩) (Or.inr ⟨_, rfl⟩) (fun t8 ht hW => ⟨⟨(u1.1, u1.2.1, u1.2.2), x, rfl, ⟨f1_0, f1_1, f1_2, f1_3, f1_4⟩, rfl, by rw [ht]; exact hP9, hD9⟩, hS.F ht⟩) hS.2.2 dJ4_append_cf468_7
set_option maxRecDepth 100000 in
set_option maxHeartbeats 4000000 in
theorem c_J6_stringSize_0f7a4 (l : Launch)  (k : Nat) (h1 : k < 100) : Met l yJ6_stringSize_0f7a4 (wA yJ6_stringSize_0f7a4 cJ6_stringSize_0f7a4 4 (some .int)) ({ frames := 0, cells := 0, slots := 0, locals := 0 } : Room) (va_Pc [.int (nI k)] (JZp)) (vp_Si (fun r => r = nI (dg k))) 0 0 (fun _ => False) := by
  refine Met.ofW (cc := cJ6_stringSize_0f7a4) (maxL := 4) (ret := (some .int)) (by decide) rfl ?_
  intro p e s m args below meth c s₁ B hml hv
  obtain ⟨rfl, hZ⟩ := hv
  have hx := B.exec
  have hb := B.bytes
  have hr := B.returns
  have hts : ∀ w9 ∈ tb, w9.before ([.int (nI k)] : List Value).toArray s = true := fun w9 h9 => atoms_spec (ws := (wA yJ6_stringSize_0f7a4 cJ6_stringSize_0f7a4 4 (some .int))) B.pre w9 (List.mem_cons_of_mem _ h9)
  have hown : s.vm.findClass RJ6 = some m.cls := findClass_of_methodNamed B.named
  have hlocks := B.notSynchronized
  have hl := lv_entry ([.int (nI k)]) (n := 4) (Nat.le_of_ble_eq_true rfl)
  rw [lg_entry_eq]
  generalize (lg_sl ([.int (nI k)]) ++ List.replicate (4 - (lg_sl ([.int (nI k)])).length) Slot.unset).toArray = ls at hl ⊢
  have hl : lv_has ls 4 [(0, .int (nI k))] := hl
  refine lv_iconst (v := 1) hx hb dJ6_stringSize_0f7a4_0 (by decide) ?_
  refine lv_istore_n (lv' := [(1, .int 1), (0, .int (nI k))]) hx hb dJ6_stringSize_0f7a4_1 rfl hl (by decide) rfl (fun ls hl => ?_)
  refine lv_iload_n hx hb dJ6_stringSize_0f7a4_2 rfl (lv_at hl 1 rfl) ?_
  refine lv_if_lt (tgt := 11) hx hb dJ6_stringSize_0f7a4_3 (by decide) (fun c_1 => absurd c_1 (nI_pos (n := k) (by omega))) (fun _ => ?_)
  refine lv_iconst (v := 0) hx hb dJ6_stringSize_0f7a4_6 (by decide) ?_
  refine lv_istore_n (lv' := [(1, .int 0), (0, .int (nI k))]) hx hb dJ6_stringSize_0f7a4_7 rfl hl (by decide) rfl (fun ls hl => ?_)
  refine lv_iload_n hx hb dJ6_stringSize_0f7a4_8 rfl (lv_at hl 1 rfl) ?_
  refine lv_ineg hx hb dJ6_stringSize_0f7a4_9 ?_
  refine lv_istore_n (lv' := [(0, .int (-(nI k))), (1, .int 0)]) hx hb dJ6_stringSize_0f7a4_10 rfl hl (by decide) rfl (fun ls hl => ?_)
  refine lv_bipush (v := -10) hx hb dJ6_stringSize_0f7a4_11 (by decide) ?_
  refine lv_istore_n (lv' := [(2, .int (-10)), (0, .int (-(nI k))), (1, .int 0)]) hx hb dJ6_stringSize_0f7a4_13 rfl hl (by decide) rfl (fun ls hl => ?_)
  refine lv_iconst (v := 1) hx hb dJ6_stringSize_0f7a4_14 (by decide) ?_
  refine lv_istore_n (lv' := [(3, .int 1), (2, .int (-10)), (0, .int (-(nI k))), (1, .int 0)]) hx hb dJ6_stringSize_0f7a4_15 rfl hl (by decide) rfl (fun ls hl => ?_)
  refine lv_iload_n hx hb dJ6_stringSize_0f7a4_16 rfl (lv_at hl 0 rfl) ?_
  refine lv_bipush (v := 10) hx hb dJ6_stringSize_0f7a4_17 (by decide) ?_
  refine lv_icmp_ge (tgt := 42) hx hb dJ6_stringSize_0f7a4_19 (by decide) (fun c_2 => absurd c_2 (by decide)) (fun _ => ?_)
  refine lv_iload_n hx hb dJ6_stringSize_0f7a4_22 rfl (lv_at hl 2 rfl) ?_
  refine lv_iload_n hx hb dJ6_stringSize_0f7a4_23 rfl (lv_at hl 1 rfl) ?_
  refine lv_icmp_le (tgt := 31) hx hb dJ6_stringSize_0f7a4_24 (by decide) (fun c1 => ?_) (fun c1 => ?_)
  · skip
    have c2 : ¬ k < 10 := by have := (ng_10 k h1).mp c1; omega
    refine lv_bipush (v := 10) hx hb dJ6_stringSize_0f7a4_31 (by decide) ?_
    refine lv_iload_n hx hb dJ6_stringSize_0f7a4_33 rfl (lv_at hl 1 rfl) ?_
    refine lv_imul hx hb dJ6_stringSize_0f7a4_34 ?_
    refine lv_istore_n (lv' := [(2, .int (10 * (-10))), (3, .int 1), (0, .int (-(nI k))), (1, .int 0)]) hx hb dJ6_stringSize_0f7a4_35 rfl hl (by decide) rfl (fun ls hl => ?_)
    refine lv_iinc (v := 1 + 1) (lv' := [(3, .int (1 + 1)), (2, .int (10 * (-10))), (0, .int (-(nI k))), (1, .int 0)]) hx hb dJ6_stringSize_0f7a4_36 hl (k := 1) rfl rfl (by decide) rfl (fun ls hl => ?_)
    refine lv_goto (tgt := 16) hx hb dJ6_stringSize_0f7a4_39 (by decide) ?_
    refine lv_iload_n hx hb dJ6_stringSize_0f7a4_16 rfl (lv_at hl 0 rfl) ?_
    refine lv_bipush (v := 10) hx hb dJ6_stringSize_0f7a4_17 (by decide) ?_
    refine lv_icmp_ge (tgt := 42) hx hb dJ6_stringSize_0f7a4_19 (by decide) (fun c_3 => absurd c_3 (by decide)) (fun _ => ?_)
    refine lv_iload_n hx hb dJ6_stringSize_0f7a4_22 rfl (lv_at hl 2 rfl) ?_
    refine lv_iload_n hx hb dJ6_stringSize_0f7a4_23 rfl (lv_at hl 1 rfl) ?_
    refine lv_icmp_le (tgt := 31) hx hb dJ6_stringSize_0f7a4_24 (by decide) (fun c_4 => absurd c_4 (ng_100 k h1)) (fun _ => ?_)
    refine lv_iload_n hx hb dJ6_stringSize_0f7a4_27 rfl (lv_at hl 0 rfl) ?_
    refine lv_iload_n hx hb dJ6_stringSize_0f7a4_28 rfl (lv_at hl 3 rfl) ?_
    refine lv_iadd hx hb dJ6_stringSize_0f7a4_29 ?_
    exact W.iret (v := (1 + 1) + 0) hx hb hr (fun t ht hW => ⟨_, rfl, by first | (unfold dg; rw [if_neg c2]; done) | (unfold dg; rw [if_neg c2]; rfl), ht⟩) (fun q h => absurd h List.not_mem_nil) dJ6_stringSize_0f7a4_30
  · skip
    have c2 : k < 10 := Nat.lt_of_not_le (fun h9 => c1 ((ng_10 k h1).mpr h9))
    refine lv_iload_n hx hb dJ6_stringSize_0f7a4_27 rfl (lv_at hl 0 rfl) ?_
    refine lv_iload_n hx hb dJ6_stringSize_0f7a4_28 rfl (lv_at hl 3 rfl) ?_
    refine lv_iadd hx hb dJ6_stringSize_0f7a4_29 ?_
    rw [show (1 + 0 : Int32) = nI (1 + 0) from nI_add _ _]
    exact W.iret (v := nI (1 + 0)) hx hb hr (fun t ht hW => ⟨_, rfl, by first | (unfold dg; rw [if_pos c2]; done) | (unfold dg; rw [if_pos c2]; rfl), ht⟩) (fun q h => absurd h List.not_mem_nil) dJ6_stringSize_0f7a4_30
set_option maxRecDepth 100000 in
set_option maxHeartbeats 4000000 in
theorem c_J6_getChars_ba4f3 (l : Launch) (D : va_G) (G : GA) (B0 : Nat) (X : Nat → Nat → Nat) (x y cap : Nat) (t : Nat → Int32) (n : Nat) (ml : Int32) (hn : n ≤ cap) (hcap : cap ≤ 202) (hf : bF t) (k : Nat) (e9 : Nat) (h1 : k < 100) (h2 : dg k ≤ e9) (h3 : e9 ≤ cap) (sz : Nat) : Met l yJ6_getChars_ba4f3 (wA yJ6_getChars_ba4f3 cJ6_getChars_ba4f3 7 (some .int)) ({ frames := 0, cells := 0, slots := 0, locals := 0 } : Room) (va_Pc [.int (nI k), .int (nI e9), .ref y] (LBp D G B0 X x y cap t n ml sz)) (va_Qi (fun (r : Int32) (u : BR) => ((∀ j, j < e9 - dg k → u.2.2 j = t j) ∧ (∀ j, j < dg k → u.2.2 (e9 - dg k + j) = (digs k).getD j 0) ∧ bF u.2.2 ∧ u.1 = y ∧ u.2.1 = cap)) (fun u t9 => va_P D vwCl (lb G x u.1 u.2.1 u.2.2 n ml) t9.heap ∧ va_D (va_A (lb G x y cap t n ml) sz) (lb G x u.1 u.2.1 u.2.2 n ml)) (va_A (lb G x y cap t n ml) sz)) 0 0 (va_A (lb G x y cap t n ml) sz) := by
  refine Met.ofW (cc := cJ6_getChars_ba4f3) (maxL := 7) (ret := (some .int)) (by decide) rfl ?_
  intro p9 e s m args below meth c9 s₁ B hml hv
  obtain ⟨rfl, hsz, hP, hK, hDB, hE⟩ := hv
  have hx := B.exec
  have hb := B.bytes
  have hr := B.returns
  have hts : ∀ w9 ∈ tb, w9.before ([.int (nI k), .int (nI e9), .ref y] : List Value).toArray s = true := fun w9 h9 => atoms_spec (ws := (wA yJ6_getChars_ba4f3 cJ6_getChars_ba4f3 7 (some .int))) B.pre w9 (List.mem_cons_of_mem _ h9)
  have hown : s.vm.findClass RJ6 = some m.cls := findClass_of_methodNamed B.named
  have hlocks := B.notSynchronized
  subst hsz
  have hD := hDB.self (sz := s.heap.size)
  have hAB := A_sub hDB hE.1
  generalize hAe : va_A (lb G x y cap t n ml) s.heap.size = A at hD hAB ⊢
  have hA : ∀ q : Nat, s.heap.size ≤ q → A q := fun q h => by rw [← hAe]; exact Or.inr h
  have hS : va_S A s.heap s.heap [] := va_S.rf
  have hl := lv_entry ([.int (nI k), .int (nI e9), .ref y]) (n := 7) (Nat.le_of_ble_eq_true rfl)
  rw [lg_entry_eq]
  generalize (lg_sl ([.int (nI k), .int (nI e9), .ref y]) ++ List.replicate (7 - (lg_sl ([.int (nI k), .int (nI e9), .ref y])).length) Slot.unset).toArray = ls at hl ⊢
  have hl : lv_has ls 7 [(0, .int (nI k)), (1, .int (nI e9)), (2, .ref y)] := hl
  have h4 := dg_le k
  refine lv_iload_n hx hb dJ6_getChars_ba4f3_0 rfl (lv_at hl 1 rfl) ?_
  refine lv_istore (lv' := [(5, .int (nI e9)), (0, .int (nI k)), (1, .int (nI e9)), (2, .ref y)]) hx hb dJ6_getChars_ba4f3_1 hl (by decide) rfl (fun ls hl => ?_)
  refine lv_iload_n hx hb dJ6_getChars_ba4f3_3 rfl (lv_at hl 1 rfl) ?_
  refine lv_if_ge (tgt := 11) hx hb dJ6_getChars_ba4f3_4 (by decide) (fun _ => ?_) (fun c_1 => absurd (nI_le (a := 0) (b := k) (by omega) (by omega)) c_1)
  refine lv_iconst (v := 0) hx hb dJ6_getChars_ba4f3_11 (by decide) ?_
  refine lv_istore (lv' := [(6, .int 0), (5, .int (nI e9)), (0, .int (nI k)), (1, .int (nI e9)), (2, .ref y)]) hx hb dJ6_getChars_ba4f3_12 hl (by decide) rfl (fun ls hl => ?_)
  refine lv_iload hx hb dJ6_getChars_ba4f3_14 (lv_at hl 0 rfl) ?_
  refine lv_if_ne (tgt := 22) hx hb dJ6_getChars_ba4f3_16 (by decide) (fun c_2 => absurd (by decide) c_2) (fun _ => ?_)
  refine lv_iload_n hx hb dJ6_getChars_ba4f3_19 rfl (lv_at hl 2 rfl) ?_
  refine lv_ineg hx hb dJ6_getChars_ba4f3_20 ?_
  refine lv_istore_n (lv' := [(0, .int (-(nI k))), (6, .int 0), (5, .int (nI e9)), (1, .int (nI e9)), (2, .ref y)]) hx hb dJ6_getChars_ba4f3_21 rfl hl (by decide) rfl (fun ls hl => ?_)
  refine lv_iload_n hx hb dJ6_getChars_ba4f3_22 rfl (lv_at hl 0 rfl) ?_
  refine lv_bipush (v := -100) hx hb dJ6_getChars_ba4f3_23 (by decide) ?_
  refine lv_icmp_gt (tgt := 72) hx hb dJ6_getChars_ba4f3_25 (by decide) (fun _ => ?_) (fun c_3 => absurd (ng_g100 k h1) c_3)
  refine lv_aload_n hx hb dJ6_getChars_ba4f3_72 rfl (lv_at hl 4 rfl) ?_
  refine lv_iinc (v := nI (e9 - 1)) (lv' := [(5, .int (nI (e9 - 1))), (0, .int (-(nI k))), (6, .int 0), (1, .int (nI e9)), (2, .ref y)]) hx hb dJ6_getChars_ba4f3_73 hl (k := 2) rfl (nI_m1 (by omega)) (by decide) rfl (fun ls hl => ?_)
  refine lv_iload hx hb dJ6_getChars_ba4f3_76 (lv_at hl 0 rfl) ?_
  refine va_gets (C := "java/lang/Integer") (n := "DigitOnes") (d := "[B") (v := .ref (X 4 2)) hx hb hE.j.2.1 (S_weak hS hAB) hown (hts _ kw_1152) (fun _ h9 => h9) dJ6_getChars_ba4f3_78 ?_
  refine lv_iload_n hx hb dJ6_getChars_ba4f3_81 rfl (lv_at hl 1 rfl) ?_
  refine lv_ineg hx hb dJ6_getChars_ba4f3_82 ?_
  rw [ng_ng k h1]
  refine va_tb (v := .int (dOnes.getD k 0)) hx hb hE.j.2.2.1 (S_weak hS hAB) (vp_in_nI (n := k) (by omega) (by decide)) (by rw [nI_clamp (n := k) (by omega)]) dJ6_getChars_ba4f3_83 ?_
  refine va_bast hx hb hK hP hD hS 1 4 rfl rfl (vp_in_nI (n := (e9 - 1)) (by omega) (by omega)) dJ6_getChars_ba4f3_84 (fun H locs hP hD hS => ?_)
  rw [nI_clamp (n := (e9 - 1)) (by omega), (ones_nar k h1)] at hP hD
  have hP : va_P D vwCl (lb G x y cap (upd t (e9 - 1) (dOnes.getD k 0)) n ml) H := hP
  have hD : va_D A (lb G x y cap (upd t (e9 - 1) (dOnes.getD k 0)) n ml) := hD
  refine lv_iload_n hx hb dJ6_getChars_ba4f3_85 rfl (lv_at hl 1 rfl) ?_
  refine lv_bipush (v := -9) hx hb dJ6_getChars_ba4f3_86 (by decide) ?_
  refine lv_icmp_ge (tgt := 104) hx hb dJ6_getChars_ba4f3_88 (by decide) (fun c1 => ?_) (fun c1 => ?_)
  · skip
    have c2 : k < 10 := (ng_9 k h1).mp c1
    have hdg : dg k = 1 := if_pos c2
    refine lv_iload hx hb dJ6_getChars_ba4f3_104 (lv_at hl 2 rfl) ?_
    refine lv_if_eq (tgt := 118) hx hb dJ6_getChars_ba4f3_106 (by decide) (fun _ => ?_) (fun c_4 => absurd (by decide) c_4)
    refine lv_iload hx hb dJ6_getChars_ba4f3_118 (lv_at hl 0 rfl) ?_
    refine W.widen (k := 0) (n := 0) (by omega) (by omega) ?_
    have hP9 : va_P D vwCl (lb G x y cap (upd t (e9 - 1) (dOnes.getD k 0)) n ml) H := hP
    have hD9 : va_D A (lb G x y cap (upd t (e9 - 1) (dOnes.getD k 0)) n ml) := lbD hD
    exact W.iret (v := nI (e9 - 1)) hx hb hr (fun t8 ht hW => ⟨⟨nI (e9 - 1), (y, cap, upd t (e9 - 1) (dOnes.getD k 0)), rfl, ⟨fun j hj => pk_un (by omega), fun j hj => g_one hdg c2 h2 hj, bF_upd hf (ones_fit k h1), rfl, rfl⟩, by rw [ht]; exact hP9, hD9⟩, hS.F ht⟩) hS.2.2 dJ6_getChars_ba4f3_120
  · skip
    have c2 : ¬ k < 10 := fun h9 => c1 ((ng_9 k h1).mpr h9)
    have hdg : dg k = 2 := if_neg c2
    refine lv_aload_n hx hb dJ6_getChars_ba4f3_91 rfl (lv_at hl 4 rfl) ?_
    refine lv_iinc (v := nI ((e9 - 1) - 1)) (lv' := [(5, .int (nI ((e9 - 1) - 1))), (0, .int (-(nI k))), (6, .int 0), (1, .int (nI e9)), (2, .ref y)]) hx hb dJ6_getChars_ba4f3_92 hl (k := 0) rfl (nI_m1 (by omega)) (by decide) rfl (fun ls hl => ?_)
    refine lv_iload hx hb dJ6_getChars_ba4f3_95 (lv_at hl 0 rfl) ?_
    refine va_gets (C := "java/lang/Integer") (n := "DigitTens") (d := "[B") (v := .ref (X 4 3)) hx hb hE.j.2.2.2.1 (S_weak hS hAB) hown (hts _ kw_1154) (fun _ h9 => h9) dJ6_getChars_ba4f3_97 ?_
    refine lv_iload_n hx hb dJ6_getChars_ba4f3_100 rfl (lv_at hl 1 rfl) ?_
    refine lv_ineg hx hb dJ6_getChars_ba4f3_101 ?_
    rw [ng_ng k h1]
    refine va_tb (v := .int (dTens.getD k 0)) hx hb hE.j.2.2.2.2.1 (S_weak hS hAB) (vp_in_nI (n := k) (by omega) (by decide)) (by rw [nI_clamp (n := k) (by omega)]) dJ6_getChars_ba4f3_102 ?_
    refine va_bast hx hb hK hP hD hS 1 4 rfl rfl (vp_in_nI (n := ((e9 - 1) - 1)) (by omega) (by omega)) dJ6_getChars_ba4f3_103 (fun H locs hP hD hS => ?_)
    rw [nI_clamp (n := ((e9 - 1) - 1)) (by omega), (tens_nar k h1)] at hP hD
    have hP : va_P D vwCl (lb G x y cap (upd (upd t (e9 - 1) (dOnes.getD k 0)) ((e9 - 1) - 1) (dTens.getD k 0)) n ml) H := hP
    have hD : va_D A (lb G x y cap (upd (upd t (e9 - 1) (dOnes.getD k 0)) ((e9 - 1) - 1) (dTens.getD k 0)) n ml) := hD
    refine lv_iload hx hb dJ6_getChars_ba4f3_104 (lv_at hl 2 rfl) ?_
    refine lv_if_eq (tgt := 118) hx hb dJ6_getChars_ba4f3_106 (by decide) (fun _ => ?_) (fun c_5 => absurd (by decide) c_5)
    refine lv_iload hx hb dJ6_getChars_ba4f3_118 (lv_at hl 0 rfl) ?_
    refine W.widen (k := 0) (n := 0) (by omega) (by omega) ?_
    have hP9 : va_P D vwCl (lb G x y cap (upd (upd t (e9 - 1) (dOnes.getD k 0)) ((e9 - 1) - 1) (dTens.getD k 0)) n ml) H := hP
    have hD9 : va_D A (lb G x y cap (upd (upd t (e9 - 1) (dOnes.getD k 0)) ((e9 - 1) - 1) (dTens.getD k 0)) n ml) := lbD hD
    exact W.iret (v := nI ((e9 - 1) - 1)) hx hb hr (fun t8 ht hW => ⟨⟨nI ((e9 - 1) - 1), (y, cap, upd (upd t (e9 - 1) (dOnes.getD k 0)) ((e9 - 1) - 1) (dTens.getD k 0)), rfl, ⟨fun j hj => (pk_un (by omega)).trans (pk_un (by omega)), fun j hj => g_two hdg c2 h2 hj, bF_upd (bF_upd hf (ones_fit k h1)) (tens_fit k h1), rfl, rfl⟩, by rw [ht]; exact hP9, hD9⟩, hS.F ht⟩) hS.2.2 dJ6_getChars_ba4f3_120
set_option maxRecDepth 100000 in
set_option maxHeartbeats 4000000 in
theorem c_J5_append_c97b9 (l : Launch) (D : va_G) (G : GA) (B0 : Nat) (X : Nat → Nat → Nat) (x y cap : Nat) (t : Nat → Int32) (n : Nat) (ml : Int32) (hn : n ≤ cap) (hcap : cap ≤ 202) (hf : bF t) (k : Nat) (h1 : k < 100) (h5 : n + dg k ≤ 100) (sz : Nat) : Met l yJ5_append_c97b9 (wA yJ5_append_c97b9 cJ5_append_c97b9 4 (some (.object "java/lang/AbstractStringBuilder"))) ({ frames := 4, cells := 1, slots := 202, locals := 91 } : Room) (va_Pc [.ref x, .int (nI k)] (LBp D G B0 X x y cap t n ml sz)) (va_Qr (fun u : BR => (∀ j, j < n → u.2.2 j = t j) ∧ (∀ j, j < dg k → u.2.2 (n + j) = (digs k).getD j 0) ∧ bF u.2.2 ∧ n + dg k ≤ u.2.1 ∧ u.2.1 ≤ 202) (fun u q9 t9 => q9 = x ∧ va_P D vwCl (lb G x u.1 u.2.1 u.2.2 (n + dg k) ml) t9.heap ∧ va_D (va_A (lb G x y cap t n ml) sz) (lb G x u.1 u.2.1 u.2.2 (n + dg k) ml)) (va_A (lb G x y cap t n ml) sz)) 1 202 (va_A (lb G x y cap t n ml) sz) := by
  refine Met.ofW (cc := cJ5_append_c97b9) (maxL := 4) (ret := (some (.object "java/lang/AbstractStringBuilder"))) (by decide) rfl ?_
  intro p9 e s m args below meth c9 s₁ B hml hv
  obtain ⟨rfl, hsz, hP, hK, hDB, hE⟩ := hv
  have hx := B.exec
  have hb := B.bytes
  have hr := B.returns
  have hts : ∀ w9 ∈ tb, w9.before ([.ref x, .int (nI k)] : List Value).toArray s = true := fun w9 h9 => atoms_spec (ws := (wA yJ5_append_c97b9 cJ5_append_c97b9 4 (some (.object "java/lang/AbstractStringBuilder")))) B.pre w9 (List.mem_cons_of_mem _ h9)
  have hown : s.vm.findClass RJ5 = some m.cls := findClass_of_methodNamed B.named
  have hlocks := B.notSynchronized
  subst hsz
  have hD := hDB.self (sz := s.heap.size)
  have hAB := A_sub hDB hE.1
  generalize hAe : va_A (lb G x y cap t n ml) s.heap.size = A at hD hAB ⊢
  have hA : ∀ q : Nat, s.heap.size ≤ q → A q := fun q h => by rw [← hAe]; exact Or.inr h
  have hS : va_S A s.heap s.heap [] := va_S.rf
  have hl := lv_entry ([.ref x, .int (nI k)]) (n := 4) (Nat.le_of_ble_eq_true rfl)
  rw [lg_entry_eq]
  generalize (lg_sl ([.ref x, .int (nI k)]) ++ List.replicate (4 - (lg_sl ([.ref x, .int (nI k)])).length) Slot.unset).toArray = ls at hl ⊢
  have hl : lv_has ls 4 [(0, .ref x), (1, .int (nI k))] := hl
  refine lv_aload_n hx hb dJ5_append_c97b9_0 rfl (lv_at hl 0 rfl) ?_
  refine va_get (D := D) (ci := 1) (v := .int (nI n)) (C := RJ4) (T := TJ4) (N := 4) hx hb hts i_J4 hown hK hP 0 rfl rfl 3 (by decide) (hts _ kw_217) (fun _ h9 => h9) rfl dJ5_append_c97b9_1 ?_
  refine lv_istore_n (lv' := [(2, .int (nI n)), (0, .ref x), (1, .int (nI k))]) hx hb dJ5_append_c97b9_4 rfl hl (by decide) rfl (fun ls hl => ?_)
  refine lv_iload_n hx hb dJ5_append_c97b9_5 rfl (lv_at hl 0 rfl) ?_
  refine lv_iload_n hx hb dJ5_append_c97b9_6 rfl (lv_at hl 2 rfl) ?_
  refine vp_callSi (va_runS (As := [.int (nI k)]) (rest := [.int (nI n)]) ⟨hx, hb, hml, hown, hts⟩ (c_J6_stringSize_0f7a4 l k h1) (va_cwS 1 hts (gS kw_1146 kw_1147 kw_56 kw_1148) rfl rfl rfl (by decide +kernel) ⟨Nat.le_of_ble_eq_true rfl, Nat.le_of_ble_eq_true rfl⟩) (ps_z (JZ.of (hE.at hS hAB))) rfl rfl hl.1 rfl (lv_room (Nat.le_of_ble_eq_true rfl)) dJ5_append_c97b9_7 ⟨Nat.le_of_ble_eq_true rfl, Nat.le_of_ble_eq_true rfl⟩).run (nm_e ?_)
  refine lv_iadd hx hb dJ5_append_c97b9_10 ?_
  rw [show ((nI n) + (nI (dg k)) : Int32) = nI (n + (dg k)) from nI_add _ _]
  refine lv_istore_n (lv' := [(3, .int (nI (n + (dg k)))), (2, .int (nI n)), (0, .ref x), (1, .int (nI k))]) hx hb dJ5_append_c97b9_11 rfl hl (by decide) rfl (fun ls hl => ?_)
  refine lv_aload_n hx hb dJ5_append_c97b9_12 rfl (lv_at hl 2 rfl) ?_
  refine lv_iload_n hx hb dJ5_append_c97b9_13 rfl (lv_at hl 0 rfl) ?_
  have hFc := freeC hD hS hA
  refine va_callv (va_runU (As := [.int (nI (n + (dg k)))]) (rest := []) ⟨hx, hb, hml, hown, hts⟩ (c_J5_ensureCapacityInternal_d00df l D G B0 X x y cap t n ml (by omega) (by omega) hf (n + (dg k)) (by omega) s.heap.size) (va_cwU 1 hts (gU kw_1053 kw_1491 kwx_0 kw_1055 kw_31 kw_1056) rfl rfl rfl rfl (by decide +kernel) ⟨Nat.le_of_ble_eq_true rfl, Nat.le_of_ble_eq_true rfl⟩) (pv_lb hK hP hD hAB (hE.at hS hAB)) rfl rfl hl.1 rfl (lv_room (Nat.le_of_ble_eq_true rfl)) dJ5_append_c97b9_14 ⟨Nat.le_of_ble_eq_true rfl, Nat.le_of_ble_eq_true rfl⟩) hS (fun q _ h => hFc q h) hFc (fun u1 t9 H locs ht hvm hw hB hz1 hk1 hS => ?_)
  obtain ⟨hB, hB2⟩ := hB
  rw [ht] at hB
  obtain ⟨f1_0, f1_1, f1_2, f1_3, f1_4⟩ := hw
  have hP : va_P D vwCl (lb G x u1.1 u1.2.1 u1.2.2 n ml) H := hB
  have hD : va_D A (lb G x u1.1 u1.2.1 u1.2.2 n ml) := hB2.weaken (fun _ _ _ h9 => hFc _ h9)
  refine lv_aload_n hx hb dJ5_append_c97b9_17 rfl (lv_at hl 2 rfl) ?_
  refine vp_callSi (va_runU (As := []) (rest := []) ⟨hx, hb, hml, hown, hts⟩ (c_J5_isLatin1_aae02 l D G B0 X x u1.1 u1.2.1 u1.2.2 n ml (by omega) (by omega) f1_1) (va_cwU 0 hts (gU kw_1084 kw_1086 kw_1087 kw_1085 kw_31 kw_1088) rfl rfl rfl rfl (by decide +kernel) ⟨Nat.le_of_ble_eq_true rfl, Nat.le_of_ble_eq_true rfl⟩) (pv_lr hK hP (hE.at hS hAB)) rfl rfl hl.1 rfl (lv_room (Nat.le_of_ble_eq_true rfl)) dJ5_append_c97b9_18 ⟨Nat.le_of_ble_eq_true rfl, Nat.le_of_ble_eq_true rfl⟩).run (nm_e ?_)
  refine lv_if_eq (tgt := 37) hx hb dJ5_append_c97b9_21 (by decide) (fun c_2 => absurd c_2 (by decide)) (fun _ => ?_)
  refine lv_iload_n hx hb dJ5_append_c97b9_24 rfl (lv_at hl 3 rfl) ?_
  refine lv_iload_n hx hb dJ5_append_c97b9_25 rfl (lv_at hl 0 rfl) ?_
  refine lv_aload_n hx hb dJ5_append_c97b9_26 rfl (lv_at hl 2 rfl) ?_
  refine va_get (D := D) (ci := 1) (v := .ref u1.1) (C := RJ4) (T := TJ4) (N := 4) hx hb hts i_J4 hown hK hP 0 rfl rfl 0 (by decide) (hts _ kw_213) (fun _ h9 => h9) rfl dJ5_append_c97b9_27 ?_
  have hFc := freeC hD hS hA
  refine va_calli (va_runS (As := [.int (nI k), .int (nI (n + (dg k))), .ref u1.1]) (rest := []) ⟨hx, hb, hml, hown, hts⟩ (c_J6_getChars_ba4f3 l D G B0 X x u1.1 u1.2.1 u1.2.2 n ml (by omega) (by omega) f1_1 k (n + dg k) h1 (by omega) (by omega) H.size) (va_cwS 3 hts (gS kw_1149 kw_1150 kw_56 kw_1151) rfl rfl rfl (by decide +kernel) ⟨Nat.le_of_ble_eq_true rfl, Nat.le_of_ble_eq_true rfl⟩) (ps_lb hK hP hD hAB (hE.at hS hAB)) rfl rfl hl.1 rfl (lv_room (Nat.le_of_ble_eq_true rfl)) dJ5_append_c97b9_30 ⟨Nat.le_of_ble_eq_true rfl, Nat.le_of_ble_eq_true rfl⟩) hS (fun q _ h => hFc q h) hFc (fun r uG t9 H locs ht hvm hw hB hz1 hk1 hS => ?_)
  obtain ⟨hB, hB2⟩ := hB
  rw [ht] at hB
  obtain ⟨yG, cG, tG⟩ := uG
  obtain ⟨g1, g2, g3, g4, g5⟩ := hw
  dsimp only at g4 g5
  subst g4 g5
  dsimp only at g1 g2 g3 hB hB2
  rw [Nat.add_sub_cancel] at g1 g2
  have hP : va_P D vwCl (lb G x u1.1 u1.2.1 tG n ml) H := hB
  have hD : va_D A (lb G x u1.1 u1.2.1 tG n ml) := hB2.weaken (fun _ _ _ h9 => hFc _ h9)
  refine lv_pop hx hb dJ5_append_c97b9_33 rfl ?_
  refine lv_goto (tgt := 48) hx hb dJ5_append_c97b9_34 (by decide) ?_
  refine lv_aload_n hx hb dJ5_append_c97b9_48 rfl (lv_at hl 2 rfl) ?_
  refine lv_iload_n hx hb dJ5_append_c97b9_49 rfl (lv_at hl 0 rfl) ?_
  refine va_put (D := D) (ci := 1) (v := .int (nI (n + (dg k)))) (ty := .int) (C := RJ4) (T := TJ4) (N := 4) hx hb hts i_J4 tyJ4 tyJ4_ok nmJ4 hown hK hP hD hS 0 rfl rfl 3 (by decide) (hts _ kw_217) (fun _ h9 => h9) rfl (by decide +kernel) rfl rfl (Nat.le_of_ble_eq_true rfl) dJ5_append_c97b9_50 (fun H locs hP hD hS => ?_)
  have hP : va_P D vwCl (lb G x u1.1 u1.2.1 tG (n + (dg k)) ml) H := hP
  have hD : va_D A (lb G x u1.1 u1.2.1 tG (n + (dg k)) ml) := hD
  refine lv_aload_n hx hb dJ5_append_c97b9_53 rfl (lv_at hl 2 rfl) ?_
  refine W.widen (k := 1) (n := 202) (by omega) (by omega) ?_
  have hP9 : va_P D vwCl (lb G x u1.1 u1.2.1 tG (n + dg k) ml) H := hP
  have hD9 : va_D A (lb G x u1.1 u1.2.1 tG (n + dg k) ml) := lbD hD
  exact W.aret (v := .ref x) hx hb hr (Or.inl ⟨_, rfl⟩) (Or.inr ⟨_, rfl⟩) (fun t8 ht hW => ⟨⟨(u1.1, u1.2.1, tG), x, rfl, ⟨fun j hj => (g1 j hj).trans (f1_0 j (by omega)), g2, g3, f1_2, f1_3⟩, rfl, by rw [ht]; exact hP9, hD9⟩, hS.F ht⟩) hS.2.2 dJ5_append_c97b9_54
set_option maxRecDepth 100000 in
set_option maxHeartbeats 4000000 in
theorem c_J4_append_bf812 (l : Launch) (D : va_G) (G : GA) (B0 : Nat) (X : Nat → Nat → Nat) (x y cap : Nat) (t : Nat → Int32) (n : Nat) (ml : Int32) (hn : n ≤ cap) (hcap : cap ≤ 202) (hf : bF t) (k : Nat) (h1 : k < 100) (h5 : n + dg k ≤ 100) (sz : Nat) : Met l yJ4_append_bf812 (wA yJ4_append_bf812 cJ4_append_bf812 2 (some (.object "java/lang/StringBuilder"))) ({ frames := 5, cells := 1, slots := 202, locals := 114 } : Room) (va_Pc [.ref x, .int (nI k)] (LBp D G B0 X x y cap t n ml sz)) (va_Qr (fun u : BR => (∀ j, j < n → u.2.2 j = t j) ∧ (∀ j, j < dg k → u.2.2 (n + j) = (digs k).getD j 0) ∧ bF u.2.2 ∧ n + dg k ≤ u.2.1 ∧ u.2.1 ≤ 202) (fun u q9 t9 => q9 = x ∧ va_P D vwCl (lb G x u.1 u.2.1 u.2.2 (n + dg k) ml) t9.heap ∧ va_D (va_A (lb G x y cap t n ml) sz) (lb G x u.1 u.2.1 u.2.2 (n + dg k) ml)) (va_A (lb G x y cap t n ml) sz)) 1 202 (va_A (lb G x y cap t n ml) sz) := by
  refine Met.ofW (cc := cJ4_append_bf812) (maxL := 2) (ret := (some (.object "java/lang/StringBuilder"))) (by decide) rfl ?_
  intro p9 e s m args below meth c9 s₁ B hml hv
  obtain ⟨rfl, hsz, hP, hK, hDB, hE⟩ := hv
  have hx := B.exec
  have hb := B.bytes
  have hr := B.returns
  have hts : ∀ w9 ∈ tb, w9.before ([.ref x, .int (nI k)] : List Value).toArray s = true := fun w9 h9 => atoms_spec (ws := (wA yJ4_append_bf812 cJ4_append_bf812 2 (some (.object "java/lang/StringBuilder")))) B.pre w9 (List.mem_cons_of_mem _ h9)
  have hown : s.vm.findClass RJ4 = some m.cls := findClass_of_methodNamed B.named
  have hlocks := B.notSynchronized
  subst hsz
  have hD := hDB.self (sz := s.heap.size)
  have hAB := A_sub hDB hE.1
  generalize hAe : va_A (lb G x y cap t n ml) s.heap.size = A at hD hAB ⊢
  have hA : ∀ q : Nat, s.heap.size ≤ q → A q := fun q h => by rw [← hAe]; exact Or.inr h
  have hS : va_S A s.heap s.heap [] := va_S.rf
  have hl := lv_entry ([.ref x, .int (nI k)]) (n := 2) (Nat.le_of_ble_eq_true rfl)
  rw [lg_entry_eq]
  generalize (lg_sl ([.ref x, .int (nI k)]) ++ List.replicate (2 - (lg_sl ([.ref x, .int (nI k)])).length) Slot.unset).toArray = ls at hl ⊢
  have hl : lv_has ls 2 [(0, .ref x), (1, .int (nI k))] := hl
  refine lv_aload_n hx hb dJ4_append_bf812_0 rfl (lv_at hl 0 rfl) ?_
  refine lv_iload_n hx hb dJ4_append_bf812_1 rfl (lv_at hl 1 rfl) ?_
  have hFc := freeC hD hS hA
  refine va_callr (va_runSU (As := [.int (nI k)]) (rest := []) (hK.1 1 _ rfl).2 ⟨hx, hb, hml, hown, hts⟩ (c_J5_append_c97b9 l D G B0 X x y cap t n ml (by omega) (by omega) hf k h1 h5 s.heap.size) (va_cwSU 1 hts (gSU kw_1143 kw_1496 kw_226 kw_1144 kw_31 kw_1145) rfl rfl rfl (by decide +kernel) ⟨Nat.le_of_ble_eq_true rfl, Nat.le_of_ble_eq_true rfl⟩) (pv_lb hK hP hD hAB (hE.at hS hAB)) rfl rfl hl.1 rfl (lv_room (Nat.le_of_ble_eq_true rfl)) dJ4_append_bf812_2 ⟨Nat.le_of_ble_eq_true rfl, Nat.le_of_ble_eq_true rfl⟩) hS (fun q _ h => hFc q h) hFc (fun u1 q9 t9 H locs ht hvm hw hB hz1 hk1 hS => ?_)
  obtain ⟨e9, hB, hB2⟩ := hB
  have e9 := e9.symm
  subst e9
  rw [ht] at hB
  obtain ⟨f1_0, f1_1, f1_2, f1_3, f1_4⟩ := hw
  have hP : va_P D vwCl (lb G x u1.1 u1.2.1 u1.2.2 (n + dg k) ml) H := hB
  have hD : va_D A (lb G x u1.1 u1.2.1 u1.2.2 (n + dg k) ml) := hB2.weaken (fun _ _ _ h9 => hFc _ h9)
  refine lv_pop hx hb dJ4_append_bf812_5 rfl ?_
  refine lv_aload_n hx hb dJ4_append_bf812_6 rfl (lv_at hl 0 rfl) ?_
  refine W.widen (k := 1) (n := 202) (by omega) (by omega) ?_
  have hP9 : va_P D vwCl (lb G x u1.1 u1.2.1 u1.2.2 (n + dg k) ml) H := hP
  have hD9 : va_D A (lb G x u1.1 u1.2.1 u1.2.2 (n + dg k) ml) := lbD hD
  exact W.aret (v := .ref x) hx hb hr (Or.inl ⟨_, rfl⟩) (Or.inr ⟨_, rfl⟩) (fun t8 ht hW => ⟨⟨(u1.1, u1.2.1, u1.2.2), x, rfl, ⟨f1_0, f1_1, f1_2, f1_3, f1_4⟩, rfl, by rw [ht]; exact hP9, hD9⟩, hS.F ht⟩) hS.2.2 dJ4_append_bf812_7
set_option maxRecDepth 100000 in
set_option maxHeartbeats 4000000 in
theorem c_J5_charAt_5068e (l : Launch) (D : va_G) (G : GA) (B0 : Nat) (X : Nat → Nat → Nat) (x y cap : Nat) (t : Nat → Int32) (n : Nat) (ml : Int32) (hn : n ≤ cap) (hcap : cap ≤ 202) (hf : bF t) (i : Nat) (h1 : i < n) : Met l yJ5_charAt_5068e (wA yJ5_charAt_5068e cJ5_charAt_5068e 5 (some .char)) ({ frames := 2, cells := 0, slots := 0, locals := 43 } : Room) (va_Pc [.ref x, .int (nI i)] (LRp D G B0 X x y cap t n ml)) (vp_Si (fun r => r = t i &&& 255)) 0 0 (fun _ => False) := by
  refine Met.ofW (cc := cJ5_charAt_5068e) (maxL := 5) (ret := (some .char)) (by decide) rfl ?_
  intro p9 e s m args below meth c9 s₁ B hml hv
  obtain ⟨rfl, hP, hK, hE⟩ := hv
  have hx := B.exec
  have hb := B.bytes
  have hr := B.returns
  have hts : ∀ w9 ∈ tb, w9.before ([.ref x, .int (nI i)] : List Value).toArray s = true := fun w9 h9 => atoms_spec (ws := (wA yJ5_charAt_5068e cJ5_charAt_5068e 5 (some .char))) B.pre w9 (List.mem_cons_of_mem _ h9)
  have hown : s.vm.findClass RJ5 = some m.cls := findClass_of_methodNamed B.named
  have hlocks := B.notSynchronized
  have hl := lv_entry ([.ref x, .int (nI i)]) (n := 5) (Nat.le_of_ble_eq_true rfl)
  rw [lg_entry_eq]
  generalize (lg_sl ([.ref x, .int (nI i)]) ++ List.replicate (5 - (lg_sl ([.ref x, .int (nI i)])).length) Slot.unset).toArray = ls at hl ⊢
  have hl : lv_has ls 5 [(0, .ref x), (1, .int (nI i))] := hl
  refine lv_aload_n hx hb dJ5_charAt_5068e_0 rfl (lv_at hl 0 rfl) ?_
  refine va_get (D := D) (ci := 1) (v := .int 0) (C := RJ4) (T := TJ4) (N := 4) hx hb hts i_J4 hown hK hP 0 rfl rfl 1 (by decide) (hts _ kw_214) (fun _ h9 => h9) rfl dJ5_charAt_5068e_1 ?_
  refine lv_istore_n (lv' := [(2, .int 0), (0, .ref x), (1, .int (nI i))]) hx hb dJ5_charAt_5068e_4 rfl hl (by decide) rfl (fun ls hl => ?_)
  refine lv_aload_n hx hb dJ5_charAt_5068e_5 rfl (lv_at hl 1 rfl) ?_
  refine va_get (D := D) (ci := 1) (v := .ref y) (C := RJ4) (T := TJ4) (N := 4) hx hb hts i_J4 hown hK hP 0 rfl rfl 0 (by decide) (hts _ kw_213) (fun _ h9 => h9) rfl dJ5_charAt_5068e_6 ?_
  refine lv_astore_n (x := y) (lv' := [(3, .ref y), (2, .int 0), (0, .ref x), (1, .int (nI i))]) hx hb dJ5_charAt_5068e_9 rfl hl (by decide) rfl (fun ls hl => ?_)
  refine lv_aload_n hx hb dJ5_charAt_5068e_10 rfl (lv_at hl 2 rfl) ?_
  refine va_get (D := D) (ci := 1) (v := .int (nI n)) (C := RJ4) (T := TJ4) (N := 4) hx hb hts i_J4 hown hK hP 0 rfl rfl 3 (by decide) (hts _ kw_217) (fun _ h9 => h9) rfl dJ5_charAt_5068e_11 ?_
  refine lv_aload_n hx hb dJ5_charAt_5068e_14 rfl (lv_at hl 0 rfl) ?_
  refine va_alen (v := nI cap) hx hb hK hP 1 4 rfl rfl rfl dJ5_charAt_5068e_15 ?_
  refine lv_iload_n hx hb dJ5_charAt_5068e_16 rfl (lv_at hl 1 rfl) ?_
  refine lv_ishr hx hb dJ5_charAt_5068e_17 ?_
  rw [sc_shr0 (by omega)]
  refine va_mmin hx hb (hml.trans hl.1.symm) hown (hts _ kw_1300) (hts _ kw_694) (hts _ kw_46) (hts _ kw_695) (Nat.le_of_ble_eq_true rfl) (Nat.le_of_ble_eq_true rfl) (Nat.le_of_ble_eq_true rfl) (Nat.le_of_ble_eq_true rfl) dJ5_charAt_5068e_18 ?_
  rw [mn_nat (a := n) (b := cap) (by omega) (by omega) hn]
  refine lv_istore (lv' := [(4, .int (nI n)), (3, .ref y), (2, .int 0), (0, .ref x), (1, .int (nI i))]) hx hb dJ5_charAt_5068e_21 hl (by decide) rfl (fun ls hl => ?_)
  refine lv_iload_n hx hb dJ5_charAt_5068e_23 rfl (lv_at hl 4 rfl) ?_
  refine lv_iload hx hb dJ5_charAt_5068e_24 (lv_at hl 0 rfl) ?_
  refine va_csv (va_runS (As := [.int (nI i), .int (nI n)]) (rest := []) ⟨hx, hb, hml, hown, hts⟩ (c_J0_checkIndex_df160 l i n (by omega) (by omega)) (va_cwS 2 hts (gS kw_1301 kw_793 kw_33 kw_794) rfl rfl rfl (by decide +kernel) ⟨Nat.le_of_ble_eq_true rfl, Nat.le_of_ble_eq_true rfl⟩) (ps_z (JZ.of hE)) rfl rfl hl.1 rfl (lv_room (Nat.le_of_ble_eq_true rfl)) dJ5_charAt_5068e_26 ⟨Nat.le_of_ble_eq_true rfl, Nat.le_of_ble_eq_true rfl⟩).run (fun _ => ?_)
  refine lv_iload_n hx hb dJ5_charAt_5068e_29 rfl (lv_at hl 2 rfl) ?_
  refine lv_if_ne (tgt := 42) hx hb dJ5_charAt_5068e_30 (by decide) (fun c_1 => absurd (by decide) c_1) (fun _ => ?_)
  refine lv_aload_n hx hb dJ5_charAt_5068e_33 rfl (lv_at hl 1 rfl) ?_
  refine lv_iload_n hx hb dJ5_charAt_5068e_34 rfl (lv_at hl 4 rfl) ?_
  refine va_bald hx hb hK hP 1 4 rfl rfl (vp_in_nI (n := i) (by omega) (by omega)) dJ5_charAt_5068e_35 ?_
  rw [nI_clamp (n := i) (by omega)]
  refine lv_sipush (v := 255) hx hb dJ5_charAt_5068e_36 (by decide) ?_
  refine lv_iand hx hb dJ5_charAt_5068e_39 ?_
  refine lv_i2c (v := (t i) &&& 255) hx hb dJ5_charAt_5068e_40 (sc_c2 _) ?_
  exact W.zret (ty := .char) (v := (t i) &&& 255) hx hb hr (sc_nar _) (fun t ht hW => ⟨_, rfl, rfl, ht⟩) (fun q h => absurd h List.not_mem_nil) dJ5_charAt_5068e_41
set_option maxRecDepth 100000 in
set_option maxHeartbeats 4000000 in
theorem c_J4_charAt_5068e (l : Launch) (D : va_G) (G : GA) (B0 : Nat) (X : Nat → Nat → Nat) (x y cap : Nat) (t : Nat → Int32) (n : Nat) (ml : Int32) (hn : n ≤ cap) (hcap : cap ≤ 202) (hf : bF t) (i : Nat) (h1 : i < n) : Met l yJ4_charAt_5068e (wA yJ4_charAt_5068e cJ4_charAt_5068e 2 (some .char)) ({ frames := 3, cells := 0, slots := 0, locals := 67 } : Room) (va_Pc [.ref x, .int (nI i)] (LRp D G B0 X x y cap t n ml)) (vp_Si (fun r => r = t i &&& 255)) 0 0 (fun _ => False) := by
  refine Met.ofW (cc := cJ4_charAt_5068e) (maxL := 2) (ret := (some .char)) (by decide) rfl ?_
  intro p9 e s m args below meth c9 s₁ B hml hv
  obtain ⟨rfl, hP, hK, hE⟩ := hv
  have hx := B.exec
  have hb := B.bytes
  have hr := B.returns
  have hts : ∀ w9 ∈ tb, w9.before ([.ref x, .int (nI i)] : List Value).toArray s = true := fun w9 h9 => atoms_spec (ws := (wA yJ4_charAt_5068e cJ4_charAt_5068e 2 (some .char))) B.pre w9 (List.mem_cons_of_mem _ h9)
  have hown : s.vm.findClass RJ4 = some m.cls := findClass_of_methodNamed B.named
  have hlocks := B.notSynchronized
  have hl := lv_entry ([.ref x, .int (nI i)]) (n := 2) (Nat.le_of_ble_eq_true rfl)
  rw [lg_entry_eq]
  generalize (lg_sl ([.ref x, .int (nI i)]) ++ List.replicate (2 - (lg_sl ([.ref x, .int (nI i)])).length) Slot.unset).toArray = ls at hl ⊢
  have hl : lv_has ls 2 [(0, .ref x), (1, .int (nI i))] := hl
  refine lv_aload_n hx hb dJ4_charAt_5068e_0 rfl (lv_at hl 0 rfl) ?_
  refine lv_iload_n hx hb dJ4_charAt_5068e_1 rfl (lv_at hl 1 rfl) ?_
  refine vp_callSi (va_runSU (As := [.int (nI i)]) (rest := []) (hK.1 1 _ rfl).2 ⟨hx, hb, hml, hown, hts⟩ (c_J5_charAt_5068e l D G B0 X x y cap t n ml (by omega) (by omega) hf i (by omega)) (va_cwSU 1 hts (gSU kw_1297 kw_1499 kw_226 kw_1298 kw_31 kw_1299) rfl rfl rfl (by decide +kernel) ⟨Nat.le_of_ble_eq_true rfl, Nat.le_of_ble_eq_true rfl⟩) (pv_lr hK hP hE) rfl rfl hl.1 rfl (lv_room (Nat.le_of_ble_eq_true rfl)) dJ4_charAt_5068e_2 ⟨Nat.le_of_ble_eq_true rfl, Nat.le_of_ble_eq_true rfl⟩).run (nm_e ?_)
  exact W.zret (ty := .char) (v := t i &&& 255) hx hb hr (sc_nar _) (fun t ht hW => ⟨_, rfl, rfl, ht⟩) (fun q h => absurd h List.not_mem_nil) dJ4_charAt_5068e_5
