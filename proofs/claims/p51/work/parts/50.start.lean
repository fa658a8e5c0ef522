/-! WHAT STANDS AT THE LAW'S ENTRY, out of the words of the start -/
def nL : List Cond := flatC (Jvm.Cond.and given_1 narrow_1)
def oS : List Nat := [478, 509, 532, 556, 587, 613, 652, 689, 717, 737, 772, 808, 832, 853, 874, 905, 912, 926, 942, 947, 977, 1007, 1032, 1062, 1082, 1088, 1106, 1132, 1161, 1194, 1199, 1217, 1245, 1255, 1266, 1275, 1290, 1300, 1312, 1324]
def rS : List Nat := [394, 431, 449, 466, 484, 736, 741, 840, 883, 891, 899, 911, 960, 996, 1041, 1203, 1241, 1242, 1243, 1250, 1292, 1311, 1351, 1357, 1360, 1362, 1419, 1429, 1467, 1475, 1476, 1484, 1485, 1522, 1529, 1530, 1531, 1532, 1533, 1534]
def oF : List Nat := [15, 8, 22, 28, 11, 35]
def oK : List Nat := [275, 285, 296, 308, 321, 335, 4]
def lF : List Nat := [343, 339, 421, 439, 341, 474]
def lK : List Nat := [1523, 1524, 1525, 1526, 1527, 1528, 168]
def nF9 : List Nat := [0, 0, 27, 33, 0, 40, 18, 0, 25, 31, 14, 38, 0, 0, 0, 34, 0, 41, 0, 0, 0, 0, 0, 42, 19, 0, 26, 32, 0, 39, 0, 0, 0, 0, 0, 0]
def nK9 : List Nat := [0, 295, 306, 318, 331, 345, 0, 0, 0, 307, 319, 332, 346, 0, 0, 0, 0, 320, 333, 347, 0, 0, 0, 0, 0, 334, 348, 0, 0, 0, 0, 0, 0, 349, 0, 0, 0, 0, 0, 0, 0, 0, 278, 288, 299, 311, 324, 338, 0]
def tmS (i : Nat) : Term := .string (strT.getD i ("", 0, "")).1 (strT.getD i ("", 0, "")).2.1
def vS (i : Nat) : Term := .field (tmS i) "java/lang/String" "value" "[B"
theorem s_ex : ∀ i, i < 40 → nL[oS.getD i 0]? = some (.exactly (tmS i) "java/lang/String") := by decide +kernel
theorem s_co : ∀ i, i < 40 → nL[oS.getD i 0 + 1]? = some (.eq (.field (tmS i) "java/lang/String" "coder" "B") (.int 0)) := by decide +kernel
theorem s_ar : ∀ i, i < 40 → nL[oS.getD i 0 + 2]? = some (.arrayOf (vS i) .byte) := by decide +kernel
theorem s_le : ∀ i, i < 40 → nL[oS.getD i 0 + 3]? = some (.eq (.length (vS i)) (.int (Int32.ofNat (strL.getD i 0)))) := by decide +kernel
theorem s_seg : ∀ i, i < 40 → (nL.drop (oS.getD i 0 + 4)).take (strL.getD i 0) = (List.range (strL.getD i 0)).map (fun j => .eq (.elem (vS i) (.int (Int32.ofNat j))) (.int ((strB.getD i []).getD j 0))) := by decide +kernel
theorem seg_at {l : List Cond} {o n : Nat} {f : Nat → Cond} (h : (l.drop o).take n = (List.range n).map f) {j : Nat} (hj : j < n) : l[o + j]? = some (f j) := by
  have h1 : ((l.drop o).take n)[j]? = ((List.range n).map f)[j]? := by rw [h]
  rw [List.getElem?_take_of_lt hj, List.getElem?_drop] at h1
  rw [h1]
  simp [hj]
theorem s_by (i : Nat) (hi : i < 40) (j : Nat) (hj : j < strL.getD i 0) : nL[oS.getD i 0 + 4 + j]? = some (.eq (.elem (vS i) (.int (Int32.ofNat j))) (.int ((strB.getD i []).getD j 0))) := seg_at (s_seg i hi) hj
theorem s_ref : ∀ i, i < 40 → lw_tbl[rS.getD i 0]? = some (.stringRef (strT.getD i ("", 0, "")).1 (strT.getD i ("", 0, "")).2.1 (strT.getD i ("", 0, "")).2.2) := by decide +kernel
theorem s_dif : ∀ i, i < 40 → ∀ j, j < 40 → i ≠ j → strL.getD i 0 = strL.getD j 0 → ∃ k, k < 60 ∧ k < strL.getD i 0 ∧ (strB.getD i []).getD k 0 ≠ (strB.getD j []).getD k 0 := by decide +kernel
def stF (i : Nat) : Term := .static "CourierBags$Fault" (fNm.getD i "") "LCourierBags$Fault;"
def stK (i : Nat) : Term := .static "CourierBags$Kind" (kNm.getD i "") "LCourierBags$Kind;"
theorem f_ex : ∀ i, i < 6 → nL[oF.getD i 0]? = some (.exactly (stF i) "CourierBags$Fault") := by decide +kernel
theorem f_la : ∀ i, i < 6 → lw_tbl[lF.getD i 0]? = some (.laysStatic "CourierBags$Fault" (fNm.getD i "") "LCourierBags$Fault;") := by decide +kernel
theorem f_ne : ∀ i, i < 6 → ∀ j, j < 6 → i ≠ j → nL[nF9.getD (6 * i + j) 0]? = some (.not (.eq (stF i) (stF j))) ∨ nL[nF9.getD (6 * j + i) 0]? = some (.not (.eq (stF j) (stF i))) := by decide +kernel
theorem k_ex : ∀ i, i < 7 → nL[oK.getD i 0]? = some (.exactly (stK i) "CourierBags$Kind") := by decide +kernel
theorem k_or : ∀ i, i < 7 → nL[oK.getD i 0 + 1]? = some (.eq (.field (stK i) "java/lang/Enum" "ordinal" "I") (.int (([0, 1, 2, 3, 4, 5, 6] : List Int32).getD i 0))) := by decide +kernel
theorem k_pa : ∀ i, i < 7 → nL[oK.getD i 0 + 2]? = some (.eq (.field (stK i) "CourierBags$Kind" "pattern" "Ljava/lang/String;") (tmS (kPat i))) := by decide +kernel
theorem k_la : ∀ i, i < 7 → lw_tbl[lK.getD i 0]? = some (.laysStatic "CourierBags$Kind" (kNm.getD i "") "LCourierBags$Kind;") := by decide +kernel
theorem k_ne : ∀ i, i < 7 → ∀ j, j < 7 → i ≠ j → nL[nK9.getD (7 * i + j) 0]? = some (.not (.eq (stK i) (stK j))) ∨ nL[nK9.getD (7 * j + i) 0]? = some (.not (.eq (stK j) (stK i))) := by decide +kernel
theorem kp_40 : ∀ i, i < 7 → kPat i < 40 := by decide +kernel
abbrev tmA : Term := .static "CourierBags$Kind" "ALL" "[LCourierBags$Kind;"
abbrev tmM : Term := .static "CourierBags$1" "$SwitchMap$CourierBags$Kind" "[I"
abbrev tmO : Term := .static "java/lang/Integer" "DigitOnes" "[B"
abbrev tmT : Term := .static "java/lang/Integer" "DigitTens" "[B"
theorem a_el : ∀ j, j < 7 → nL[48 + j]? = some (.eq (.elem tmA (.int (Int32.ofNat j))) (stK j)) := by decide +kernel
theorem m_el : ∀ j, j < 7 → nL[62 + j]? = some (.eq (.elem tmM (.int (Int32.ofNat j))) (.int (([1, 2, 3, 4, 5, 6, 0] : List Int32).getD j 0))) := by decide +kernel
theorem o_seg : (nL.drop 72).take 100 = (List.range 100).map (fun j => .eq (.elem tmO (.int (Int32.ofNat j))) (.int (dOnes.getD j 0))) := by decide +kernel
theorem t_seg : (nL.drop 175).take 100 = (List.range 100).map (fun j => .eq (.elem tmT (.int (Int32.ofNat j))) (.int (dTens.getD j 0))) := by decide +kernel
theorem i_Jx00060 : ∀ w ∈ u_ws RJx00060 TJx00060 6, w ∈ tb := by decide +kernel
theorem i_Jx7c733 : ∀ w ∈ u_ws RJx7c733 TJx7c733 6, w ∈ tb := by decide +kernel
section PST
variable {args : Array Value} {s : State}
theorem n_at (hn : ∀ w ∈ nL, w.before args s = true) {w : Cond} {i : Nat} (h : nL[i]? = some w) : w.before args s = true := hn w (List.mem_of_getElem? h)
theorem l_at (ht : ∀ w ∈ lw_tbl, w.before args s = true) {w : Cond} {i : Nat} (h : lw_tbl[i]? = some w) : w.before args s = true := ht w (List.mem_of_getElem? h)
theorem bA_n {s : State} : ∀ a : Nat, a < s.heap.size → ¬ bA s.heap.size a := fun a h h9 => by
  have : s.heap.size ≤ a := h9
  omega
theorem OF_same {o n d : String} {v w : Value} {t : Nat} {A : Nat → Prop} {U : State} {H : Heap} (h : va_OF o n d v t A U H) (h' : va_OF o n d w t A U H) : v = w := by
  obtain ⟨cf, k, i, f, cell, h1, h2, h3, h4, h5, h6⟩ := h
  obtain ⟨cf', k', i', f', cell', g1, g2, g3, g4, g5, g6⟩ := h'
  cases h1.symm.trans g1
  cases h3.symm.trans g3
  exact Option.some.inj (h5.symm.trans g5)
theorem T_same {ty : FieldType} {t N M : Nat} {f g : Nat → Value} {A : Nat → Prop} {U : State} {H : Heap} (h : va_T ty t N f A U H) (h' : va_T ty t M g A U H) (hN : N < 2 ^ 31) (hM : M < 2 ^ 31) : N = M ∧ ∀ j, j < N → f j = g j := by
  obtain ⟨cell, h1, h2, h3, h4, h5, h6, h7⟩ := h
  obtain ⟨cell', g1, g2, g3, g4, g5, g6, g7⟩ := h'
  cases h1.symm.trans g1
  have e : N = M := by
    have h9 : Int32.ofNat N = Int32.ofNat M := h5.symm.trans g5
    have h8 := congrArg Int32.toInt h9
    have e1 : (Int32.ofNat N).toInt = N := nI_toInt hN
    have e2 : (Int32.ofNat M).toInt = M := nI_toInt hM
    rw [e1, e2] at h8
    omega
  exact ⟨e, fun j hj => Option.some.inj ((h6 j hj).symm.trans (g6 j (by omega)))⟩
theorem strL_60 : ∀ i, i < 40 → strL.getD i 0 ≤ 60 := by decide +kernel
theorem str_start (hn : ∀ w ∈ nL, w.before args s = true) : ∃ adK adV : Nat → Nat, vk_S 40 strL strB adK adV (bA s.heap.size) s s.heap ∧ ∀ i : Nat, i < 40 → (tmS i).eval args s none [] s = some (.ref (adK i)) := by
  have h0 : ∀ i : Nat, ∃ q : Nat × Nat, i < 40 → (tmS i).eval args s none [] s = some (.ref q.1) ∧ va_O "java/lang/String" q.1 (bA s.heap.size) s s.heap ∧ va_OF "java/lang/String" "coder" "B" (.int 0) q.1 (bA s.heap.size) s s.heap ∧ va_OF "java/lang/String" "value" "[B" (.ref q.2) q.1 (bA s.heap.size) s s.heap ∧ va_T .byte q.2 (strL.getD i 0) (fun j => .int ((strB.getD i []).getD j 0)) (bA s.heap.size) s s.heap := by
    intro i
    by_cases hi : i < 40
    · obtain ⟨a, c, cA, kA, q1, q2, q3, q4, q5, q6, -⟩ := Cond.exactly_spec (args := args) (first := s) (o := none) (s := s) (idx := []) (t := tmS i) (cls := "java/lang/String") (n_at hn (s_ex i hi))
      obtain ⟨t, ht, hT⟩ := va_Tof (f := fun j => .int ((strB.getD i []).getD j 0)) (A := bA s.heap.size) (Nat.lt_of_le_of_lt (strL_60 i hi) (by decide)) (n_at hn (s_ar i hi)) (va_eqt (n_at hn (s_le i hi))) (fun j hj => va_eqt (n_at hn (s_by i hi j hj))) bA_n
      exact ⟨(a, t), fun _ => ⟨q1, ⟨cA, q3, q5, by rw [q6]; exact q2, bA_n a (Array.getElem?_eq_some_iff.mp q3).1⟩, vk_OFof q1 (va_eqt (n_at hn (s_co i hi))) bA_n, vk_OFof q1 ht bA_n, hT⟩⟩
    · exact ⟨(0, 0), fun h => absurd h hi⟩
  obtain ⟨ad, had⟩ := Classical.axiomOfChoice h0
  refine ⟨fun i => (ad i).1, fun i => (ad i).2, ⟨fun i hi => (had i hi).2, fun i j hi hj e => ?_⟩, fun i hi => (had i hi).1⟩
  by_cases hij : i = j
  · exact hij
  · have e : (ad i).1 = (ad j).1 := e
    have hi9 := (had i hi).2.2.2
    have hj9 := (had j hj).2.2.2
    rw [e] at hi9
    have ev : (.ref (ad i).2 : Value) = .ref (ad j).2 := OF_same hi9.1 hj9.1
    have ev : (ad i).2 = (ad j).2 := Value.ref.inj ev
    have hi8 := hi9.2
    rw [ev] at hi8
    obtain ⟨e1, e2⟩ := T_same hi8 hj9.2 (Nat.lt_of_le_of_lt (strL_60 i hi) (by decide)) (Nat.lt_of_le_of_lt (strL_60 j hj) (by decide))
    obtain ⟨k, -, hk, hd⟩ := s_dif i hi j hj hij e1
    have h9 := e2 k hk
    simp only [Value.int.injEq] at h9
    exact absurd h9 hd
theorem en_start (hn : ∀ w ∈ nL, w.before args s = true) (ht : ∀ w ∈ lw_tbl, w.before args s = true) : ∃ X : Nat → Nat → Nat, EN s.heap.size X s s.heap := by
  obtain ⟨x2, x3, hS, hSe⟩ := str_start hn
  obtain ⟨x0, hF, -⟩ := va_Enof2 (E := "CourierBags$Fault") (d := "LCourierBags$Fault;") (nm := fNm) (F := []) (A := bA s.heap.size) (fun i hi => l_at ht (f_la i hi)) (l_at ht (i := 39) (by decide +kernel)) (fun i hi => n_at hn (f_ex i hi)) (fun q hq => absurd hq List.not_mem_nil) (fun i j hi hj hij => (f_ne i hi j hj hij).elim (fun h => Or.inl (n_at hn h)) (fun h => Or.inr (n_at hn h))) bA_n
  obtain ⟨x1, hK, hKe⟩ := va_Enof2 (E := "CourierBags$Kind") (d := "LCourierBags$Kind;") (nm := kNm) (F := kOrd) (A := bA s.heap.size) (fun i hi => l_at ht (k_la i hi)) (l_at ht (i := 30) (by decide +kernel)) (fun i hi => n_at hn (k_ex i hi)) (fun q hq i hi => by rcases List.mem_singleton.mp hq with rfl; exact n_at hn (k_or i hi)) (fun i j hi hj hij => (k_ne i hi j hj hij).elim (fun h => Or.inl (n_at hn h)) (fun h => Or.inr (n_at hn h))) bA_n
  have hKe : ∀ i, i < 7 → (stK i).eval args s none [] s = some (.ref (x1 i)) := hKe
  have hKf : va_Ef 7 "CourierBags$Kind" "pattern" "Ljava/lang/String;" (fun i => .ref (x2 (kPat i))) x1 (bA s.heap.size) s s.heap := va_Efof (E := "CourierBags$Kind") (d0 := "LCourierBags$Kind;") (nm := kNm) (tm := fun i => tmS (kPat i)) hKe (fun i hi => n_at hn (k_pa i hi)) (fun i hi => hSe _ (kp_40 i hi)) bA_n
  obtain ⟨a0, ea0, hT0⟩ := va_Tof (tm := tmA) (ty := .object "CourierBags$Kind") (N := 7) (f := fun j => .ref (x1 j)) (A := bA s.heap.size) (by decide) (n_at hn (i := 45) (by decide +kernel)) (va_eqt (n_at hn (i := 46) (by decide +kernel))) (fun j hj => va_eqv (n_at hn (a_el j hj)) (hKe j hj)) bA_n
  obtain ⟨a1, ea1, hT1⟩ := va_Tof (tm := tmM) (ty := .int) (N := 7) (f := fun j => .int (([1, 2, 3, 4, 5, 6, 0] : List Int32).getD j 0)) (A := bA s.heap.size) (by decide) (n_at hn (i := 60) (by decide +kernel)) (va_eqt (n_at hn (i := 61) (by decide +kernel))) (fun j hj => va_eqt (n_at hn (m_el j hj))) bA_n
  obtain ⟨a2, ea2, hT2⟩ := va_Tof (tm := tmO) (ty := .byte) (N := 100) (f := fun j => .int (dOnes.getD j 0)) (A := bA s.heap.size) (by decide) (n_at hn (i := 70) (by decide +kernel)) (va_eqt (n_at hn (i := 71) (by decide +kernel))) (fun j hj => va_eqt (n_at hn (seg_at o_seg hj))) bA_n
  obtain ⟨a3, ea3, hT3⟩ := va_Tof (tm := tmT) (ty := .byte) (N := 100) (f := fun j => .int (dTens.getD j 0)) (A := bA s.heap.size) (by decide) (n_at hn (i := 173) (by decide +kernel)) (va_eqt (n_at hn (i := 174) (by decide +kernel))) (fun j hj => va_eqt (n_at hn (seg_at t_seg hj))) bA_n
  refine ⟨fun i j => match i with | 0 => x0 j | 1 => x1 j | 2 => x2 j | 3 => x3 j | _ => (match j with | 0 => a0 | 1 => a1 | 2 => a2 | _ => a3), Nat.le_refl _, NWp.of ht, va_AO.of (l_at ht (i := 72) (by decide +kernel)), va_AO.of (l_at ht (i := 151) (by decide +kernel)), hF, ⟨hK, hKf, ?_, hT0, ?_, hT1⟩, ⟨?_, hS⟩, ⟨?_, ?_, hT2, ?_, hT3, ?_⟩, ⟨?_, ?_⟩, ?_⟩
  · exact va_Zof (l_at ht (i := 767) (by decide +kernel)) (l_at ht (i := 30) (by decide +kernel)) ea0 bA_n
  · exact va_Zof (l_at ht (i := 856) (by decide +kernel)) (l_at ht (i := 47) (by decide +kernel)) ea1 bA_n
  · intro j q hq
    have hj : j < 40 := (List.getElem?_eq_some_iff.mp hq).1
    have h1 := l_at ht (s_ref j hj)
    have h2 := hSe j hj
    have e : strT.getD j ("", 0, "") = q := by rw [List.getD_eq_getElem?_getD, hq]; rfl
    unfold tmS at h2
    rw [e] at h1 h2
    exact vk_R.of h1 h2
  · exact va_Zof (l_at ht (i := 205) (by decide +kernel)) (l_at ht (i := 33) (by decide +kernel)) (va_eqt (n_at hn (i := 7) (by decide +kernel))) bA_n
  · exact va_Zof (l_at ht (i := 1153) (by decide +kernel)) (l_at ht (i := 56) (by decide +kernel)) ea2 bA_n
  · exact va_Zof (l_at ht (i := 1155) (by decide +kernel)) (l_at ht (i := 56) (by decide +kernel)) ea3 bA_n
  · exact va_Zqof (l_at ht (i := 796) (by decide +kernel)) (l_at ht (i := 45) (by decide +kernel)) (n_at hn (i := 55) (by decide +kernel)) bA_n
  · exact vx_Zqof (l_at ht (i := 375) (by decide +kernel)) (l_at ht (i := 35) (by decide +kernel)) (n_at hn (i := 20) (by decide +kernel)) bA_n
  · exact vx_Zqof (l_at ht (i := 377) (by decide +kernel)) (l_at ht (i := 35) (by decide +kernel)) (n_at hn (i := 21) (by decide +kernel)) bA_n
  · exact ⟨va_Nc.of (n_at hn (i := 357) (by decide +kernel)), va_Nc.of (n_at hn (i := 389) (by decide +kernel)), va_Nc.of (n_at hn (i := 392) (by decide +kernel)), va_Nc.of (n_at hn (i := 405) (by decide +kernel)), va_Nc.of (n_at hn (i := 393) (by decide +kernel)), va_Nc.of (n_at hn (i := 409) (by decide +kernel)), va_Nc.of (n_at hn (i := 377) (by decide +kernel)), va_Nc.of (n_at hn (i := 408) (by decide +kernel))⟩
theorem kk_start (ht : ∀ w ∈ lw_tbl, w.before args s = true) : ∃ (D : va_G) (G : GA), KK D G s := by
  have hts := tb_all ht
  have h0 : ∀ c : Nat, ∃ q : ClassId × (Nat → Nat), ∀ r : vw_C, vwCl[c]? = some r → u_Kn s r.1 r.2.1 r.2.2 q.1 q.2 := by
    intro c
    by_cases hc : c < 9
    · rcases (show c = 0 ∨ c = 1 ∨ c = 2 ∨ c = 3 ∨ c = 4 ∨ c = 5 ∨ c = 6 ∨ c = 7 ∨ c = 8 by omega) with rfl | rfl | rfl | rfl | rfl | rfl | rfl | rfl | rfl
      · obtain ⟨cC, iS, h⟩ := u_known (n := 4) hts i_J0 (l_at ht (i := 595) (w := .instantiable RJ0 4) (by decide +kernel))
        exact ⟨(cC, iS), fun r hr => by cases hr; exact h⟩
      · obtain ⟨cC, iS, h⟩ := u_known (n := 4) hts i_J4 (l_at ht (i := 196) (w := .instantiable RJ4 4) (by decide +kernel))
        exact ⟨(cC, iS), fun r hr => by cases hr; exact h⟩
      · obtain ⟨cC, iS, h⟩ := u_known (n := 6) hts i_Jx00060 (l_at ht (i := 580) (w := .instantiable RJx00060 6) (by decide +kernel))
        exact ⟨(cC, iS), fun r hr => by cases hr; exact h⟩
      · obtain ⟨cC, iS, h⟩ := u_known (n := 6) hts i_Jx7c733 (l_at ht (i := 1035) (w := .instantiable RJx7c733 6) (by decide +kernel))
        exact ⟨(cC, iS), fun r hr => by cases hr; exact h⟩
      · obtain ⟨cC, iS, h⟩ := u_known (n := 7) hts i_X1 (l_at ht (i := 66) (w := .instantiable RX1 7) (by decide +kernel))
        exact ⟨(cC, iS), fun r hr => by cases hr; exact h⟩
      · obtain ⟨cC, iS, h⟩ := u_known (n := 2) hts i_X3 (l_at ht (i := 145) (w := .instantiable RX3 2) (by decide +kernel))
        exact ⟨(cC, iS), fun r hr => by cases hr; exact h⟩
      · obtain ⟨cC, iS, h⟩ := u_known (n := 8) hts i_X4 (l_at ht (i := 73) (w := .instantiable RX4 8) (by decide +kernel))
        exact ⟨(cC, iS), fun r hr => by cases hr; exact h⟩
      · obtain ⟨cC, iS, h⟩ := u_known (n := 7) hts i_X6 (l_at ht (i := 162) (w := .instantiable RX6 7) (by decide +kernel))
        exact ⟨(cC, iS), fun r hr => by cases hr; exact h⟩
      · obtain ⟨cC, iS, h⟩ := u_known (n := 12) hts i_X7 (l_at ht (i := 58) (w := .instantiable RX7 12) (by decide +kernel))
        exact ⟨(cC, iS), fun r hr => by cases hr; exact h⟩
    · exact ⟨(0, fun _ => 0), fun r hr => absurd (List.getElem?_eq_some_iff.mp hr).1 hc⟩
  obtain ⟨ad, had⟩ := Classical.axiomOfChoice h0
  have pr : ∀ (ty : FieldType), (Cond.arrayClass ty).before args s = true → ∃ c : ClassId, ArrOfT s c ty ∧ s.vm.findClass ("[" ++ ty.toString) = some c := by
    intro ty h
    obtain ⟨c, k, comp, h1, h2, h3⟩ := Cond.arrayClass_spec (args := args) (first := s) (o := none) (s := s) (idx := []) h
    exact ⟨c, fun n z => ⟨(fun k h => by cases h), k, h2, comp, h3⟩, h1⟩
  have po : ∀ (C : String), (Cond.arrayOver (.object C)).before args s = true → ∃ c : ClassId, ArrOfT s c (.object C) ∧ va_RA s c (.object C) := by
    intro C h
    obtain ⟨comp, c, k, h1, h2, h3, h4, h5⟩ := Cond.arrayOver_spec (args := args) (first := s) (o := none) (s := s) (idx := []) h
    exact ⟨c, fun n z => ⟨(fun k h => by cases h), k, h3, comp, h4⟩, k, comp, h3, h4, h1, h5⟩
  obtain ⟨g0, p0, r0⟩ := po "CourierBags$Item" (l_at ht (i := 72) (by decide +kernel))
  obtain ⟨g1, p1, r1⟩ := pr .int (l_at ht (i := 143) (by decide +kernel))
  obtain ⟨g2, p2, r2⟩ := po "CourierBags$Cargo" (l_at ht (i := 151) (by decide +kernel))
  obtain ⟨g3, p3, r3⟩ := pr .char (l_at ht (i := 194) (by decide +kernel))
  obtain ⟨g4, p4, r4⟩ := pr .byte (l_at ht (i := 227) (by decide +kernel))
  obtain ⟨g5, p5, r5⟩ := pr .long (l_at ht (i := 1486) (by decide +kernel))
  refine ⟨(fun c => (ad c).1, fun c => (ad c).2), fun i => match i with | 0 => g0 | 1 => g1 | 2 => g2 | 3 => g3 | 4 => g4 | _ => g5, fun c q hq => had c q hq, fun k q hq => ?_⟩
  have hk : k < 6 := (List.getElem?_eq_some_iff.mp hq).1
  rcases (show k = 0 ∨ k = 1 ∨ k = 2 ∨ k = 3 ∨ k = 4 ∨ k = 5 by omega) with rfl | rfl | rfl | rfl | rfl | rfl
  · cases hq; exact ⟨p0, r0⟩
  · cases hq; exact ⟨p1, r1⟩
  · cases hq; exact ⟨p2, r2⟩
  · cases hq; exact ⟨p3, r3⟩
  · cases hq; exact ⟨p4, r4⟩
  · cases hq; exact ⟨p5, r5⟩
end PST
