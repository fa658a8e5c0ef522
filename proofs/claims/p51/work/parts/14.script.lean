/-! THE SCRIPT: tx the text, nm the numbers, n how long, p where the reader stands, c how many numbers, mq the mark, kd the kind -/
def sw (G : GA) (X : Nat → Nat → Nat) (q3 q4 q5 : Nat) (tx nm : Nat → Int32) (n p c : Nat) (mq : Int32) (kd : Nat) : va_W :=
  [(q3, .inr (7, [.ref q4, .int (nI n), .int (nI p), .ref (X 1 kd), .ref q5, .int (nI c), .int (z01 mq)])), (q4, .inl (G 3, 60, .inl tx)), (q5, .inl (G 1, 3, .inl nm))]
theorem swD {A : Nat → Prop} {G : GA} {X : Nat → Nat → Nat} {q3 q4 q5 : Nat} {tx nm tx' nm' : Nat → Int32} {n p c n' p' c' : Nat} {mq mq' : Int32} {kd kd' : Nat} (h : va_D A (sw G X q3 q4 q5 tx nm n p c mq kd)) : va_D A (sw G X q3 q4 q5 tx' nm' n' p' c' mq' kd') := D_addr h rfl
abbrev SQp (D : va_G) (G : GA) (X : Nat → Nat → Nat) (q3 q4 q5 : Nat) (tx nm : Nat → Int32) (n p c : Nat) (mq : Int32) (kd : Nat) (U : State) : Prop := va_P D vwCl (sw G X q3 q4 q5 tx nm n p c mq kd) U.heap ∧ KK D G U
abbrev SMp (D : va_G) (G : GA) (B0 : Nat) (X : Nat → Nat → Nat) (q3 q4 q5 : Nat) (tx nm : Nat → Int32) (n p c : Nat) (mq : Int32) (kd : Nat) (sz : Nat) (U : State) : Prop := U.heap.size = sz ∧ va_P D vwCl (sw G X q3 q4 q5 tx nm n p c mq kd) U.heap ∧ KK D G U ∧ va_D (bA B0) (sw G X q3 q4 q5 tx nm n p c mq kd) ∧ EN B0 X U U.heap
section PVS
variable {s : State} {H : Heap} {D : va_G} {G : GA} {B0 : Nat} {X : Nat → Nat → Nat} {q3 q4 q5 : Nat} {tx nm : Nat → Int32} {n p c : Nat} {mq : Int32} {kd : Nat}
theorem pv_sq {As : List Value} (hK : KK D G s) (hP : va_P D vwCl (sw G X q3 q4 q5 tx nm n p c mq kd) H) : PreV s H RX6 q3 (va_Pc (.ref q3 :: As) (SQp D G X q3 q4 q5 tx nm n p c mq kd)) As :=
  ⟨fun A U g mk q => ⟨q.1, q.2.1, va_K.moved (Vm.Alike.refl U.vm) q.2.2⟩, va_recv hK hP (ci := 7) (q0 := 0) rfl rfl, fun U hU hW => ⟨rfl, by rw [hU]; exact hP, va_K.moved hW.alike hK⟩⟩
theorem pv_sm {A : Nat → Prop} {As : List Value} (hK : KK D G s) (hP : va_P D vwCl (sw G X q3 q4 q5 tx nm n p c mq kd) H) (hD : va_D A (sw G X q3 q4 q5 tx nm n p c mq kd)) (hAB : ∀ q, A q → B0 ≤ q) (hE : EN B0 X s H) : PreV s H RX6 q3 (va_Pc (.ref q3 :: As) (SMp D G B0 X q3 q4 q5 tx nm n p c mq kd H.size)) As :=
  ⟨fun A U g mk q => ⟨q.1, q.2.1, q.2.2.1, va_K.moved (Vm.Alike.refl U.vm) q.2.2.2.1, q.2.2.2.2.1, EN.warm (s := U) (State.WarmedH.refl U) q.2.2.2.2.2⟩, va_recv hK hP (ci := 7) (q0 := 0) rfl rfl, fun U hU hW => ⟨rfl, by rw [hU], by rw [hU]; exact hP, va_K.moved hW.alike hK, hD.weaken (fun _ q _ h => hAB q.1 h), by rw [hU]; exact hE.warm hW⟩⟩
end PVS
section VKN
variable {p : Program} {l : Launch} {e : Env} {R : Room} {s : State} {m : MethodId} {args : Array Value} {below : List Frame} {meth : Method} {c : Code} {H : Heap} {locs : List Loc} {cells slots : Nat} {Q : State → Prop}
variable {cc : ByteArray} {pc : Nat} {ls : Array Slot} {rest : List Value} {A : Nat → Prop}
theorem vk_getfN (hexec : p.tables.exec = Jvm.exec) (hb : c.code = cc) {o n d own ref host : String} {index q : Nat} {v : Value} (hE : va_OF o n d v q A s s.heap) (hS : va_S A s.heap H locs) (hown : s.vm.findClass own = some m.cls) (hlink : (Cond.fieldLinkNest own index ref n d host).before args s = true) (hsame : ∀ x, s.fieldFound? o n d = some x → s.fieldFound? ref n d = some x) (hdg : decode cc pc = .ok (.getfield index, 3))
    (kk : W p l e R s m args below meth c H locs cells slots Q (F0 m (pc + 3) ls (v :: rest))) : W p l e R s m args below meth c H locs cells slots Q (F0 m pc ls (.ref q :: rest)) := by
  obtain ⟨cf, k, i, f, cell, h1, h2, h3, h4, h5, h6⟩ := hE
  have hlt : q < s.heap.size := (Array.getElem?_eq_some_iff.mp h3).1
  exact va_Wgetf hexec hb hown hlink (hsame _ h1) h2 ((hS.2.1 q hlt h6).trans h3) h4 h5 rfl rfl hdg kk
end VKN
theorem A_sub {ws : va_W} {sz B0 : Nat} (hD : va_D (bA B0) ws) (hz : B0 ≤ sz) : ∀ q, va_A ws sz q → B0 ≤ q := by
  intro q h
  rcases A_mem h with ⟨p, hp, e⟩ | h
  · rw [← e]; exact D_in hD hp
  · exact Nat.le_trans hz h
def chS (i j : Nat) : Int32 := (strB.getD i []).getD j 0 &&& 255
theorem strL_le : ∀ i, i < 40 → strL.getD i 0 ≤ 60 := by decide
def r_full (n : Nat) : Bool := if n < 60 then false else true
def r_take (tx : Nat → Int32) (n : Nat) (w : Int32) (p : Nat) : Bool × Nat := if n ≤ p then (false, p) else if tx p = w then (true, p + 1) else (false, p)
def r_digit (tx : Nat → Int32) (n p : Nat) : Bool := if n ≤ p then false else if tx p < 48 then false else if 57 < tx p then false else true
def r_nlp (tx : Nat → Int32) (n : Nat) : Nat → Nat → Int32 → Nat → Nat × Int32 × Nat
  | 0, p, v, d => (p, v, d)
  | k + 1, p, v, d => if r_digit tx n p = true then r_nlp tx n k (p + 1) (10 * v + (tx p - 48)) (d + 1) else (p, v, d)
def r_nfin (nm : Nat → Int32) (c : Nat) (r : Nat × Int32 × Nat) : Bool × Nat × (Nat → Int32) × Nat := if r.2.2 = 0 then (false, r.1, nm, c) else if c < 3 then (true, r.1, upd nm c r.2.1, c + 1) else (false, r.1, nm, c)
def r_number (tx : Nat → Int32) (n m p : Nat) (nm : Nat → Int32) (c : Nat) : Bool × Nat × (Nat → Int32) × Nat := r_nfin nm c (r_nlp tx n m p 0 0)
def r_part (tx : Nat → Int32) (n : Nat) (ch : Int32) (p : Nat) (nm : Nat → Int32) (c : Nat) (mq : Int32) : Bool × Nat × (Nat → Int32) × Nat × Int32 :=
  if ch = 78 then ((r_number tx n 2 p nm c).1, (r_number tx n 2 p nm c).2.1, (r_number tx n 2 p nm c).2.2.1, (r_number tx n 2 p nm c).2.2.2, mq)
  else if ch = 68 then ((r_number tx n 1 p nm c).1, (r_number tx n 1 p nm c).2.1, (r_number tx n 1 p nm c).2.2.1, (r_number tx n 1 p nm c).2.2.2, mq)
  else if ch = 33 then (true, (r_take tx n 33 p).2, nm, c, bi (r_take tx n 33 p).1)
  else ((r_take tx n ch p).1, (r_take tx n ch p).2, nm, c, mq)
def r_plp (tx : Nat → Int32) (n : Nat) (ps : Nat → Int32) : Nat → Nat → Nat → (Nat → Int32) → Nat → Int32 → Bool × Nat × (Nat → Int32) × Nat × Int32
  | 0, _, p, nm, c, mq => (true, p, nm, c, mq)
  | k + 1, i, p, nm, c, mq => if (r_part tx n (ps i) p nm c mq).1 = true then r_plp tx n ps k (i + 1) (r_part tx n (ps i) p nm c mq).2.1 (r_part tx n (ps i) p nm c mq).2.2.1 (r_part tx n (ps i) p nm c mq).2.2.2.1 (r_part tx n (ps i) p nm c mq).2.2.2.2
    else (false, (r_part tx n (ps i) p nm c mq).2.1, (r_part tx n (ps i) p nm c mq).2.2.1, (r_part tx n (ps i) p nm c mq).2.2.2.1, (r_part tx n (ps i) p nm c mq).2.2.2.2)
def r_pattern (tx : Nat → Int32) (n i p : Nat) (nm : Nat → Int32) : Bool × Nat × (Nat → Int32) × Nat × Int32 := r_plp tx n (chS i) (strL.getD i 0) 0 p nm 0 0
def r_clp (tx : Nat → Int32) (n start : Nat) : Nat → Nat → Nat → Nat → (Nat → Int32) → Nat → Int32 → Nat → Bool × Nat × (Nat → Int32) × Nat × Int32 × Nat
  | 0, _, far, _, nm, c, mq, kd => (false, far, nm, c, mq, kd)
  | k + 1, i, far, _, nm, _, _, kd => if (r_pattern tx n (kPat i) start nm).1 = true then (true, (r_pattern tx n (kPat i) start nm).2.1, (r_pattern tx n (kPat i) start nm).2.2.1, (r_pattern tx n (kPat i) start nm).2.2.2.1, (r_pattern tx n (kPat i) start nm).2.2.2.2, i)
    else r_clp tx n start k (i + 1) (if far < (r_pattern tx n (kPat i) start nm).2.1 then (r_pattern tx n (kPat i) start nm).2.1 else far) (r_pattern tx n (kPat i) start nm).2.1 (r_pattern tx n (kPat i) start nm).2.2.1 (r_pattern tx n (kPat i) start nm).2.2.2.1 (r_pattern tx n (kPat i) start nm).2.2.2.2 kd
def r_command (tx : Nat → Int32) (n p : Nat) (nm : Nat → Int32) (c : Nat) (mq : Int32) (kd : Nat) : Bool × Nat × (Nat → Int32) × Nat × Int32 × Nat := r_clp tx n p 7 0 p p nm c mq kd
def r_ctlp (tx : Nat → Int32) (n : Nat) : Nat → Nat → Nat → (Nat → Int32) → Nat → Int32 → Nat → Int32 × Nat × (Nat → Int32) × Nat × Int32 × Nat
  | 0, _, p, nm, c, mq, kd => (-1, p, nm, c, mq, kd)
  | k + 1, ct, p, nm, c, mq, kd => if (r_command tx n p nm c mq kd).1 = true then (if (r_command tx n p nm c mq kd).2.1 < n then (if (r_take tx n 59 (r_command tx n p nm c mq kd).2.1).1 = true then r_ctlp tx n k (ct + 1) (r_take tx n 59 (r_command tx n p nm c mq kd).2.1).2 (r_command tx n p nm c mq kd).2.2.1 (r_command tx n p nm c mq kd).2.2.2.1 (r_command tx n p nm c mq kd).2.2.2.2.1 (r_command tx n p nm c mq kd).2.2.2.2.2
        else (-1, (r_take tx n 59 (r_command tx n p nm c mq kd).2.1).2, (r_command tx n p nm c mq kd).2.2.1, (r_command tx n p nm c mq kd).2.2.2.1, (r_command tx n p nm c mq kd).2.2.2.2.1, (r_command tx n p nm c mq kd).2.2.2.2.2))
      else (nI ct, (r_command tx n p nm c mq kd).2.1, (r_command tx n p nm c mq kd).2.2.1, (r_command tx n p nm c mq kd).2.2.2.1, (r_command tx n p nm c mq kd).2.2.2.2.1, (r_command tx n p nm c mq kd).2.2.2.2.2))
    else (-1, (r_command tx n p nm c mq kd).2.1, (r_command tx n p nm c mq kd).2.2.1, (r_command tx n p nm c mq kd).2.2.2.1, (r_command tx n p nm c mq kd).2.2.2.2.1, (r_command tx n p nm c mq kd).2.2.2.2.2)
def r_count (tx : Nat → Int32) (n : Nat) (nm : Nat → Int32) (c : Nat) (mq : Int32) (kd : Nat) : Int32 × Nat × (Nat → Int32) × Nat × Int32 × Nat := r_ctlp tx n 60 1 0 nm c mq kd
def r_num (nm : Nat → Int32) (c i : Nat) : Int32 := if c ≤ i then 0 else nm i
-- bounds
theorem r_take_p {tx : Nat → Int32} {n p : Nat} {w : Int32} (hn : n ≤ 60) (hp : p ≤ 60) : (r_take tx n w p).2 ≤ 60 := by
  unfold r_take
  split
  · exact hp
  · split <;> simp <;> omega
theorem r_nlp_p {tx : Nat → Int32} {n : Nat} (hn : n ≤ 60) : ∀ (k p : Nat) (v : Int32) (d : Nat), p ≤ 60 → (r_nlp tx n k p v d).1 ≤ 60 := by
  intro k
  induction k with
  | zero => intro p v d hp; exact hp
  | succ k ih =>
    intro p v d hp
    unfold r_nlp
    split
    · next h =>
      refine ih _ _ _ ?_
      unfold r_digit at h
      split at h
      · exact absurd h (by decide)
      · omega
    · exact hp
theorem r_number_p {tx : Nat → Int32} {n m p : Nat} {nm : Nat → Int32} {c : Nat} (hn : n ≤ 60) (hp : p ≤ 60) : (r_number tx n m p nm c).2.1 ≤ 60 := by
  have h := r_nlp_p (tx := tx) hn m p 0 0 hp
  unfold r_number r_nfin
  split
  · exact h
  · split <;> exact h
theorem r_number_c {tx : Nat → Int32} {n m p : Nat} {nm : Nat → Int32} {c : Nat} (hc : c ≤ 3) : (r_number tx n m p nm c).2.2.2 ≤ 3 := by
  unfold r_number r_nfin
  split
  · exact hc
  · split
    · simp; omega
    · exact hc
theorem r_part_p {tx : Nat → Int32} {n : Nat} {ch : Int32} {p : Nat} {nm : Nat → Int32} {c : Nat} {mq : Int32} (hn : n ≤ 60) (hp : p ≤ 60) : (r_part tx n ch p nm c mq).2.1 ≤ 60 := by
  unfold r_part
  split
  · exact r_number_p hn hp
  · split
    · exact r_number_p hn hp
    · split
      · exact r_take_p hn hp
      · exact r_take_p hn hp
theorem r_part_c {tx : Nat → Int32} {n : Nat} {ch : Int32} {p : Nat} {nm : Nat → Int32} {c : Nat} {mq : Int32} (hc : c ≤ 3) : (r_part tx n ch p nm c mq).2.2.2.1 ≤ 3 := by
  unfold r_part
  split
  · exact r_number_c hc
  · split
    · exact r_number_c hc
    · split <;> exact hc
theorem r_plp_pc {tx : Nat → Int32} {n : Nat} {ps : Nat → Int32} (hn : n ≤ 60) : ∀ (k i p : Nat) (nm : Nat → Int32) (c : Nat) (mq : Int32), p ≤ 60 → c ≤ 3 → (r_plp tx n ps k i p nm c mq).2.1 ≤ 60 ∧ (r_plp tx n ps k i p nm c mq).2.2.2.1 ≤ 3 := by
  intro k
  induction k with
  | zero => intro i p nm c mq hp hc; exact ⟨hp, hc⟩
  | succ k ih =>
    intro i p nm c mq hp hc
    unfold r_plp
    split
    · exact ih _ _ _ _ _ (r_part_p hn hp) (r_part_c hc)
    · exact ⟨r_part_p hn hp, r_part_c hc⟩
theorem r_pattern_p {tx : Nat → Int32} {n i p : Nat} {nm : Nat → Int32} (hn : n ≤ 60) (hp : p ≤ 60) : (r_pattern tx n i p nm).2.1 ≤ 60 := (r_plp_pc hn _ _ _ _ _ _ hp (by decide)).1
theorem r_pattern_c {tx : Nat → Int32} {n i p : Nat} {nm : Nat → Int32} (hn : n ≤ 60) (hp : p ≤ 60) : (r_pattern tx n i p nm).2.2.2.1 ≤ 3 := (r_plp_pc hn _ _ _ _ _ _ hp (by decide)).2
theorem r_clp_pc {tx : Nat → Int32} {n start : Nat} (hn : n ≤ 60) (hs : start ≤ 60) : ∀ (k i far p : Nat) (nm : Nat → Int32) (c : Nat) (mq : Int32) (kd : Nat), far ≤ 60 → c ≤ 3 → (r_clp tx n start k i far p nm c mq kd).2.1 ≤ 60 ∧ (r_clp tx n start k i far p nm c mq kd).2.2.2.1 ≤ 3 := by
  intro k
  induction k with
  | zero => intro i far p nm c mq kd hf hc; exact ⟨hf, hc⟩
  | succ k ih =>
    intro i far p nm c mq kd hf hc
    unfold r_clp
    have h1 := r_pattern_p (tx := tx) (i := kPat i) (nm := nm) hn hs
    have h2 := r_pattern_c (tx := tx) (i := kPat i) (nm := nm) hn hs
    split
    · exact ⟨h1, h2⟩
    · refine ih _ _ _ _ _ _ _ ?_ h2
      split <;> omega
theorem r_command_p {tx : Nat → Int32} {n p : Nat} {nm : Nat → Int32} {c : Nat} {mq : Int32} {kd : Nat} (hn : n ≤ 60) (hp : p ≤ 60) (hc : c ≤ 3) : (r_command tx n p nm c mq kd).2.1 ≤ 60 := (r_clp_pc hn hp _ _ _ _ _ _ _ _ hp hc).1
theorem r_command_c {tx : Nat → Int32} {n p : Nat} {nm : Nat → Int32} {c : Nat} {mq : Int32} {kd : Nat} (hn : n ≤ 60) (hp : p ≤ 60) (hc : c ≤ 3) : (r_command tx n p nm c mq kd).2.2.2.1 ≤ 3 := (r_clp_pc hn hp _ _ _ _ _ _ _ _ hp hc).2
theorem r_ctlp_pc {tx : Nat → Int32} {n : Nat} (hn : n ≤ 60) : ∀ (k ct p : Nat) (nm : Nat → Int32) (c : Nat) (mq : Int32) (kd : Nat), p ≤ 60 → c ≤ 3 → (r_ctlp tx n k ct p nm c mq kd).2.1 ≤ 60 ∧ (r_ctlp tx n k ct p nm c mq kd).2.2.2.1 ≤ 3 := by
  intro k
  induction k with
  | zero => intro ct p nm c mq kd hp hc; exact ⟨hp, hc⟩
  | succ k ih =>
    intro ct p nm c mq kd hp hc
    unfold r_ctlp
    have h1 := r_command_p (tx := tx) (nm := nm) (mq := mq) (kd := kd) hn hp hc
    have h2 := r_command_c (tx := tx) (nm := nm) (mq := mq) (kd := kd) hn hp hc
    have h3 := r_take_p (tx := tx) (w := 59) hn h1
    split
    · split
      · split
        · exact ih _ _ _ _ _ _ h3 h2
        · exact ⟨h3, h2⟩
      · exact ⟨h1, h2⟩
    · exact ⟨h1, h2⟩
theorem mx_nat {a b : Nat} (ha : a < 2 ^ 31) (hb : b < 2 ^ 31) : (if nI a < nI b then nI b else nI a) = nI (if a < b then b else a) := by
  by_cases h : a < b
  · rw [if_pos h, if_pos (nI_lt h hb)]
  · rw [if_neg h, if_neg (fun h9 => h ((nI_ltI ha hb).mp h9))]
theorem r_digit_lt {tx : Nat → Int32} {n p : Nat} (h : r_digit tx n p = true) : p < n := by
  unfold r_digit at h
  split at h
  · exact absurd h (by decide)
  · omega
theorem kPat_lt : ∀ i, i < 7 → kPat i < 40 := by decide
theorem ite_le {a b : Nat} (ha : a ≤ 60) (hb : b ≤ 60) : (if a < b then b else a) ≤ 60 := by split <;> omega
theorem i_X6 : ∀ w ∈ u_ws RX6 TX6 7, w ∈ tb := by decide +kernel
theorem gw_X6_90 : GoodIn tb (wsV RX6 90 RX6 yX6_isAtDigit (wA yX6_isAtDigit cX6_isAtDigit 1 (some .boolean))) := gV kw_827 kw_829 kw_14 kw_28 kw_830
theorem gw_X6_45 : GoodIn tb (wsV RX6 45 RX6 yX6_take (wA yX6_take cX6_take 2 (some .boolean))) := gV kw_831 kw_832 kw_833 kw_28 kw_834
theorem gw_X6_86 : GoodIn tb (wsV RX6 86 RX6 yX6_readNumber (wA yX6_readNumber cX6_readNumber 4 (some .boolean))) := gV kw_823 kw_825 kw_13 kw_28 kw_826
theorem gw_X6_74 : GoodIn tb (wsV RX6 74 RJ0 yJ0_length_8abf5 (wA yJ0_length_8abf5 cJ0_length_8abf5 1 (some .int))) := gV kw_772 kw_773 kw_774 kw_33 kw_775
theorem gw_X6_79 : GoodIn tb (wsV RX6 79 RJ0 yJ0_charAt_5068e (wA yJ0_charAt_5068e cJ0_charAt_5068e 2 (some .char))) := gV kw_781 kw_782 kw_783 kw_33 kw_784
theorem gw_X6_83 : GoodIn tb (wsV RX6 83 RX6 yX6_readPart (wA yX6_readPart cX6_readPart 2 (some .boolean))) := gV kw_819 kw_821 kw_12 kw_28 kw_822
theorem gw_X6_57 : GoodIn tb (wsV RX6 57 RX6 yX6_readPattern (wA yX6_readPattern cX6_readPattern 3 (some .boolean))) := gV kw_768 kw_770 kw_11 kw_28 kw_771
theorem gw_X6_39 : GoodIn tb (wsV RX6 39 RX6 yX6_rewind (wA yX6_rewind cX6_rewind 1 none)) := gV kw_758 kw_759 kw_760 kw_28 kw_761
theorem gw_X6_42 : GoodIn tb (wsV RX6 42 RX6 yX6_readCommand (wA yX6_readCommand cX6_readCommand 7 (some .boolean))) := gV kw_762 kw_763 kw_764 kw_28 kw_765
theorem gw_X6_32 : GoodIn tb (wsV RX6 32 RX6 yX6_isFull (wA yX6_isFull cX6_isFull 1 (some .boolean))) := gV kw_746 kw_738 kw_739 kw_28 kw_740
set_option maxRecDepth 100000 in
set_option maxHeartbeats 4000000 in
theorem c_X6_isFull (l : Launch) (D : va_G) (G : GA) (X : Nat → Nat → Nat) (q3 q4 q5 : Nat) (tx nm : Nat → Int32) (n p c : Nat) (mq : Int32) (kd : Nat) (hn : n ≤ 60) (hp : p ≤ 60) (hc : c ≤ 3) : Met l yX6_isFull (wA yX6_isFull cX6_isFull 1 (some .boolean)) ({ frames := 0, cells := 0, slots := 0, locals := 0 } : Room) (va_Pc [.ref q3] (SQp D G X q3 q4 q5 tx nm n p c mq kd)) (vp_Si (fun r => r = bi (r_full n))) 0 0 (fun _ => False) := by
  refine Met.ofW (cc := cX6_isFull) (maxL := 1) (ret := (some .boolean)) (by decide) rfl ?_
  intro p9 e s m args below meth c9 s₁ B hml hv
  obtain ⟨rfl, hP, hK⟩ := hv
  have hx := B.exec
  have hb := B.bytes
  have hr := B.returns
  have hts : ∀ w9 ∈ tb, w9.before ([.ref q3] : List Value).toArray s = true := fun w9 h9 => atoms_spec (ws := (wA yX6_isFull cX6_isFull 1 (some .boolean))) B.pre w9 (List.mem_cons_of_mem _ h9)
  have hown : s.vm.findClass RX6 = some m.cls := findClass_of_methodNamed B.named
  have hlocks := B.notSynchronized
  have hl := lv_entry ([.ref q3]) (n := 1) (Nat.le_of_ble_eq_true rfl)
  rw [lg_entry_eq]
  generalize (lg_sl ([.ref q3]) ++ List.replicate (1 - (lg_sl ([.ref q3])).length) Slot.unset).toArray = ls at hl ⊢
  have hl : lv_has ls 1 [(0, .ref q3)] := hl
  refine lv_aload_n hx hb dX6_isFull_0 rfl (lv_at hl 0 rfl) ?_
  refine va_get (D := D) (ci := 7) (v := .int (nI n)) (C := RX6) (T := TX6) (N := 7) hx hb hts i_X6 hown hK hP 0 rfl rfl 1 (by decide) (hts _ kw_170) (fun _ h9 => h9) rfl dX6_isFull_1 ?_
  refine lv_aload_n hx hb dX6_isFull_4 rfl (lv_at hl 0 rfl) ?_
  refine va_get (D := D) (ci := 7) (v := .ref q4) (C := RX6) (T := TX6) (N := 7) hx hb hts i_X6 hown hK hP 0 rfl rfl 0 (by decide) (hts _ kw_169) (fun _ h9 => h9) rfl dX6_isFull_5 ?_
  refine va_alen (v := nI 60) hx hb hK hP 1 3 rfl rfl rfl dX6_isFull_8 ?_
  refine lv_icmp_lt (tgt := 16) hx hb dX6_isFull_9 (by decide) (fun c_1 => ?_) (fun c_1 => ?_)
  · skip
    have d_2 : n < 60 := (nI_ltI (a := n) (b := 60) (by omega) (by omega)).mp c_1
    refine lv_iconst (v := 0) hx hb dX6_isFull_16 (by decide) ?_
    exact W.zret (ty := .boolean) (v := 0) hx hb hr (by decide) (fun t ht hW => ⟨0, rfl, (by simp only [r_full, if_pos d_2] <;> rfl), ht⟩) (fun q h => absurd h List.not_mem_nil) dX6_isFull_17
  · skip
    have d_2 : ¬ n < 60 := fun h9 => c_1 (nI_lt (a := n) (b := 60) h9 (by omega))
    refine lv_iconst (v := 1) hx hb dX6_isFull_12 (by decide) ?_
    refine lv_goto (tgt := 17) hx hb dX6_isFull_13 (by decide) ?_
    exact W.zret (ty := .boolean) (v := 1) hx hb hr (by decide) (fun t ht hW => ⟨1, rfl, (by simp only [r_full, if_neg d_2] <;> rfl), ht⟩) (fun q h => absurd h List.not_mem_nil) dX6_isFull_17
set_option maxRecDepth 100000 in
set_option maxHeartbeats 4000000 in
theorem c_X6_isAtDigit (l : Launch) (D : va_G) (G : GA) (X : Nat → Nat → Nat) (q3 q4 q5 : Nat) (tx nm : Nat → Int32) (n p c : Nat) (mq : Int32) (kd : Nat) (hn : n ≤ 60) (hp : p ≤ 60) (hc : c ≤ 3) : Met l yX6_isAtDigit (wA yX6_isAtDigit cX6_isAtDigit 1 (some .boolean)) ({ frames := 0, cells := 0, slots := 0, locals := 0 } : Room) (va_Pc [.ref q3] (SQp D G X q3 q4 q5 tx nm n p c mq kd)) (vp_Si (fun r => r = bi (r_digit tx n p))) 0 0 (fun _ => False) := by
  refine Met.ofW (cc := cX6_isAtDigit) (maxL := 1) (ret := (some .boolean)) (by decide) rfl ?_
  intro p9 e s m args below meth c9 s₁ B hml hv
  obtain ⟨rfl, hP, hK⟩ := hv
  have hx := B.exec
  have hb := B.bytes
  have hr := B.returns
  have hts : ∀ w9 ∈ tb, w9.before ([.ref q3] : List Value).toArray s = true := fun w9 h9 => atoms_spec (ws := (wA yX6_isAtDigit cX6_isAtDigit 1 (some .boolean))) B.pre w9 (List.mem_cons_of_mem _ h9)
  have hown : s.vm.findClass RX6 = some m.cls := findClass_of_methodNamed B.named
  have hlocks := B.notSynchronized
  have hl := lv_entry ([.ref q3]) (n := 1) (Nat.le_of_ble_eq_true rfl)
  rw [lg_entry_eq]
  generalize (lg_sl ([.ref q3]) ++ List.replicate (1 - (lg_sl ([.ref q3])).length) Slot.unset).toArray = ls at hl ⊢
  have hl : lv_has ls 1 [(0, .ref q3)] := hl
  refine lv_aload_n hx hb dX6_isAtDigit_0 rfl (lv_at hl 0 rfl) ?_
  refine va_get (D := D) (ci := 7) (v := .int (nI p)) (C := RX6) (T := TX6) (N := 7) hx hb hts i_X6 hown hK hP 0 rfl rfl 2 (by decide) (hts _ kw_171) (fun _ h9 => h9) rfl dX6_isAtDigit_1 ?_
  refine lv_aload_n hx hb dX6_isAtDigit_4 rfl (lv_at hl 0 rfl) ?_
  refine va_get (D := D) (ci := 7) (v := .int (nI n)) (C := RX6) (T := TX6) (N := 7) hx hb hts i_X6 hown hK hP 0 rfl rfl 1 (by decide) (hts _ kw_170) (fun _ h9 => h9) rfl dX6_isAtDigit_5 ?_
  refine lv_icmp_ge (tgt := 43) hx hb dX6_isAtDigit_8 (by decide) (fun c_1 => ?_) (fun c_1 => ?_)
  · skip
    have d_2 : n ≤ p := (nI_leI (a := n) (b := p) (by omega) (by omega)).mp c_1
    refine lv_iconst (v := 0) hx hb dX6_isAtDigit_43 (by decide) ?_
    exact W.zret (ty := .boolean) (v := 0) hx hb hr (by decide) (fun t ht hW => ⟨0, rfl, (by simp only [r_digit, if_pos d_2] <;> rfl), ht⟩) (fun q h => absurd h List.not_mem_nil) dX6_isAtDigit_44
  · skip
    have d_2 : ¬ n ≤ p := fun h9 => c_1 (nI_le (a := n) (b := p) h9 (by omega))
    refine lv_aload_n hx hb dX6_isAtDigit_11 rfl (lv_at hl 0 rfl) ?_
    refine va_get (D := D) (ci := 7) (v := .ref q4) (C := RX6) (T := TX6) (N := 7) hx hb hts i_X6 hown hK hP 0 rfl rfl 0 (by decide) (hts _ kw_169) (fun _ h9 => h9) rfl dX6_isAtDigit_12 ?_
    refine lv_aload_n hx hb dX6_isAtDigit_15 rfl (lv_at hl 0 rfl) ?_
    refine va_get (D := D) (ci := 7) (v := .int (nI p)) (C := RX6) (T := TX6) (N := 7) hx hb hts i_X6 hown hK hP 0 rfl rfl 2 (by decide) (hts _ kw_171) (fun _ h9 => h9) rfl dX6_isAtDigit_16 ?_
    refine va_cald hx hb hK hP 1 3 rfl rfl (vp_in_nI (n := p) (by omega) (by decide)) dX6_isAtDigit_19 ?_
    rw [nI_clamp (n := p) (by omega)]
    refine lv_bipush (v := 48) hx hb dX6_isAtDigit_20 (by decide) ?_
    refine lv_icmp_lt (tgt := 43) hx hb dX6_isAtDigit_22 (by decide) (fun c_3 => ?_) (fun c_3 => ?_)
    · skip
      refine lv_iconst (v := 0) hx hb dX6_isAtDigit_43 (by decide) ?_
      exact W.zret (ty := .boolean) (v := 0) hx hb hr (by decide) (fun t ht hW => ⟨0, rfl, (by simp only [r_digit, if_neg d_2, if_pos c_3] <;> rfl), ht⟩) (fun q h => absurd h List.not_mem_nil) dX6_isAtDigit_44
    · skip
      refine lv_aload_n hx hb dX6_isAtDigit_25 rfl (lv_at hl 0 rfl) ?_
      refine va_get (D := D) (ci := 7) (v := .ref q4) (C := RX6) (T := TX6) (N := 7) hx hb hts i_X6 hown hK hP 0 rfl rfl 0 (by decide) (hts _ kw_169) (fun _ h9 => h9) rfl dX6_isAtDigit_26 ?_
      refine lv_aload_n hx hb dX6_isAtDigit_29 rfl (lv_at hl 0 rfl) ?_
      refine va_get (D := D) (ci := 7) (v := .int (nI p)) (C := RX6) (T := TX6) (N := 7) hx hb hts i_X6 hown hK hP 0 rfl rfl 2 (by decide) (hts _ kw_171) (fun _ h9 => h9) rfl dX6_isAtDigit_30 ?_
      refine va_cald hx hb hK hP 1 3 rfl rfl (vp_in_nI (n := p) (by omega) (by decide)) dX6_isAtDigit_33 ?_
      rw [nI_clamp (n := p) (by omega)]
      refine lv_bipush (v := 57) hx hb dX6_isAtDigit_34 (by decide) ?_
      refine lv_icmp_gt (tgt := 43) hx hb dX6_isAtDigit_36 (by decide) (fun c_4 => ?_) (fun c_4 => ?_)
      · skip
        refine lv_iconst (v := 0) hx hb dX6_isAtDigit_43 (by decide) ?_
        exact W.zret (ty := .boolean) (v := 0) hx hb hr (by decide) (fun t ht hW => ⟨0, rfl, (by simp only [r_digit, if_neg d_2, if_neg c_3, if_pos c_4] <;> rfl), ht⟩) (fun q h => absurd h List.not_mem_nil) dX6_isAtDigit_44
      · skip
        refine lv_iconst (v := 1) hx hb dX6_isAtDigit_39 (by decide) ?_
        refine lv_goto (tgt := 44) hx hb dX6_isAtDigit_40 (by decide) ?_
        exact W.zret (ty := .boolean) (v := 1) hx hb hr (by decide) (fun t ht hW => ⟨1, rfl, (by simp only [r_digit, if_neg d_2, if_neg c_3, if_neg c_4] <;> rfl), ht⟩) (fun q h => absurd h List.not_mem_nil) dX6_isAtDigit_44
set_option maxRecDepth 100000 in
set_option maxHeartbeats 4000000 in
theorem c_X6_number (l : Launch) (D : va_G) (G : GA) (X : Nat → Nat → Nat) (q3 q4 q5 : Nat) (tx nm : Nat → Int32) (n p c : Nat) (mq : Int32) (kd : Nat) (hn : n ≤ 60) (hp : p ≤ 60) (hc : c ≤ 3) (i : Nat) (hi : i < 3) : Met l yX6_number (wA yX6_number cX6_number 2 (some .int)) ({ frames := 0, cells := 0, slots := 0, locals := 0 } : Room) (va_Pc [.ref q3, .int (nI i)] (SQp D G X q3 q4 q5 tx nm n p c mq kd)) (vp_Si (fun r => r = r_num nm c i)) 0 0 (fun _ => False) := by
  refine Met.ofW (cc := cX6_number) (maxL := 2) (ret := (some .int)) (by decide) rfl ?_
  intro p9 e s m args below meth c9 s₁ B hml hv
  obtain ⟨rfl, hP, hK⟩ := hv
  have hx := B.exec
  have hb := B.bytes
  have hr := B.returns
  have hts : ∀ w9 ∈ tb, w9.before ([.ref q3, .int (nI i)] : List Value).toArray s = true := fun w9 h9 => atoms_spec (ws := (wA yX6_number cX6_number 2 (some .int))) B.pre w9 (List.mem_cons_of_mem _ h9)
  have hown : s.vm.findClass RX6 = some m.cls := findClass_of_methodNamed B.named
  have hlocks := B.notSynchronized
  have hl := lv_entry ([.ref q3, .int (nI i)]) (n := 2) (Nat.le_of_ble_eq_true rfl)
  rw [lg_entry_eq]
  generalize (lg_sl ([.ref q3, .int (nI i)]) ++ List.replicate (2 - (lg_sl ([.ref q3, .int (nI i)])).length) Slot.unset).toArray = ls at hl ⊢
  have hl : lv_has ls 2 [(0, .ref q3), (1, .int (nI i))] := hl
  refine lv_iload_n hx hb dX6_number_0 rfl (lv_at hl 1 rfl) ?_
  refine lv_if_lt (tgt := 21) hx hb dX6_number_1 (by decide) (fun c_1 => absurd c_1 (nI_pos (n := i) (by omega))) (fun _ => ?_)
  refine lv_iload_n hx hb dX6_number_4 rfl (lv_at hl 1 rfl) ?_
  refine lv_aload_n hx hb dX6_number_5 rfl (lv_at hl 0 rfl) ?_
  refine va_get (D := D) (ci := 7) (v := .int (nI c)) (C := RX6) (T := TX6) (N := 7) hx hb hts i_X6 hown hK hP 0 rfl rfl 5 (by decide) (hts _ kw_176) (fun _ h9 => h9) rfl dX6_number_6 ?_
  refine lv_icmp_ge (tgt := 21) hx hb dX6_number_9 (by decide) (fun c_2 => ?_) (fun c_2 => ?_)
  · skip
    have d_3 : c ≤ i := (nI_leI (a := c) (b := i) (by omega) (by omega)).mp c_2
    refine lv_iconst (v := 0) hx hb dX6_number_21 (by decide) ?_
    exact W.iret (v := 0) hx hb hr (fun t ht hW => ⟨0, rfl, (by simp only [r_num, if_pos d_3] <;> rfl), ht⟩) (fun q h => absurd h List.not_mem_nil) dX6_number_22
  · skip
    have d_3 : ¬ c ≤ i := fun h9 => c_2 (nI_le (a := c) (b := i) h9 (by omega))
    refine lv_aload_n hx hb dX6_number_12 rfl (lv_at hl 0 rfl) ?_
    refine va_get (D := D) (ci := 7) (v := .ref q5) (C := RX6) (T := TX6) (N := 7) hx hb hts i_X6 hown hK hP 0 rfl rfl 4 (by decide) (hts _ kw_175) (fun _ h9 => h9) rfl dX6_number_13 ?_
    refine lv_iload_n hx hb dX6_number_16 rfl (lv_at hl 1 rfl) ?_
    refine va_iald hx hb hK hP 2 1 rfl rfl (vp_in_nI (n := i) (by omega) (by decide)) dX6_number_17 ?_
    rw [nI_clamp (n := i) (by omega)]
    refine lv_goto (tgt := 22) hx hb dX6_number_18 (by decide) ?_
    exact W.iret (v := nm i) hx hb hr (fun t ht hW => ⟨nm i, rfl, (by simp only [r_num, if_neg d_3] <;> rfl), ht⟩) (fun q h => absurd h List.not_mem_nil) dX6_number_22
set_option maxRecDepth 100000 in
set_option maxHeartbeats 4000000 in
theorem c_X6_clear (l : Launch) (D : va_G) (G : GA) (B0 : Nat) (X : Nat → Nat → Nat) (q3 q4 q5 : Nat) (tx nm : Nat → Int32) (n p c : Nat) (mq : Int32) (kd : Nat) (hn : n ≤ 60) (hp : p ≤ 60) (hc : c ≤ 3) (sz : Nat) : Met l yX6_clear (wA yX6_clear cX6_clear 1 none) ({ frames := 0, cells := 0, slots := 0, locals := 0 } : Room) (va_Pc [.ref q3] (SMp D G B0 X q3 q4 q5 tx nm n p c mq kd sz)) (va_Qv (fun _ : Unit => True) (fun _ t9 => va_P D vwCl (sw G X q3 q4 q5 tx nm 0 p c mq kd) t9.heap) (va_A (sw G X q3 q4 q5 tx nm n p c mq kd) sz)) 0 0 (va_A (sw G X q3 q4 q5 tx nm n p c mq kd) sz) := by
  refine Met.ofW (cc := cX6_clear) (maxL := 1) (ret := none) (by decide) rfl ?_
  intro p9 e s m args below meth c9 s₁ B hml hv
  obtain ⟨rfl, hsz, hP, hK, hDB, hE⟩ := hv
  have hx := B.exec
  have hb := B.bytes
  have hr := B.returns
  have hts : ∀ w9 ∈ tb, w9.before ([.ref q3] : List Value).toArray s = true := fun w9 h9 => atoms_spec (ws := (wA yX6_clear cX6_clear 1 none)) B.pre w9 (List.mem_cons_of_mem _ h9)
  have hown : s.vm.findClass RX6 = some m.cls := findClass_of_methodNamed B.named
  have hlocks := B.notSynchronized
  subst hsz
  have hD := hDB.self (sz := s.heap.size)
  have hAB := A_sub hDB hE.1
  generalize hAe : va_A (sw G X q3 q4 q5 tx nm n p c mq kd) s.heap.size = A at hD hAB ⊢
  have hA : ∀ q : Nat, s.heap.size ≤ q → A q := fun q h => by rw [← hAe]; exact Or.inr h
  have hS : va_S A s.heap s.heap [] := va_S.rf
  have hl := lv_entry ([.ref q3]) (n := 1) (Nat.le_of_ble_eq_true rfl)
  rw [lg_entry_eq]
  generalize (lg_sl ([.ref q3]) ++ List.replicate (1 - (lg_sl ([.ref q3])).length) Slot.unset).toArray = ls at hl ⊢
  have hl : lv_has ls 1 [(0, .ref q3)] := hl
  refine lv_aload_n hx hb dX6_clear_0 rfl (lv_at hl 0 rfl) ?_
  refine lv_iconst (v := 0) hx hb dX6_clear_1 (by decide) ?_
  refine va_put (D := D) (ci := 7) (v := .int 0) (ty := .int) (C := RX6) (T := TX6) (N := 7) hx hb hts i_X6 tyX6 tyX6_ok nmX6 hown hK hP hD hS 0 rfl rfl 1 (by decide) (hts _ kw_170) (fun _ h9 => h9) rfl (by decide +kernel) rfl rfl (Nat.le_of_ble_eq_true rfl) dX6_clear_2 (fun H locs hP hD hS => ?_)
  have hP : va_P D vwCl (sw G X q3 q4 q5 tx nm 0 p c mq kd) H := hP
  have hD : va_D A (sw G X q3 q4 q5 tx nm 0 p c mq kd) := hD
  have hP : va_P D vwCl (sw G X q3 q4 q5 tx nm 0 p c mq kd) H := by skip; exact hP
  exact W.vret hx hb hr (fun t ht hW => ⟨⟨(), rfl, trivial, by show va_P D vwCl _ t.heap; rw [ht]; exact hP⟩, hS.F ht⟩) hS.2.2 dX6_clear_5
set_option maxRecDepth 100000 in
set_option maxHeartbeats 4000000 in
theorem c_X6_rewind (l : Launch) (D : va_G) (G : GA) (B0 : Nat) (X : Nat → Nat → Nat) (q3 q4 q5 : Nat) (tx nm : Nat → Int32) (n p c : Nat) (mq : Int32) (kd : Nat) (hn : n ≤ 60) (hp : p ≤ 60) (hc : c ≤ 3) (sz : Nat) : Met l yX6_rewind (wA yX6_rewind cX6_rewind 1 none) ({ frames := 0, cells := 0, slots := 0, locals := 0 } : Room) (va_Pc [.ref q3] (SMp D G B0 X q3 q4 q5 tx nm n p c mq kd sz)) (va_Qv (fun _ : Unit => True) (fun _ t9 => va_P D vwCl (sw G X q3 q4 q5 tx nm n 0 c mq kd) t9.heap) (va_A (sw G X q3 q4 q5 tx nm n p c mq kd) sz)) 0 0 (va_A (sw G X q3 q4 q5 tx nm n p c mq kd) sz) := by
  refine Met.ofW (cc := cX6_rewind) (maxL := 1) (ret := none) (by decide) rfl ?_
  intro p9 e s m args below meth c9 s₁ B hml hv
  obtain ⟨rfl, hsz, hP, hK, hDB, hE⟩ := hv
  have hx := B.exec
  have hb := B.bytes
  have hr := B.returns
  have hts : ∀ w9 ∈ tb, w9.before ([.ref q3] : List Value).toArray s = true := fun w9 h9 => atoms_spec (ws := (wA yX6_rewind cX6_rewind 1 none)) B.pre w9 (List.mem_cons_of_mem _ h9)
  have hown : s.vm.findClass RX6 = some m.cls := findClass_of_methodNamed B.named
  have hlocks := B.notSynchronized
  subst hsz
  have hD := hDB.self (sz := s.heap.size)
  have hAB := A_sub hDB hE.1
  generalize hAe : va_A (sw G X q3 q4 q5 tx nm n p c mq kd) s.heap.size = A at hD hAB ⊢
  have hA : ∀ q : Nat, s.heap.size ≤ q → A q := fun q h => by rw [← hAe]; exact Or.inr h
  have hS : va_S A s.heap s.heap [] := va_S.rf
  have hl := lv_entry ([.ref q3]) (n := 1) (Nat.le_of_ble_eq_true rfl)
  rw [lg_entry_eq]
  generalize (lg_sl ([.ref q3]) ++ List.replicate (1 - (lg_sl ([.ref q3])).length) Slot.unset).toArray = ls at hl ⊢
  have hl : lv_has ls 1 [(0, .ref q3)] := hl
  refine lv_aload_n hx hb dX6_rewind_0 rfl (lv_at hl 0 rfl) ?_
  refine lv_iconst (v := 0) hx hb dX6_rewind_1 (by decide) ?_
  refine va_put (D := D) (ci := 7) (v := .int 0) (ty := .int) (C := RX6) (T := TX6) (N := 7) hx hb hts i_X6 tyX6 tyX6_ok nmX6 hown hK hP hD hS 0 rfl rfl 2 (by decide) (hts _ kw_171) (fun _ h9 => h9) rfl (by decide +kernel) rfl rfl (Nat.le_of_ble_eq_true rfl) dX6_rewind_2 (fun H locs hP hD hS => ?_)
  have hP : va_P D vwCl (sw G X q3 q4 q5 tx nm n 0 c mq kd) H := hP
  have hD : va_D A (sw G X q3 q4 q5 tx nm n 0 c mq kd) := hD
  have hP : va_P D vwCl (sw G X q3 q4 q5 tx nm n 0 c mq kd) H := by skip; exact hP
  exact W.vret hx hb hr (fun t ht hW => ⟨⟨(), rfl, trivial, by show va_P D vwCl _ t.heap; rw [ht]; exact hP⟩, hS.F ht⟩) hS.2.2 dX6_rewind_5
set_option maxRecDepth 100000 in
set_option maxHeartbeats 4000000 in
theorem c_X6_take (l : Launch) (D : va_G) (G : GA) (B0 : Nat) (X : Nat → Nat → Nat) (q3 q4 q5 : Nat) (tx nm : Nat → Int32) (n p c : Nat) (mq : Int32) (kd : Nat) (hn : n ≤ 60) (hp : p ≤ 60) (hc : c ≤ 3) (w : Int32) (sz : Nat) : Met l yX6_take (wA yX6_take cX6_take 2 (some .boolean)) ({ frames := 0, cells := 0, slots := 0, locals := 0 } : Room) (va_Pc [.ref q3, .int w] (SMp D G B0 X q3 q4 q5 tx nm n p c mq kd sz)) (va_Qi (fun (r : Int32) (_ : Unit) => r = bi ((r_take tx n w p).1)) (fun _ t9 => va_P D vwCl (sw G X q3 q4 q5 tx nm n ((r_take tx n w p).2) c mq kd) t9.heap) (va_A (sw G X q3 q4 q5 tx nm n p c mq kd) sz)) 0 0 (va_A (sw G X q3 q4 q5 tx nm n p c mq kd) sz) := by
  refine Met.ofW (cc := cX6_take) (maxL := 2) (ret := (some .boolean)) (by decide) rfl ?_
  intro p9 e s m args below meth c9 s₁ B hml hv
  obtain ⟨rfl, hsz, hP, hK, hDB, hE⟩ := hv
  have hx := B.exec
  have hb := B.bytes
  have hr := B.returns
  have hts : ∀ w9 ∈ tb, w9.before ([.ref q3, .int w] : List Value).toArray s = true := fun w9 h9 => atoms_spec (ws := (wA yX6_take cX6_take 2 (some .boolean))) B.pre w9 (List.mem_cons_of_mem _ h9)
  have hown : s.vm.findClass RX6 = some m.cls := findClass_of_methodNamed B.named
  have hlocks := B.notSynchronized
  subst hsz
  have hD := hDB.self (sz := s.heap.size)
  have hAB := A_sub hDB hE.1
  generalize hAe : va_A (sw G X q3 q4 q5 tx nm n p c mq kd) s.heap.size = A at hD hAB ⊢
  have hA : ∀ q : Nat, s.heap.size ≤ q → A q := fun q h => by rw [← hAe]; exact Or.inr h
  have hS : va_S A s.heap s.heap [] := va_S.rf
  have hl := lv_entry ([.ref q3, .int w]) (n := 2) (Nat.le_of_ble_eq_true rfl)
  rw [lg_entry_eq]
  generalize (lg_sl ([.ref q3, .int w]) ++ List.replicate (2 - (lg_sl ([.ref q3, .int w])).length) Slot.unset).toArray = ls at hl ⊢
  have hl : lv_has ls 2 [(0, .ref q3), (1, .int w)] := hl
  refine lv_aload_n hx hb dX6_take_0 rfl (lv_at hl 0 rfl) ?_
  refine va_get (D := D) (ci := 7) (v := .int (nI p)) (C := RX6) (T := TX6) (N := 7) hx hb hts i_X6 hown hK hP 0 rfl rfl 2 (by decide) (hts _ kw_171) (fun _ h9 => h9) rfl dX6_take_1 ?_
  refine lv_aload_n hx hb dX6_take_4 rfl (lv_at hl 0 rfl) ?_
  refine va_get (D := D) (ci := 7) (v := .int (nI n)) (C := RX6) (T := TX6) (N := 7) hx hb hts i_X6 hown hK hP 0 rfl rfl 1 (by decide) (hts _ kw_170) (fun _ h9 => h9) rfl dX6_take_5 ?_
  refine lv_icmp_ge (tgt := 24) hx hb dX6_take_8 (by decide) (fun c_1 => ?_) (fun c_1 => ?_)
  · skip
    have d_2 : n ≤ p := (nI_leI (a := n) (b := p) (by omega) (by omega)).mp c_1
    refine lv_iconst (v := 0) hx hb dX6_take_24 (by decide) ?_
    have hz_3 : r_take tx n w p = (false, p) := by simp only [r_take, if_pos d_2]
    have hP : va_P D vwCl (sw G X q3 q4 q5 tx nm n ((r_take tx n w p).2) c mq kd) s.heap := by rw [hz_3]; exact hP
    exact W.zret (ty := .boolean) (v := 0) hx hb hr (by decide) (fun t ht hW => ⟨⟨0, (), rfl, (by rw [hz_3]; rfl), by show va_P D vwCl _ t.heap; rw [ht]; exact hP⟩, hS.F ht⟩) hS.2.2 dX6_take_25
  · skip
    have d_2 : ¬ n ≤ p := fun h9 => c_1 (nI_le (a := n) (b := p) h9 (by omega))
    refine lv_aload_n hx hb dX6_take_11 rfl (lv_at hl 0 rfl) ?_
    refine va_get (D := D) (ci := 7) (v := .ref q4) (C := RX6) (T := TX6) (N := 7) hx hb hts i_X6 hown hK hP 0 rfl rfl 0 (by decide) (hts _ kw_169) (fun _ h9 => h9) rfl dX6_take_12 ?_
    refine lv_aload_n hx hb dX6_take_15 rfl (lv_at hl 0 rfl) ?_
    refine va_get (D := D) (ci := 7) (v := .int (nI p)) (C := RX6) (T := TX6) (N := 7) hx hb hts i_X6 hown hK hP 0 rfl rfl 2 (by decide) (hts _ kw_171) (fun _ h9 => h9) rfl dX6_take_16 ?_
    refine va_cald hx hb hK hP 1 3 rfl rfl (vp_in_nI (n := p) (by omega) (by decide)) dX6_take_19 ?_
    rw [nI_clamp (n := p) (by omega)]
    refine lv_iload_n hx hb dX6_take_20 rfl (lv_at hl 1 rfl) ?_
    refine lv_icmp_eq (tgt := 26) hx hb dX6_take_21 (by decide) (fun c_4 => ?_) (fun c_4 => ?_)
    · skip
      refine lv_aload_n hx hb dX6_take_26 rfl (lv_at hl 0 rfl) ?_
      refine lv_dup hx hb dX6_take_27 rfl ?_
      refine va_get (D := D) (ci := 7) (v := .int (nI p)) (C := RX6) (T := TX6) (N := 7) hx hb hts i_X6 hown hK hP 0 rfl rfl 2 (by decide) (hts _ kw_171) (fun _ h9 => h9) rfl dX6_take_28 ?_
      refine lv_iconst (v := 1) hx hb dX6_take_31 (by decide) ?_
      refine lv_iadd hx hb dX6_take_32 ?_
      rw [nI_1 p]
      refine va_put (D := D) (ci := 7) (v := .int (nI (p + 1))) (ty := .int) (C := RX6) (T := TX6) (N := 7) hx hb hts i_X6 tyX6 tyX6_ok nmX6 hown hK hP hD hS 0 rfl rfl 2 (by decide) (hts _ kw_171) (fun _ h9 => h9) rfl (by decide +kernel) rfl rfl (Nat.le_of_ble_eq_true rfl) dX6_take_33 (fun H locs hP hD hS => ?_)
      have hP : va_P D vwCl (sw G X q3 q4 q5 tx nm n (p + 1) c mq kd) H := hP
      have hD : va_D A (sw G X q3 q4 q5 tx nm n (p + 1) c mq kd) := hD
      refine lv_iconst (v := 1) hx hb dX6_take_36 (by decide) ?_
      have hz_5 : r_take tx n w p = (true, (p + 1)) := by simp only [r_take, if_neg d_2, if_pos c_4]
      have hP : va_P D vwCl (sw G X q3 q4 q5 tx nm n ((r_take tx n w p).2) c mq kd) H := by rw [hz_5]; exact hP
      exact W.zret (ty := .boolean) (v := 1) hx hb hr (by decide) (fun t ht hW => ⟨⟨1, (), rfl, (by rw [hz_5]; rfl), by show va_P D vwCl _ t.heap; rw [ht]; exact hP⟩, hS.F ht⟩) hS.2.2 dX6_take_37
    · skip
      refine lv_iconst (v := 0) hx hb dX6_take_24 (by decide) ?_
      have hz_6 : r_take tx n w p = (false, p) := by simp only [r_take, if_neg d_2, if_neg c_4]
      have hP : va_P D vwCl (sw G X q3 q4 q5 tx nm n ((r_take tx n w p).2) c mq kd) s.heap := by rw [hz_6]; exact hP
      exact W.zret (ty := .boolean) (v := 0) hx hb hr (by decide) (fun t ht hW => ⟨⟨0, (), rfl, (by rw [hz_6]; rfl), by show va_P D vwCl _ t.heap; rw [ht]; exact hP⟩, hS.F ht⟩) hS.2.2 dX6_take_25
set_option maxRecDepth 100000 in
set_option maxHeartbeats 4000000 in
theorem c_X6_readNumber (l : Launch) (D : va_G) (G : GA) (B0 : Nat) (X : Nat → Nat → Nat) (q3 q4 q5 : Nat) (tx nm : Nat → Int32) (n p c : Nat) (mq : Int32) (kd : Nat) (hn : n ≤ 60) (hp : p ≤ 60) (hc : c ≤ 3) (m1 : Nat) (hm : m1 ≤ 2) (sz : Nat) : Met l yX6_readNumber (wA yX6_readNumber cX6_readNumber 4 (some .boolean)) ({ frames := 1, cells := 0, slots := 0, locals := 20 } : Room) (va_Pc [.ref q3, .int (nI m1)] (SMp D G B0 X q3 q4 q5 tx nm n p c mq kd sz)) (va_Qi (fun (r : Int32) (_ : Unit) => r = bi ((r_number tx n m1 p nm c).1)) (fun _ t9 => va_P D vwCl (sw G X q3 q4 q5 tx ((r_number tx n m1 p nm c).2.2.1) n ((r_number tx n m1 p nm c).2.1) ((r_number tx n m1 p nm c).2.2.2) mq kd) t9.heap) (va_A (sw G X q3 q4 q5 tx nm n p c mq kd) sz)) 0 0 (va_A (sw G X q3 q4 q5 tx nm n p c mq kd) sz) := by
  refine Met.ofW (cc := cX6_readNumber) (maxL := 4) (ret := (some .boolean)) (by decide) rfl ?_
  intro p9 e s m args below meth c9 s₁ B hml hv
  obtain ⟨rfl, hsz, hP, hK, hDB, hE⟩ := hv
  have hx := B.exec
  have hb := B.bytes
  have hr := B.returns
  have hts : ∀ w9 ∈ tb, w9.before ([.ref q3, .int (nI m1)] : List Value).toArray s = true := fun w9 h9 => atoms_spec (ws := (wA yX6_readNumber cX6_readNumber 4 (some .boolean))) B.pre w9 (List.mem_cons_of_mem _ h9)
  have hown : s.vm.findClass RX6 = some m.cls := findClass_of_methodNamed B.named
  have hlocks := B.notSynchronized
  subst hsz
  have hD := hDB.self (sz := s.heap.size)
  have hAB := A_sub hDB hE.1
  generalize hAe : va_A (sw G X q3 q4 q5 tx nm n p c mq kd) s.heap.size = A at hD hAB ⊢
  have hA : ∀ q : Nat, s.heap.size ≤ q → A q := fun q h => by rw [← hAe]; exact Or.inr h
  have hS : va_S A s.heap s.heap [] := va_S.rf
  have hl := lv_entry ([.ref q3, .int (nI m1)]) (n := 4) (Nat.le_of_ble_eq_true rfl)
  rw [lg_entry_eq]
  generalize (lg_sl ([.ref q3, .int (nI m1)]) ++ List.replicate (4 - (lg_sl ([.ref q3, .int (nI m1)])).length) Slot.unset).toArray = ls at hl ⊢
  have hl : lv_has ls 4 [(0, .ref q3), (1, .int (nI m1))] := hl
  refine lv_iconst (v := 0) hx hb dX6_readNumber_0 (by decide) ?_
  refine lv_istore_n (lv' := [(2, .int 0), (0, .ref q3), (1, .int (nI m1))]) hx hb dX6_readNumber_1 rfl hl (by decide) rfl (fun ls hl => ?_)
  refine lv_iconst (v := 0) hx hb dX6_readNumber_2 (by decide) ?_
  refine lv_istore_n (lv' := [(3, .int 0), (2, .int 0), (0, .ref q3), (1, .int (nI m1))]) hx hb dX6_readNumber_3 rfl hl (by decide) rfl (fun ls hl => ?_)
  have L4 : ∀ (k : Nat) (p1 : Nat) (v1 : Int32) (d1 : Nat), d1 + k = m1 → p1 ≤ 60 → r_number tx n m1 p nm c = r_nfin nm c (r_nlp tx n k p1 v1 d1) → ∀ (H : Heap) (locs : List Loc), va_P D vwCl (sw G X q3 q4 q5 tx nm n p1 c mq kd) H → va_D A (sw G X q3 q4 q5 tx nm n p1 c mq kd) → va_S A s.heap H locs → ∀ ls : Array Slot, lv_has ls 4 [(3, .int (nI d1)), (2, .int v1), (0, .ref q3), (1, .int (nI m1))] → W p9 l e (headSpec (wA yX6_readNumber cX6_readNumber 4 (some .boolean)) ({ frames := 1, cells := 0, slots := 0, locals := 20 } : Room)).room s m ([.ref q3, .int (nI m1)] : List Value).toArray below meth c9 H locs 0 0 (MQ below (va_Qi (fun (r : Int32) (_ : Unit) => r = bi ((r_number tx n m1 p nm c).1)) (fun _ t9 => va_P D vwCl (sw G X q3 q4 q5 tx ((r_number tx n m1 p nm c).2.2.1) n ((r_number tx n m1 p nm c).2.1) ((r_number tx n m1 p nm c).2.2.2) mq kd) t9.heap) A) ([.ref q3, .int (nI m1)] : List Value).toArray s 0 0 A) (F0 m 4 ls []) := by
    intro k
    induction k with
    | zero =>
      intro p1 v1 d1 hd hp1 he H locs hP hD hS ls hl
      refine lv_iload_n hx hb dX6_readNumber_4 rfl (lv_at hl 0 rfl) ?_
      refine lv_iload_n hx hb dX6_readNumber_5 rfl (lv_at hl 3 rfl) ?_
      refine lv_icmp_ge (tgt := 50) hx hb dX6_readNumber_6 (by decide) (fun _ => ?_) (fun c_1 => absurd (nI_le (a := m1) (b := d1) (by omega) (by omega)) c_1)
      refine lv_iload_n hx hb dX6_readNumber_50 rfl (lv_at hl 0 rfl) ?_
      refine lv_if_eq (tgt := 66) hx hb dX6_readNumber_51 (by decide) (fun c_2 => ?_) (fun c_2 => ?_)
      · skip
        have d_3 : d1 = 0 := (nI_eq (a := d1) (b := 0) (by omega) (by omega)).mp c_2
        refine lv_iconst (v := 0) hx hb dX6_readNumber_66 (by decide) ?_
        have hz_4 : r_number tx n m1 p nm c = (false, p1, nm, c) := he.trans (by first | (simp only [r_nlp, r_nfin, if_pos d_3]; done) | (simp only [r_nlp, r_nfin]; exact if_pos d_3) | simp [r_nlp, r_nfin, d_3])
        have hP : va_P D vwCl (sw G X q3 q4 q5 tx ((r_number tx n m1 p nm c).2.2.1) n ((r_number tx n m1 p nm c).2.1) ((r_number tx n m1 p nm c).2.2.2) mq kd) H := by rw [hz_4]; exact hP
        exact W.zret (ty := .boolean) (v := 0) hx hb hr (by decide) (fun t ht hW => ⟨⟨0, (), rfl, (by rw [hz_4]; rfl), by show va_P D vwCl _ t.heap; rw [ht]; exact hP⟩, hS.F ht⟩) hS.2.2 dX6_readNumber_67
      · skip
        have d_3 : ¬ d1 = 0 := fun h9 => c_2 (by rw [h9]; rfl)
        refine lv_aload_n hx hb dX6_readNumber_54 rfl (lv_at hl 2 rfl) ?_
        refine va_get (D := D) (ci := 7) (v := .int (nI c)) (C := RX6) (T := TX6) (N := 7) hx hb hts i_X6 hown hK hP 0 rfl rfl 5 (by decide) (hts _ kw_176) (fun _ h9 => h9) rfl dX6_readNumber_55 ?_
        refine lv_aload_n hx hb dX6_readNumber_58 rfl (lv_at hl 2 rfl) ?_
        refine va_get (D := D) (ci := 7) (v := .ref q5) (C := RX6) (T := TX6) (N := 7) hx hb hts i_X6 hown hK hP 0 rfl rfl 4 (by decide) (hts _ kw_175) (fun _ h9 => h9) rfl dX6_readNumber_59 ?_
        refine va_alen (v := nI 3) hx hb hK hP 2 1 rfl rfl rfl dX6_readNumber_62 ?_
        refine lv_icmp_lt (tgt := 68) hx hb dX6_readNumber_63 (by decide) (fun c_5 => ?_) (fun c_5 => ?_)
        · skip
          have d_6 : c < 3 := (nI_ltI (a := c) (b := 3) (by omega) (by omega)).mp c_5
          refine lv_aload_n hx hb dX6_readNumber_68 rfl (lv_at hl 2 rfl) ?_
          refine va_get (D := D) (ci := 7) (v := .ref q5) (C := RX6) (T := TX6) (N := 7) hx hb hts i_X6 hown hK hP 0 rfl rfl 4 (by decide) (hts _ kw_175) (fun _ h9 => h9) rfl dX6_readNumber_69 ?_
          refine lv_aload_n hx hb dX6_readNumber_72 rfl (lv_at hl 2 rfl) ?_
          refine va_get (D := D) (ci := 7) (v := .int (nI c)) (C := RX6) (T := TX6) (N := 7) hx hb hts i_X6 hown hK hP 0 rfl rfl 5 (by decide) (hts _ kw_176) (fun _ h9 => h9) rfl dX6_readNumber_73 ?_
          refine lv_iload_n hx hb dX6_readNumber_76 rfl (lv_at hl 1 rfl) ?_
          refine va_iast hx hb hK hP hD hS 2 1 rfl rfl (vp_in_nI (n := c) (by omega) (by decide)) dX6_readNumber_77 (fun H locs hP hD hS => ?_)
          rw [nI_clamp (n := c) (by omega)] at hP hD
          have hP : va_P D vwCl (sw G X q3 q4 q5 tx (upd nm c v1) n p1 c mq kd) H := hP
          have hD : va_D A (sw G X q3 q4 q5 tx (upd nm c v1) n p1 c mq kd) := hD
          refine lv_aload_n hx hb dX6_readNumber_78 rfl (lv_at hl 2 rfl) ?_
          refine lv_dup hx hb dX6_readNumber_79 rfl ?_
          refine va_get (D := D) (ci := 7) (v := .int (nI c)) (C := RX6) (T := TX6) (N := 7) hx hb hts i_X6 hown hK hP 0 rfl rfl 5 (by decide) (hts _ kw_176) (fun _ h9 => h9) rfl dX6_readNumber_80 ?_
          refine lv_iconst (v := 1) hx hb dX6_readNumber_83 (by decide) ?_
          refine lv_iadd hx hb dX6_readNumber_84 ?_
          rw [nI_1 c]
          refine va_put (D := D) (ci := 7) (v := .int (nI (c + 1))) (ty := .int) (C := RX6) (T := TX6) (N := 7) hx hb hts i_X6 tyX6 tyX6_ok nmX6 hown hK hP hD hS 0 rfl rfl 5 (by decide) (hts _ kw_176) (fun _ h9 => h9) rfl (by decide +kernel) rfl rfl (Nat.le_of_ble_eq_true rfl) dX6_readNumber_85 (fun H locs hP hD hS => ?_)
          have hP : va_P D vwCl (sw G X q3 q4 q5 tx (upd nm c v1) n p1 (c + 1) mq kd) H := hP
          have hD : va_D A (sw G X q3 q4 q5 tx (upd nm c v1) n p1 (c + 1) mq kd) := hD
          refine lv_iconst (v := 1) hx hb dX6_readNumber_88 (by decide) ?_
          have hz_7 : r_number tx n m1 p nm c = (true, p1, upd nm c v1, (c + 1)) := he.trans (by first | (simp only [r_nlp, r_nfin, if_neg d_3, if_pos d_6]; done) | (simp only [r_nlp, r_nfin]; exact if_pos d_6) | simp [r_nlp, r_nfin, d_3, d_6])
          have hP : va_P D vwCl (sw G X q3 q4 q5 tx ((r_number tx n m1 p nm c).2.2.1) n ((r_number tx n m1 p nm c).2.1) ((r_number tx n m1 p nm c).2.2.2) mq kd) H := by rw [hz_7]; exact hP
          exact W.zret (ty := .boolean) (v := 1) hx hb hr (by decide) (fun t ht hW => ⟨⟨1, (), rfl, (by rw [hz_7]; rfl), by show va_P D vwCl _ t.heap; rw [ht]; exact hP⟩, hS.F ht⟩) hS.2.2 dX6_readNumber_89
        · skip
          have d_6 : ¬ c < 3 := fun h9 => c_5 (nI_lt (a := c) (b := 3) h9 (by omega))
          refine lv_iconst (v := 0) hx hb dX6_readNumber_66 (by decide) ?_
          have hz_8 : r_number tx n m1 p nm c = (false, p1, nm, c) := he.trans (by first | (simp only [r_nlp, r_nfin, if_neg d_3, if_neg d_6]; done) | (simp only [r_nlp, r_nfin]; exact if_neg d_6) | simp [r_nlp, r_nfin, d_3, d_6])
          have hP : va_P D vwCl (sw G X q3 q4 q5 tx ((r_number tx n m1 p nm c).2.2.1) n ((r_number tx n m1 p nm c).2.1) ((r_number tx n m1 p nm c).2.2.2) mq kd) H := by rw [hz_8]; exact hP
          exact W.zret (ty := .boolean) (v := 0) hx hb hr (by decide) (fun t ht hW => ⟨⟨0, (), rfl, (by rw [hz_8]; rfl), by show va_P D vwCl _ t.heap; rw [ht]; exact hP⟩, hS.F ht⟩) hS.2.2 dX6_readNumber_67
    | succ k ih =>
      intro p1 v1 d1 hd hp1 he H locs hP hD hS ls hl
      refine lv_iload_n hx hb dX6_readNumber_4 rfl (lv_at hl 0 rfl) ?_
      refine lv_iload_n hx hb dX6_readNumber_5 rfl (lv_at hl 3 rfl) ?_
      refine lv_icmp_ge (tgt := 50) hx hb dX6_readNumber_6 (by decide) (fun c_9 => absurd c_9 (nI_ge (a := d1) (b := m1) (by omega) (by omega))) (fun _ => ?_)
      refine lv_aload_n hx hb dX6_readNumber_9 rfl (lv_at hl 2 rfl) ?_
      refine vp_callSi (va_runV (As := []) (rest := []) ⟨hx, hb, hml, hown, hts⟩ (c_X6_isAtDigit l D G X q3 q4 q5 tx nm n p1 c mq kd (by omega) (by omega) (by omega)) (cwV 0 hts gw_X6_90 rfl rfl rfl (by decide +kernel) ⟨Nat.le_of_ble_eq_true rfl, Nat.le_of_ble_eq_true rfl⟩) (pv_sq hK hP) rfl rfl hl.1 rfl (lv_room (Nat.le_of_ble_eq_true rfl)) dX6_readNumber_10 ⟨Nat.le_of_ble_eq_true rfl, Nat.le_of_ble_eq_true rfl⟩).run (nm_e ?_)
      cases hb_10 : r_digit tx n p1
      case true =>
        have := r_digit_lt hb_10
        refine lv_if_eq (tgt := 50) hx hb dX6_readNumber_13 (by decide) (fun c_11 => absurd c_11 (by decide)) (fun _ => ?_)
        refine lv_bipush (v := 10) hx hb dX6_readNumber_16 (by decide) ?_
        refine lv_iload_n hx hb dX6_readNumber_18 rfl (lv_at hl 1 rfl) ?_
        refine lv_imul hx hb dX6_readNumber_19 ?_
        refine lv_aload_n hx hb dX6_readNumber_20 rfl (lv_at hl 2 rfl) ?_
        refine va_get (D := D) (ci := 7) (v := .ref q4) (C := RX6) (T := TX6) (N := 7) hx hb hts i_X6 hown hK hP 0 rfl rfl 0 (by decide) (hts _ kw_169) (fun _ h9 => h9) rfl dX6_readNumber_21 ?_
        refine lv_aload_n hx hb dX6_readNumber_24 rfl (lv_at hl 2 rfl) ?_
        refine va_get (D := D) (ci := 7) (v := .int (nI p1)) (C := RX6) (T := TX6) (N := 7) hx hb hts i_X6 hown hK hP 0 rfl rfl 2 (by decide) (hts _ kw_171) (fun _ h9 => h9) rfl dX6_readNumber_25 ?_
        refine va_cald hx hb hK hP 1 3 rfl rfl (vp_in_nI (n := p1) (by omega) (by decide)) dX6_readNumber_28 ?_
        rw [nI_clamp (n := p1) (by omega)]
        refine lv_bipush (v := 48) hx hb dX6_readNumber_29 (by decide) ?_
        refine lv_isub hx hb dX6_readNumber_31 ?_
        refine lv_iadd hx hb dX6_readNumber_32 ?_
        refine lv_istore_n (lv' := [(2, .int ((10 * v1) + ((tx p1) - 48))), (3, .int (nI d1)), (0, .ref q3), (1, .int (nI m1))]) hx hb dX6_readNumber_33 rfl hl (by decide) rfl (fun ls hl => ?_)
        refine lv_aload_n hx hb dX6_readNumber_34 rfl (lv_at hl 2 rfl) ?_
        refine lv_dup hx hb dX6_readNumber_35 rfl ?_
        refine va_get (D := D) (ci := 7) (v := .int (nI p1)) (C := RX6) (T := TX6) (N := 7) hx hb hts i_X6 hown hK hP 0 rfl rfl 2 (by decide) (hts _ kw_171) (fun _ h9 => h9) rfl dX6_readNumber_36 ?_
        refine lv_iconst (v := 1) hx hb dX6_readNumber_39 (by decide) ?_
        refine lv_iadd hx hb dX6_readNumber_40 ?_
        rw [nI_1 p1]
        refine va_put (D := D) (ci := 7) (v := .int (nI (p1 + 1))) (ty := .int) (C := RX6) (T := TX6) (N := 7) hx hb hts i_X6 tyX6 tyX6_ok nmX6 hown hK hP hD hS 0 rfl rfl 2 (by decide) (hts _ kw_171) (fun _ h9 => h9) rfl (by decide +kernel) rfl rfl (Nat.le_of_ble_eq_true rfl) dX6_readNumber_41 (fun H locs hP hD hS => ?_)
        have hP : va_P D vwCl (sw G X q3 q4 q5 tx nm n (p1 + 1) c mq kd) H := hP
        have hD : va_D A (sw G X q3 q4 q5 tx nm n (p1 + 1) c mq kd) := hD
        refine lv_iinc (v := nI (d1 + 1)) (lv' := [(3, .int (nI (d1 + 1))), (2, .int ((10 * v1) + ((tx p1) - 48))), (0, .ref q3), (1, .int (nI m1))]) hx hb dX6_readNumber_44 hl (k := 1) rfl (by exact nI_1 d1) (by decide) rfl (fun ls hl => ?_)
        refine lv_goto (tgt := 4) hx hb dX6_readNumber_47 (by decide) ?_
        exact ih (p1 + 1) ((10 * v1) + ((tx p1) - 48)) (d1 + 1) (by omega) (by omega) (he.trans (by simp only [r_nlp, if_pos hb_10])) _ _ hP hD hS ls (lv_sub hl [0, 1, 2, 3] rfl)
      case false =>
        refine lv_if_eq (tgt := 50) hx hb dX6_readNumber_13 (by decide) (fun _ => ?_) (fun c_12 => absurd (by decide) c_12)
        refine lv_iload_n hx hb dX6_readNumber_50 rfl (lv_at hl 0 rfl) ?_
        refine lv_if_eq (tgt := 66) hx hb dX6_readNumber_51 (by decide) (fun c_13 => ?_) (fun c_13 => ?_)
        · skip
          have d_14 : d1 = 0 := (nI_eq (a := d1) (b := 0) (by omega) (by omega)).mp c_13
          refine lv_iconst (v := 0) hx hb dX6_readNumber_66 (by decide) ?_
          have hz_15 : r_number tx n m1 p nm c = (false, p1, nm, c) := he.trans (by first | (simp only [r_nlp, r_nfin, if_neg (bf hb_10), if_pos d_14]; done) | (simp only [r_nlp, r_nfin]; exact if_pos d_14) | simp [r_nlp, r_nfin, (bf hb_10), d_14])
          have hP : va_P D vwCl (sw G X q3 q4 q5 tx ((r_number tx n m1 p nm c).2.2.1) n ((r_number tx n m1 p nm c).2.1) ((r_number tx n m1 p nm c).2.2.2) mq kd) H := by rw [hz_15]; exact hP
          exact W.zret (ty := .boolean) (v := 0) hx hb hr (by decide) (fun t ht hW => ⟨⟨0, (), rfl, (by rw [hz_15]; rfl), by show va_P D vwCl _ t.heap; rw [ht]; exact hP⟩, hS.F ht⟩) hS.2.2 dX6_readNumber_67
        · skip
          have d_14 : ¬ d1 = 0 := fun h9 => c_13 (by rw [h9]; rfl)
          refine lv_aload_n hx hb dX6_readNumber_54 rfl (lv_at hl 2 rfl) ?_
          refine va_get (D := D) (ci := 7) (v := .int (nI c)) (C := RX6) (T := TX6) (N := 7) hx hb hts i_X6 hown hK hP 0 rfl rfl 5 (by decide) (hts _ kw_176) (fun _ h9 => h9) rfl dX6_readNumber_55 ?_
          refine lv_aload_n hx hb dX6_readNumber_58 rfl (lv_at hl 2 rfl) ?_
          refine va_get (D := D) (ci := 7) (v := .ref q5) (C := RX6) (T := TX6) (N := 7) hx hb hts i_X6 hown hK hP 0 rfl rfl 4 (by decide) (hts _ kw_175) (fun _ h9 => h9) rfl dX6_readNumber_59 ?_
          refine va_alen (v := nI 3) hx hb hK hP 2 1 rfl rfl rfl dX6_readNumber_62 ?_
          refine lv_icmp_lt (tgt := 68) hx hb dX6_readNumber_63 (by decide) (fun c_16 => ?_) (fun c_16 => ?_)
          · skip
            have d_17 : c < 3 := (nI_ltI (a := c) (b := 3) (by omega) (by omega)).mp c_16
            refine lv_aload_n hx hb dX6_readNumber_68 rfl (lv_at hl 2 rfl) ?_
            refine va_get (D := D) (ci := 7) (v := .ref q5) (C := RX6) (T := TX6) (N := 7) hx hb hts i_X6 hown hK hP 0 rfl rfl 4 (by decide) (hts _ kw_175) (fun _ h9 => h9) rfl dX6_readNumber_69 ?_
            refine lv_aload_n hx hb dX6_readNumber_72 rfl (lv_at hl 2 rfl) ?_
            refine va_get (D := D) (ci := 7) (v := .int (nI c)) (C := RX6) (T := TX6) (N := 7) hx hb hts i_X6 hown hK hP 0 rfl rfl 5 (by decide) (hts _ kw_176) (fun _ h9 => h9) rfl dX6_readNumber_73 ?_
            refine lv_iload_n hx hb dX6_readNumber_76 rfl (lv_at hl 1 rfl) ?_
            refine va_iast hx hb hK hP hD hS 2 1 rfl rfl (vp_in_nI (n := c) (by omega) (by decide)) dX6_readNumber_77 (fun H locs hP hD hS => ?_)
            rw [nI_clamp (n := c) (by omega)] at hP hD
            have hP : va_P D vwCl (sw G X q3 q4 q5 tx (upd nm c v1) n p1 c mq kd) H := hP
            have hD : va_D A (sw G X q3 q4 q5 tx (upd nm c v1) n p1 c mq kd) := hD
            refine lv_aload_n hx hb dX6_readNumber_78 rfl (lv_at hl 2 rfl) ?_
            refine lv_dup hx hb dX6_readNumber_79 rfl ?_
            refine va_get (D := D) (ci := 7) (v := .int (nI c)) (C := RX6) (T := TX6) (N := 7) hx hb hts i_X6 hown hK hP 0 rfl rfl 5 (by decide) (hts _ kw_176) (fun _ h9 => h9) rfl dX6_readNumber_80 ?_
            refine lv_iconst (v := 1) hx hb dX6_readNumber_83 (by decide) ?_
            refine lv_iadd hx hb dX6_readNumber_84 ?_
            rw [nI_1 c]
            refine va_put (D := D) (ci := 7) (v := .int (nI (c + 1))) (ty := .int) (C := RX6) (T := TX6) (N := 7) hx hb hts i_X6 tyX6 tyX6_ok nmX6 hown hK hP hD hS 0 rfl rfl 5 (by decide) (hts _ kw_176) (fun _ h9 => h9) rfl (by decide +kernel) rfl rfl (Nat.le_of_ble_eq_true rfl) dX6_readNumber_85 (fun H locs hP hD hS => ?_)
            have hP : va_P D vwCl (sw G X q3 q4 q5 tx (upd nm c v1) n p1 (c + 1) mq kd) H := hP
            have hD : va_D A (sw G X q3 q4 q5 tx (upd nm c v1) n p1 (c + 1) mq kd) := hD
            refine lv_iconst (v := 1) hx hb dX6_readNumber_88 (by decide) ?_
            have hz_18 : r_number tx n m1 p nm c = (true, p1, upd nm c v1, (c + 1)) := he.trans (by first | (simp only [r_nlp, r_nfin, if_neg (bf hb_10), if_neg d_14, if_pos d_17]; done) | (simp only [r_nlp, r_nfin]; exact if_pos d_17) | simp [r_nlp, r_nfin, (bf hb_10), d_14, d_17])
            have hP : va_P D vwCl (sw G X q3 q4 q5 tx ((r_number tx n m1 p nm c).2.2.1) n ((r_number tx n m1 p nm c).2.1) ((r_number tx n m1 p nm c).2.2.2) mq kd) H := by rw [hz_18]; exact hP
            exact W.zret (ty := .boolean) (v := 1) hx hb hr (by decide) (fun t ht hW => ⟨⟨1, (), rfl, (by rw [hz_18]; rfl), by show va_P D vwCl _ t.heap; rw [ht]; exact hP⟩, hS.F ht⟩) hS.2.2 dX6_readNumber_89
          · skip
            have d_17 : ¬ c < 3 := fun h9 => c_16 (nI_lt (a := c) (b := 3) h9 (by omega))
            refine lv_iconst (v := 0) hx hb dX6_readNumber_66 (by decide) ?_
            have hz_19 : r_number tx n m1 p nm c = (false, p1, nm, c) := he.trans (by first | (simp only [r_nlp, r_nfin, if_neg (bf hb_10), if_neg d_14, if_neg d_17]; done) | (simp only [r_nlp, r_nfin]; exact if_neg d_17) | simp [r_nlp, r_nfin, (bf hb_10), d_14, d_17])
            have hP : va_P D vwCl (sw G X q3 q4 q5 tx ((r_number tx n m1 p nm c).2.2.1) n ((r_number tx n m1 p nm c).2.1) ((r_number tx n m1 p nm c).2.2.2) mq kd) H := by rw [hz_19]; exact hP
            exact W.zret (ty := .boolean) (v := 0) hx hb hr (by decide) (fun t ht hW => ⟨⟨0, (), rfl, (by rw [hz_19]; rfl), by show va_P D vwCl _ t.heap; rw [ht]; exact hP⟩, hS.F ht⟩) hS.2.2 dX6_readNumber_67
  exact L4 m1 p 0 0 (by omega) hp rfl _ _ hP hD hS ls (lv_sub hl [0, 1, 2, 3] rfl)
set_option maxRecDepth 100000 in
set_option maxHeartbeats 4000000 in
theorem c_X6_readPart (l : Launch) (D : va_G) (G : GA) (B0 : Nat) (X : Nat → Nat → Nat) (q3 q4 q5 : Nat) (tx nm : Nat → Int32) (n p c : Nat) (mq : Int32) (kd : Nat) (hn : n ≤ 60) (hp : p ≤ 60) (hc : c ≤ 3) (ch : Int32) (sz : Nat) : Met l yX6_readPart (wA yX6_readPart cX6_readPart 2 (some .boolean)) ({ frames := 2, cells := 0, slots := 0, locals := 43 } : Room) (va_Pc [.ref q3, .int ch] (SMp D G B0 X q3 q4 q5 tx nm n p c mq kd sz)) (va_Qi (fun (r : Int32) (_ : Unit) => r = bi ((r_part tx n ch p nm c mq).1)) (fun _ t9 => va_P D vwCl (sw G X q3 q4 q5 tx ((r_part tx n ch p nm c mq).2.2.1) n ((r_part tx n ch p nm c mq).2.1) ((r_part tx n ch p nm c mq).2.2.2.1) ((r_part tx n ch p nm c mq).2.2.2.2) kd) t9.heap) (va_A (sw G X q3 q4 q5 tx nm n p c mq kd) sz)) 0 0 (va_A (sw G X q3 q4 q5 tx nm n p c mq kd) sz) := by
  refine Met.ofW (cc := cX6_readPart) (maxL := 2) (ret := (some .boolean)) (by decide) rfl ?_
  intro p9 e s m args below meth c9 s₁ B hml hv
  obtain ⟨rfl, hsz, hP, hK, hDB, hE⟩ := hv
  have hx := B.exec
  have hb := B.bytes
  have hr := B.returns
  have hts : ∀ w9 ∈ tb, w9.before ([.ref q3, .int ch] : List Value).toArray s = true := fun w9 h9 => atoms_spec (ws := (wA yX6_readPart cX6_readPart 2 (some .boolean))) B.pre w9 (List.mem_cons_of_mem _ h9)
  have hown : s.vm.findClass RX6 = some m.cls := findClass_of_methodNamed B.named
  have hlocks := B.notSynchronized
  subst hsz
  have hD := hDB.self (sz := s.heap.size)
  have hAB := A_sub hDB hE.1
  generalize hAe : va_A (sw G X q3 q4 q5 tx nm n p c mq kd) s.heap.size = A at hD hAB ⊢
  have hA : ∀ q : Nat, s.heap.size ≤ q → A q := fun q h => by rw [← hAe]; exact Or.inr h
  have hS : va_S A s.heap s.heap [] := va_S.rf
  have hl := lv_entry ([.ref q3, .int ch]) (n := 2) (Nat.le_of_ble_eq_true rfl)
  rw [lg_entry_eq]
  generalize (lg_sl ([.ref q3, .int ch]) ++ List.replicate (2 - (lg_sl ([.ref q3, .int ch])).length) Slot.unset).toArray = ls at hl ⊢
  have hl : lv_has ls 2 [(0, .ref q3), (1, .int ch)] := hl
  refine lv_iload_n hx hb dX6_readPart_0 rfl (lv_at hl 1 rfl) ?_
  refine lv_bipush (v := 78) hx hb dX6_readPart_1 (by decide) ?_
  refine lv_icmp_ne (tgt := 12) hx hb dX6_readPart_3 (by decide) (fun c_1 => ?_) (fun c_1 => ?_)
  · skip
    refine lv_iload_n hx hb dX6_readPart_12 rfl (lv_at hl 1 rfl) ?_
    refine lv_bipush (v := 68) hx hb dX6_readPart_13 (by decide) ?_
    refine lv_icmp_ne (tgt := 24) hx hb dX6_readPart_15 (by decide) (fun c_2 => ?_) (fun c_2 => ?_)
    · skip
      refine lv_iload_n hx hb dX6_readPart_24 rfl (lv_at hl 1 rfl) ?_
      refine lv_bipush (v := 33) hx hb dX6_readPart_25 (by decide) ?_
      refine lv_icmp_ne (tgt := 42) hx hb dX6_readPart_27 (by decide) (fun c_3 => ?_) (fun c_3 => ?_)
      · skip
        refine lv_aload_n hx hb dX6_readPart_42 rfl (lv_at hl 0 rfl) ?_
        refine lv_iload_n hx hb dX6_readPart_43 rfl (lv_at hl 1 rfl) ?_
        have hFc := freeC hD hS hA
        refine va_calli (va_runV (As := [.int ch]) (rest := []) ⟨hx, hb, hml, hown, hts⟩ (c_X6_take l D G B0 X q3 q4 q5 tx nm n p c mq kd (by omega) (by omega) (by omega) ch s.heap.size) (cwV 1 hts gw_X6_45 rfl rfl rfl (by decide +kernel) ⟨Nat.le_of_ble_eq_true rfl, Nat.le_of_ble_eq_true rfl⟩) (pv_sm hK hP hD hAB (hE.at hS hAB)) rfl rfl hl.1 rfl (lv_room (Nat.le_of_ble_eq_true rfl)) dX6_readPart_44 ⟨Nat.le_of_ble_eq_true rfl, Nat.le_of_ble_eq_true rfl⟩) hS (fun q _ h => hFc q h) hFc (fun r u t H locs ht hvm hw_4 hB hz1 hk1 hS => ?_)
        have hP : va_P D vwCl (sw G X q3 q4 q5 tx nm n ((r_take tx n ch p).2) c mq kd) H := by have h9 := hB; rw [ht] at h9; exact h9
        have hD : va_D A (sw G X q3 q4 q5 tx nm n ((r_take tx n ch p).2) c mq kd) := swD hD
        have := r_take_p (tx := tx) (w := ch) (n := n) (p := p) (by omega) (by omega)
        rw [hw_4]
        have hz_5 : r_part tx n ch p nm c mq = ((r_take tx n ch p).1, (r_take tx n ch p).2, nm, c, mq) := by simp only [r_part, if_neg c_1, if_neg c_2, if_neg c_3]
        have hP : va_P D vwCl (sw G X q3 q4 q5 tx ((r_part tx n ch p nm c mq).2.2.1) n ((r_part tx n ch p nm c mq).2.1) ((r_part tx n ch p nm c mq).2.2.2.1) ((r_part tx n ch p nm c mq).2.2.2.2) kd) H := by rw [hz_5]; exact hP
        exact W.zret (ty := .boolean) (v := bi ((r_take tx n ch p).1)) hx hb hr (bi_nar _) (fun t ht hW => ⟨⟨bi ((r_take tx n ch p).1), (), rfl, (by rw [hz_5]), by show va_P D vwCl _ t.heap; rw [ht]; exact hP⟩, hS.F ht⟩) hS.2.2 dX6_readPart_47
      · skip
        refine lv_aload_n hx hb dX6_readPart_30 rfl (lv_at hl 0 rfl) ?_
        refine lv_aload_n hx hb dX6_readPart_31 rfl (lv_at hl 0 rfl) ?_
        refine lv_bipush (v := 33) hx hb dX6_readPart_32 (by decide) ?_
        have hFc := freeC hD hS hA
        refine va_calli (va_runV (As := [.int 33]) (rest := [.ref q3]) ⟨hx, hb, hml, hown, hts⟩ (c_X6_take l D G B0 X q3 q4 q5 tx nm n p c mq kd (by omega) (by omega) (by omega) 33 s.heap.size) (cwV 1 hts gw_X6_45 rfl rfl rfl (by decide +kernel) ⟨Nat.le_of_ble_eq_true rfl, Nat.le_of_ble_eq_true rfl⟩) (pv_sm hK hP hD hAB (hE.at hS hAB)) rfl rfl hl.1 rfl (lv_room (Nat.le_of_ble_eq_true rfl)) dX6_readPart_34 ⟨Nat.le_of_ble_eq_true rfl, Nat.le_of_ble_eq_true rfl⟩) hS (fun q _ h => hFc q h) hFc (fun r u t H locs ht hvm hw_6 hB hz1 hk1 hS => ?_)
        have hP : va_P D vwCl (sw G X q3 q4 q5 tx nm n ((r_take tx n 33 p).2) c mq kd) H := by have h9 := hB; rw [ht] at h9; exact h9
        have hD : va_D A (sw G X q3 q4 q5 tx nm n ((r_take tx n 33 p).2) c mq kd) := swD hD
        have := r_take_p (tx := tx) (w := 33) (n := n) (p := p) (by omega) (by omega)
        rw [hw_6]
        refine va_put (D := D) (ci := 7) (v := .int (bi ((r_take tx n 33 p).1))) (ty := .boolean) (C := RX6) (T := TX6) (N := 7) hx hb hts i_X6 tyX6 tyX6_ok nmX6 hown hK hP hD hS 0 rfl rfl 6 (by decide) (hts _ kw_177) (fun _ h9 => h9) rfl (by decide +kernel) (bi_nar _) (bi_fit _) (Nat.le_of_ble_eq_true rfl) dX6_readPart_37 (fun H locs hP hD hS => ?_)
        rw [← z01_bi] at hP hD
        have hP : va_P D vwCl (sw G X q3 q4 q5 tx nm n ((r_take tx n 33 p).2) c (bi ((r_take tx n 33 p).1)) kd) H := hP
        have hD : va_D A (sw G X q3 q4 q5 tx nm n ((r_take tx n 33 p).2) c (bi ((r_take tx n 33 p).1)) kd) := hD
        refine lv_iconst (v := 1) hx hb dX6_readPart_40 (by decide) ?_
        have hz_7 : r_part tx n ch p nm c mq = (true, (r_take tx n 33 p).2, nm, c, bi ((r_take tx n 33 p).1)) := by simp only [r_part, if_neg c_1, if_neg c_2, if_pos c_3]
        have hP : va_P D vwCl (sw G X q3 q4 q5 tx ((r_part tx n ch p nm c mq).2.2.1) n ((r_part tx n ch p nm c mq).2.1) ((r_part tx n ch p nm c mq).2.2.2.1) ((r_part tx n ch p nm c mq).2.2.2.2) kd) H := by rw [hz_7]; exact hP
        exact W.zret (ty := .boolean) (v := 1) hx hb hr (by decide) (fun t ht hW => ⟨⟨1, (), rfl, (by rw [hz_7]; rfl), by show va_P D vwCl _ t.heap; rw [ht]; exact hP⟩, hS.F ht⟩) hS.2.2 dX6_readPart_41
    · skip
      refine lv_aload_n hx hb dX6_readPart_18 rfl (lv_at hl 0 rfl) ?_
      refine lv_iconst (v := 1) hx hb dX6_readPart_19 (by decide) ?_
      have hFc := freeC hD hS hA
      refine va_calli (va_runV (As := [.int 1]) (rest := []) ⟨hx, hb, hml, hown, hts⟩ (c_X6_readNumber l D G B0 X q3 q4 q5 tx nm n p c mq kd (by omega) (by omega) (by omega) 1 (by omega) s.heap.size) (cwV 1 hts gw_X6_86 rfl rfl rfl (by decide +kernel) ⟨Nat.le_of_ble_eq_true rfl, Nat.le_of_ble_eq_true rfl⟩) (pv_sm hK hP hD hAB (hE.at hS hAB)) rfl rfl hl.1 rfl (lv_room (Nat.le_of_ble_eq_true rfl)) dX6_readPart_20 ⟨Nat.le_of_ble_eq_true rfl, Nat.le_of_ble_eq_true rfl⟩) hS (fun q _ h => hFc q h) hFc (fun r u t H locs ht hvm hw_8 hB hz1 hk1 hS => ?_)
      have hP : va_P D vwCl (sw G X q3 q4 q5 tx ((r_number tx n 1 p nm c).2.2.1) n ((r_number tx n 1 p nm c).2.1) ((r_number tx n 1 p nm c).2.2.2) mq kd) H := by have h9 := hB; rw [ht] at h9; exact h9
      have hD : va_D A (sw G X q3 q4 q5 tx ((r_number tx n 1 p nm c).2.2.1) n ((r_number tx n 1 p nm c).2.1) ((r_number tx n 1 p nm c).2.2.2) mq kd) := swD hD
      have := r_number_p (tx := tx) (nm := nm) (c := c) (m := 1) (n := n) (p := p) (by omega) (by omega)
      have := r_number_c (tx := tx) (nm := nm) (n := n) (p := p) (m := 1) (c := c) (by omega)
      rw [hw_8]
      have hz_9 : r_part tx n ch p nm c mq = ((r_number tx n 1 p nm c).1, (r_number tx n 1 p nm c).2.1, (r_number tx n 1 p nm c).2.2.1, (r_number tx n 1 p nm c).2.2.2, mq) := by simp only [r_part, if_neg c_1, if_pos c_2]
      have hP : va_P D vwCl (sw G X q3 q4 q5 tx ((r_part tx n ch p nm c mq).2.2.1) n ((r_part tx n ch p nm c mq).2.1) ((r_part tx n ch p nm c mq).2.2.2.1) ((r_part tx n ch p nm c mq).2.2.2.2) kd) H := by rw [hz_9]; exact hP
      exact W.zret (ty := .boolean) (v := bi ((r_number tx n 1 p nm c).1)) hx hb hr (bi_nar _) (fun t ht hW => ⟨⟨bi ((r_number tx n 1 p nm c).1), (), rfl, (by rw [hz_9]), by show va_P D vwCl _ t.heap; rw [ht]; exact hP⟩, hS.F ht⟩) hS.2.2 dX6_readPart_23
  · skip
    refine lv_aload_n hx hb dX6_readPart_6 rfl (lv_at hl 0 rfl) ?_
    refine lv_iconst (v := 2) hx hb dX6_readPart_7 (by decide) ?_
    have hFc := freeC hD hS hA
    refine va_calli (va_runV (As := [.int 2]) (rest := []) ⟨hx, hb, hml, hown, hts⟩ (c_X6_readNumber l D G B0 X q3 q4 q5 tx nm n p c mq kd (by omega) (by omega) (by omega) 2 (by omega) s.heap.size) (cwV 1 hts gw_X6_86 rfl rfl rfl (by decide +kernel) ⟨Nat.le_of_ble_eq_true rfl, Nat.le_of_ble_eq_true rfl⟩) (pv_sm hK hP hD hAB (hE.at hS hAB)) rfl rfl hl.1 rfl (lv_room (Nat.le_of_ble_eq_true rfl)) dX6_readPart_8 ⟨Nat.le_of_ble_eq_true rfl, Nat.le_of_ble_eq_true rfl⟩) hS (fun q _ h => hFc q h) hFc (fun r u t H locs ht hvm hw_10 hB hz1 hk1 hS => ?_)
    have hP : va_P D vwCl (sw G X q3 q4 q5 tx ((r_number tx n 2 p nm c).2.2.1) n ((r_number tx n 2 p nm c).2.1) ((r_number tx n 2 p nm c).2.2.2) mq kd) H := by have h9 := hB; rw [ht] at h9; exact h9
    have hD : va_D A (sw G X q3 q4 q5 tx ((r_number tx n 2 p nm c).2.2.1) n ((r_number tx n 2 p nm c).2.1) ((r_number tx n 2 p nm c).2.2.2) mq kd) := swD hD
    have := r_number_p (tx := tx) (nm := nm) (c := c) (m := 2) (n := n) (p := p) (by omega) (by omega)
    have := r_number_c (tx := tx) (nm := nm) (n := n) (p := p) (m := 2) (c := c) (by omega)
    rw [hw_10]
    have hz_11 : r_part tx n ch p nm c mq = ((r_number tx n 2 p nm c).1, (r_number tx n 2 p nm c).2.1, (r_number tx n 2 p nm c).2.2.1, (r_number tx n 2 p nm c).2.2.2, mq) := by simp only [r_part, if_pos c_1]
    have hP : va_P D vwCl (sw G X q3 q4 q5 tx ((r_part tx n ch p nm c mq).2.2.1) n ((r_part tx n ch p nm c mq).2.1) ((r_part tx n ch p nm c mq).2.2.2.1) ((r_part tx n ch p nm c mq).2.2.2.2) kd) H := by rw [hz_11]; exact hP
    exact W.zret (ty := .boolean) (v := bi ((r_number tx n 2 p nm c).1)) hx hb hr (bi_nar _) (fun t ht hW => ⟨⟨bi ((r_number tx n 2 p nm c).1), (), rfl, (by rw [hz_11]), by show va_P D vwCl _ t.heap; rw [ht]; exact hP⟩, hS.F ht⟩) hS.2.2 dX6_readPart_11
set_option maxRecDepth 100000 in
set_option maxHeartbeats 4000000 in
theorem c_X6_readPattern (l : Launch) (D : va_G) (G : GA) (B0 : Nat) (X : Nat → Nat → Nat) (q3 q4 q5 : Nat) (tx nm : Nat → Int32) (n p c : Nat) (mq : Int32) (kd : Nat) (hn : n ≤ 60) (hp : p ≤ 60) (hc : c ≤ 3) (i : Nat) (hi : i < 40) (sz : Nat) : Met l yX6_readPattern (wA yX6_readPattern cX6_readPattern 3 (some .boolean)) ({ frames := 4, cells := 0, slots := 0, locals := 85 } : Room) (va_Pc [.ref q3, .ref (X 2 i)] (SMp D G B0 X q3 q4 q5 tx nm n p c mq kd sz)) (va_Qi (fun (r : Int32) (_ : Unit) => r = bi ((r_pattern tx n i p nm).1)) (fun _ t9 => va_P D vwCl (sw G X q3 q4 q5 tx ((r_pattern tx n i p nm).2.2.1) n ((r_pattern tx n i p nm).2.1) ((r_pattern tx n i p nm).2.2.2.1) ((r_pattern tx n i p nm).2.2.2.2) kd) t9.heap) (va_A (sw G X q3 q4 q5 tx nm n p c mq kd) sz)) 0 0 (va_A (sw G X q3 q4 q5 tx nm n p c mq kd) sz) := by
  refine Met.ofW (cc := cX6_readPattern) (maxL := 3) (ret := (some .boolean)) (by decide) rfl ?_
  intro p9 e s m args below meth c9 s₁ B hml hv
  obtain ⟨rfl, hsz, hP, hK, hDB, hE⟩ := hv
  have hx := B.exec
  have hb := B.bytes
  have hr := B.returns
  have hts : ∀ w9 ∈ tb, w9.before ([.ref q3, .ref (X 2 i)] : List Value).toArray s = true := fun w9 h9 => atoms_spec (ws := (wA yX6_readPattern cX6_readPattern 3 (some .boolean))) B.pre w9 (List.mem_cons_of_mem _ h9)
  have hown : s.vm.findClass RX6 = some m.cls := findClass_of_methodNamed B.named
  have hlocks := B.notSynchronized
  subst hsz
  have hD := hDB.self (sz := s.heap.size)
  have hAB := A_sub hDB hE.1
  generalize hAe : va_A (sw G X q3 q4 q5 tx nm n p c mq kd) s.heap.size = A at hD hAB ⊢
  have hA : ∀ q : Nat, s.heap.size ≤ q → A q := fun q h => by rw [← hAe]; exact Or.inr h
  have hS : va_S A s.heap s.heap [] := va_S.rf
  have hl := lv_entry ([.ref q3, .ref (X 2 i)]) (n := 3) (Nat.le_of_ble_eq_true rfl)
  rw [lg_entry_eq]
  generalize (lg_sl ([.ref q3, .ref (X 2 i)]) ++ List.replicate (3 - (lg_sl ([.ref q3, .ref (X 2 i)])).length) Slot.unset).toArray = ls at hl ⊢
  have hl : lv_has ls 3 [(0, .ref q3), (1, .ref (X 2 i))] := hl
  have hsl := strL_le i hi
  refine lv_aload_n hx hb dX6_readPattern_0 rfl (lv_at hl 0 rfl) ?_
  refine lv_iconst (v := 0) hx hb dX6_readPattern_1 (by decide) ?_
  refine va_put (D := D) (ci := 7) (v := .int 0) (ty := .int) (C := RX6) (T := TX6) (N := 7) hx hb hts i_X6 tyX6 tyX6_ok nmX6 hown hK hP hD hS 0 rfl rfl 5 (by decide) (hts _ kw_176) (fun _ h9 => h9) rfl (by decide +kernel) rfl rfl (Nat.le_of_ble_eq_true rfl) dX6_readPattern_2 (fun H locs hP hD hS => ?_)
  have hP : va_P D vwCl (sw G X q3 q4 q5 tx nm n p 0 mq kd) H := hP
  have hD : va_D A (sw G X q3 q4 q5 tx nm n p 0 mq kd) := hD
  refine lv_aload_n hx hb dX6_readPattern_5 rfl (lv_at hl 0 rfl) ?_
  refine lv_iconst (v := 0) hx hb dX6_readPattern_6 (by decide) ?_
  refine va_put (D := D) (ci := 7) (v := .int 0) (ty := .boolean) (C := RX6) (T := TX6) (N := 7) hx hb hts i_X6 tyX6 tyX6_ok nmX6 hown hK hP hD hS 0 rfl rfl 6 (by decide) (hts _ kw_177) (fun _ h9 => h9) rfl (by decide +kernel) (by decide) (by decide) (Nat.le_of_ble_eq_true rfl) dX6_readPattern_7 (fun H locs hP hD hS => ?_)
  have hP : va_P D vwCl (sw G X q3 q4 q5 tx nm n p 0 0 kd) H := hP
  have hD : va_D A (sw G X q3 q4 q5 tx nm n p 0 0 kd) := hD
  refine lv_iconst (v := 0) hx hb dX6_readPattern_10 (by decide) ?_
  refine lv_istore_n (lv' := [(2, .int 0), (0, .ref q3), (1, .ref (X 2 i))]) hx hb dX6_readPattern_11 rfl hl (by decide) rfl (fun ls hl => ?_)
  have L12 : ∀ (k : Nat) (i1 p1 : Nat) (nm1 : Nat → Int32) (c1 : Nat) (mq1 : Int32), i1 + k = strL.getD i 0 → p1 ≤ 60 → c1 ≤ 3 → r_pattern tx n i p nm = r_plp tx n (chS i) k i1 p1 nm1 c1 mq1 → ∀ (H : Heap) (locs : List Loc), va_P D vwCl (sw G X q3 q4 q5 tx nm1 n p1 c1 mq1 kd) H → va_D A (sw G X q3 q4 q5 tx nm1 n p1 c1 mq1 kd) → va_S A s.heap H locs → ∀ ls : Array Slot, lv_has ls 3 [(2, .int (nI i1)), (0, .ref q3), (1, .ref (X 2 i))] → W p9 l e (headSpec (wA yX6_readPattern cX6_readPattern 3 (some .boolean)) ({ frames := 4, cells := 0, slots := 0, locals := 85 } : Room)).room s m ([.ref q3, .ref (X 2 i)] : List Value).toArray below meth c9 H locs 0 0 (MQ below (va_Qi (fun (r : Int32) (_ : Unit) => r = bi ((r_pattern tx n i p nm).1)) (fun _ t9 => va_P D vwCl (sw G X q3 q4 q5 tx ((r_pattern tx n i p nm).2.2.1) n ((r_pattern tx n i p nm).2.1) ((r_pattern tx n i p nm).2.2.2.1) ((r_pattern tx n i p nm).2.2.2.2) kd) t9.heap) A) ([.ref q3, .ref (X 2 i)] : List Value).toArray s 0 0 A) (F0 m 12 ls []) := by
    intro k
    induction k with
    | zero =>
      intro i1 p1 nm1 c1 mq1 hi1 hp1 hc1 he H locs hP hD hS ls hl
      refine lv_iload_n hx hb dX6_readPattern_12 rfl (lv_at hl 0 rfl) ?_
      refine lv_aload_n hx hb dX6_readPattern_13 rfl (lv_at hl 2 rfl) ?_
      refine vp_callSi (va_runV (As := []) (rest := [.int (nI i1)]) ⟨hx, hb, hml, hown, hts⟩ (c_J0_length_8abf5 l (X 2 i) (X 3 i) (strL.getD i 0) (fun j => (strB.getD i []).getD j 0) (by have := strL_le i (by omega); omega)) (cwV 0 hts gw_X6_74 rfl rfl rfl (by decide +kernel) ⟨Nat.le_of_ble_eq_true rfl, Nat.le_of_ble_eq_true rfl⟩) (pv_st ((hE.at hS hAB).str (i := i) (by omega)) (JZ.of (hE.at hS hAB))) rfl rfl hl.1 rfl (lv_room (Nat.le_of_ble_eq_true rfl)) dX6_readPattern_14 ⟨Nat.le_of_ble_eq_true rfl, Nat.le_of_ble_eq_true rfl⟩).run (nm_e ?_)
      refine lv_icmp_ge (tgt := 40) hx hb dX6_readPattern_17 (by decide) (fun _ => ?_) (fun c_1 => absurd (nI_le (a := (strL.getD i 0)) (b := i1) (by omega) (by omega)) c_1)
      refine lv_iconst (v := 1) hx hb dX6_readPattern_40 (by decide) ?_
      have hz_2 : r_pattern tx n i p nm = (true, p1, nm1, c1, mq1) := he.trans (by first | (simp only [r_plp]; done) | (simp only [r_plp]; exact rfl) | simp [r_plp])
      have hP : va_P D vwCl (sw G X q3 q4 q5 tx ((r_pattern tx n i p nm).2.2.1) n ((r_pattern tx n i p nm).2.1) ((r_pattern tx n i p nm).2.2.2.1) ((r_pattern tx n i p nm).2.2.2.2) kd) H := by rw [hz_2]; exact hP
      exact W.zret (ty := .boolean) (v := 1) hx hb hr (by decide) (fun t ht hW => ⟨⟨1, (), rfl, (by rw [hz_2]; rfl), by show va_P D vwCl _ t.heap; rw [ht]; exact hP⟩, hS.F ht⟩) hS.2.2 dX6_readPattern_41
    | succ k ih =>
      intro i1 p1 nm1 c1 mq1 hi1 hp1 hc1 he H locs hP hD hS ls hl
      refine lv_iload_n hx hb dX6_readPattern_12 rfl (lv_at hl 0 rfl) ?_
      refine lv_aload_n hx hb dX6_readPattern_13 rfl (lv_at hl 2 rfl) ?_
      refine vp_callSi (va_runV (As := []) (rest := [.int (nI i1)]) ⟨hx, hb, hml, hown, hts⟩ (c_J0_length_8abf5 l (X 2 i) (X 3 i) (strL.getD i 0) (fun j => (strB.getD i []).getD j 0) (by have := strL_le i (by omega); omega)) (cwV 0 hts gw_X6_74 rfl rfl rfl (by decide +kernel) ⟨Nat.le_of_ble_eq_true rfl, Nat.le_of_ble_eq_true rfl⟩) (pv_st ((hE.at hS hAB).str (i := i) (by omega)) (JZ.of (hE.at hS hAB))) rfl rfl hl.1 rfl (lv_room (Nat.le_of_ble_eq_true rfl)) dX6_readPattern_14 ⟨Nat.le_of_ble_eq_true rfl, Nat.le_of_ble_eq_true rfl⟩).run (nm_e ?_)
      refine lv_icmp_ge (tgt := 40) hx hb dX6_readPattern_17 (by decide) (fun c_3 => absurd c_3 (nI_ge (a := i1) (b := (strL.getD i 0)) (by omega) (by omega))) (fun _ => ?_)
      refine lv_aload_n hx hb dX6_readPattern_20 rfl (lv_at hl 1 rfl) ?_
      refine lv_aload_n hx hb dX6_readPattern_21 rfl (lv_at hl 2 rfl) ?_
      refine lv_iload_n hx hb dX6_readPattern_22 rfl (lv_at hl 0 rfl) ?_
      refine vp_callSi (va_runV (As := [.int (nI i1)]) (rest := [.ref q3]) ⟨hx, hb, hml, hown, hts⟩ (c_J0_charAt_5068e l (X 2 i) (X 3 i) (strL.getD i 0) (fun j => (strB.getD i []).getD j 0) i1 (by omega) (by have := strL_le i (by omega); omega)) (cwV 1 hts gw_X6_79 rfl rfl rfl (by decide +kernel) ⟨Nat.le_of_ble_eq_true rfl, Nat.le_of_ble_eq_true rfl⟩) (pv_st ((hE.at hS hAB).str (i := i) (by omega)) (JZ.of (hE.at hS hAB))) rfl rfl hl.1 rfl (lv_room (Nat.le_of_ble_eq_true rfl)) dX6_readPattern_23 ⟨Nat.le_of_ble_eq_true rfl, Nat.le_of_ble_eq_true rfl⟩).run (nm_e ?_)
      have hFc := freeC hD hS hA
      refine va_calli (va_runV (As := [.int (chS i i1)]) (rest := []) ⟨hx, hb, hml, hown, hts⟩ (c_X6_readPart l D G B0 X q3 q4 q5 tx nm1 n p1 c1 mq1 kd (by omega) (by omega) (by omega) (chS i i1) H.size) (cwV 1 hts gw_X6_83 rfl rfl rfl (by decide +kernel) ⟨Nat.le_of_ble_eq_true rfl, Nat.le_of_ble_eq_true rfl⟩) (pv_sm hK hP hD hAB (hE.at hS hAB)) rfl rfl hl.1 rfl (lv_room (Nat.le_of_ble_eq_true rfl)) dX6_readPattern_26 ⟨Nat.le_of_ble_eq_true rfl, Nat.le_of_ble_eq_true rfl⟩) hS (fun q _ h => hFc q h) hFc (fun r u t H locs ht hvm hw_4 hB hz1 hk1 hS => ?_)
      have hP : va_P D vwCl (sw G X q3 q4 q5 tx ((r_part tx n (chS i i1) p1 nm1 c1 mq1).2.2.1) n ((r_part tx n (chS i i1) p1 nm1 c1 mq1).2.1) ((r_part tx n (chS i i1) p1 nm1 c1 mq1).2.2.2.1) ((r_part tx n (chS i i1) p1 nm1 c1 mq1).2.2.2.2) kd) H := by have h9 := hB; rw [ht] at h9; exact h9
      have hD : va_D A (sw G X q3 q4 q5 tx ((r_part tx n (chS i i1) p1 nm1 c1 mq1).2.2.1) n ((r_part tx n (chS i i1) p1 nm1 c1 mq1).2.1) ((r_part tx n (chS i i1) p1 nm1 c1 mq1).2.2.2.1) ((r_part tx n (chS i i1) p1 nm1 c1 mq1).2.2.2.2) kd) := swD hD
      have := r_part_p (tx := tx) (ch := (chS i i1)) (nm := nm1) (c := c1) (mq := mq1) (n := n) (p := p1) (by omega) (by omega)
      have := r_part_c (tx := tx) (n := n) (ch := (chS i i1)) (p := p1) (nm := nm1) (mq := mq1) (c := c1) (by omega)
      rw [hw_4]
      cases hb_5 : (r_part tx n (chS i i1) p1 nm1 c1 mq1).1
      case true =>
        refine lv_if_ne (tgt := 34) hx hb dX6_readPattern_29 (by decide) (fun _ => ?_) (fun c_6 => absurd c_6 (by decide))
        refine lv_iinc (v := nI (i1 + 1)) (lv' := [(2, .int (nI (i1 + 1))), (0, .ref q3), (1, .ref (X 2 i))]) hx hb dX6_readPattern_34 hl (k := 0) rfl (by exact nI_1 i1) (by decide) rfl (fun ls hl => ?_)
        refine lv_goto (tgt := 12) hx hb dX6_readPattern_37 (by decide) ?_
        exact ih (i1 + 1) ((r_part tx n (chS i i1) p1 nm1 c1 mq1).2.1) ((r_part tx n (chS i i1) p1 nm1 c1 mq1).2.2.1) ((r_part tx n (chS i i1) p1 nm1 c1 mq1).2.2.2.1) ((r_part tx n (chS i i1) p1 nm1 c1 mq1).2.2.2.2) (by omega) (by omega) (by omega) (he.trans (by simp only [r_plp, if_pos hb_5])) _ _ hP hD hS ls (lv_sub hl [0, 1, 2] rfl)
      case false =>
        refine lv_if_ne (tgt := 34) hx hb dX6_readPattern_29 (by decide) (fun c_7 => absurd (by decide) c_7) (fun _ => ?_)
        refine lv_iconst (v := 0) hx hb dX6_readPattern_32 (by decide) ?_
        have hz_8 : r_pattern tx n i p nm = (false, (r_part tx n (chS i i1) p1 nm1 c1 mq1).2.1, (r_part tx n (chS i i1) p1 nm1 c1 mq1).2.2.1, (r_part tx n (chS i i1) p1 nm1 c1 mq1).2.2.2.1, (r_part tx n (chS i i1) p1 nm1 c1 mq1).2.2.2.2) := he.trans (by first | (simp only [r_plp, if_neg (bf hb_5)]; done) | (simp only [r_plp]; exact if_neg (bf hb_5)) | simp [r_plp, (bf hb_5)])
        have hP : va_P D vwCl (sw G X q3 q4 q5 tx ((r_pattern tx n i p nm).2.2.1) n ((r_pattern tx n i p nm).2.1) ((r_pattern tx n i p nm).2.2.2.1) ((r_pattern tx n i p nm).2.2.2.2) kd) H := by rw [hz_8]; exact hP
        exact W.zret (ty := .boolean) (v := 0) hx hb hr (by decide) (fun t ht hW => ⟨⟨0, (), rfl, (by rw [hz_8]; rfl), by show va_P D vwCl _ t.heap; rw [ht]; exact hP⟩, hS.F ht⟩) hS.2.2 dX6_readPattern_33
  exact L12 (strL.getD i 0) 0 p nm 0 0 (by omega) hp (by omega) rfl _ _ hP hD hS ls (lv_sub hl [0, 1, 2] rfl)
set_option maxRecDepth 100000 in
set_option maxHeartbeats 4000000 in
theorem c_X6_readCommand (l : Launch) (D : va_G) (G : GA) (B0 : Nat) (X : Nat → Nat → Nat) (q3 q4 q5 : Nat) (tx nm : Nat → Int32) (n p c : Nat) (mq : Int32) (kd : Nat) (hn : n ≤ 60) (hp : p ≤ 60) (hc : c ≤ 3) (sz : Nat) : Met l yX6_readCommand (wA yX6_readCommand cX6_readCommand 7 (some .boolean)) ({ frames := 5, cells := 0, slots := 0, locals := 107 } : Room) (va_Pc [.ref q3] (SMp D G B0 X q3 q4 q5 tx nm n p c mq kd sz)) (va_Qi (fun (r : Int32) (_ : Unit) => r = bi ((r_command tx n p nm c mq kd).1)) (fun _ t9 => va_P D vwCl (sw G X q3 q4 q5 tx ((r_command tx n p nm c mq kd).2.2.1) n ((r_command tx n p nm c mq kd).2.1) ((r_command tx n p nm c mq kd).2.2.2.1) ((r_command tx n p nm c mq kd).2.2.2.2.1) ((r_command tx n p nm c mq kd).2.2.2.2.2)) t9.heap) (va_A (sw G X q3 q4 q5 tx nm n p c mq kd) sz)) 0 0 (va_A (sw G X q3 q4 q5 tx nm n p c mq kd) sz) := by
  refine Met.ofW (cc := cX6_readCommand) (maxL := 7) (ret := (some .boolean)) (by decide) rfl ?_
  intro p9 e s m args below meth c9 s₁ B hml hv
  obtain ⟨rfl, hsz, hP, hK, hDB, hE⟩ := hv
  have hx := B.exec
  have hb := B.bytes
  have hr := B.returns
  have hts : ∀ w9 ∈ tb, w9.before ([.ref q3] : List Value).toArray s = true := fun w9 h9 => atoms_spec (ws := (wA yX6_readCommand cX6_readCommand 7 (some .boolean))) B.pre w9 (List.mem_cons_of_mem _ h9)
  have hown : s.vm.findClass RX6 = some m.cls := findClass_of_methodNamed B.named
  have hlocks := B.notSynchronized
  subst hsz
  have hD := hDB.self (sz := s.heap.size)
  have hAB := A_sub hDB hE.1
  generalize hAe : va_A (sw G X q3 q4 q5 tx nm n p c mq kd) s.heap.size = A at hD hAB ⊢
  have hA : ∀ q : Nat, s.heap.size ≤ q → A q := fun q h => by rw [← hAe]; exact Or.inr h
  have hS : va_S A s.heap s.heap [] := va_S.rf
  have hl := lv_entry ([.ref q3]) (n := 7) (Nat.le_of_ble_eq_true rfl)
  rw [lg_entry_eq]
  generalize (lg_sl ([.ref q3]) ++ List.replicate (7 - (lg_sl ([.ref q3])).length) Slot.unset).toArray = ls at hl ⊢
  have hl : lv_has ls 7 [(0, .ref q3)] := hl
  refine lv_aload_n hx hb dX6_readCommand_0 rfl (lv_at hl 0 rfl) ?_
  refine va_get (D := D) (ci := 7) (v := .int (nI p)) (C := RX6) (T := TX6) (N := 7) hx hb hts i_X6 hown hK hP 0 rfl rfl 2 (by decide) (hts _ kw_171) (fun _ h9 => h9) rfl dX6_readCommand_1 ?_
  refine lv_istore_n (lv' := [(1, .int (nI p)), (0, .ref q3)]) hx hb dX6_readCommand_4 rfl hl (by decide) rfl (fun ls hl => ?_)
  refine lv_iload_n hx hb dX6_readCommand_5 rfl (lv_at hl 0 rfl) ?_
  refine lv_istore_n (lv' := [(2, .int (nI p)), (1, .int (nI p)), (0, .ref q3)]) hx hb dX6_readCommand_6 rfl hl (by decide) rfl (fun ls hl => ?_)
  refine va_getsN (C := "CourierBags$Kind") (n := "ALL") (d := "[LCourierBags$Kind;") (v := .ref (X 4 0)) hx hb hE.k.2.2.1 (S_weak hS hAB) hown (va_Nw.use rfl (nw_766 hE.nw)) (fun _ h9 => h9) dX6_readCommand_7 ?_
  refine lv_astore_n (x := (X 4 0)) (lv' := [(3, .ref (X 4 0)), (2, .int (nI p)), (1, .int (nI p)), (0, .ref q3)]) hx hb dX6_readCommand_10 rfl hl (by decide) rfl (fun ls hl => ?_)
  refine lv_aload_n hx hb dX6_readCommand_11 rfl (lv_at hl 0 rfl) ?_
  refine va_tlen (v := nI 7) hx hb hE.k.2.2.2.1 (S_weak hS hAB) rfl dX6_readCommand_12 ?_
  refine lv_istore (lv' := [(4, .int (nI 7)), (3, .ref (X 4 0)), (2, .int (nI p)), (1, .int (nI p)), (0, .ref q3)]) hx hb dX6_readCommand_13 hl (by decide) rfl (fun ls hl => ?_)
  refine lv_iconst (v := 0) hx hb dX6_readCommand_15 (by decide) ?_
  refine lv_istore (lv' := [(5, .int 0), (4, .int (nI 7)), (3, .ref (X 4 0)), (2, .int (nI p)), (1, .int (nI p)), (0, .ref q3)]) hx hb dX6_readCommand_16 hl (by decide) rfl (fun ls hl => ?_)
  have L18 : ∀ (k : Nat) (i1 far p1 : Nat) (nm1 : Nat → Int32) (c1 : Nat) (mq1 : Int32) (kd1 : Nat), i1 + k = 7 → far ≤ 60 → p1 ≤ 60 → c1 ≤ 3 → r_command tx n p nm c mq kd = r_clp tx n p k i1 far p1 nm1 c1 mq1 kd1 → ∀ (H : Heap) (locs : List Loc), va_P D vwCl (sw G X q3 q4 q5 tx nm1 n p1 c1 mq1 kd1) H → va_D A (sw G X q3 q4 q5 tx nm1 n p1 c1 mq1 kd1) → va_S A s.heap H locs → ∀ ls : Array Slot, lv_has ls 7 [(5, .int (nI i1)), (4, .int (nI 7)), (3, .ref (X 4 0)), (2, .int (nI far)), (1, .int (nI p)), (0, .ref q3)] → W p9 l e (headSpec (wA yX6_readCommand cX6_readCommand 7 (some .boolean)) ({ frames := 5, cells := 0, slots := 0, locals := 107 } : Room)).room s m ([.ref q3] : List Value).toArray below meth c9 H locs 0 0 (MQ below (va_Qi (fun (r : Int32) (_ : Unit) => r = bi ((r_command tx n p nm c mq kd).1)) (fun _ t9 => va_P D vwCl (sw G X q3 q4 q5 tx ((r_command tx n p nm c mq kd).2.2.1) n ((r_command tx n p nm c mq kd).2.1) ((r_command tx n p nm c mq kd).2.2.2.1) ((r_command tx n p nm c mq kd).2.2.2.2.1) ((r_command tx n p nm c mq kd).2.2.2.2.2)) t9.heap) A) ([.ref q3] : List Value).toArray s 0 0 A) (F0 m 18 ls []) := by
    intro k
    induction k with
    | zero =>
      intro i1 far p1 nm1 c1 mq1 kd1 hi1 hf1 hp1 hc1 he H locs hP hD hS ls hl
      refine lv_iload hx hb dX6_readCommand_18 (lv_at hl 0 rfl) ?_
      refine lv_iload hx hb dX6_readCommand_20 (lv_at hl 1 rfl) ?_
      refine lv_icmp_ge (tgt := 71) hx hb dX6_readCommand_22 (by decide) (fun _ => ?_) (fun c_1 => absurd (nI_le (a := 7) (b := i1) (by omega) (by omega)) c_1)
      refine lv_aload_n hx hb dX6_readCommand_71 rfl (lv_at hl 5 rfl) ?_
      refine lv_iload_n hx hb dX6_readCommand_72 rfl (lv_at hl 3 rfl) ?_
      refine va_put (D := D) (ci := 7) (v := .int (nI far)) (ty := .int) (C := RX6) (T := TX6) (N := 7) hx hb hts i_X6 tyX6 tyX6_ok nmX6 hown hK hP hD hS 0 rfl rfl 2 (by decide) (hts _ kw_171) (fun _ h9 => h9) rfl (by decide +kernel) rfl rfl (Nat.le_of_ble_eq_true rfl) dX6_readCommand_73 (fun H locs hP hD hS => ?_)
      have hP : va_P D vwCl (sw G X q3 q4 q5 tx nm1 n far c1 mq1 kd1) H := hP
      have hD : va_D A (sw G X q3 q4 q5 tx nm1 n far c1 mq1 kd1) := hD
      refine lv_iconst (v := 0) hx hb dX6_readCommand_76 (by decide) ?_
      have hz_2 : r_command tx n p nm c mq kd = (false, far, nm1, c1, mq1, kd1) := he.trans (by first | (simp only [r_clp]; done) | (simp only [r_clp]; exact rfl) | simp [r_clp])
      have hP : va_P D vwCl (sw G X q3 q4 q5 tx ((r_command tx n p nm c mq kd).2.2.1) n ((r_command tx n p nm c mq kd).2.1) ((r_command tx n p nm c mq kd).2.2.2.1) ((r_command tx n p nm c mq kd).2.2.2.2.1) ((r_command tx n p nm c mq kd).2.2.2.2.2)) H := by rw [hz_2]; exact hP
      exact W.zret (ty := .boolean) (v := 0) hx hb hr (by decide) (fun t ht hW => ⟨⟨0, (), rfl, (by rw [hz_2]; rfl), by show va_P D vwCl _ t.heap; rw [ht]; exact hP⟩, hS.F ht⟩) hS.2.2 dX6_readCommand_77
    | succ k ih =>
      intro i1 far p1 nm1 c1 mq1 kd1 hi1 hf1 hp1 hc1 he H locs hP hD hS ls hl
      refine lv_iload hx hb dX6_readCommand_18 (lv_at hl 0 rfl) ?_
      refine lv_iload hx hb dX6_readCommand_20 (lv_at hl 1 rfl) ?_
      refine lv_icmp_ge (tgt := 71) hx hb dX6_readCommand_22 (by decide) (fun c_3 => absurd c_3 (nI_ge (a := i1) (b := 7) (by omega) (by omega))) (fun _ => ?_)
      refine lv_aload_n hx hb dX6_readCommand_25 rfl (lv_at hl 2 rfl) ?_
      refine lv_iload hx hb dX6_readCommand_26 (lv_at hl 0 rfl) ?_
      refine vb_tq (v := .ref (X 1 i1)) hx hb hE.k.2.2.2.1 (S_weak hS hAB) (vp_in_nI (n := i1) (by omega) (by decide)) (by rw [nI_clamp (n := i1) (by omega)]) dX6_readCommand_28 ?_
      refine lv_astore (x := (X 1 i1)) (lv' := [(6, .ref (X 1 i1)), (5, .int (nI i1)), (4, .int (nI 7)), (3, .ref (X 4 0)), (2, .int (nI far)), (1, .int (nI p)), (0, .ref q3)]) hx hb dX6_readCommand_29 hl (by decide) rfl (fun ls hl => ?_)
      refine lv_aload_n hx hb dX6_readCommand_31 rfl (lv_at hl 6 rfl) ?_
      refine lv_iload_n hx hb dX6_readCommand_32 rfl (lv_at hl 5 rfl) ?_
      refine va_put (D := D) (ci := 7) (v := .int (nI p)) (ty := .int) (C := RX6) (T := TX6) (N := 7) hx hb hts i_X6 tyX6 tyX6_ok nmX6 hown hK hP hD hS 0 rfl rfl 2 (by decide) (hts _ kw_171) (fun _ h9 => h9) rfl (by decide +kernel) rfl rfl (Nat.le_of_ble_eq_true rfl) dX6_readCommand_33 (fun H locs hP hD hS => ?_)
      have hP : va_P D vwCl (sw G X q3 q4 q5 tx nm1 n p c1 mq1 kd1) H := hP
      have hD : va_D A (sw G X q3 q4 q5 tx nm1 n p c1 mq1 kd1) := hD
      refine lv_aload_n hx hb dX6_readCommand_36 rfl (lv_at hl 6 rfl) ?_
      refine lv_aload hx hb dX6_readCommand_37 (lv_at hl 0 rfl) ?_
      refine vk_getfN (o := "CourierBags$Kind") (n := "pattern") (d := "Ljava/lang/String;") (v := .ref (X 2 (kPat i1))) hx hb (hE.k.2.1 i1 (by omega)) (S_weak hS hAB) hown (va_Nw.use rfl (nw_1520 hE.nw)) (fun _ h9 => h9) dX6_readCommand_39 ?_
      have := kPat_lt i1 (by omega)
      have hFc := freeC hD hS hA
      refine va_calli (va_runV (As := [.ref (X 2 (kPat i1))]) (rest := []) ⟨hx, hb, hml, hown, hts⟩ (c_X6_readPattern l D G B0 X q3 q4 q5 tx nm1 n p c1 mq1 kd1 (by omega) (by omega) (by omega) (kPat i1) (by omega) H.size) (cwV 1 hts gw_X6_57 rfl rfl rfl (by decide +kernel) ⟨Nat.le_of_ble_eq_true rfl, Nat.le_of_ble_eq_true rfl⟩) (pv_sm hK hP hD hAB (hE.at hS hAB)) rfl rfl hl.1 rfl (lv_room (Nat.le_of_ble_eq_true rfl)) dX6_readCommand_42 ⟨Nat.le_of_ble_eq_true rfl, Nat.le_of_ble_eq_true rfl⟩) hS (fun q _ h => hFc q h) hFc (fun r u t H locs ht hvm hw_4 hB hz1 hk1 hS => ?_)
      have hP : va_P D vwCl (sw G X q3 q4 q5 tx ((r_pattern tx n (kPat i1) p nm1).2.2.1) n ((r_pattern tx n (kPat i1) p nm1).2.1) ((r_pattern tx n (kPat i1) p nm1).2.2.2.1) ((r_pattern tx n (kPat i1) p nm1).2.2.2.2) kd1) H := by have h9 := hB; rw [ht] at h9; exact h9
      have hD : va_D A (sw G X q3 q4 q5 tx ((r_pattern tx n (kPat i1) p nm1).2.2.1) n ((r_pattern tx n (kPat i1) p nm1).2.1) ((r_pattern tx n (kPat i1) p nm1).2.2.2.1) ((r_pattern tx n (kPat i1) p nm1).2.2.2.2) kd1) := swD hD
      have := r_pattern_p (tx := tx) (nm := nm1) (i := (kPat i1)) (n := n) (p := p) (by omega) (by omega)
      have := r_pattern_c (tx := tx) (nm := nm1) (i := (kPat i1)) (n := n) (p := p) (by omega) (by omega)
      rw [hw_4]
      cases hb_5 : (r_pattern tx n (kPat i1) p nm1).1
      case true =>
        refine lv_if_eq (tgt := 56) hx hb dX6_readCommand_45 (by decide) (fun c_6 => absurd c_6 (by decide)) (fun _ => ?_)
        refine lv_aload_n hx hb dX6_readCommand_48 rfl (lv_at hl 6 rfl) ?_
        refine lv_aload hx hb dX6_readCommand_49 (lv_at hl 0 rfl) ?_
        refine va_put (D := D) (ci := 7) (v := .ref (X 1 i1)) (ty := .object "CourierBags$Kind") (C := RX6) (T := TX6) (N := 7) hx hb hts i_X6 tyX6 tyX6_ok nmX6 hown hK hP hD hS 0 rfl rfl 3 (by decide) (hts _ kw_173) (fun _ h9 => h9) rfl (by decide +kernel) rfl rfl (Nat.le_of_ble_eq_true rfl) dX6_readCommand_51 (fun H locs hP hD hS => ?_)
        have hP : va_P D vwCl (sw G X q3 q4 q5 tx ((r_pattern tx n (kPat i1) p nm1).2.2.1) n ((r_pattern tx n (kPat i1) p nm1).2.1) ((r_pattern tx n (kPat i1) p nm1).2.2.2.1) ((r_pattern tx n (kPat i1) p nm1).2.2.2.2) i1) H := hP
        have hD : va_D A (sw G X q3 q4 q5 tx ((r_pattern tx n (kPat i1) p nm1).2.2.1) n ((r_pattern tx n (kPat i1) p nm1).2.1) ((r_pattern tx n (kPat i1) p nm1).2.2.2.1) ((r_pattern tx n (kPat i1) p nm1).2.2.2.2) i1) := hD
        refine lv_iconst (v := 1) hx hb dX6_readCommand_54 (by decide) ?_
        have hz_7 : r_command tx n p nm c mq kd = (true, (r_pattern tx n (kPat i1) p nm1).2.1, (r_pattern tx n (kPat i1) p nm1).2.2.1, (r_pattern tx n (kPat i1) p nm1).2.2.2.1, (r_pattern tx n (kPat i1) p nm1).2.2.2.2, i1) := he.trans (by first | (simp only [r_clp, if_pos hb_5]; done) | (simp only [r_clp]; exact if_pos hb_5) | simp [r_clp, hb_5])
        have hP : va_P D vwCl (sw G X q3 q4 q5 tx ((r_command tx n p nm c mq kd).2.2.1) n ((r_command tx n p nm c mq kd).2.1) ((r_command tx n p nm c mq kd).2.2.2.1) ((r_command tx n p nm c mq kd).2.2.2.2.1) ((r_command tx n p nm c mq kd).2.2.2.2.2)) H := by rw [hz_7]; exact hP
        exact W.zret (ty := .boolean) (v := 1) hx hb hr (by decide) (fun t ht hW => ⟨⟨1, (), rfl, (by rw [hz_7]; rfl), by show va_P D vwCl _ t.heap; rw [ht]; exact hP⟩, hS.F ht⟩) hS.2.2 dX6_readCommand_55
      case false =>
        refine lv_if_eq (tgt := 56) hx hb dX6_readCommand_45 (by decide) (fun _ => ?_) (fun c_8 => absurd (by decide) c_8)
        refine lv_iload_n hx hb dX6_readCommand_56 rfl (lv_at hl 4 rfl) ?_
        refine lv_aload_n hx hb dX6_readCommand_57 rfl (lv_at hl 6 rfl) ?_
        refine va_get (D := D) (ci := 7) (v := .int (nI ((r_pattern tx n (kPat i1) p nm1).2.1))) (C := RX6) (T := TX6) (N := 7) hx hb hts i_X6 hown hK hP 0 rfl rfl 2 (by decide) (hts _ kw_171) (fun _ h9 => h9) rfl dX6_readCommand_58 ?_
        refine va_mmax hx hb (hml.trans hl.1.symm) hown (hts _ kw_835) (hts _ kw_562) (hts _ kw_46) (hts _ kw_563) (Nat.le_of_ble_eq_true rfl) (Nat.le_of_ble_eq_true rfl) (Nat.le_of_ble_eq_true rfl) (Nat.le_of_ble_eq_true rfl) dX6_readCommand_61 ?_
        rw [mx_nat (a := far) (b := ((r_pattern tx n (kPat i1) p nm1).2.1)) (by omega) (by omega)]
        have := ite_le (a := far) (b := ((r_pattern tx n (kPat i1) p nm1).2.1)) (by omega) (by omega)
        refine lv_istore_n (lv' := [(2, .int (nI (if far < ((r_pattern tx n (kPat i1) p nm1).2.1) then ((r_pattern tx n (kPat i1) p nm1).2.1) else far))), (6, .ref (X 1 i1)), (5, .int (nI i1)), (4, .int (nI 7)), (3, .ref (X 4 0)), (1, .int (nI p)), (0, .ref q3)]) hx hb dX6_readCommand_64 rfl hl (by decide) rfl (fun ls hl => ?_)
        refine lv_iinc (v := nI (i1 + 1)) (lv' := [(5, .int (nI (i1 + 1))), (2, .int (nI (if far < ((r_pattern tx n (kPat i1) p nm1).2.1) then ((r_pattern tx n (kPat i1) p nm1).2.1) else far))), (6, .ref (X 1 i1)), (4, .int (nI 7)), (3, .ref (X 4 0)), (1, .int (nI p)), (0, .ref q3)]) hx hb dX6_readCommand_65 hl (k := 2) rfl (by exact nI_1 i1) (by decide) rfl (fun ls hl => ?_)
        refine lv_goto (tgt := 18) hx hb dX6_readCommand_68 (by decide) ?_
        exact ih (i1 + 1) (if far < ((r_pattern tx n (kPat i1) p nm1).2.1) then ((r_pattern tx n (kPat i1) p nm1).2.1) else far) ((r_pattern tx n (kPat i1) p nm1).2.1) ((r_pattern tx n (kPat i1) p nm1).2.2.1) ((r_pattern tx n (kPat i1) p nm1).2.2.2.1) ((r_pattern tx n (kPat i1) p nm1).2.2.2.2) kd1 (by omega) (by omega) (by omega) (by omega) (he.trans (by simp only [r_clp, if_neg (bf hb_5)])) _ _ hP hD hS ls (lv_sub hl [0, 3, 4, 1, 5, 6] rfl)
  exact L18 7 0 p p nm c mq kd rfl hp hp hc rfl _ _ hP hD hS ls (lv_sub hl [0, 1, 2, 3, 4, 5] rfl)
set_option maxRecDepth 100000 in
set_option maxHeartbeats 4000000 in
theorem c_X6_countCommands (l : Launch) (D : va_G) (G : GA) (B0 : Nat) (X : Nat → Nat → Nat) (q3 q4 q5 : Nat) (tx nm : Nat → Int32) (n p c : Nat) (mq : Int32) (kd : Nat) (hn : n ≤ 60) (hp : p ≤ 60) (hc : c ≤ 3) (sz : Nat) : Met l yX6_countCommands (wA yX6_countCommands cX6_countCommands 2 (some .int)) ({ frames := 6, cells := 0, slots := 0, locals := 133 } : Room) (va_Pc [.ref q3] (SMp D G B0 X q3 q4 q5 tx nm n p c mq kd sz)) (va_Qi (fun (r : Int32) (_ : Unit) => r = (r_count tx n nm c mq kd).1) (fun _ t9 => va_P D vwCl (sw G X q3 q4 q5 tx ((r_count tx n nm c mq kd).2.2.1) n ((r_count tx n nm c mq kd).2.1) ((r_count tx n nm c mq kd).2.2.2.1) ((r_count tx n nm c mq kd).2.2.2.2.1) ((r_count tx n nm c mq kd).2.2.2.2.2)) t9.heap) (va_A (sw G X q3 q4 q5 tx nm n p c mq kd) sz)) 0 0 (va_A (sw G X q3 q4 q5 tx nm n p c mq kd) sz) := by
  refine Met.ofW (cc := cX6_countCommands) (maxL := 2) (ret := (some .int)) (by decide) rfl ?_
  intro p9 e s m args below meth c9 s₁ B hml hv
  obtain ⟨rfl, hsz, hP, hK, hDB, hE⟩ := hv
  have hx := B.exec
  have hb := B.bytes
  have hr := B.returns
  have hts : ∀ w9 ∈ tb, w9.before ([.ref q3] : List Value).toArray s = true := fun w9 h9 => atoms_spec (ws := (wA yX6_countCommands cX6_countCommands 2 (some .int))) B.pre w9 (List.mem_cons_of_mem _ h9)
  have hown : s.vm.findClass RX6 = some m.cls := findClass_of_methodNamed B.named
  have hlocks := B.notSynchronized
  subst hsz
  have hD := hDB.self (sz := s.heap.size)
  have hAB := A_sub hDB hE.1
  generalize hAe : va_A (sw G X q3 q4 q5 tx nm n p c mq kd) s.heap.size = A at hD hAB ⊢
  have hA : ∀ q : Nat, s.heap.size ≤ q → A q := fun q h => by rw [← hAe]; exact Or.inr h
  have hS : va_S A s.heap s.heap [] := va_S.rf
  have hl := lv_entry ([.ref q3]) (n := 2) (Nat.le_of_ble_eq_true rfl)
  rw [lg_entry_eq]
  generalize (lg_sl ([.ref q3]) ++ List.replicate (2 - (lg_sl ([.ref q3])).length) Slot.unset).toArray = ls at hl ⊢
  have hl : lv_has ls 2 [(0, .ref q3)] := hl
  refine lv_aload_n hx hb dX6_countCommands_0 rfl (lv_at hl 0 rfl) ?_
  have hFc := freeC hD hS hA
  refine va_callv (va_runV (As := []) (rest := []) ⟨hx, hb, hml, hown, hts⟩ (c_X6_rewind l D G B0 X q3 q4 q5 tx nm n p c mq kd (by omega) (by omega) (by omega) s.heap.size) (cwV 0 hts gw_X6_39 rfl rfl rfl (by decide +kernel) ⟨Nat.le_of_ble_eq_true rfl, Nat.le_of_ble_eq_true rfl⟩) (pv_sm hK hP hD hAB (hE.at hS hAB)) rfl rfl hl.1 rfl (lv_room (Nat.le_of_ble_eq_true rfl)) dX6_countCommands_1 ⟨Nat.le_of_ble_eq_true rfl, Nat.le_of_ble_eq_true rfl⟩) hS (fun q _ h => hFc q h) hFc (fun u t H locs ht hvm hw_1 hB hz1 hk1 hS => ?_)
  have hP : va_P D vwCl (sw G X q3 q4 q5 tx nm n 0 c mq kd) H := by have h9 := hB; rw [ht] at h9; exact h9
  have hD : va_D A (sw G X q3 q4 q5 tx nm n 0 c mq kd) := swD hD
  refine lv_iconst (v := 1) hx hb dX6_countCommands_4 (by decide) ?_
  refine lv_istore_n (lv' := [(1, .int 1), (0, .ref q3)]) hx hb dX6_countCommands_5 rfl hl (by decide) rfl (fun ls hl => ?_)
  have L6 : ∀ (k : Nat) (ct p1 : Nat) (nm1 : Nat → Int32) (c1 : Nat) (mq1 : Int32) (kd1 : Nat), ct + k = 61 → p1 ≤ 60 → c1 ≤ 3 → r_count tx n nm c mq kd = r_ctlp tx n k ct p1 nm1 c1 mq1 kd1 → ∀ (H : Heap) (locs : List Loc), va_P D vwCl (sw G X q3 q4 q5 tx nm1 n p1 c1 mq1 kd1) H → va_D A (sw G X q3 q4 q5 tx nm1 n p1 c1 mq1 kd1) → va_S A s.heap H locs → ∀ ls : Array Slot, lv_has ls 2 [(1, .int (nI ct)), (0, .ref q3)] → W p9 l e (headSpec (wA yX6_countCommands cX6_countCommands 2 (some .int)) ({ frames := 6, cells := 0, slots := 0, locals := 133 } : Room)).room s m ([.ref q3] : List Value).toArray below meth c9 H locs 0 0 (MQ below (va_Qi (fun (r : Int32) (_ : Unit) => r = (r_count tx n nm c mq kd).1) (fun _ t9 => va_P D vwCl (sw G X q3 q4 q5 tx ((r_count tx n nm c mq kd).2.2.1) n ((r_count tx n nm c mq kd).2.1) ((r_count tx n nm c mq kd).2.2.2.1) ((r_count tx n nm c mq kd).2.2.2.2.1) ((r_count tx n nm c mq kd).2.2.2.2.2)) t9.heap) A) ([.ref q3] : List Value).toArray s 0 0 A) (F0 m 6 ls []) := by
    intro k
    induction k with
    | zero =>
      intro ct p1 nm1 c1 mq1 kd1 hi1 hp1 hc1 he H locs hP hD hS ls hl
      refine lv_iload_n hx hb dX6_countCommands_6 rfl (lv_at hl 0 rfl) ?_
      refine lv_bipush (v := 60) hx hb dX6_countCommands_7 (by decide) ?_
      refine lv_icmp_gt (tgt := 51) hx hb dX6_countCommands_9 (by decide) (fun _ => ?_) (fun c_2 => absurd (nI_lt (a := 60) (b := ct) (by omega) (by omega)) c_2)
      refine lv_iconst (v := -1) hx hb dX6_countCommands_51 (by decide) ?_
      have hz_3 : r_count tx n nm c mq kd = ((-1), p1, nm1, c1, mq1, kd1) := he.trans (by first | (simp only [r_ctlp]; done) | (simp only [r_ctlp]; exact rfl) | simp [r_ctlp])
      have hP : va_P D vwCl (sw G X q3 q4 q5 tx ((r_count tx n nm c mq kd).2.2.1) n ((r_count tx n nm c mq kd).2.1) ((r_count tx n nm c mq kd).2.2.2.1) ((r_count tx n nm c mq kd).2.2.2.2.1) ((r_count tx n nm c mq kd).2.2.2.2.2)) H := by rw [hz_3]; exact hP
      exact W.iret (v := (-1)) hx hb hr (fun t ht hW => ⟨⟨(-1), (), rfl, (by rw [hz_3]), by show va_P D vwCl _ t.heap; rw [ht]; exact hP⟩, hS.F ht⟩) hS.2.2 dX6_countCommands_52
    | succ k ih =>
      intro ct p1 nm1 c1 mq1 kd1 hi1 hp1 hc1 he H locs hP hD hS ls hl
      refine lv_iload_n hx hb dX6_countCommands_6 rfl (lv_at hl 0 rfl) ?_
      refine lv_bipush (v := 60) hx hb dX6_countCommands_7 (by decide) ?_
      refine lv_icmp_gt (tgt := 51) hx hb dX6_countCommands_9 (by decide) (fun c_4 => absurd c_4 (fun h9 => absurd ((nI_ltI (a := 60) (b := ct) (by omega) (by omega)).mp h9) (by omega))) (fun _ => ?_)
      refine lv_aload_n hx hb dX6_countCommands_12 rfl (lv_at hl 1 rfl) ?_
      have hFc := freeC hD hS hA
      refine va_calli (va_runV (As := []) (rest := []) ⟨hx, hb, hml, hown, hts⟩ (c_X6_readCommand l D G B0 X q3 q4 q5 tx nm1 n p1 c1 mq1 kd1 (by omega) (by omega) (by omega) H.size) (cwV 0 hts gw_X6_42 rfl rfl rfl (by decide +kernel) ⟨Nat.le_of_ble_eq_true rfl, Nat.le_of_ble_eq_true rfl⟩) (pv_sm hK hP hD hAB (hE.at hS hAB)) rfl rfl hl.1 rfl (lv_room (Nat.le_of_ble_eq_true rfl)) dX6_countCommands_13 ⟨Nat.le_of_ble_eq_true rfl, Nat.le_of_ble_eq_true rfl⟩) hS (fun q _ h => hFc q h) hFc (fun r u t H locs ht hvm hw_5 hB hz1 hk1 hS => ?_)
      have hP : va_P D vwCl (sw G X q3 q4 q5 tx ((r_command tx n p1 nm1 c1 mq1 kd1).2.2.1) n ((r_command tx n p1 nm1 c1 mq1 kd1).2.1) ((r_command tx n p1 nm1 c1 mq1 kd1).2.2.2.1) ((r_command tx n p1 nm1 c1 mq1 kd1).2.2.2.2.1) ((r_command tx n p1 nm1 c1 mq1 kd1).2.2.2.2.2)) H := by have h9 := hB; rw [ht] at h9; exact h9
      have hD : va_D A (sw G X q3 q4 q5 tx ((r_command tx n p1 nm1 c1 mq1 kd1).2.2.1) n ((r_command tx n p1 nm1 c1 mq1 kd1).2.1) ((r_command tx n p1 nm1 c1 mq1 kd1).2.2.2.1) ((r_command tx n p1 nm1 c1 mq1 kd1).2.2.2.2.1) ((r_command tx n p1 nm1 c1 mq1 kd1).2.2.2.2.2)) := swD hD
      have := r_command_p (tx := tx) (nm := nm1) (mq := mq1) (kd := kd1) (n := n) (p := p1) (c := c1) (by omega) (by omega) (by omega)
      have := r_command_c (tx := tx) (nm := nm1) (mq := mq1) (kd := kd1) (n := n) (p := p1) (c := c1) (by omega) (by omega) (by omega)
      rw [hw_5]
      cases hb_6 : (r_command tx n p1 nm1 c1 mq1 kd1).1
      case true =>
        refine lv_if_ne (tgt := 21) hx hb dX6_countCommands_16 (by decide) (fun _ => ?_) (fun c_7 => absurd c_7 (by decide))
        refine lv_aload_n hx hb dX6_countCommands_21 rfl (lv_at hl 1 rfl) ?_
        refine va_get (D := D) (ci := 7) (v := .int (nI ((r_command tx n p1 nm1 c1 mq1 kd1).2.1))) (C := RX6) (T := TX6) (N := 7) hx hb hts i_X6 hown hK hP 0 rfl rfl 2 (by decide) (hts _ kw_171) (fun _ h9 => h9) rfl dX6_countCommands_22 ?_
        refine lv_aload_n hx hb dX6_countCommands_25 rfl (lv_at hl 1 rfl) ?_
        refine va_get (D := D) (ci := 7) (v := .int (nI n)) (C := RX6) (T := TX6) (N := 7) hx hb hts i_X6 hown hK hP 0 rfl rfl 1 (by decide) (hts _ kw_170) (fun _ h9 => h9) rfl dX6_countCommands_26 ?_
        refine lv_icmp_lt (tgt := 34) hx hb dX6_countCommands_29 (by decide) (fun c_8 => ?_) (fun c_8 => ?_)
        · skip
          have d_9 : ((r_command tx n p1 nm1 c1 mq1 kd1).2.1) < n := (nI_ltI (a := ((r_command tx n p1 nm1 c1 mq1 kd1).2.1)) (b := n) (by omega) (by omega)).mp c_8
          refine lv_aload_n hx hb dX6_countCommands_34 rfl (lv_at hl 1 rfl) ?_
          refine lv_bipush (v := 59) hx hb dX6_countCommands_35 (by decide) ?_
          have hFc := freeC hD hS hA
          refine va_calli (va_runV (As := [.int 59]) (rest := []) ⟨hx, hb, hml, hown, hts⟩ (c_X6_take l D G B0 X q3 q4 q5 tx ((r_command tx n p1 nm1 c1 mq1 kd1).2.2.1) n ((r_command tx n p1 nm1 c1 mq1 kd1).2.1) ((r_command tx n p1 nm1 c1 mq1 kd1).2.2.2.1) ((r_command tx n p1 nm1 c1 mq1 kd1).2.2.2.2.1) ((r_command tx n p1 nm1 c1 mq1 kd1).2.2.2.2.2) (by omega) (by omega) (by omega) 59 H.size) (cwV 1 hts gw_X6_45 rfl rfl rfl (by decide +kernel) ⟨Nat.le_of_ble_eq_true rfl, Nat.le_of_ble_eq_true rfl⟩) (pv_sm hK hP hD hAB (hE.at hS hAB)) rfl rfl hl.1 rfl (lv_room (Nat.le_of_ble_eq_true rfl)) dX6_countCommands_37 ⟨Nat.le_of_ble_eq_true rfl, Nat.le_of_ble_eq_true rfl⟩) hS (fun q _ h => hFc q h) hFc (fun r u t H locs ht hvm hw_10 hB hz1 hk1 hS => ?_)
          have hP : va_P D vwCl (sw G X q3 q4 q5 tx ((r_command tx n p1 nm1 c1 mq1 kd1).2.2.1) n ((r_take tx n 59 ((r_command tx n p1 nm1 c1 mq1 kd1).2.1)).2) ((r_command tx n p1 nm1 c1 mq1 kd1).2.2.2.1) ((r_command tx n p1 nm1 c1 mq1 kd1).2.2.2.2.1) ((r_command tx n p1 nm1 c1 mq1 kd1).2.2.2.2.2)) H := by have h9 := hB; rw [ht] at h9; exact h9
          have hD : va_D A (sw G X q3 q4 q5 tx ((r_command tx n p1 nm1 c1 mq1 kd1).2.2.1) n ((r_take tx n 59 ((r_command tx n p1 nm1 c1 mq1 kd1).2.1)).2) ((r_command tx n p1 nm1 c1 mq1 kd1).2.2.2.1) ((r_command tx n p1 nm1 c1 mq1 kd1).2.2.2.2.1) ((r_command tx n p1 nm1 c1 mq1 kd1).2.2.2.2.2)) := swD hD
          have := r_take_p (tx := tx) (w := 59) (n := n) (p := ((r_command tx n p1 nm1 c1 mq1 kd1).2.1)) (by omega) (by omega)
          rw [hw_10]
          cases hb_11 : (r_take tx n 59 ((r_command tx n p1 nm1 c1 mq1 kd1).2.1)).1
          case true =>
            refine lv_if_ne (tgt := 45) hx hb dX6_countCommands_40 (by decide) (fun _ => ?_) (fun c_12 => absurd c_12 (by decide))
            refine lv_iinc (v := nI (ct + 1)) (lv' := [(1, .int (nI (ct + 1))), (0, .ref q3)]) hx hb dX6_countCommands_45 hl (k := 0) rfl (by exact nI_1 ct) (by decide) rfl (fun ls hl => ?_)
            refine lv_goto (tgt := 6) hx hb dX6_countCommands_48 (by decide) ?_
            exact ih (ct + 1) ((r_take tx n 59 ((r_command tx n p1 nm1 c1 mq1 kd1).2.1)).2) ((r_command tx n p1 nm1 c1 mq1 kd1).2.2.1) ((r_command tx n p1 nm1 c1 mq1 kd1).2.2.2.1) ((r_command tx n p1 nm1 c1 mq1 kd1).2.2.2.2.1) ((r_command tx n p1 nm1 c1 mq1 kd1).2.2.2.2.2) (by omega) (by omega) (by omega) (he.trans (by simp only [r_ctlp, if_pos hb_6, if_pos d_9, if_pos hb_11])) _ _ hP hD hS ls (lv_sub hl [0, 1] rfl)
          case false =>
            refine lv_if_ne (tgt := 45) hx hb dX6_countCommands_40 (by decide) (fun c_13 => absurd (by decide) c_13) (fun _ => ?_)
            refine lv_iconst (v := -1) hx hb dX6_countCommands_43 (by decide) ?_
            have hz_14 : r_count tx n nm c mq kd = ((-1), (r_take tx n 59 ((r_command tx n p1 nm1 c1 mq1 kd1).2.1)).2, (r_command tx n p1 nm1 c1 mq1 kd1).2.2.1, (r_command tx n p1 nm1 c1 mq1 kd1).2.2.2.1, (r_command tx n p1 nm1 c1 mq1 kd1).2.2.2.2.1, (r_command tx n p1 nm1 c1 mq1 kd1).2.2.2.2.2) := he.trans (by first | (simp only [r_ctlp, if_pos hb_6, if_pos d_9, if_neg (bf hb_11)]; done) | (simp only [r_ctlp]; exact if_neg (bf hb_11)) | simp [r_ctlp, hb_6, d_9, (bf hb_11)])
            have hP : va_P D vwCl (sw G X q3 q4 q5 tx ((r_count tx n nm c mq kd).2.2.1) n ((r_count tx n nm c mq kd).2.1) ((r_count tx n nm c mq kd).2.2.2.1) ((r_count tx n nm c mq kd).2.2.2.2.1) ((r_count tx n nm c mq kd).2.2.2.2.2)) H := by rw [hz_14]; exact hP
            exact W.iret (v := (-1)) hx hb hr (fun t ht hW => ⟨⟨(-1), (), rfl, (by rw [hz_14]), by show va_P D vwCl _ t.heap; rw [ht]; exact hP⟩, hS.F ht⟩) hS.2.2 dX6_countCommands_44
        · skip
          have d_9 : ¬ ((r_command tx n p1 nm1 c1 mq1 kd1).2.1) < n := fun h9 => c_8 (nI_lt (a := ((r_command tx n p1 nm1 c1 mq1 kd1).2.1)) (b := n) h9 (by omega))
          refine lv_iload_n hx hb dX6_countCommands_32 rfl (lv_at hl 0 rfl) ?_
          have hz_15 : r_count tx n nm c mq kd = (nI ct, (r_command tx n p1 nm1 c1 mq1 kd1).2.1, (r_command tx n p1 nm1 c1 mq1 kd1).2.2.1, (r_command tx n p1 nm1 c1 mq1 kd1).2.2.2.1, (r_command tx n p1 nm1 c1 mq1 kd1).2.2.2.2.1, (r_command tx n p1 nm1 c1 mq1 kd1).2.2.2.2.2) := he.trans (by first | (simp only [r_ctlp, if_pos hb_6, if_neg d_9]; done) | (simp only [r_ctlp]; exact if_neg d_9) | simp [r_ctlp, hb_6, d_9])
          have hP : va_P D vwCl (sw G X q3 q4 q5 tx ((r_count tx n nm c mq kd).2.2.1) n ((r_count tx n nm c mq kd).2.1) ((r_count tx n nm c mq kd).2.2.2.1) ((r_count tx n nm c mq kd).2.2.2.2.1) ((r_count tx n nm c mq kd).2.2.2.2.2)) H := by rw [hz_15]; exact hP
          exact W.iret (v := nI ct) hx hb hr (fun t ht hW => ⟨⟨nI ct, (), rfl, (by rw [hz_15]), by show va_P D vwCl _ t.heap; rw [ht]; exact hP⟩, hS.F ht⟩) hS.2.2 dX6_countCommands_33
      case false =>
        refine lv_if_ne (tgt := 21) hx hb dX6_countCommands_16 (by decide) (fun c_16 => absurd (by decide) c_16) (fun _ => ?_)
        refine lv_iconst (v := -1) hx hb dX6_countCommands_19 (by decide) ?_
        have hz_17 : r_count tx n nm c mq kd = ((-1), (r_command tx n p1 nm1 c1 mq1 kd1).2.1, (r_command tx n p1 nm1 c1 mq1 kd1).2.2.1, (r_command tx n p1 nm1 c1 mq1 kd1).2.2.2.1, (r_command tx n p1 nm1 c1 mq1 kd1).2.2.2.2.1, (r_command tx n p1 nm1 c1 mq1 kd1).2.2.2.2.2) := he.trans (by first | (simp only [r_ctlp, if_neg (bf hb_6)]; done) | (simp only [r_ctlp]; exact if_neg (bf hb_6)) | simp [r_ctlp, (bf hb_6)])
        have hP : va_P D vwCl (sw G X q3 q4 q5 tx ((r_count tx n nm c mq kd).2.2.1) n ((r_count tx n nm c mq kd).2.1) ((r_count tx n nm c mq kd).2.2.2.1) ((r_count tx n nm c mq kd).2.2.2.2.1) ((r_count tx n nm c mq kd).2.2.2.2.2)) H := by rw [hz_17]; exact hP
        exact W.iret (v := (-1)) hx hb hr (fun t ht hW => ⟨⟨(-1), (), rfl, (by rw [hz_17]), by show va_P D vwCl _ t.heap; rw [ht]; exact hP⟩, hS.F ht⟩) hS.2.2 dX6_countCommands_20
  exact L6 60 1 0 nm c mq kd rfl (by omega) hc rfl _ _ hP hD hS ls (lv_sub hl [0, 1] rfl)
set_option maxRecDepth 100000 in
set_option maxHeartbeats 4000000 in
theorem c_X6_append (l : Launch) (D : va_G) (G : GA) (B0 : Nat) (X : Nat → Nat → Nat) (q3 q4 q5 : Nat) (tx nm : Nat → Int32) (n p c : Nat) (mq : Int32) (kd : Nat) (hn : n ≤ 60) (hp : p ≤ 60) (hc : c ≤ 3) (ch : Int32) (hch : vp_nar .char ch = ch) (hlt : n < 60) (sz : Nat) : Met l yX6_append (wA yX6_append cX6_append 2 (some .int)) ({ frames := 1, cells := 0, slots := 0, locals := 20 } : Room) (va_Pc [.ref q3, .int ch] (SMp D G B0 X q3 q4 q5 tx nm n p c mq kd sz)) (va_Qi (fun (r : Int32) (_ : Unit) => r = nI (n + 1)) (fun _ t9 => va_P D vwCl (sw G X q3 q4 q5 (upd tx n ch) nm (n + 1) p c mq kd) t9.heap) (va_A (sw G X q3 q4 q5 tx nm n p c mq kd) sz)) 0 0 (va_A (sw G X q3 q4 q5 tx nm n p c mq kd) sz) := by
  refine Met.ofW (cc := cX6_append) (maxL := 2) (ret := (some .int)) (by decide) rfl ?_
  intro p9 e s m args below meth c9 s₁ B hml hv
  obtain ⟨rfl, hsz, hP, hK, hDB, hE⟩ := hv
  have hx := B.exec
  have hb := B.bytes
  have hr := B.returns
  have hts : ∀ w9 ∈ tb, w9.before ([.ref q3, .int ch] : List Value).toArray s = true := fun w9 h9 => atoms_spec (ws := (wA yX6_append cX6_append 2 (some .int))) B.pre w9 (List.mem_cons_of_mem _ h9)
  have hown : s.vm.findClass RX6 = some m.cls := findClass_of_methodNamed B.named
  have hlocks := B.notSynchronized
  subst hsz
  have hD := hDB.self (sz := s.heap.size)
  have hAB := A_sub hDB hE.1
  generalize hAe : va_A (sw G X q3 q4 q5 tx nm n p c mq kd) s.heap.size = A at hD hAB ⊢
  have hA : ∀ q : Nat, s.heap.size ≤ q → A q := fun q h => by rw [← hAe]; exact Or.inr h
  have hS : va_S A s.heap s.heap [] := va_S.rf
  have hl := lv_entry ([.ref q3, .int ch]) (n := 2) (Nat.le_of_ble_eq_true rfl)
  rw [lg_entry_eq]
  generalize (lg_sl ([.ref q3, .int ch]) ++ List.replicate (2 - (lg_sl ([.ref q3, .int ch])).length) Slot.unset).toArray = ls at hl ⊢
  have hl : lv_has ls 2 [(0, .ref q3), (1, .int ch)] := hl
  have hfull : r_full n = false := by unfold r_full; rw [if_pos hlt]
  refine lv_aload_n hx hb dX6_append_0 rfl (lv_at hl 0 rfl) ?_
  refine vp_callSi (va_runV (As := []) (rest := []) ⟨hx, hb, hml, hown, hts⟩ (c_X6_isFull l D G X q3 q4 q5 tx nm n p c mq kd (by omega) (by omega) (by omega)) (cwV 0 hts gw_X6_32 rfl rfl rfl (by decide +kernel) ⟨Nat.le_of_ble_eq_true rfl, Nat.le_of_ble_eq_true rfl⟩) (pv_sq hK hP) rfl rfl hl.1 rfl (lv_room (Nat.le_of_ble_eq_true rfl)) dX6_append_1 ⟨Nat.le_of_ble_eq_true rfl, Nat.le_of_ble_eq_true rfl⟩).run (nm_e ?_)
  rw [hfull]
  refine lv_if_ne (tgt := 27) hx hb dX6_append_4 (by decide) (fun c_1 => absurd (by decide) c_1) (fun _ => ?_)
  refine lv_aload_n hx hb dX6_append_7 rfl (lv_at hl 0 rfl) ?_
  refine va_get (D := D) (ci := 7) (v := .ref q4) (C := RX6) (T := TX6) (N := 7) hx hb hts i_X6 hown hK hP 0 rfl rfl 0 (by decide) (hts _ kw_169) (fun _ h9 => h9) rfl dX6_append_8 ?_
  refine lv_aload_n hx hb dX6_append_11 rfl (lv_at hl 0 rfl) ?_
  refine va_get (D := D) (ci := 7) (v := .int (nI n)) (C := RX6) (T := TX6) (N := 7) hx hb hts i_X6 hown hK hP 0 rfl rfl 1 (by decide) (hts _ kw_170) (fun _ h9 => h9) rfl dX6_append_12 ?_
  refine lv_iload_n hx hb dX6_append_15 rfl (lv_at hl 1 rfl) ?_
  refine va_cast hx hb hK hP hD hS 1 3 rfl rfl (vp_in_nI (n := n) (by omega) (by decide)) dX6_append_16 (fun H locs hP hD hS => ?_)
  rw [nI_clamp (n := n) (by omega), hch] at hP hD
  have hP : va_P D vwCl (sw G X q3 q4 q5 (upd tx n ch) nm n p c mq kd) H := hP
  have hD : va_D A (sw G X q3 q4 q5 (upd tx n ch) nm n p c mq kd) := hD
  refine lv_aload_n hx hb dX6_append_17 rfl (lv_at hl 0 rfl) ?_
  refine lv_dup hx hb dX6_append_18 rfl ?_
  refine va_get (D := D) (ci := 7) (v := .int (nI n)) (C := RX6) (T := TX6) (N := 7) hx hb hts i_X6 hown hK hP 0 rfl rfl 1 (by decide) (hts _ kw_170) (fun _ h9 => h9) rfl dX6_append_19 ?_
  refine lv_iconst (v := 1) hx hb dX6_append_22 (by decide) ?_
  refine lv_iadd hx hb dX6_append_23 ?_
  rw [nI_1 n]
  refine va_put (D := D) (ci := 7) (v := .int (nI (n + 1))) (ty := .int) (C := RX6) (T := TX6) (N := 7) hx hb hts i_X6 tyX6 tyX6_ok nmX6 hown hK hP hD hS 0 rfl rfl 1 (by decide) (hts _ kw_170) (fun _ h9 => h9) rfl (by decide +kernel) rfl rfl (Nat.le_of_ble_eq_true rfl) dX6_append_24 (fun H locs hP hD hS => ?_)
  have hP : va_P D vwCl (sw G X q3 q4 q5 (upd tx n ch) nm (n + 1) p c mq kd) H := hP
  have hD : va_D A (sw G X q3 q4 q5 (upd tx n ch) nm (n + 1) p c mq kd) := hD
  refine lv_aload_n hx hb dX6_append_27 rfl (lv_at hl 0 rfl) ?_
  refine va_get (D := D) (ci := 7) (v := .int (nI (n + 1))) (C := RX6) (T := TX6) (N := 7) hx hb hts i_X6 hown hK hP 0 rfl rfl 1 (by decide) (hts _ kw_170) (fun _ h9 => h9) rfl dX6_append_28 ?_
  have hP : va_P D vwCl (sw G X q3 q4 q5 (upd tx n ch) nm (n + 1) p c mq kd) H := by skip; exact hP
  exact W.iret (v := nI (n + 1)) hx hb hr (fun t ht hW => ⟨⟨nI (n + 1), (), rfl, rfl, by show va_P D vwCl _ t.heap; rw [ht]; exact hP⟩, hS.F ht⟩) hS.2.2 dX6_append_31
