/-! THE SCRIPT: tx the text, nm the numbers, n how long, p where the reader stands, c how many numbers, mq the mark, kd the kind -/
def sw (G : GA) (X : Nat → Nat → Nat) (q3 q4 q5 : Nat) (tx nm : Nat → Int32) (n p c : Nat) (mq : Int32) (kd : Nat) : va_W :=
  [(q3, .inr (7, [.ref q4, .int (nI n), .int (nI p), .ref (X 1 kd), .ref q5, .int (nI c), .int (z01 mq)])), (q4, .inl (G 3, 60, .inl tx)), (q5, .inl (G 1, 3, .inl nm))]
theorem swD {A : Nat → Prop} {G : GA} {X : Nat → Nat → Nat} {q3 q4 q5 : Nat} {tx nm tx' nm' : Nat → Int32} {n p c n' p' c' : Nat} {mq mq' : Int32} {kd kd' : Nat} (h : va_D A (sw G X q3 q4 q5 tx nm n p c mq kd)) : va_D A (sw G X q3 q4 q5 tx' nm' n' p' c' mq' kd') := D_addr h rfl
abbrev SQp (D : va_G) (G : GA) (X : Nat → Nat → Nat) (q3 q4 q5 : Nat) (tx nm : Nat → Int32) (n p c : Nat) (mq : Int32) (kd : Nat) (U : State) : Prop := va_P D vwCl (sw G X q3 q4 q5 tx nm n p c mq kd) U.heap ∧ KK D G U
abbrev SMp (D : va_G) (G : GA) (B0 : Nat) (X : Nat → Nat → Nat) (q3 q4 q5 : Nat) (tx nm : Nat → Int32) (n p c : Nat) (mq : Int32) (kd : Nat) (sz : Nat) (U : State) : Prop := U.heap.size = sz ∧ va_P D vwCl (sw G X q3 q4 q5 tx nm n p c mq kd) U.heap ∧ KK D G U ∧ va_D (bA B0) (sw G X q3 q4 q5 tx nm n p c mq kd) ∧ EN B0 X U U.heap
section PVS
variable {s : State} {H : Heap} {D : va_G} {G : GA} {B0 : Nat} {X : Nat → Nat → Nat} {q3 q4 q5 : Nat} {tx nm : Nat → Int32} {n p c : Nat} {mq : Int32} {kd : Nat}
theorem pv_sq {As : List Value} (hK : KK D G s) (hP : va_P D vwCl (sw G X q3 q4 q5 tx nm n p c mq kd) H) : PreV s H RX6 q3 (va_Pc (.ref q3 :: As) (SQp D G X q3 q4 q5 tx nm n p c mq kd)) As :=
  ⟨fun A U g mk q => ⟨q.1, q.2.1, va_K.moved (Vm.Alike.refl U.vm) q.2.2⟩, va_recv hK hP (ci := 7) (q0 := 0) rfl rfl, fun U hU hW => ⟨rfl, by rw [hU]; exact hP, va_K.moved hW.alike hK⟩⟩
theorem pv_sm {A : Nat → Prop} {As : List Value} (hK : KK D G s) (hP : va_P D vwCl (sw G X q3 q4 q5 tx nm n p c mq kd) H) (hD : va_D A (sw G X q3 q4 q5 tx nm n p c mq kd)) (hAB : ∀ q, A q → B0 ≤ q) (hE : EN B0 X s H) : PreV s H RX6 q3 (va_Pc (.ref q3 :: As) (SMp D G B0 X q3 q4 q5 tx nm n p c mq kd H.size)) As :=
  ⟨fun A U g mk q => ⟨q.1, q.2.1, q.2.2.1, va_K.moved (Vm.Alike.refl U.vm) q.2.2.2.1, q.2.2.2.2.1, EN.warm (s := U) (State.WarmedH.refl U) q.2.2.2.2.2⟩, va_recv hK hP (ci := 7) (q0 := 0) rfl rfl, fun U hU hW => ⟨rfl, by rw [hU], by rw [hU]; exact hP, va_K.moved hW.alike hK, hD.weaken (fun _ q _ h => hAB q.1 h), by rw [hU]; exact hE.warm hW⟩⟩
end PVS
section VKN
variable {p : Program} {l : Launch} {e : Env} {R : Room} {s : State} {m : MethodId} {args : Array Value} {below : List Frame} {meth : Method} {c : Code} {H : Heap} {locs : List Loc} {cells slots : Nat} {Q : State → Prop}
variable {cc : ByteArray} {pc : Nat} {ls : Array Slot} {rest : List Value} {A : Nat → Prop}
theorem vk_getfN (hexec : p.tables.exec = Jvm.exec) (hb : c.code = cc) {o n d own ref host : String} {index q : Nat} {v : Value} (hE : va_OF o n d v q A s s.heap) (hS : va_S A s.heap H locs) (hown : s.vm.findClass own = some m.cls) (hlink : (Cond.fieldLinkNest own index ref n d host).before args s = true) (hsame : ∀ x, s.fieldFound? o n d = some x → s.fieldFound? ref n d = some x) (hdg : decode cc pc = .ok (.getfield index, 3))
    (kk : W p l e R s m args below meth c H locs cells slots Q (F0 m (pc + 3) ls (v :: rest))) : W p l e R s m args below meth c H locs cells slots Q (F0 m pc ls (.ref q :: rest)) := by
  obtain ⟨cf, k, i, f, cell, h1, h2, h3, h4, h5, h6⟩ := hE
  have hlt : q < s.heap.size := (Array.getElem?_eq_some_iff.mp h3).1
  exact va_Wgetf hexec hb hown hlink (hsame _ h1) h2 ((hS.2.1 q hlt h6).trans h3) h4 h5 rfl rfl hdg kk
end VKN
theorem A_sub {A : Nat → Prop} {ws : va_W} {sz B0 : Nat} (hD : va_D (bA B0) ws) (hz : B0 ≤ sz) : ∀ q, va_A ws sz q → B0 ≤ q := by
  intro q h
  rcases A_mem h with ⟨p, hp, e⟩ | h
  · rw [← e]; exact D_in hD hp
  · exact Nat.le_trans hz h
def chS (i j : Nat) : Int32 := (strB.getD i []).getD j 0 &&& 255
theorem strL_le : ∀ i, i < 40 → strL.getD i 0 ≤ 60 := by decide
def r_full (n : Nat) : Bool := if n < 60 then false else true
def r_take (tx : Nat → Int32) (n : Nat) (w : Int32) (p : Nat) : Bool × Nat := if n ≤ p then (false, p) else if tx p = w then (true, p + 1) else (false, p)
def r_digit (tx : Nat → Int32) (n p : Nat) : Bool := if n ≤ p then false else if tx p < 48 then false else if 57 < tx p then false else true
def r_nlp (tx : Nat → Int32) (n : Nat) : Nat → Nat → Int32 → Nat → Nat × Int32 × Nat
  | 0, p, v, d => (p, v, d)
  | k + 1, p, v, d => if r_digit tx n p = true then r_nlp tx n k (p + 1) (10 * v + (tx p - 48)) (d + 1) else (p, v, d)
def r_nfin (nm : Nat → Int32) (c : Nat) (r : Nat × Int32 × Nat) : Bool × Nat × (Nat → Int32) × Nat := if r.2.2 = 0 then (false, r.1, nm, c) else if c < 3 then (true, r.1, upd nm c r.2.1, c + 1) else (false, r.1, nm, c)
def r_number (tx : Nat → Int32) (n m p : Nat) (nm : Nat → Int32) (c : Nat) : Bool × Nat × (Nat → Int32) × Nat := r_nfin nm c (r_nlp tx n m p 0 0)
def r_part (tx : Nat → Int32) (n : Nat) (ch : Int32) (p : Nat) (nm : Nat → Int32) (c : Nat) (mq : Int32) : Bool × Nat × (Nat → Int32) × Nat × Int32 :=
  if ch = 78 then ((r_number tx n 2 p nm c).1, (r_number tx n 2 p nm c).2.1, (r_number tx n 2 p nm c).2.2.1, (r_number tx n 2 p nm c).2.2.2, mq)
  else if ch = 68 then ((r_number tx n 1 p nm c).1, (r_number tx n 1 p nm c).2.1, (r_number tx n 1 p nm c).2.2.1, (r_number tx n 1 p nm c).2.2.2, mq)
  else if ch = 33 then (true, (r_take tx n 33 p).2, nm, c, bi (r_take tx n 33 p).1)
  else ((r_take tx n ch p).1, (r_take tx n ch p).2, nm, c, mq)
def r_plp (tx : Nat → Int32) (n : Nat) (ps : Nat → Int32) : Nat → Nat → Nat → (Nat → Int32) → Nat → Int32 → Bool × Nat × (Nat → Int32) × Nat × Int32
  | 0, _, p, nm, c, mq => (true, p, nm, c, mq)
  | k + 1, i, p, nm, c, mq => if (r_part tx n (ps i) p nm c mq).1 = true then r_plp tx n ps k (i + 1) (r_part tx n (ps i) p nm c mq).2.1 (r_part tx n (ps i) p nm c mq).2.2.1 (r_part tx n (ps i) p nm c mq).2.2.2.1 (r_part tx n (ps i) p nm c mq).2.2.2.2
    else (false, (r_part tx n (ps i) p nm c mq).2.1, (r_part tx n (ps i) p nm c mq).2.2.1, (r_part tx n (ps i) p nm c mq).2.2.2.1, (r_part tx n (ps i) p nm c mq).2.2.2.2)
def r_pattern (tx : Nat → Int32) (n i p : Nat) (nm : Nat → Int32) : Bool × Nat × (Nat → Int32) × Nat × Int32 := r_plp tx n (chS i) (strL.getD i 0) 0 p nm 0 0
def r_clp (tx : Nat → Int32) (n start : Nat) : Nat → Nat → Nat → Nat → (Nat → Int32) → Nat → Int32 → Nat → Bool × Nat × (Nat → Int32) × Nat × Int32 × Nat
  | 0, _, far, _, nm, c, mq, kd => (false, far, nm, c, mq, kd)
  | k + 1, i, far, _, nm, _, _, kd => if (r_pattern tx n (kPat i) start nm).1 = true then (true, (r_pattern tx n (kPat i) start nm).2.1, (r_pattern tx n (kPat i) start nm).2.2.1, (r_pattern tx n (kPat i) start nm).2.2.2.1, (r_pattern tx n (kPat i) start nm).2.2.2.2, i)
    else r_clp tx n start k (i + 1) (if far < (r_pattern tx n (kPat i) start nm).2.1 then (r_pattern tx n (kPat i) start nm).2.1 else far) (r_pattern tx n (kPat i) start nm).2.1 (r_pattern tx n (kPat i) start nm).2.2.1 (r_pattern tx n (kPat i) start nm).2.2.2.1 (r_pattern tx n (kPat i) start nm).2.2.2.2 kd
def r_command (tx : Nat → Int32) (n p : Nat) (nm : Nat → Int32) (c : Nat) (mq : Int32) (kd : Nat) : Bool × Nat × (Nat → Int32) × Nat × Int32 × Nat := r_clp tx n p 7 0 p p nm c mq kd
def r_ctlp (tx : Nat → Int32) (n : Nat) : Nat → Nat → Nat → (Nat → Int32) → Nat → Int32 → Nat → Int32 × Nat × (Nat → Int32) × Nat × Int32 × Nat
  | 0, _, p, nm, c, mq, kd => (-1, p, nm, c, mq, kd)
  | k + 1, ct, p, nm, c, mq, kd => if (r_command tx n p nm c mq kd).1 = true then (if (r_command tx n p nm c mq kd).2.1 < n then (if (r_take tx n 59 (r_command tx n p nm c mq kd).2.1).1 = true then r_ctlp tx n k (ct + 1) (r_take tx n 59 (r_command tx n p nm c mq kd).2.1).2 (r_command tx n p nm c mq kd).2.2.1 (r_command tx n p nm c mq kd).2.2.2.1 (r_command tx n p nm c mq kd).2.2.2.2.1 (r_command tx n p nm c mq kd).2.2.2.2.2
        else (-1, (r_take tx n 59 (r_command tx n p nm c mq kd).2.1).2, (r_command tx n p nm c mq kd).2.2.1, (r_command tx n p nm c mq kd).2.2.2.1, (r_command tx n p nm c mq kd).2.2.2.2.1, (r_command tx n p nm c mq kd).2.2.2.2.2))
      else (nI ct, (r_command tx n p nm c mq kd).2.1, (r_command tx n p nm c mq kd).2.2.1, (r_command tx n p nm c mq kd).2.2.2.1, (r_command tx n p nm c mq kd).2.2.2.2.1, (r_command tx n p nm c mq kd).2.2.2.2.2))
    else (-1, (r_command tx n p nm c mq kd).2.1, (r_command tx n p nm c mq kd).2.2.1, (r_command tx n p nm c mq kd).2.2.2.1, (r_command tx n p nm c mq kd).2.2.2.2.1, (r_command tx n p nm c mq kd).2.2.2.2.2)
def r_count (tx : Nat → Int32) (n : Nat) (nm : Nat → Int32) (c : Nat) (mq : Int32) (kd : Nat) : Int32 × Nat × (Nat → Int32) × Nat × Int32 × Nat := r_ctlp tx n 60 1 0 nm c mq kd
def r_num (nm : Nat → Int32) (c i : Nat) : Int32 := if c ≤ i then 0 else nm i
-- bounds
theorem r_take_p {tx : Nat → Int32} {n p : Nat} {w : Int32} (hn : n ≤ 60) (hp : p ≤ 60) : (r_take tx n w p).2 ≤ 60 := by
  unfold r_take
  split
  · exact hp
  · split <;> simp <;> omega
theorem r_nlp_p {tx : Nat → Int32} {n : Nat} (hn : n ≤ 60) : ∀ (k p : Nat) (v : Int32) (d : Nat), p ≤ 60 → (r_nlp tx n k p v d).1 ≤ 60 := by
  intro k
  induction k with
  | zero => intro p v d hp; exact hp
  | succ k ih =>
    intro p v d hp
    unfold r_nlp
    split
    · next h =>
      refine ih _ _ _ ?_
      unfold r_digit at h
      split at h
      · exact absurd h (by decide)
      · omega
    · exact hp
theorem r_number_p {tx : Nat → Int32} {n m p : Nat} {nm : Nat → Int32} {c : Nat} (hn : n ≤ 60) (hp : p ≤ 60) : (r_number tx n m p nm c).2.1 ≤ 60 := by
  have h := r_nlp_p (tx := tx) hn m p 0 0 hp
  unfold r_number r_nfin
  split
  · exact h
  · split <;> exact h
theorem r_number_c {tx : Nat → Int32} {n m p : Nat} {nm : Nat → Int32} {c : Nat} (hc : c ≤ 3) : (r_number tx n m p nm c).2.2.2 ≤ 3 := by
  unfold r_number r_nfin
  split
  · exact hc
  · split
    · simp; omega
    · exact hc
theorem r_part_p {tx : Nat → Int32} {n : Nat} {ch : Int32} {p : Nat} {nm : Nat → Int32} {c : Nat} {mq : Int32} (hn : n ≤ 60) (hp : p ≤ 60) : (r_part tx n ch p nm c mq).2.1 ≤ 60 := by
  unfold r_part
  split
  · exact r_number_p hn hp
  · split
    · exact r_number_p hn hp
    · split
      · exact r_take_p hn hp
      · exact r_take_p hn hp
theorem r_part_c {tx : Nat → Int32} {n : Nat} {ch : Int32} {p : Nat} {nm : Nat → Int32} {c : Nat} {mq : Int32} (hc : c ≤ 3) : (r_part tx n ch p nm c mq).2.2.2.1 ≤ 3 := by
  unfold r_part
  split
  · exact r_number_c hc
  · split
    · exact r_number_c hc
    · split <;> exact hc
theorem r_plp_pc {tx : Nat → Int32} {n : Nat} {ps : Nat → Int32} (hn : n ≤ 60) : ∀ (k i p : Nat) (nm : Nat → Int32) (c : Nat) (mq : Int32), p ≤ 60 → c ≤ 3 → (r_plp tx n ps k i p nm c mq).2.1 ≤ 60 ∧ (r_plp tx n ps k i p nm c mq).2.2.2.1 ≤ 3 := by
  intro k
  induction k with
  | zero => intro i p nm c mq hp hc; exact ⟨hp, hc⟩
  | succ k ih =>
    intro i p nm c mq hp hc
    unfold r_plp
    split
    · exact ih _ _ _ _ _ (r_part_p hn hp) (r_part_c hc)
    · exact ⟨r_part_p hn hp, r_part_c hc⟩
theorem r_pattern_p {tx : Nat → Int32} {n i p : Nat} {nm : Nat → Int32} (hn : n ≤ 60) (hp : p ≤ 60) : (r_pattern tx n i p nm).2.1 ≤ 60 := (r_plp_pc hn _ _ _ _ _ _ hp (by decide)).1
theorem r_pattern_c {tx : Nat → Int32} {n i p : Nat} {nm : Nat → Int32} (hn : n ≤ 60) (hp : p ≤ 60) : (r_pattern tx n i p nm).2.2.2.1 ≤ 3 := (r_plp_pc hn _ _ _ _ _ _ hp (by decide)).2
theorem r_clp_pc {tx : Nat → Int32} {n start : Nat} (hn : n ≤ 60) (hs : start ≤ 60) : ∀ (k i far p : Nat) (nm : Nat → Int32) (c : Nat) (mq : Int32) (kd : Nat), far ≤ 60 → c ≤ 3 → (r_clp tx n start k i far p nm c mq kd).2.1 ≤ 60 ∧ (r_clp tx n start k i far p nm c mq kd).2.2.2.1 ≤ 3 := by
  intro k
  induction k with
  | zero => intro i far p nm c mq kd hf hc; exact ⟨hf, hc⟩
  | succ k ih =>
    intro i far p nm c mq kd hf hc
    unfold r_clp
    have h1 := r_pattern_p (tx := tx) (i := kPat i) (nm := nm) hn hs
    have h2 := r_pattern_c (tx := tx) (i := kPat i) (nm := nm) hn hs
    split
    · exact ⟨h1, h2⟩
    · refine ih _ _ _ _ _ _ _ ?_ h2
      split <;> omega
theorem r_command_p {tx : Nat → Int32} {n p : Nat} {nm : Nat → Int32} {c : Nat} {mq : Int32} {kd : Nat} (hn : n ≤ 60) (hp : p ≤ 60) (hc : c ≤ 3) : (r_command tx n p nm c mq kd).2.1 ≤ 60 := (r_clp_pc hn hp _ _ _ _ _ _ _ _ hp hc).1
theorem r_command_c {tx : Nat → Int32} {n p : Nat} {nm : Nat → Int32} {c : Nat} {mq : Int32} {kd : Nat} (hn : n ≤ 60) (hp : p ≤ 60) (hc : c ≤ 3) : (r_command tx n p nm c mq kd).2.2.2.1 ≤ 3 := (r_clp_pc hn hp _ _ _ _ _ _ _ _ hp hc).2
theorem r_ctlp_pc {tx : Nat → Int32} {n : Nat} (hn : n ≤ 60) : ∀ (k ct p : Nat) (nm : Nat → Int32) (c : Nat) (mq : Int32) (kd : Nat), p ≤ 60 → c ≤ 3 → (r_ctlp tx n k ct p nm c mq kd).2.1 ≤ 60 ∧ (r_ctlp tx n k ct p nm c mq kd).2.2.2.1 ≤ 3 := by
  intro k
  induction k with
  | zero => intro ct p nm c mq kd hp hc; exact ⟨hp, hc⟩
  | succ k ih =>
    intro ct p nm c mq kd hp hc
    unfold r_ctlp
    have h1 := r_command_p (tx := tx) (nm := nm) (mq := mq) (kd := kd) hn hp hc
    have h2 := r_command_c (tx := tx) (nm := nm) (mq := mq) (kd := kd) hn hp hc
    have h3 := r_take_p (tx := tx) (w := 59) hn h1
    split
    · split
      · split
        · exact ih _ _ _ _ _ _ h3 h2
        · exact ⟨h3, h2⟩
      · exact ⟨h1, h2⟩
    · exact ⟨h1, h2⟩
theorem mx_nat {a b : Nat} (ha : a < 2 ^ 31) (hb : b < 2 ^ 31) : (if nI a < nI b then nI b else nI a) = nI (if a < b then b else a) := by
  by_cases h : a < b
  · rw [if_pos h, if_pos (nI_lt h hb)]
  · rw [if_neg h, if_neg (fun h9 => h ((nI_ltI ha hb).mp h9))]
theorem i_X6 : ∀ w ∈ u_ws RX6 TX6 7, w ∈ tb := by decide +kernel
