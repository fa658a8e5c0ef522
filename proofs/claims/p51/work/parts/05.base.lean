/-! THE STATE OF A CARGO: items (place, field), limits, numbers (0 nextId, 1 openBags, 2 deliveredItems, 3 deliveredLoad); its cells at the addresses a: 0 the cargo, 1 its row of items, 2 its limits, 3 + k the item k, 15 nobody -/
abbrev CS : Type := (Nat → Nat → Int32) × (Nat → Int32) × (Nat → Int32)
abbrev GA : Type := Nat → ClassId
abbrev tysG (G : GA) : List (ClassId × FieldType) := [(G 0, .object "CourierBags$Item"), (G 1, .int), (G 2, .object "CourierBags$Cargo"), (G 3, .char), (G 4, .byte), (G 5, .long)]
abbrev KK (D : va_G) (G : GA) (U : State) : Prop := va_K D vwCl (tysG G) U
def bi (b : Bool) : Int32 := cond b 1 0
def z01 (x : Int32) : Int32 := if x = 0 then 0 else 1
def nb : Nat → Int32 := fun j => if j = 5 then -2 else 0
def itm (st : CS) (k : Nat) : Nat → Int32 := if k < 12 then st.1 k else nb
def itV (f : Nat → Int32) : List Value := [.int (f 0), .int (f 1), .int (f 2), .int (f 3), .int (z01 (f 4)), .int (f 5), .int (f 6), .int (f 7)]
def itC (a : Nat) (f : Nat → Int32) : Nat × va_E := (a, .inr (6, itV f))
def cwR (a : Nat → Nat) : Nat → Option Nat := fun k => some (a (3 + k))
def cw (G : GA) (a : Nat → Nat) (st : CS) : va_W :=
  (a 0, .inr (4, [.ref (a 1), .ref (a 15), .ref (a 2), .int (st.2.2 0), .int (st.2.2 1), .int (st.2.2 2), .int (st.2.2 3)])) ::
  (a 1, .inl (G 0, 12, .inr (.inr (.inr (.inr (cwR a)))))) ::
  (a 2, .inl (G 1, 3, .inl st.2.1)) :: (List.range 13).map (fun k => itC (a (3 + k)) (itm st k))
def sI (st : CS) (k : Nat) (f : Nat → Int32) : CS := (va_up st.1 k f, st.2)
def sL (st : CS) (b : Nat) (v : Int32) : CS := (st.1, upd st.2.1 b v, st.2.2)
def sN (st : CS) (i : Nat) (v : Int32) : CS := (st.1, st.2.1, upd st.2.2 i v)
theorem bi_0 {b : Bool} (h : bi b = 0) : b = false := by cases b; rfl; exact absurd h (by decide)
theorem bi_n {b : Bool} (h : ¬ bi b = 0) : b = true := by cases b; exact absurd rfl h; rfl
theorem bi_f : bi false = 0 := rfl
theorem bi_t : bi true = 1 := rfl
theorem bf {b : Bool} (h : b = false) : ¬ b = true := by rw [h]; decide
theorem z01_bi (b : Bool) : z01 (bi b) = bi b := by cases b <;> rfl
theorem z01_z (x : Int32) : z01 (z01 x) = z01 x := by unfold z01; split <;> simp
theorem z01_or (x : Int32) : z01 x = 0 ∨ z01 x = 1 := by unfold z01; split <;> simp
theorem bi_nar (b : Bool) : narrow .boolean (.int (bi b)) = .int (bi b) := by cases b <;> decide
theorem z01_nar (x : Int32) : narrow .boolean (.int (z01 x)) = .int (z01 x) := by rcases z01_or x with h | h <;> rw [h] <;> decide
theorem z01_fit (x : Int32) : fits .boolean (.int (z01 x)) = true := by rcases z01_or x with h | h <;> rw [h] <;> decide
theorem bi_fit (b : Bool) : fits .boolean (.int (bi b)) = true := by cases b <;> decide
theorem cw_it (G : GA) (a : Nat → Nat) (st : CS) {k : Nat} (hk : k < 13) : (cw G a st)[3 + k]? = some (itC (a (3 + k)) (itm st k)) := by
  have h : (cw G a st)[3 + k]? = ((List.range 13).map (fun k => itC (a (3 + k)) (itm st k)))[k]? := by
    rw [Nat.add_comm]; rfl
  rw [h, List.getElem?_map, List.getElem?_range hk]
  rfl
theorem rm_set {α : Type} (f g : Nat → α) (n k : Nat) (h : ∀ j, j ≠ k → g j = f j) : ((List.range n).map f).set k (g k) = (List.range n).map g := by
  apply List.ext_getElem?
  intro i
  rw [List.getElem?_set]
  by_cases hi : k = i
  · subst hi
    by_cases hk : k < n
    · simp [hk]
    · simp [hk]
  · rw [if_neg hi, List.getElem?_map, List.getElem?_map]
    by_cases hin : i < n
    · rw [List.getElem?_range hin]
      simp [h i (Ne.symm hi)]
    · simp [hin]
theorem cw_setI (G : GA) (a : Nat → Nat) (st : CS) {k : Nat} (hk : k < 12) (f : Nat → Int32) : (cw G a st).set (3 + k) (itC (a (3 + k)) f) = cw G a (sI st k f) := by
  have h := rm_set (fun j => itC (a (3 + j)) (itm st j)) (fun j => itC (a (3 + j)) (itm (sI st k f) j)) 13 k (fun j hj => by
    simp only [itm, sI, va_up_ne _ _ hj])
  have e : itm (sI st k f) k = f := by simp only [itm, sI, if_pos hk, va_up_self]
  simp only [e] at h
  have h2 : (cw G a st).set (3 + k) (itC (a (3 + k)) f) = (a 0, .inr (4, [.ref (a 1), .ref (a 15), .ref (a 2), .int (st.2.2 0), .int (st.2.2 1), .int (st.2.2 2), .int (st.2.2 3)])) :: (a 1, .inl (G 0, 12, .inr (.inr (.inr (.inr (cwR a)))))) :: (a 2, .inl (G 1, 3, .inl st.2.1)) :: (((List.range 13).map (fun j => itC (a (3 + j)) (itm st j))).set k (itC (a (3 + k)) f)) := by
    rw [Nat.add_comm]; rfl
  rw [h2, h]
  rfl
theorem cw_setL (G : GA) (a : Nat → Nat) (st : CS) (b : Nat) (v : Int32) : (cw G a st).set 2 (a 2, .inl (G 1, 3, .inl (upd st.2.1 b v))) = cw G a (sL st b v) := rfl
/-- an item alone -/
abbrev ITp (D : va_G) (G : GA) (h : Nat) (f : Nat → Int32) (U : State) : Prop := va_P D vwCl [itC h f] U.heap ∧ KK D G U
abbrev IT2p (D : va_G) (G : GA) (h h' : Nat) (f f' : Nat → Int32) (U : State) : Prop := va_P D vwCl [itC h f, itC h' f'] U.heap ∧ KK D G U
abbrev CWp (D : va_G) (G : GA) (a : Nat → Nat) (st : CS) (U : State) : Prop := va_P D vwCl (cw G a st) U.heap ∧ KK D G U
theorem P_one {D : va_G} {cl : List vw_C} {ws : va_W} {H : Heap} (h : va_P D cl ws H) {k : Nat} {q : Nat × va_E} (hk : ws[k]? = some q) : va_P D cl [q] H := by
  intro i r hi
  match i, hi with
  | 0, hi => cases hi; exact h k _ hk
  | i + 1, hi => simp at hi
theorem P_two {D : va_G} {cl : List vw_C} {ws ws' : va_W} {H : Heap} (h : va_P D cl ws H) (h' : va_P D cl ws' H) {k k' : Nat} {q q' : Nat × va_E} (hk : ws[k]? = some q) (hk' : ws'[k']? = some q') : va_P D cl [q, q'] H := by
  intro i r hi
  match i, hi with
  | 0, hi => cases hi; exact h k _ hk
  | 1, hi => cases hi; exact h' k' _ hk'
  | i + 2, hi => simp at hi
section PV
variable {s : State} {H : Heap} {D : va_G} {G : GA}
theorem pv_it {h : Nat} {f : Nat → Int32} {As : List Value} {ws : va_W} {k : Nat} (hK : KK D G s) (hP : va_P D vwCl ws H) (hk : ws[k]? = some (itC h f)) : PreV s H RX4 h (va_Pc (.ref h :: As) (ITp D G h f)) As :=
  ⟨fun A U g mk q => ⟨q.1, q.2.1, va_K.moved (Vm.Alike.refl U.vm) q.2.2⟩, va_recv hK hP (ci := 6) (q0 := k) rfl hk, fun U hU hW => ⟨rfl, by rw [hU]; exact P_one hP hk, va_K.moved hW.alike hK⟩⟩
theorem pv_it2 {h h' : Nat} {f f' : Nat → Int32} {As : List Value} {ws ws' : va_W} {k k' : Nat} (hK : KK D G s) (hP : va_P D vwCl ws H) (hP' : va_P D vwCl ws' H) (hk : ws[k]? = some (itC h f)) (hk' : ws'[k']? = some (itC h' f')) : PreV s H RX4 h (va_Pc (.ref h :: As) (IT2p D G h h' f f')) As :=
  ⟨fun A U g mk q => ⟨q.1, q.2.1, va_K.moved (Vm.Alike.refl U.vm) q.2.2⟩, va_recv hK hP (ci := 6) (q0 := k) rfl hk, fun U hU hW => ⟨rfl, by rw [hU]; exact P_two hP hP' hk hk', va_K.moved hW.alike hK⟩⟩
theorem pv_cw {a : Nat → Nat} {st : CS} {As : List Value} (hK : KK D G s) (hP : va_P D vwCl (cw G a st) H) : PreV s H RX1 (a 0) (va_Pc (.ref (a 0) :: As) (CWp D G a st)) As :=
  ⟨fun A U g mk q => ⟨q.1, q.2.1, va_K.moved (Vm.Alike.refl U.vm) q.2.2⟩, va_recv hK hP (ci := 4) (q0 := 0) rfl rfl, fun U hU hW => ⟨rfl, by rw [hU]; exact hP, va_K.moved hW.alike hK⟩⟩
theorem ps_cw {a : Nat → Nat} {st : CS} {As : List Value} (hK : KK D G s) (hP : va_P D vwCl (cw G a st) H) : PreS s H (va_Pc As (CWp D G a st)) As :=
  ⟨fun A U g mk q => ⟨q.1, q.2.1, va_K.moved (Vm.Alike.refl U.vm) q.2.2⟩, fun U hU hW => ⟨rfl, by rw [hU]; exact hP, va_K.moved hW.alike hK⟩⟩
end PV
/-- n rounds of f, upwards -/
def lp {α : Type} (f : Nat → α → α) : Nat → α → α
  | 0, x => x
  | k + 1, x => f k (lp f k x)
/-- the first place with p among n from k on, else d -/
def fi (p : Nat → Bool) (d : Nat) : Nat → Nat → Nat
  | 0, _ => d
  | n + 1, k => if p k = true then k else fi p d n (k + 1)
/-- whether one has p among n from k on -/
def exs (p : Nat → Bool) : Nat → Nat → Bool
  | 0, _ => false
  | n + 1, k => if p k = true then true else exs p n (k + 1)
theorem fi_le {p : Nat → Bool} {d : Nat} : ∀ (n k : Nat), k + n ≤ d → fi p d n k ≤ d := by
  intro n
  induction n with
  | zero => intro k _; exact Nat.le_refl d
  | succ n ih =>
    intro k h
    unfold fi
    split
    · omega
    · exact ih (k + 1) (by omega)
