/-! THE LAW'S WORLD: a packer at h as it is seen from outside (lab: what stands on the label); A: what may be written -/
def sel {α : Type} (k : Nat) (a b : α) : α := match k with
  | 0 => a
  | _ + 1 => b
theorem sel_0 {α : Type} {k : Nat} {a b : α} (h : k = 0) : sel k a b = a := by rw [h]; rfl
theorem sel_n {α : Type} {k : Nat} {a b : α} (h : k ≠ 0) : sel k a b = b := by
  cases k with
  | zero => exact absurd rfl h
  | succ k => rfl
def LYok (st : CS) : Prop := ∀ k, k < 12 → ∃ w, w < 5 ∧ itm st k 6 = nI w
theorem cLy_ok {st : CS} (h : LYok st) (b : Int32) : s_countLayers st b = nI (cLy st b) ∧ cLy st b ≤ 5 := by
  have key : ∀ k, k ≤ 12 → ∃ j, j ≤ 5 ∧ lp (q_countLayers st b) k 0 = nI j := by
    intro k
    induction k with
    | zero => intro _; exact ⟨0, by omega, rfl⟩
    | succ k ih =>
      intro hk
      obtain ⟨j, hj, e⟩ := ih (by omega)
      obtain ⟨w, hw, ew⟩ := h k (by omega)
      rw [lp_s, e]
      unfold q_countLayers
      split
      · rw [ew, nI_1]
        split
        · exact ⟨w + 1, by omega, rfl⟩
        · exact ⟨j, hj, rfl⟩
      · exact ⟨j, hj, rfl⟩
  obtain ⟨j, hj, e⟩ := key 12 (Nat.le_refl 12)
  have e : s_countLayers st b = nI j := e
  unfold cLy
  rw [e, nI_clamp (by omega)]
  exact ⟨rfl, hj⟩
/-- how many of the first k items lie in the layer m of the bag b -/
def lyN (st : CS) (b : Int32) (m : Nat) : Nat → Nat
  | 0 => 0
  | k + 1 => (if itm st k 5 = b then (if itm st k 6 = nI m then 1 else 0) else 0) + lyN st b m k
theorem lyN_s (st : CS) (b : Int32) (m k : Nat) : lyN st b m (k + 1) = (if itm st k 5 = b then (if itm st k 6 = nI m then 1 else 0) else 0) + lyN st b m k := rfl
theorem lyN_eq (st : CS) (b : Int32) (m : Nat) : ∀ k, lp (q_countInLayer st b (nI m)) k 0 = nI (lyN st b m k) := by
  intro k
  induction k with
  | zero => rfl
  | succ k ih =>
    rw [lp_s, ih, lyN_s]
    unfold q_countInLayer
    split
    · split
      · rw [nI_1, Nat.add_comm]
      · rw [Nat.zero_add]
    · rw [Nat.zero_add]
theorem cLN_eq (st : CS) (b : Int32) (m : Nat) : cLN st b (nI m) = lyN st b m 12 := by
  have h1 := (cLN_ok st b (nI m))
  have h2 : s_countInLayer st b (nI m) = nI (lyN st b m 12) := lyN_eq st b m 12
  have h3 : lyN st b m 12 ≤ 12 := by
    have : ∀ k, lyN st b m k ≤ k := by
      intro k
      induction k with
      | zero => exact Nat.le_refl 0
      | succ k ih =>
        rw [lyN_s]
        split
        · split <;> omega
        · omega
    exact this 12
  rw [h1.1] at h2
  exact (nI_eq (by omega) (by omega)).mp h2
theorem one_of5 (x : Int32) : (if x = nI 0 then 1 else 0) + (if x = nI 1 then 1 else 0) + (if x = nI 2 then 1 else 0) + (if x = nI 3 then 1 else 0) + (if x = nI 4 then 1 else 0) ≤ (1 : Nat) := by
  by_cases h0 : x = nI 0
  · rw [h0]; decide
  · by_cases h1 : x = nI 1
    · rw [h1]; decide
    · by_cases h2 : x = nI 2
      · rw [h2]; decide
      · by_cases h3 : x = nI 3
        · rw [h3]; decide
        · rw [if_neg h0, if_neg h1, if_neg h2, if_neg h3]
          split <;> omega
theorem lyN_5 (st : CS) (b : Int32) : ∀ k, lyN st b 0 k + lyN st b 1 k + lyN st b 2 k + lyN st b 3 k + lyN st b 4 k ≤ k := by
  intro k
  induction k with
  | zero => exact Nat.le_refl 0
  | succ k ih =>
    rw [lyN_s, lyN_s, lyN_s, lyN_s, lyN_s]
    have h := one_of5 (itm st k 6)
    by_cases hb : itm st k 5 = b
    · rw [if_pos hb, if_pos hb, if_pos hb, if_pos hb, if_pos hb]
      omega
    · rw [if_neg hb, if_neg hb, if_neg hb, if_neg hb, if_neg hb]
      omega
theorem layL_len (st : CS) (b w : Int32) : ∀ n pos, (s_layL st b w n pos).length ≤ 4 * n := by
  intro n
  induction n with
  | zero => intro pos; exact Nat.le_refl 0
  | succ n ih =>
    intro pos
    rw [s_layL_s, List.length_append, List.length_append, List.length_append, digs_len]
    have h1 : (t_sep pos).length ≤ 1 := by unfold t_sep; split <;> simp
    have h2 := (dg_le (idN st (s_findPlace st b w (nI pos)))).2
    have h3 : (t_bang st (s_findPlace st b w (nI pos))).length ≤ 1 := by unfold t_bang; split <;> simp
    have h4 := ih (pos + 1)
    omega
theorem lay_len (st : CS) (b : Int32) (m : Nat) : (s_lay st b (nI m)).length ≤ 4 * lyN st b m 12 := by
  unfold s_lay
  rw [cLN_eq]
  exact layL_len _ _ _ _ _
theorem desc_len (st : CS) (b : Int32) (L : Nat) (hL : L ≤ 5) : (s_desc st b L).length ≤ 58 := by
  have h := lyN_5 st b 12
  have g0 := lay_len st b 0
  have g1 := lay_len st b 1
  have g2 := lay_len st b 2
  have g3 := lay_len st b 3
  have g4 := lay_len st b 4
  rcases (show L = 0 ∨ L = 1 ∨ L = 2 ∨ L = 3 ∨ L = 4 ∨ L = 5 by omega) with rfl | rfl | rfl | rfl | rfl | rfl <;>
    simp only [s_desc_s, s_desc_0, List.length_cons, List.length_append, List.length_nil] <;> omega
theorem P_keepl {D : va_G} {cl : List vw_C} {ws : va_W} {A : Nat → Prop} {H H1 : Heap} (hP : va_P D cl ws H) (hk : ∀ q : Nat, q < H.size → ¬ A q → H1[q]? = H[q]?) (hn : ∀ q ∈ ws, q.1 < H.size → ¬ A q.1) : va_P D cl ws H1 :=
  hP.kept (fun k q h => hk q.1 ((hP k q h).lt) (hn q (List.mem_of_getElem? h) ((hP k q h).lt)))
def LVok (lv : LV) (lab : List Int32) : Prop := lv.2.2.1 = lab.length ∧ lab.length ≤ lv.1 ∧ lv.1 ≤ 202 ∧ bF lv.2.1 ∧ TXr lv.2.1 lab ∧ lab.length ≤ 90
def LW (D : va_G) (G : GA) (X : Nat → Nat → Nat) (A : Nat → Prop) (h : Nat) (c0 c2 : CS) (hS : Nat → CS) (hn : Nat) (sv : SV) (lab : List Int32) (fl : Nat → Int32) (H : Heap) : Prop :=
  ∃ (ad : AD) (c1 : CS) (lv : LV) (bs : Nat → Int32), ad.1 3 0 = h ∧ LVok lv lab ∧ va_P D vwCl (CBL G X ad c0 c1 c2 hS hn sv lv bs fl).flatten H ∧ va_D A (CBL G X ad c0 c1 c2 hS hn sv lv bs fl).flatten
abbrev LWp (D : va_G) (G : GA) (B0 : Nat) (X : Nat → Nat → Nat) (A : Nat → Prop) (h : Nat) (c0 c2 : CS) (hS : Nat → CS) (hn : Nat) (sv : SV) (lab : List Int32) (fl : Nat → Int32) (sz : Nat) (U : State) : Prop :=
  U.heap.size = sz ∧ LW D G X A h c0 c2 hS hn sv lab fl U.heap ∧ KK D G U ∧ EN B0 X U U.heap ∧ (∀ q, sz ≤ q → A q) ∧ ∀ q, A q → B0 ≤ q
section PLW
variable {s : State} {H : Heap} {D : va_G} {G : GA} {B0 : Nat} {X : Nat → Nat → Nat} {A : Nat → Prop} {h : Nat} {c0 c2 : CS} {hS : Nat → CS} {hn : Nat} {sv : SV} {lab : List Int32} {fl : Nat → Int32}
theorem ps_lw {As : List Value} (hK : KK D G s) (hW : LW D G X A h c0 c2 hS hn sv lab fl H) (hE : EN B0 X s H) (hA : ∀ q, H.size ≤ q → A q) (hAB : ∀ q, A q → B0 ≤ q) : PreS s H (va_Pc As (LWp D G B0 X A h c0 c2 hS hn sv lab fl H.size)) As :=
  ⟨fun _ U g mk q => ⟨q.1, q.2.1, q.2.2.1, va_K.moved (Vm.Alike.refl U.vm) q.2.2.2.1, EN.warm (s := U) (State.WarmedH.refl U) q.2.2.2.2.1, q.2.2.2.2.2.1, q.2.2.2.2.2.2⟩, fun U hU hWm => ⟨rfl, by rw [hU], by rw [hU]; exact hW, va_K.moved hWm.alike hK, by rw [hU]; exact hE.warm hWm, hA, hAB⟩⟩
theorem pv_lw {As : List Value} (hK : KK D G s) (hW : LW D G X A h c0 c2 hS hn sv lab fl H) (hE : EN B0 X s H) (hA : ∀ q, H.size ≤ q → A q) (hAB : ∀ q, A q → B0 ≤ q) : PreV s H RX7 h (va_Pc (.ref h :: As) (LWp D G B0 X A h c0 c2 hS hn sv lab fl H.size)) As :=
  ⟨fun _ U g mk q => ⟨q.1, q.2.1, q.2.2.1, va_K.moved (Vm.Alike.refl U.vm) q.2.2.2.1, EN.warm (s := U) (State.WarmedH.refl U) q.2.2.2.2.1, q.2.2.2.2.2.1, q.2.2.2.2.2.2⟩, by obtain ⟨ad, c1, lv, bs, rfl, -, hP, -⟩ := hW; exact va_recv hK (P_blk hP (i := 0) rfl) (ci := 8) (q0 := 0) rfl rfl, fun U hU hWm => ⟨rfl, by rw [hU], by rw [hU]; exact hW, va_K.moved hWm.alike hK, by rw [hU]; exact hE.warm hWm, hA, hAB⟩⟩
theorem LW_keep {H1 : Heap} {A1 : Nat → Prop} (hW : LW D G X A h c0 c2 hS hn sv lab fl H) (hk : ∀ q : Nat, q < H.size → ¬ A1 q → H1[q]? = H[q]?) (hn1 : ∀ q, A q → q < H.size → ¬ A1 q) : LW D G X A h c0 c2 hS hn sv lab fl H1 := by
  obtain ⟨ad, c1, lv, bs, e, hl, hP, hD⟩ := hW
  exact ⟨ad, c1, lv, bs, e, hl, P_keepl hP hk (fun q hq h9 => hn1 _ (D_in hD hq) h9), hD⟩
end PLW
theorem AH {A : Nat → Prop} {H0 H : Heap} {locs : List Loc} (hA : ∀ q, H0.size ≤ q → A q) (hS : va_S A H0 H locs) : ∀ q, H.size ≤ q → A q := fun q h => hA q (Nat.le_trans hS.1 h)
theorem Met_pt {l : Launch} {y : MethodName} {ws : List Cond} {rm : Room} {Pc' : Array Value → State → Prop} {Qc' : Array Value → State → Outcome → State → Prop} {mc ms : Nat} {free' : Addr → Prop}
    (h : ∀ (a : Array Value) (s : State), Pc' a s → ∃ (Pc : Array Value → State → Prop) (Qc : Array Value → State → Outcome → State → Prop) (free : Addr → Prop), Met l y ws rm Pc Qc mc ms free ∧ Pc a s ∧ (∀ o t, Qc a s o t → Qc' a s o t) ∧ ∀ q, free q → free' q) : Met l y ws rm Pc' Qc' mc ms free' := by
  intro p e ha hc hk s m args below hf happ hP hK
  obtain ⟨Pc, Qc, free, hM, hp, hq, hfr⟩ := h args s hP
  obtain ⟨n, o, h1, h2, h3, h4, L, h5, h6⟩ := hM p e ha hc hk s m args below hf happ hp hK
  exact ⟨n, o, h1, h2, h3, hq _ _ h4, L, h5, fun z hz => hfr _ (h6 z hz)⟩
theorem bx_ofWH {l : Launch} {y : MethodName} {ws ws' : List Cond} {rm : Room} {Pc : Array Value → State → Prop} {Qc : Array Value → State → Outcome → State → Prop} {mc ms : Nat} {free : Addr → Prop} {cc : ByteArray} {maxL : Nat} {ret : Option FieldType} {hh : List (Nat × Nat × Nat × Nat)}
    (hy : plainName y.cls = true) (hw : ws = Cond.codeWith y cc maxL ret hh :: ws')
    (body : ∀ p e s m args below meth c s₁, BodyLoose p l y (headSpec ws rm) cc maxL ret e s m args below meth c s₁ → c.maxLocals = maxL → Pc args s →
      W p l e (headSpec ws rm).room s m args below meth c s.heap [] 0 0 (MQ below Qc args s mc ms free) (entryFrame m args maxL)) : Met l y ws rm Pc Qc mc ms free := by
  refine MetFree.of_bodyS (code := cc) (maxLocals := maxL) (ret := ret) hy ?_ ?_
  · intro args s m h hn
    obtain ⟨m9, meth, c, hn9, h1, h2, h3, h4, -, h5, h6, -⟩ := Cond.codeWith_spec (atoms_spec (ws := ws) h _ (by rw [hw]; exact List.mem_cons_self))
    cases hn.symm.trans hn9
    exact ⟨meth, c, h1, h2, h3, h4, h5, h6⟩
  · intro p e s m args below meth c s₁ B hml hP _
    have hh0 : s₁.heap = s.heap := by rw [B.state]; rfl
    obtain ⟨t, a1, o, b1, b2, b3⟩ := body p e s m args below meth c s₁ B hml hP s₁ hh0 (Stand.of_body B)
    exact ⟨t, o, a1, b1, b2, ⟨b3.1, b3.2⟩⟩
def wH (y : MethodName) (c : ByteArray) (n : Nat) (r : Option FieldType) (hh : List (Nat × Nat × Nat × Nat)) : List Cond := .codeWith y c n r hh :: tb
theorem gSW {own : String} {idx : Nat} {y : MethodName} {c : ByteArray} {n : Nat} {r : Option FieldType} {hh : List (Nat × Nat × Nat × Nat)} (h1 : .methodLink own idx y ∈ tb) (h2 : .static y ∈ tb) (h4 : .initialized y.cls ∈ tb) (h5 : .codeWith y c n r hh ∈ tb) : GoodIn tb (va_wsS own idx y (wH y c n r hh)) := by
  refine g_tb (fun w hw => ?_)
  rcases List.mem_append.mp hw with h | h
  · simp only [List.mem_cons, List.not_mem_nil, or_false] at h
    rcases h with rfl | rfl | rfl
    · exact h1
    · exact h2
    · exact h4
  · rcases List.mem_cons.mp h with rfl | h
    · exact h5
    · exact h
theorem z01_1 {x : Int32} (h : ¬ z01 x = 0) : z01 x = 1 := by
  rcases z01_or x with h1 | h1
  · exact absurd h1 h
  · exact h1
def x_lab (lab : List Int32) (i : Int32) : Nat := if i < 0 then 3 else if i < nI lab.length then 0 else 3
