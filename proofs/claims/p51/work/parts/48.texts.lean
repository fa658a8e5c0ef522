/-! a text that is made is a text; what a builder writes lies behind what was there -/
theorem stw_X {args : Array Value} {s : State} {H : Heap} {D : va_G} {G : GA} {q v n : Nat} {t : Nat → Int32} {A : Nat → Prop} (hts : ∀ w ∈ tb, w.before args s = true) (hK : KK D G s) (hP : va_P D vwCl (stw G q v n t) H) (hq : ¬ A q) (hv : ¬ A v) : StrX A s H q v n t := by
  obtain ⟨r, h1, cell, q1, q2, q3, q4⟩ := hP 0 _ rfl
  have hr : r = ("java/lang/String", TJ0, 4) := Option.some.inj (h1.symm.trans rfl)
  subst hr
  obtain ⟨hS, hfc, kC, hkC, hkind⟩ := hK.1 0 _ rfl
  have fld : ∀ k, k < 4 → va_OF (TJ0 k).1 (TJ0 k).2.1 (TJ0 k).2.2.1 (vp_V [.ref v, .int 0, .int 0, .int 0] k) q A s H := by
    intro k hk
    obtain ⟨cf, kf, fi, f, hi, hsl⟩ := hS k hk
    exact ⟨cf, kf, fi, f, cell, hi, (u_facts hfc hkC (u_lays hts i_J0 hk) hi).1, q1, (by rw [q3]; exact (fun h => by cases h)), by rw [hsl]; exact q4 k hk, hq⟩
  have hc : H[v]? = some (vp_cell (G 4) (n, .inl t)) := hP 1 _ rfl
  refine ⟨⟨cell, q1, by rw [q3]; rfl, by rw [q2]; exact hfc, hq⟩, fld 1 (by decide), fld 0 (by decide), _, hc, (hK.2 4 _ rfl).1 n (fun j => .int (t j)), (fun h => by cases h), ?_, ?_, ?_, hv⟩
  · show n ≤ (arrV (G 4) n (fun j => .int (t j))).slots.size
    rw [arrV_size]
    exact Nat.le_refl n
  · show (arrV (G 4) n (fun j => .int (t j))).slots.size.toInt32 = Int32.ofNat n
    rw [arrV_size]
  · intro j hj
    show (arrV (G 4) n (fun j => .int (t j))).slots[j]? = some (.int (t j))
    unfold arrV
    simp [hj]
theorem S_up {A A2 : Nat → Prop} {H0 H : Heap} {locs : List Loc} (hS : va_S A H0 H locs) (h : ∀ q, A q → A2 q) : va_S A2 H0 H locs :=
  ⟨hS.1, fun q h1 h2 => hS.2.1 q h1 (fun h9 => h2 (h q h9)), fun l hl => h _ (hS.2.2 l hl)⟩
theorem P_none (D : va_G) (H : Heap) : va_P D vwCl ([] : va_W) H := fun k q h => by simp at h
theorem D_none (A : Nat → Prop) : va_D A ([] : va_W) := ⟨fun i j p q h => by simp at h, fun k q h => by simp at h⟩
/-- the world stands on what was there before; the addresses behind it are a builder's -/
theorem LW_old {H H1 : Heap} {locs : List Loc} {D : va_G} {G : GA} {X : Nat → Nat → Nat} {A Al A2 : Nat → Prop} {h : Nat} {c0 c2 : CS} {hS : Nat → CS} {hn : Nat} {sv : SV} {lab : List Int32} {fl : Nat → Int32} (hW : LW D G X A h c0 c2 hS hn sv lab fl H) (hS1 : va_S Al H H1 locs) (hAl : ∀ q, Al q → H.size ≤ q) (h2 : ∀ q, A q → q < H.size → A2 q) : LW D G X A2 h c0 c2 hS hn sv lab fl H1 := by
  have h1 : LW D G X (fun q => A q ∧ q < H.size) h c0 c2 hS hn sv lab fl H := LW_weak hW (fun q hq ha => ⟨ha, hq⟩)
  have h3 := LW_keep h1 (A1 := Al) hS1.2.1 (fun q hq hz h9 => by have := hAl q h9; omega)
  exact LW_weak h3 (fun q _ ha => h2 q ha.1 ha.2)
theorem TX_nil (t : Nat → Int32) : TXr t [] := fun j h => absurd h (Nat.not_lt_zero j)
theorem tx_str {t : Nat → Int32} {i : Nat} (h1 : ∀ j, j < strL.getD i 0 → t j = (strB.getD i []).getD j 0) (hl : (strB.getD i []).length = strL.getD i 0) : TXr t (strB.getD i []) := fun j hj => h1 j (by rw [← hl]; exact hj)
theorem l23 : (strB.getD 23 []).length = 0 + strL.getD 23 0 := by decide +kernel
theorem l24 : (strB.getD 24 []).length = strL.getD 24 0 := by decide +kernel
theorem l25 : (strB.getD 25 []).length = 0 + strL.getD 25 0 := by decide +kernel
theorem txI {c : Nat} {u1 u2 u3 : Nat → Int32} (h1 : ∀ j, j < strL.getD 23 0 → u1 (0 + j) = (strB.getD 23 []).getD j 0) (a2 : ∀ j, j < 0 + strL.getD 23 0 → u2 j = u1 j) (b2 : ∀ j, j < dg c → u2 (0 + strL.getD 23 0 + j) = (digs c).getD j 0)
    (a3 : ∀ j, j < 0 + strL.getD 23 0 + dg c → u3 j = u2 j) (b3 : ∀ j, j < strL.getD 24 0 → u3 (0 + strL.getD 23 0 + dg c + j) = (strB.getD 24 []).getD j 0) : TXr u3 (tI c) := by
  have t1 : TXr u1 (strB.getD 23 []) := fun j hj => by
    have h := h1 j (by rw [l23] at hj; omega)
    rw [Nat.zero_add] at h
    exact h
  have t2 : TXr u2 (strB.getD 23 [] ++ digs c) := TX_l t1 (fun j hj => a2 j (by rw [← l23]; exact hj)) (fun j hj => by rw [l23]; exact b2 j (by rw [digs_len] at hj; exact hj))
  have e2 : (strB.getD 23 [] ++ digs c).length = 0 + strL.getD 23 0 + dg c := by rw [List.length_append, l23, digs_len]
  exact TX_l t2 (fun j hj => a3 j (by rw [← e2]; exact hj)) (fun j hj => by rw [e2]; exact b3 j (by rw [l24] at hj; exact hj))
theorem txU {c : Nat} {u1 u2 : Nat → Int32} (h1 : ∀ j, j < strL.getD 25 0 → u1 (0 + j) = (strB.getD 25 []).getD j 0) (a2 : ∀ j, j < 0 + strL.getD 25 0 → u2 j = u1 j) (b2 : ∀ j, j < dg c → u2 (0 + strL.getD 25 0 + j) = (digs c).getD j 0) : TXr u2 (tU c) := by
  have t1 : TXr u1 (strB.getD 25 []) := fun j hj => by
    have h := h1 j (by rw [l25] at hj; omega)
    rw [Nat.zero_add] at h
    exact h
  exact TX_l t1 (fun j hj => a2 j (by rw [← l25]; exact hj)) (fun j hj => by rw [l25]; exact b2 j (by rw [digs_len] at hj; exact hj))
theorem tx_f {T : List Int32} {f t : Nat → Int32} {n : Nat} (hn : n = T.length) (hT : T.length ≤ 20) (h1 : ∀ j, j < n → f j = t j) (h2 : TXr t T) (h3 : ∀ j, j < 20 → j < T.length → (T.getD j 0 &&& 255 = T.getD j 0 ∧ ¬ T.getD j 0 < 32 ∧ T.getD j 0 ≤ 126)) : ∀ j, j < n → f j &&& 255 = T.getD j 0 := fun j hj => by
  rw [h1 j hj, h2 j (by omega)]
  exact (h3 j (by omega) (by omega)).1
theorem lI (c : Nat) (h : c < 14) : 0 + strL.getD 23 0 + dg c + strL.getD 24 0 = (tI c).length := by have := (tI_ok c h).1; omega
theorem lU (c : Nat) (h : c < 14) : 0 + strL.getD 25 0 + dg c = (tU c).length := by have := (tU_ok c h).1; omega
theorem dg_1 : ∀ c, c < 14 → dg c ≤ 2 := by decide +kernel
