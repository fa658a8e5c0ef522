/-! THE LAW: facts of its own fixed course -/
theorem cw_cc (G : GA) (a : Nat → Nat) {c d : CS} (h1 : ∀ k, k < 12 → ∀ j, j < 8 → c.1 k j = d.1 k j) (h2 : c.2.1 = d.2.1) (h3 : ∀ k, k < 4 → c.2.2 k = d.2.2 k) : cw G a c = cw G a d := by
  have hi : ∀ k, itC (a (3 + k)) (itm c k) = itC (a (3 + k)) (itm d k) := by
    intro k
    unfold itC itV itm
    by_cases hk : k < 12
    · rw [if_pos hk, if_pos hk, h1 k hk 0 (by decide), h1 k hk 1 (by decide), h1 k hk 2 (by decide), h1 k hk 3 (by decide), h1 k hk 4 (by decide), h1 k hk 5 (by decide), h1 k hk 6 (by decide), h1 k hk 7 (by decide)]
    · rw [if_neg hk, if_neg hk]
  unfold cw
  rw [h2, h3 0 (by decide), h3 1 (by decide), h3 2 (by decide), h3 3 (by decide), funext hi]
theorem LW_cc {D : va_G} {G : GA} {X : Nat → Nat → Nat} {A : Nat → Prop} {h : Nat} {c d c2 : CS} {hS : Nat → CS} {hn : Nat} {sv : SV} {lab : List Int32} {fl : Nat → Int32} {H : Heap} (h1 : ∀ k, k < 12 → ∀ j, j < 8 → c.1 k j = d.1 k j) (h2 : c.2.1 = d.2.1) (h3 : ∀ k, k < 4 → c.2.2 k = d.2.2 k) (hW : LW D G X A h c c2 hS hn sv lab fl H) : LW D G X A h d c2 hS hn sv lab fl H := by
  obtain ⟨ad, c1, lv, bs, e, hl, hP, hD⟩ := hW
  have e9 : CBL G X ad c c1 c2 hS hn sv lv bs fl = CBL G X ad d c1 c2 hS hn sv lv bs fl := by
    unfold CBL
    rw [cw_cc G (ad.1 0) h1 h2 h3]
  rw [e9] at hP hD
  exact ⟨ad, c1, lv, bs, e, hl, hP, hD⟩
def HW (l : List CS) (hS : Nat → CS) (hn : Nat) : Prop := hn = l.length ∧ l.length ≤ 8 ∧ ∀ i, i < l.length → hS i = l.getD i st0
theorem HW_0 (hS : Nat → CS) : HW [] hS 0 := ⟨rfl, by decide, fun i h => absurd h (Nat.not_lt_zero i)⟩
theorem HW_le {l : List CS} {hS : Nat → CS} {hn : Nat} (h : HW l hS hn) : hn ≤ 8 := by rw [h.1]; exact h.2.1
theorem gD_l {l : List CS} {c : CS} {i : Nat} (h : i < l.length) : (l ++ [c]).getD i st0 = l.getD i st0 := by
  rw [List.getD_eq_getElem?_getD, List.getD_eq_getElem?_getD, List.getElem?_append_left h]
theorem gD_e {l : List CS} {c : CS} : (l ++ [c]).getD l.length st0 = c := by
  rw [List.getD_eq_getElem?_getD, List.getElem?_append_right (Nat.le_refl _), Nat.sub_self]
  rfl
theorem HW_push {l : List CS} {hS : Nat → CS} {hn : Nat} (c : CS) (h : HW l hS hn) (h8 : l.length < 8) : HW (l ++ [c]) (pS hS hn c) (pN hn) := by
  obtain ⟨e, -, hi⟩ := h
  have hn8 : hn < 8 := by omega
  rw [pS_up hn8, pN_up hn8]
  refine ⟨by rw [List.length_append, e]; rfl, by rw [List.length_append]; show l.length + 1 ≤ 8; omega, fun i hl => ?_⟩
  rw [List.length_append] at hl
  have hl : i < l.length + 1 := hl
  by_cases he : i = l.length
  · rw [he, e, va_up_self, gD_e]
  · rw [va_up_ne _ _ (by omega), gD_l (by omega)]
    exact hi i (by omega)
theorem HW_full {x : CS} {l : List CS} {hS : Nat → CS} {hn : Nat} (c : CS) (h : HW (x :: l) hS hn) (h8 : l.length = 7) : HW (l ++ [c]) (pS hS hn c) (pN hn) := by
  obtain ⟨e, -, hi⟩ := h
  have e8 : hn = 8 := by rw [e, List.length_cons, h8]
  have e1 : pN hn = 8 := by rw [e8]; rfl
  have e2 : pS hS hn c = va_up (fun i => hS (rot i)) 7 c := by unfold pS; rw [if_neg (by omega)]
  rw [e1, e2]
  refine ⟨by rw [List.length_append, h8]; rfl, by rw [List.length_append, h8]; exact Nat.le_refl 8, fun i hl => ?_⟩
  rw [List.length_append, h8] at hl
  have hl : i < 8 := hl
  by_cases he : i = 7
  · rw [he, va_up_self, ← h8, gD_e]
  · rw [va_up_ne _ _ he, gD_l (by omega)]
    show hS (rot i) = _
    unfold rot
    rw [if_pos (by omega), hi (i + 1) (by rw [List.length_cons]; omega)]
    rfl
theorem HW_pop {l : List CS} {c : CS} {hS : Nat → CS} {hn : Nat} (h : HW (l ++ [c]) hS hn) : hS (hn - 1) = c ∧ HW l hS (hn - 1) := by
  obtain ⟨e, h8, hi⟩ := h
  have hl : (l ++ [c]).length = l.length + 1 := by rw [List.length_append]; rfl
  have e1 : hn - 1 = l.length := by rw [e, hl]; rfl
  rw [e1]
  refine ⟨by rw [hi _ (by omega), gD_e], rfl, by omega, fun i h => by rw [hi i (by omega), gD_l h]⟩
/-- the states of the fixed course -/
def zLim : Nat → Int32 := upd (fun _ => 0) 0 99
def zN (l : List Int32) : Nat → Int32 := fun i => l.getD i 0
def zA (j : Nat) : CS := (fun k => if k < j then (fun i => ([nI k, 2, 3, 12, 0, -1, 0, 0] : List Int32).getD i 0) else nb, zLim, zN [nI j, 1, 0, 0])
def zF : CS := (fun k i => ([nI k, 2, 3, 12, 0, 0, nI (k / 5), nI (k % 5)] : List Int32).getD i 0, zLim, zN [12, 1, 0, 0])
def zU : CS := (fun k i => ([nI k, 2, 3, 12, 0, if k = 11 then -1 else 0, nI (k / 5), nI (k % 5)] : List Int32).getD i 0, zLim, zN [12, 1, 0, 0])
def zR : CS := (fun k i => ([nI k, 2, 3, 12, 0, if k = 11 then -2 else 0, nI (k / 5), nI (k % 5)] : List Int32).getD i 0, zLim, zN [12, 1, 0, 0])
theorem tA_1 : ∀ k, k < 12 → ∀ j, j < 8 → (m_open st0 99).2.1 k j = (zA 0).1 k j := by decide +kernel
theorem tA_2 : (m_open st0 99).2.2.1 = (zA 0).2.1 := by
  unfold m_open
  rw [if_neg (by decide)]
  rfl
theorem tA_3 : ∀ k, k < 4 → (m_open st0 99).2.2.2 k = (zA 0).2.2 k := by decide +kernel
theorem tI_1 : ∀ n, n < 12 → ∀ k, k < 12 → ∀ j, j < 8 → (m_takeIn (zA n) 2 3 12 false).2.1 k j = (zA (n + 1)).1 k j := by decide +kernel
theorem tI_2 (n : Nat) : (m_takeIn (zA n) 2 3 12 false).2.2.1 = (zA (n + 1)).2.1 := rfl
theorem tI_3 : ∀ n, n < 12 → ∀ k, k < 4 → (m_takeIn (zA n) 2 3 12 false).2.2.2 k = (zA (n + 1)).2.2 k := by decide +kernel
theorem tI_x : ∀ n, n < 12 → f_takeIn (zA n) 2 3 12 = 0 ∧ (m_takeIn (zA n) 2 3 12 false).1 = nI n := by decide +kernel
theorem tF_1 : ∀ k, k < 12 → ∀ j, j < 8 → (m_fill (zA 12) 0).2.1 k j = zF.1 k j := by decide +kernel
theorem tF_23 : (m_fill (zA 12) 0).2.2 = (zA 12).2 := by rw [m_fill_2, fill_2]
theorem tU_1 : ∀ k, k < 12 → ∀ j, j < 8 → (m_unload zF 11).2.1 k j = zU.1 k j := by decide +kernel
theorem tU_23 : (m_unload zF 11).2.2 = zF.2 := by rw [m_unload_2, out_2]
theorem tR_1 : ∀ k, k < 12 → ∀ j, j < 8 → (m_drop zU 11).2.1 k j = zR.1 k j := by decide +kernel
theorem tR_23 : (m_drop zU 11).2.2 = zU.2 := rfl
theorem tF_2 : (m_fill (zA 12) 0).2.2.1 = zF.2.1 := by
  rw [tF_23]
  rfl
theorem tF_3 : ∀ k, k < 4 → (m_fill (zA 12) 0).2.2.2 k = zF.2.2 k := by
  rw [tF_23]
  decide +kernel
theorem tU_2 : (m_unload zF 11).2.2.1 = zU.2.1 := by
  rw [tU_23]
  rfl
theorem tU_3 : ∀ k, k < 4 → (m_unload zF 11).2.2.2 k = zU.2.2 k := by
  rw [tU_23]
  decide +kernel
theorem tR_2 : (m_drop zU 11).2.2.1 = zR.2.1 := by
  rw [tR_23]
  rfl
theorem tR_3 : ∀ k, k < 4 → (m_drop zU 11).2.2.2 k = zR.2.2 k := by
  rw [tR_23]
  decide +kernel
def T60 : List Int32 := (List.range 60).map (fun k => nI (65 + k))
theorem T60_len : T60.length = 60 := by decide +kernel
theorem T60_c : ∀ k, k < 60 → ((nI (65 + k)).toUInt32 % 65536).toInt32 = T60.getD k 0 ∧ ¬ T60.getD k 0 < 32 ∧ T60.getD k 0 ≤ 126 := by decide +kernel
theorem rs_0 {fl : Nat → Int32} (h : fl 0 = 1) : x_restore fl = 0 := by unfold x_restore; rw [h]; rfl
theorem xu_0 {n : Nat} (h1 : 0 < n) (h2 : n < 1000) : x_undo n = 0 := by unfold x_undo; rw [if_neg (nI_ne0 h1 (by omega))]
theorem lv0_ok : LVok lv0 [] := ⟨rfl, by decide, by decide, fun _ => rfl, fun j h => absurd h (Nat.not_lt_zero j), by decide⟩
theorem ps_lwx {s : State} {H : Heap} {D : va_G} {G : GA} {B0 : Nat} {X : Nat → Nat → Nat} {A : Nat → Prop} {h : Nat} {c0 c2 : CS} {hS : Nat → CS} {hn : Nat} {sv : SV} {lab : List Int32} {fl : Nat → Int32} {b L : Nat} {xs : Nat → Int32} {As : List Value} (hK : KK D G s) (hW : LW D G X A h c0 c2 hS hn sv lab fl H) (hE : EN B0 X s H) (hA : ∀ q, H.size ≤ q → A q) (hAB : ∀ q, A q → B0 ≤ q) (hX : va_X b L xs s H) (hbl : b < H.size) (hbA : ¬ A b) : PreS s H (va_Pc As (fun U => (LWp D G B0 X A h c0 c2 hS hn sv lab fl H.size U) ∧ XPp b L xs U ∧ ¬ A b)) As :=
  ⟨fun _ U g mk q => ⟨q.1, ((ps_lw (As := As) hK hW hE hA hAB).1 _ U g mk ⟨q.1, q.2.1⟩).2, ⟨X_warm (s := U) (State.WarmedH.refl U) q.2.2.1.1, q.2.2.1.2⟩, q.2.2.2⟩, fun U hU hWm => ⟨rfl, ((ps_lw (As := As) hK hW hE hA hAB).2 U hU hWm).2, ⟨by rw [hU]; exact X_warm hWm hX, by rw [hU]; exact hbl⟩, hbA⟩⟩
theorem S_tr {A Al : Nat → Prop} {H0 H H1 : Heap} {l1 l2 : List Loc} (hS : va_S A H0 H l1) (h2 : va_S Al H H1 l2) (ha : ∀ q, Al q → A q) : va_S A H0 H1 l2 :=
  ⟨Nat.le_trans hS.1 h2.1, fun q h3 h4 => (h2.2.1 q (Nat.lt_of_lt_of_le h3 hS.1) (fun h9 => h4 (ha q h9))).trans (hS.2.1 q h3 h4), fun l hl => ha _ (h2.2.2 l hl)⟩
theorem S_nil {A : Nat → Prop} {H0 H : Heap} {l1 : List Loc} (hS : va_S A H0 H l1) : va_S A H0 H [] := ⟨hS.1, hS.2.1, fun l h => absurd h List.not_mem_nil⟩
theorem P_1c {D : va_G} {q : Nat × va_E} {H H1 : Heap} {A2 : Nat → Prop} (hP : va_P D vwCl [q] H) (hn : ¬ A2 q.1) (hk : ∀ x : Nat, x < H.size → ¬ A2 x → H1[x]? = H[x]?) : va_P D vwCl [q] H1 :=
  hP.kept (fun k x h => by
    have hx : x = q := List.mem_singleton.mp (List.mem_of_getElem? h)
    subst hx
    exact hk x.1 ((hP k x h).lt) hn)
def WSp (C : CS) (i : Nat) (c0 : CS) (hS : Nat → CS) (n : Nat) (sv : SV) (fl : Nat → Int32) (f : Nat → Int64) : Prop := n ≤ i ∧ OKc (11 + 11 * i) c0 ∧ SVok sv ∧ sv.2.2.1 = 0 ∧ fl 0 = 1 ∧ ∀ j, j < n → OKc 99 (hS j) ∧ f j = ask_v (hS j)
theorem WS_up {C : CS} {i : Nat} {c0 c9 : CS} {hS : Nat → CS} {n : Nat} {sv sv9 : SV} {fl fl9 : Nat → Int32} {f : Nat → Int64} (h : WSp C i c0 hS n sv fl f) (hi : i < 8) (h1 : OKc (11 + 11 * i + 11) c9) (h2 : SVok sv9) (h3 : sv9.2.2.1 = 0) (h4 : fl9 0 = fl 0) : WSp C (i + 1) c9 (va_up hS n c0) (n + 1) sv9 fl9 (vp_updL f n (ask_v c0)) := by
  obtain ⟨a1, a2, a3, a4, a5, a6⟩ := h
  refine ⟨by omega, by rw [show 11 + 11 * (i + 1) = 11 + 11 * i + 11 by omega]; exact h1, h2, h3, h4.trans a5, fun j hj => ?_⟩
  by_cases e : j = n
  · subst e
    rw [va_up_self]
    exact ⟨a2.mono (by omega), by unfold vp_updL; rw [if_pos rfl]⟩
  · rw [va_up_ne _ _ e]
    have h9 := a6 j (by omega)
    exact ⟨h9.1, by unfold vp_updL; rw [if_neg e]; exact h9.2⟩
theorem WS_no {C : CS} {i : Nat} {c0 : CS} {hS : Nat → CS} {n : Nat} {sv sv9 : SV} {fl fl9 : Nat → Int32} {f : Nat → Int64} (h : WSp C i c0 hS n sv fl f) (h2 : SVok sv9) (h3 : sv9.2.2.1 = 0) (h4 : fl9 0 = fl 0) : WSp C (i + 1) c0 hS n sv9 fl9 f := by
  obtain ⟨a1, a2, a3, a4, a5, a6⟩ := h
  exact ⟨by omega, a2.mono (by omega), h2, h3, h4.trans a5, a6⟩
theorem D_1c {A : Nat → Prop} {r : Nat} {e : va_E} (h : A r) : va_D A [((r, e) : Nat × va_E)] := by
  refine D_of ?_ ?_
  · simp
  · intro q hq
    rw [List.mem_singleton.mp hq]
    exact h
theorem lw_noTraces {l : Launch} (h : l.flags = flags0) : l.stackTraces = false := by
  unfold Launch.stackTraces
  rw [h]
  decide +kernel
