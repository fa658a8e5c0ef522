/-! WHAT HOLDS WHILE A CARGO IS FILLED: ids below m, each once, all there; places in a layer up to 9 -/
def MKr (m : Nat) (f : Nat → Int32) : Prop := (∃ p, p ≤ 9 ∧ f 7 = nI p) ∧ (p_there f = true → (∃ t, 1 ≤ t ∧ t ≤ 30 ∧ f 3 = nI t) ∧ (∃ i, i < m ∧ f 0 = nI i) ∧ ∃ z, 1 ≤ z ∧ z ≤ 10 ∧ f 1 = nI z)
def MKc (m : Nat) (c : CS) : Prop := OKc m c ∧ c.2.2 0 = nI m ∧ (∀ k, k < 12 → MKr m (itm c k)) ∧ (∀ i j, i < 12 → j < 12 → p_there (itm c i) = true → p_there (itm c j) = true → itm c i 0 = itm c j 0 → i = j) ∧ (∀ i, i < m → ∃ k, k < 12 ∧ p_there (itm c k) = true ∧ itm c k 0 = nI i) ∧ cN c ≤ m
theorem cnt_congr {p q : Nat → Bool} : ∀ n, (∀ k, k < n → p k = q k) → cnt p n = cnt q n := by
  intro n
  induction n with
  | zero => intro _; rfl
  | succ n ih =>
    intro h
    unfold cnt
    rw [h n (by omega), ih (fun k hk => h k (by omega))]
theorem cnt_one {p q : Nat → Bool} {g : Nat} : ∀ n, (∀ k, k < n → k ≠ g → p k = q k) → cnt p n ≤ cnt q n + 1 ∧ (n ≤ g → cnt p n ≤ cnt q n) := by
  intro n
  induction n with
  | zero => intro _; exact ⟨by unfold cnt; omega, fun _ => Nat.le_refl _⟩
  | succ n ih =>
    intro h
    obtain ⟨i1, i2⟩ := ih (fun k hk => h k (by omega))
    by_cases e : n = g
    · have := i2 (by omega)
      refine ⟨?_, fun h9 => by omega⟩
      unfold cnt
      split <;> split <;> omega
    · have e2 := h n (by omega) e
      unfold cnt
      rw [e2]
      refine ⟨by split <;> omega, fun h9 => ?_⟩
      have := i2 (by omega)
      split <;> omega
theorem cN_congr {c c' : CS} (h : ∀ k, k < 12 → p_there (itm c' k) = p_there (itm c k)) : cN c' = cN c := cnt_congr 12 h
theorem there_of {f : Nat → Int32} (h : f 5 ≠ -2) : p_there f = true := by unfold p_there; rw [if_neg h]
theorem there_ne {f : Nat → Int32} (h : p_there f = true) : f 5 ≠ -2 := by
  intro e
  unfold p_there at h
  rw [if_pos e] at h
  exact absurd h (by decide)
theorem MK_0 : MKc 0 st0 := by
  have e : ∀ k, itm st0 k = nb := fun k => by
    show (if k < 12 then nb else nb) = nb
    split <;> rfl
  refine ⟨⟨⟨by decide, by decide⟩, ⟨0, Nat.le_refl 0, rfl⟩, fun k _ => by rw [e]; exact itA_nb 0⟩, rfl, fun k _ => ?_, fun i j _ _ h => ?_, fun i h => absurd h (Nat.not_lt_zero i), ?_⟩
  · rw [e]
    exact ⟨⟨0, by omega, rfl⟩, fun h => absurd h (by decide)⟩
  · rw [e] at h
    exact absurd h (by decide)
  · have : ∀ n, cnt (fun k => p_there (itm st0 k)) n = 0 := by
      intro n
      induction n with
      | zero => rfl
      | succ n ih =>
        unfold cnt
        rw [ih, e n]
        rfl
    exact Nat.le_of_eq (this 12)
theorem itm_open (c : CS) (x : Int32) (k : Nat) : itm (m_open c x).2 k = itm c k := by
  unfold m_open
  split <;> rfl
theorem open_0 (c : CS) (x : Int32) : (m_open c x).2.2.2 0 = c.2.2 0 := by
  unfold m_open
  split
  · rfl
  · exact sN_ne (by decide)
theorem MK_open {m : Nat} {c : CS} (h : MKc m c) (x : Int32) : MKc m (m_open c x).2 := by
  obtain ⟨h1, h2, h3, h4, h5, h6⟩ := h
  refine ⟨OKc_open h1 x, by rw [open_0]; exact h2, fun k hk => by rw [itm_open]; exact h3 k hk, fun i j hi hj => by rw [itm_open, itm_open]; exact h4 i j hi hj, fun i hi => ?_, ?_⟩
  · obtain ⟨k, a, b, d⟩ := h5 i hi
    exact ⟨k, a, by rw [itm_open]; exact b, by rw [itm_open]; exact d⟩
  · rw [cN_congr (c := c) (fun k _ => by rw [itm_open])]
    exact h6
theorem free_not {c : CS} (h : s_findFree c < 12) : p_there (itm c (s_findFree c)) = false := by
  rcases fi_or (p := q_findFree c) (d := 12) 12 0 with e | ⟨e, -⟩
  · have : s_findFree c = 12 := e
    omega
  · have e : q_findFree c (s_findFree c) = true := e
    unfold q_findFree at e
    split at e
    · exact absurd e (by decide)
    · next h9 => simpa using h9
theorem MK_take {m : Nat} {c : CS} (h : MKc m c) (hm : m ≤ 90) {z w v : Nat} {b : Bool} (hz : 1 ≤ z ∧ z ≤ 10) (hv : 1 ≤ v ∧ v ≤ 30) (hg : s_findFree c < 12) : MKc (m + 1) (m_takeIn c (nI z) (nI w) (nI v) b).2 := by
  obtain ⟨h1, h2, h3, h4, h5, h6⟩ := h
  have hid : tkR c (nI z) (nI w) (nI v) b 0 = nI m := h2
  have hth : p_there (tkR c (nI z) (nI w) (nI v) b) = true := there_of (by show (-1 : Int32) ≠ -2; decide)
  have hnot := free_not hg
  refine ⟨OKc_takeIn h1 _ _ _ _ hg, by rw [takeIn_0, h2]; exact nI_1 m, fun k hk => ?_, fun i j hi hj => ?_, fun i hi => ?_, ?_⟩
  · by_cases e : k = s_findFree c
    · rw [e, takeIn_g hg]
      obtain ⟨p, hp, ep⟩ := (h3 _ hg).1
      exact ⟨⟨p, hp, ep⟩, fun _ => ⟨⟨v, hv.1, hv.2, rfl⟩, ⟨m, by omega, hid⟩, ⟨z, hz.1, hz.2, rfl⟩⟩⟩
    · rw [takeIn_n e]
      obtain ⟨a, b'⟩ := h3 k hk
      refine ⟨a, fun ht => ?_⟩
      obtain ⟨x1, ⟨i, x2, x3⟩, x4⟩ := b' ht
      exact ⟨x1, ⟨i, by omega, x3⟩, x4⟩
  · by_cases ei : i = s_findFree c
    · by_cases ej : j = s_findFree c
      · intro _ _ _; omega
      · rw [ei, takeIn_g hg, takeIn_n ej, hid]
        intro _ ht e
        obtain ⟨-, ⟨i', x2, x3⟩, -⟩ := (h3 j hj).2 ht
        rw [x3] at e
        have := (nI_eq (by omega) (by omega)).mp e
        omega
    · by_cases ej : j = s_findFree c
      · rw [ej, takeIn_g hg, takeIn_n ei, hid]
        intro ht _ e
        obtain ⟨-, ⟨i', x2, x3⟩, -⟩ := (h3 i hi).2 ht
        rw [x3] at e
        have := (nI_eq (by omega) (by omega)).mp e
        omega
      · rw [takeIn_n ei, takeIn_n ej]
        exact h4 i j hi hj
  · by_cases e : i = m
    · exact ⟨s_findFree c, hg, by rw [takeIn_g hg]; exact hth, by rw [takeIn_g hg, e]; exact hid⟩
    · obtain ⟨k, a, b', d⟩ := h5 i (by omega)
      have hne : k ≠ s_findFree c := fun e9 => by rw [e9, hnot] at b'; exact absurd b' (by decide)
      exact ⟨k, a, by rw [takeIn_n hne]; exact b', by rw [takeIn_n hne]; exact d⟩
  · have := (cnt_one (p := fun k => p_there (itm (m_takeIn c (nI z) (nI w) (nI v) b).2 k)) (q := fun k => p_there (itm c k)) (g := s_findFree c) 12 (fun k _ hne => by show p_there (itm _ k) = _; rw [takeIn_n hne])).1
    have h7 : cN (m_takeIn c (nI z) (nI w) (nI v) b).2 ≤ cN c + 1 := this
    omega
/-- a layer's item lies below the count of the layers -/
theorem ly_lt {c : CS} (hL : LYok c) {b : Int32} {k w : Nat} (hk : k < 12) (hb : itm c k 5 = b) (hw : itm c k 6 = nI w) (hw5 : w < 5) : w < cLy c b := by
  have key : ∀ n, n ≤ 12 → ∃ j, j ≤ 5 ∧ lp (q_countLayers c b) n 0 = nI j ∧ (k < n → w < j) := by
    intro n
    induction n with
    | zero => intro _; exact ⟨0, by omega, rfl, fun h => absurd h (Nat.not_lt_zero k)⟩
    | succ n ih =>
      intro hn
      obtain ⟨j, hj, e, h⟩ := ih (by omega)
      rw [lp_s, e]
      unfold q_countLayers
      by_cases e2 : itm c n 5 = b
      · obtain ⟨w', hw', ew'⟩ := hL n (by omega)
        rw [if_pos e2, ew', nI_1]
        by_cases h9 : j < w' + 1
        · rw [if_pos (nI_lt h9 (by omega))]
          refine ⟨w' + 1, by omega, rfl, fun hkn => ?_⟩
          by_cases ekn : k = n
          · subst ekn
            have := (nI_eq (by omega) (by omega)).mp (hw.symm.trans ew')
            omega
          · have := h (by omega)
            omega
        · rw [if_neg (nI_nlt (by omega) (by omega))]
          refine ⟨j, hj, rfl, fun hkn => ?_⟩
          by_cases ekn : k = n
          · subst ekn
            have := (nI_eq (by omega) (by omega)).mp (hw.symm.trans ew')
            omega
          · exact h (by omega)
      · rw [if_neg e2]
        refine ⟨j, hj, rfl, fun hkn => ?_⟩
        by_cases ekn : k = n
        · subst ekn; exact absurd hb e2
        · exact h (by omega)
  obtain ⟨j, hj, e, h⟩ := key 12 (Nat.le_refl 12)
  have e : s_countLayers c b = nI j := e
  unfold cLy
  rw [e, nI_clamp (by omega)]
  exact h hk
theorem pos_ok {m : Nat} {c : CS} (h : MKc m c) {g : Nat} (hg : g < 12) (ht : p_there (itm c g) = true) (j : Nat) (hj : j < 100) : ∃ p, p ≤ 9 ∧ s_countInLayer c (nI j) (s_target c g (nI j)) = nI p := by
  obtain ⟨h1, h2, h3, h4, h5, h6⟩ := h
  obtain ⟨w, hw, e, hc⟩ := target_ok h1.ly g (nI j)
  have hb2 : ∀ k, itm c k 5 = nI j → p_there (itm c k) = true := fun k e9 => there_of (by
    rw [e9]
    intro h9
    have := nI_pos (n := j) (by omega)
    rw [h9] at this
    exact this (by decide))
  rw [e]
  refine ⟨lyN c (nI j) w 12, ?_, lyN_eq c (nI j) w 12⟩
  rcases hc with hn | ⟨hn, hs⟩
  · have key : ∀ n, n ≤ 12 → lyN c (nI j) w n = 0 := by
      intro n
      induction n with
      | zero => intro _; rfl
      | succ n ih =>
        intro hn9
        rw [lyN_s, ih (by omega)]
        by_cases e2 : itm c n 5 = nI j
        · rw [if_pos e2]
          by_cases e3 : itm c n 6 = nI w
          · obtain ⟨w', hw', ew'⟩ := h1.ly n (by omega)
            have := ly_lt h1.ly (by omega) e2 ew' hw'
            have := (nI_eq (by omega) (by omega)).mp (e3.symm.trans ew')
            omega
          · rw [if_neg e3]
        · rw [if_neg e2]
    rw [key 12 (Nat.le_refl 12)]
    omega
  · have key : ∀ n, n ≤ 12 → ∃ S, lp (q_sizeOfLayer c (nI j) (nI w)) n 0 = nI S ∧ lyN c (nI j) w n ≤ S ∧ S ≤ 10 * n := by
      intro n
      induction n with
      | zero => intro _; exact ⟨0, rfl, Nat.le_refl 0, Nat.le_refl 0⟩
      | succ n ih =>
        intro hn9
        obtain ⟨S, e1, e2, e3⟩ := ih (by omega)
        rw [lp_s, e1, lyN_s]
        unfold q_sizeOfLayer
        by_cases a1 : itm c n 5 = nI j
        · rw [if_pos a1, if_pos a1]
          by_cases a2 : itm c n 6 = nI w
          · rw [if_pos a2, if_pos a2]
            obtain ⟨-, -, z, z1, z2, z3⟩ := (h3 n (by omega)).2 (hb2 n a1)
            exact ⟨S + z, by rw [z3]; exact nI_add S z, by omega, by omega⟩
          · rw [if_neg a2, if_neg a2]
            exact ⟨S, rfl, by omega, by omega⟩
        · rw [if_neg a1, if_neg a1]
          exact ⟨S, rfl, by omega, by omega⟩
    obtain ⟨S, e1, e2, e3⟩ := key 12 (Nat.le_refl 12)
    obtain ⟨-, -, z, z1, z2, z3⟩ := (h3 g hg).2 ht
    have e1 : s_sizeOfLayer c (nI j) (nI w) = nI S := e1
    rw [e1, z3, nI_add] at hs
    have := (nI_leI (a := S + z) (b := 10) (by omega) (by decide)).mp hs
    omega
/-- the item that is put into a bag -/
theorem put_g {c : CS} {g : Nat} (hg : g < 12) (b : Int32) : itm (m_putInto c g b) g = upd (upd (upd (itm c g) 7 (s_countInLayer c b (s_target c g b))) 6 (s_target c g b)) 5 b := by
  unfold m_putInto
  rw [itm_pI_s hg, itm_pI_s hg, itm_pI_s hg]
theorem put_n {c : CS} {g i : Nat} (hi : i ≠ g) (b : Int32) : itm (m_putInto c g b) i = itm c i := by
  unfold m_putInto
  rw [itm_pI_n hi, itm_pI_n hi, itm_pI_n hi]
theorem bag_there {f : Nat → Int32} {P T : Int32} {j : Nat} (hj : j < 100) : p_there (upd (upd (upd f 7 P) 6 T) 5 (nI j)) = true := there_of (by
  rw [pk_us]
  intro h9
  have := nI_pos (n := j) (by omega)
  rw [h9] at this
  exact this (by decide))
theorem MK_put {m : Nat} {c : CS} (h : MKc m c) {g : Nat} (hg : g < 12) (ht : p_there (itm c g) = true) {j : Nat} (hj : j < 100) (hr : s_refusal c g (nI j) = 0) : MKc m (m_putInto c g (nI j)) := by
  obtain ⟨p, hp, ep⟩ := pos_ok h hg ht j hj
  obtain ⟨h1, h2, h3, h4, h5, h6⟩ := h
  have hsame : ∀ i, itm (m_putInto c g (nI j)) i 0 = itm c i 0 := fun i => by
    by_cases e : i = g
    · rw [e, put_g hg, pk_un (by decide), pk_un (by decide), pk_un (by decide)]
    · rw [put_n e]
  have hthere : ∀ i, p_there (itm (m_putInto c g (nI j)) i) = p_there (itm c i) := fun i => by
    by_cases e : i = g
    · rw [e, put_g hg, ht]; exact bag_there hj
    · rw [put_n e]
  refine ⟨OKc_put h1 hg hr, h2, fun k hk => ?_, fun i k hi hk => ?_, fun i hi => ?_, ?_⟩
  · by_cases e : k = g
    · rw [e, put_g hg]
      obtain ⟨x1, x2, x3⟩ := (h3 g hg).2 ht
      refine ⟨⟨p, hp, by rw [pk_un (by decide), pk_un (by decide), pk_us]; exact ep⟩, fun _ => ?_⟩
      rw [pk_un (by decide), pk_un (by decide), pk_un (by decide), pk_un (by decide), pk_un (by decide), pk_un (by decide), pk_un (by decide), pk_un (by decide), pk_un (by decide)]
      exact ⟨x1, x2, x3⟩
    · rw [put_n e]; exact h3 k hk
  · rw [hthere, hthere, hsame, hsame]
    exact h4 i k hi hk
  · obtain ⟨k, a, b, d⟩ := h5 i hi
    exact ⟨k, a, by rw [hthere]; exact b, by rw [hsame]; exact d⟩
  · rw [cN_congr (c := c) (fun k _ => hthere k)]
    exact h6
theorem MK_load {m : Nat} {c : CS} (h : MKc m c) {id : Int32} {j : Nat} (hj : j < 100) (hf : f_load c id (nI j) = 0) : MKc m (m_load c id (nI j)).2 := by
  obtain ⟨a, -, -, d⟩ := load_r hf
  rw [m_load_2]
  exact MK_put h (fr_load hf) a hj d
theorem depot_there {f : Nat → Int32} (h : p_depot f = true) : p_there f = true := there_of (by
  unfold p_depot at h
  split at h
  · next e => rw [e]; decide
  · exact absurd h (by decide))
theorem MK_fill {m : Nat} {c : CS} (h : MKc m c) {j : Nat} (hj : j < 100) : MKc m (m_fill c (nI j)).2 := by
  have key : ∀ n (r : Int32 × CS), MKc m r.2 → MKc m (lp (q_fill (nI j)) n r).2 := by
    intro n
    induction n with
    | zero => intro r h; exact h
    | succ n ih =>
      intro r h
      rw [lp_s]
      have h1 := ih r h
      rcases fill_s (nI j) n (lp (q_fill (nI j)) n r) with e | ⟨hd, hr, e⟩
      · rw [e]; exact h1
      · rw [e]; exact MK_put h1 (depot_lt (s_findRank_lt _ _) hd) (depot_there hd) hj hr
  rw [m_fill_2]
  exact key _ _ h
/-! the answers -/
theorem fill_a (c : CS) (b : Int32) : ∃ j, j ≤ 12 ∧ (m_fill c b).1 = nI j := by
  have key : ∀ n, ∃ j, j ≤ n ∧ (lp (q_fill b) n (0, c)).1 = nI j := by
    intro n
    induction n with
    | zero => exact ⟨0, Nat.le_refl 0, rfl⟩
    | succ n ih =>
      obtain ⟨j, hj, e⟩ := ih
      rw [lp_s]
      rcases fill_s b n (lp (q_fill b) n (0, c)) with e2 | ⟨-, -, e2⟩
      · rw [e2]; exact ⟨j, by omega, e⟩
      · rw [e2]; exact ⟨j + 1, by omega, by show (lp (q_fill b) n (0, c)).1 + 1 = _; rw [e]; exact nI_1 j⟩
  obtain ⟨j, hj, e⟩ := key (cN c)
  exact ⟨j, Nat.le_trans hj (cN_le c), e⟩
theorem load_a {c : CS} (hL : LYok c) {id b : Int32} (hf : f_load c id b = 0) : ∃ w, w < 5 ∧ (m_load c id b).1 = nI w := by
  obtain ⟨w, hw, e⟩ := target_lt hL (load_r hf).2.2.2
  refine ⟨w, hw, ?_⟩
  show itm (m_putInto c (s_find c id) b) (s_find c id) 6 = _
  rw [put_g (fr_load hf), pk_un (by decide), pk_us]
  exact e
theorem open_a {c : CS} {l : Nat} (h3 : nbg c < 3) : (m_open c (nI l)).1 = nI (nbg c) ∧ nbg (m_open c (nI l)).2 = nbg c + 1 ∨ ¬ BG c := by
  by_cases hB : BG c
  · left
    unfold m_open
    have hn : ¬ (3 : Int32) ≤ nI (nbg c) := nI_ge (a := nbg c) (b := 3) h3 (by decide)
    rw [if_neg hn]
    refine ⟨rfl, ?_⟩
    show ((sN (sL c (nbg c) (nI l)) 1 ((sL c (nbg c) (nI l)).2.2 1 + 1)).2.2 1).toNatClampNeg = _
    show (upd c.2.2 1 (c.2.2 1 + 1) 1).toNatClampNeg = _
    rw [pk_us, hB.1, nI_1, nI_clamp (by omega)]
  · exact Or.inr hB
theorem f_open_0 {c : CS} (hB : BG c) (h3 : nbg c < 3) {l : Nat} (h1 : 1 ≤ l) (h2 : l ≤ 99) : f_open c (nI l) = 0 := by
  unfold f_open
  rw [if_neg (show ¬ nI l < (1 : Int32) from nI_nlt (a := l) (b := 1) h1 (by omega)), if_pos (show nI l ≤ 99 from nI_le (b := 99) h2 (by decide)), hB.1, if_pos (show nI (nbg c) < 3 from nI_lt (b := 3) h3 (by decide))]
theorem f_takeIn_0 {c : CS} {z w v : Nat} (hz : 1 ≤ z ∧ z ≤ 10) (hw : 1 ≤ w ∧ w ≤ 20) (hv : 1 ≤ v ∧ v ≤ 30) (hc : cN c < 12) : f_takeIn c (nI z) (nI w) (nI v) = 0 := by
  unfold f_takeIn
  rw [if_neg (show ¬ nI z < (1 : Int32) from nI_nlt (a := z) (b := 1) hz.1 (by omega)), if_neg (show ¬ (10 : Int32) < nI z from nI_nlt (a := 10) (b := z) hz.2 (by decide)), if_neg (show ¬ nI w < (1 : Int32) from nI_nlt (a := w) (b := 1) hw.1 (by omega)), if_neg (show ¬ (20 : Int32) < nI w from nI_nlt (a := 20) (b := w) hw.2 (by decide)), if_neg (show ¬ nI v < (1 : Int32) from nI_nlt (a := v) (b := 1) hv.1 (by omega)), if_pos (show nI v ≤ 30 from nI_le (b := 30) hv.2 (by decide)), cN_eq, if_pos (show nI (cN c) < 12 from nI_lt (b := 12) hc (by decide))]
theorem find_there {c : CS} {id : Int32} {k : Nat} (hk : k < 12) (ht : p_there (itm c k) = true) (hi : itm c k 0 = id) : p_there (itm c (s_find c id)) = true ∧ itm c (s_find c id) 0 = id := by
  have h := (fi_found (p := q_find c id) (d := 12) 12 0 k (Nat.zero_le k) (by omega) (by unfold q_find; rw [if_pos ht, if_pos hi])).2
  have h : q_find c id (s_find c id) = true := h
  unfold q_find at h
  split at h
  · next h1 =>
    split at h
    · next h2 => exact ⟨h1, h2⟩
    · exact absurd h (by decide)
  · exact absurd h (by decide)
theorem find_not {c : CS} {id : Int32} (h : ∀ k, k < 12 → p_there (itm c k) = true → itm c k 0 ≠ id) : s_find c id = 12 := by
  rcases fi_or (p := q_find c id) (d := 12) 12 0 with e | ⟨e, hlt⟩
  · exact e
  · exfalso
    have hlt : s_find c id < 12 := by unfold s_find; omega
    have e : q_find c id (s_find c id) = true := e
    generalize s_find c id = g at hlt e
    unfold q_find at e
    split at e
    · next h1 =>
      split at e
      · next h2 => exact h _ hlt h1 h2
      · exact absurd e (by decide)
    · exact absurd e (by decide)
theorem hasBag_in {c : CS} (hB : BG c) {j : Nat} (hj : j < nbg c) : s_hasBag c (nI j) = true := by
  have h3 := hB.2
  unfold s_hasBag
  rw [if_neg (nI_pos (by omega)), hB.1, if_neg (nI_ge hj (by omega))]
theorem load_cases {m : Nat} {c : CS} (h : MKc m c) {i j : Nat} (hi : i < m) (hj : j < nbg c) : f_load c (nI i) (nI j) = 0 ∨ f_load c (nI i) (nI j) = 4 ∨ f_load c (nI i) (nI j) = 5 := by
  obtain ⟨k, a, b, d⟩ := h.2.2.2.2.1 i hi
  have h1 := (find_there a b d).1
  unfold f_load
  rw [if_pos h1, if_pos (hasBag_in h.1.1 hj)]
  split
  · exact Or.inr (Or.inl rfl)
  · split
    · exact Or.inl rfl
    · exact Or.inr (Or.inr rfl)
theorem nbg_of {c c' : CS} (h : c'.2.2 1 = c.2.2 1) : nbg c' = nbg c := by unfold nbg; rw [h]
theorem nbg_take (c : CS) (z w v : Int32) (b : Bool) : nbg (m_takeIn c z w v b).2 = nbg c := nbg_of rfl
theorem nbg_load (c : CS) (i b : Int32) : nbg (m_load c i b).2 = nbg c := nbg_of (by rw [m_load_2]; rfl)
theorem nbg_fill (c : CS) (b : Int32) : nbg (m_fill c b).2 = nbg c := nbg_of (by rw [m_fill_2, fill_2])
theorem f_fill_0 {c : CS} (hB : BG c) {j : Nat} (hj : j < nbg c) : f_fill c (nI j) = 0 := by
  unfold f_fill
  rw [if_pos (hasBag_in hB hj)]
