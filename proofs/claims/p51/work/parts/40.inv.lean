/-! WHAT HOLDS OF A CARGO ALL ALONG: ids up to m, layers below 5, at most three bags -/
def itA (m : Nat) (f : Nat → Int32) : Prop := (∃ i, i ≤ m ∧ f 0 = nI i) ∧ (∃ w, w < 5 ∧ f 6 = nI w)
def OKc (m : Nat) (c : CS) : Prop := BG c ∧ (∃ j, j ≤ m ∧ c.2.2 0 = nI j) ∧ ∀ k, k < 13 → itA m (itm c k)
theorem itA_nb (m : Nat) : itA m nb := ⟨⟨0, Nat.zero_le _, rfl⟩, ⟨0, by decide, rfl⟩⟩
theorem OKc.mono {m m' : Nat} {c : CS} (h : OKc m c) (hm : m ≤ m') : OKc m' c := by
  obtain ⟨h1, ⟨j, h2, h3⟩, h4⟩ := h
  refine ⟨h1, ⟨j, by omega, h3⟩, fun k hk => ?_⟩
  obtain ⟨⟨i, a, b⟩, d⟩ := h4 k hk
  exact ⟨⟨i, by omega, b⟩, d⟩
theorem OKc.id {m : Nat} {c : CS} (h : OKc m c) (hm : m ≤ 99) : IDok c := by
  intro k hk
  obtain ⟨⟨i, a, b⟩, -⟩ := h.2.2 k hk
  unfold idN
  rw [b, nI_clamp (by omega)]
  exact ⟨rfl, by omega⟩
theorem OKc.ly {m : Nat} {c : CS} (h : OKc m c) : LYok c := fun k hk => (h.2.2 k (by omega)).2
theorem itm_pI {st : CS} {k j i : Nat} {v : Int32} (hk : k < 12) : itm (pI st k j v) i = if i = k then upd (itm st k) j v else itm st i := by
  by_cases h : i = k
  · rw [if_pos h, h]; exact itm_sI hk
  · rw [if_neg h]; exact itm_sI_ne h
theorem itm_pI_s {st : CS} {k j : Nat} {v : Int32} (hk : k < 12) : itm (pI st k j v) k = upd (itm st k) j v := itm_sI hk
theorem itm_pI_n {st : CS} {k j i : Nat} {v : Int32} (h : i ≠ k) : itm (pI st k j v) i = itm st i := itm_sI_ne h
theorem OKc_pI {m k j : Nat} {c : CS} {v : Int32} (h : OKc m c) (hk : k < 12) (h0 : j = 0 → ∃ i, i ≤ m ∧ v = nI i) (h6 : j = 6 → ∃ w, w < 5 ∧ v = nI w) : OKc m (pI c k j v) := by
  refine ⟨BG_of h.1 rfl, h.2.1, fun i hi => ?_⟩
  by_cases e : i = k
  · subst e
    rw [itm_pI_s hk]
    obtain ⟨a, b⟩ := h.2.2 i hi
    refine ⟨?_, ?_⟩
    · by_cases e0 : j = 0
      · rw [e0, pk_us]; exact h0 e0
      · rw [pk_un (fun h9 => e0 h9.symm)]; exact a
    · by_cases e6 : j = 6
      · rw [e6, pk_us]; exact h6 e6
      · rw [pk_un (fun h9 => e6 h9.symm)]; exact b
  · rw [itm_pI_n e]; exact h.2.2 i hi
theorem OKc_sN {m i : Nat} {c : CS} {v : Int32} (h : OKc m c) (h0 : i ≠ 0) (h1 : i ≠ 1) : OKc m (sN c i v) := by
  refine ⟨BG_of h.1 (sN_ne (fun e => h1 e.symm)), ?_, h.2.2⟩
  rw [sN_ne (fun e => h0 e.symm)]
  exact h.2.1
theorem OKc_open {m : Nat} {c : CS} (h : OKc m c) (x : Int32) : OKc m (m_open c x).2 := by
  refine ⟨BG_open h.1 x, ?_, ?_⟩
  · unfold m_open
    split
    · exact h.2.1
    · show ∃ j, j ≤ m ∧ (sN (sL c (nbg c) x) 1 ((sL c (nbg c) x).2.2 1 + 1)).2.2 0 = nI j
      rw [sN_ne (by decide)]
      exact h.2.1
  · unfold m_open
    split
    · exact h.2.2
    · exact h.2.2
/-- the item that is taken in -/
def tkR (c : CS) (z w v : Int32) (b : Bool) : Nat → Int32 := upd (upd (upd (upd (upd (upd (itm c (s_findFree c)) 0 (c.2.2 0)) 1 z) 2 w) 3 v) 4 (bi b)) 5 (-1)
theorem takeIn_g {c : CS} {z w v : Int32} {b : Bool} (hg : s_findFree c < 12) : itm (m_takeIn c z w v b).2 (s_findFree c) = tkR c z w v b := by
  unfold m_takeIn tkR
  show itm (pI _ _ 5 _) _ = _
  rw [itm_pI_s hg, itm_pI_s hg, itm_pI_s hg, itm_pI_s hg, itm_pI_s hg, itm_pI_s hg]
theorem takeIn_n {c : CS} {z w v : Int32} {b : Bool} {i : Nat} (hi : i ≠ s_findFree c) : itm (m_takeIn c z w v b).2 i = itm c i := by
  unfold m_takeIn
  show itm (pI _ _ 5 _) _ = _
  rw [itm_pI_n hi, itm_pI_n hi, itm_pI_n hi, itm_pI_n hi, itm_pI_n hi, itm_pI_n hi]
theorem takeIn_0 (c : CS) (z w v : Int32) (b : Bool) : (m_takeIn c z w v b).2.2.2 0 = c.2.2 0 + 1 := rfl
theorem takeIn_a {c : CS} {z w v : Int32} {b : Bool} (hg : s_findFree c < 12) : (m_takeIn c z w v b).1 = c.2.2 0 := by
  have h := takeIn_g (c := c) (z := z) (w := w) (v := v) (b := b) hg
  show itm (m_takeIn c z w v b).2 (s_findFree c) 0 = _
  rw [h]
  rfl
theorem OKc_takeIn {m : Nat} {c : CS} (h : OKc m c) (z w v : Int32) (b : Bool) (hg : s_findFree c < 12) : OKc (m + 1) (m_takeIn c z w v b).2 := by
  obtain ⟨j, hj, e⟩ := h.2.1
  refine ⟨BG_take h.1 _ _ _ _, ⟨j + 1, by omega, by rw [takeIn_0, e]; exact nI_1 j⟩, fun i hi => ?_⟩
  by_cases hig : i = s_findFree c
  · rw [hig, takeIn_g hg]
    exact ⟨⟨j, by omega, e⟩, (h.2.2 _ (by omega)).2⟩
  · rw [takeIn_n hig]
    obtain ⟨⟨i', a, b'⟩, d⟩ := h.2.2 i hi
    exact ⟨⟨i', by omega, b'⟩, d⟩
theorem m_drop_2 (c : CS) (id : Int32) : (m_drop c id).2 = pI c (s_find c id) 5 (-2) := rfl
theorem OKc_drop {m : Nat} {c : CS} (h : OKc m c) (id : Int32) (hg : s_find c id < 12) : OKc m (m_drop c id).2 := by
  rw [m_drop_2]
  exact OKc_pI h hg (fun e => absurd e (by decide)) (fun e => absurd e (by decide))
/-- the layer that an item goes to -/
theorem target_ok {c : CS} (hL : LYok c) (g : Nat) (b : Int32) : ∃ w, w ≤ 5 ∧ s_target c g b = nI w ∧ (w = cLy c b ∨ (w + 1 = cLy c b ∧ s_sizeOfLayer c b (nI w) + itm c g 1 ≤ 10)) := by
  obtain ⟨e, h5⟩ := cLy_ok hL b
  unfold s_target
  rw [e]
  by_cases h0 : cLy c b = 0
  · rw [h0]
    exact ⟨0, by omega, by rw [if_pos (by decide)], Or.inl rfl⟩
  · rw [if_neg (nI_nle (by omega) (by omega))]
    obtain ⟨L, hL2⟩ : ∃ L, cLy c b = L + 1 := ⟨cLy c b - 1, by omega⟩
    rw [hL2, nI_pred]
    split
    · exact ⟨L + 1, by omega, rfl, Or.inl rfl⟩
    · next h => exact ⟨L, by omega, rfl, Or.inr ⟨rfl, Int32.not_lt.mp h⟩⟩
theorem refusal_0 {c : CS} {g : Nat} {b : Int32} (h : s_refusal c g b = 0) : s_target c g b < 5 := by
  unfold s_refusal at h
  split at h
  · split at h
    · assumption
    · exact absurd h (by decide)
  · exact absurd h (by decide)
theorem target_lt {c : CS} (hL : LYok c) {g : Nat} {b : Int32} (h : s_refusal c g b = 0) : ∃ w, w < 5 ∧ s_target c g b = nI w := by
  obtain ⟨w, h1, h2, -⟩ := target_ok hL g b
  have h3 := refusal_0 h
  rw [h2] at h3
  exact ⟨w, (nI_ltI (b := 5) (by omega) (by decide)).mp h3, h2⟩
theorem OKc_put {m : Nat} {c : CS} (h : OKc m c) {g : Nat} (hg : g < 12) {b : Int32} (hr : s_refusal c g b = 0) : OKc m (m_putInto c g b) := by
  unfold m_putInto
  exact OKc_pI (OKc_pI (OKc_pI h hg (fun e => absurd e (by decide)) (fun e => absurd e (by decide))) hg (fun e => absurd e (by decide)) (fun _ => target_lt h.ly hr)) hg (fun e => absurd e (by decide)) (fun e => absurd e (by decide))
theorem load_r {c : CS} {id b : Int32} (h : f_load c id b = 0) : p_there (itm c (s_find c id)) = true ∧ s_hasBag c b = true ∧ p_inbag (itm c (s_find c id)) = false ∧ s_refusal c (s_find c id) b = 0 := by
  unfold f_load at h
  split at h
  · next h1 =>
    split at h
    · next h2 =>
      split at h
      · exact absurd h (by decide)
      · next h3 =>
        split at h
        · next h4 => exact ⟨h1, h2, by simpa using h3, h4⟩
        · exact absurd h (by decide)
    · exact absurd h (by decide)
  · exact absurd h (by decide)
theorem m_load_2 (c : CS) (id b : Int32) : (m_load c id b).2 = m_putInto c (s_find c id) b := rfl
theorem OKc_load {m : Nat} {c : CS} (h : OKc m c) {id b : Int32} (hf : f_load c id b = 0) : OKc m (m_load c id b).2 := by
  rw [m_load_2]
  exact OKc_put h (fr_load hf) (load_r hf).2.2.2
theorem OKc_qout {m : Nat} {c : CS} (h : OKc m c) (b : Int32) {g k : Nat} (hg : g < 13) (e : Bool) (hk : k < 12) : OKc m (q_takeOut b g e k c) := by
  unfold q_takeOut
  dsimp only
  have h1 : OKc m (if itm c k 5 = b then (if itm c k 6 = itm c g 6 then (if itm c k 7 ≤ itm c g 7 then c else pI c k 7 (itm c k 7 - 1)) else c) else c) := by
    repeat' split
    all_goals first | exact h | exact OKc_pI h hk (fun e => absurd e (by decide)) (fun e => absurd e (by decide))
  generalize (if itm c k 5 = b then (if itm c k 6 = itm c g 6 then (if itm c k 7 ≤ itm c g 7 then c else pI c k 7 (itm c k 7 - 1)) else c) else c) = c1 at h1 ⊢
  split
  · split
    · exact h1
    · next hlt =>
      cases e with
      | false => exact h1
      | true =>
        refine OKc_pI h1 hk (fun e => absurd e (by decide)) (fun _ => ?_)
        obtain ⟨w, hw, ew⟩ := (h1.2.2 k (by omega)).2
        obtain ⟨w', hw', ew'⟩ := (h1.2.2 g hg).2
        rw [ew, ew'] at hlt
        have h3 : ¬ w ≤ w' := fun h9 => hlt (nI_le h9 (by omega))
        refine ⟨w - 1, by omega, ?_⟩
        rw [ew]
        exact pk_sub (a := w) (b := 1) (by omega)
  · exact h1
theorem OKc_lpout {m : Nat} (b : Int32) {g : Nat} (hg : g < 13) (e : Bool) : ∀ (n : Nat) (c : CS), n ≤ 12 → OKc m c → OKc m (lp (q_takeOut b g e) n c) := by
  intro n
  induction n with
  | zero => intro c _ h; exact h
  | succ n ih =>
    intro c hn h
    rw [lp_s]
    exact OKc_qout (ih c (by omega) h) b hg e (by omega)
theorem OKc_out {m : Nat} {c : CS} (h : OKc m c) {g : Nat} (hg : g < 12) : OKc m (m_takeOut c g) := by
  unfold m_takeOut
  exact OKc_lpout _ (by omega) _ 12 _ (Nat.le_refl 12) (OKc_pI h hg (fun e => absurd e (by decide)) (fun e => absurd e (by decide)))
theorem OKc_unload {m : Nat} {c : CS} (h : OKc m c) (id : Int32) (hg : s_find c id < 12) : OKc m (m_unload c id).2 := by
  rw [m_unload_2]
  exact OKc_out h hg
theorem fill_s (b : Int32) (k : Nat) (r : Int32 × CS) : q_fill b k r = r ∨ (p_depot (itm r.2 (s_findRank r.2 (nI k))) = true ∧ s_refusal r.2 (s_findRank r.2 (nI k)) b = 0 ∧ q_fill b k r = (r.1 + 1, m_putInto r.2 (s_findRank r.2 (nI k)) b)) := by
  unfold q_fill
  split
  · next h1 =>
    split
    · next h2 => exact Or.inr ⟨h1, h2, rfl⟩
    · exact Or.inl rfl
  · exact Or.inl rfl
theorem OKc_fill {m : Nat} {c : CS} (h : OKc m c) (b : Int32) : OKc m (m_fill c b).2 := by
  have key : ∀ n (r : Int32 × CS), OKc m r.2 → OKc m (lp (q_fill b) n r).2 := by
    intro n
    induction n with
    | zero => intro r h; exact h
    | succ n ih =>
      intro r h
      rw [lp_s]
      have h1 := ih r h
      rcases fill_s b n (lp (q_fill b) n r) with e | ⟨hd, hr, e⟩
      · rw [e]; exact h1
      · rw [e]; exact OKc_put h1 (depot_lt (s_findRank_lt _ _) hd) hr
  rw [m_fill_2]
  exact key _ _ h
theorem OKc_hand {m : Nat} {c : CS} (h : OKc m c) : OKc m (m_handOver c).2 := by
  have key : ∀ n (r : Int32 × CS), n ≤ 12 → OKc m r.2 → OKc m (lp (q_handOver (s_lowest c)) n r).2 := by
    intro n
    induction n with
    | zero => intro r _ h; exact h
    | succ n ih =>
      intro r hn h
      rw [lp_s]
      have h1 := ih r (by omega) h
      rcases hand_q (s_lowest c) n (lp (q_handOver (s_lowest c)) n r) with e | ⟨v, e⟩
      · rw [e]; exact h1
      · rw [e]
        exact OKc_sN (OKc_pI (OKc_out h1 (by omega)) (by omega) (fun e => absurd e (by decide)) (fun e => absurd e (by decide))) (by decide) (by decide)
  rw [m_hand_2]
  exact OKc_sN (key 12 (0, c) (Nat.le_refl 12) h) (by decide) (by decide)
theorem OKc_run {m : Nat} {c : CS} (h : OKc m c) (a0 a1 a2 : Int32) (mk : Bool) (k : Nat) (hf : x_flt c a0 a1 a2 k = 0) : OKc (m + 1) (m_run c a0 a1 a2 mk k) := by
  unfold m_run
  unfold x_flt at hf
  split at hf
  · exact (OKc_open h _).mono (by omega)
  · exact OKc_takeIn h _ _ _ _ (fr_takeIn hf)
  · exact (OKc_drop h _ (fr_drop hf)).mono (by omega)
  · exact (OKc_load h hf).mono (by omega)
  · exact (OKc_unload h _ (fr_unload hf)).mono (by omega)
  · exact (OKc_fill h _).mono (by omega)
  · exact (OKc_hand h).mono (by omega)
theorem OKc_lp : ∀ (f m d : Nat) (c : CS) (fl : Nat → Int32) (sv : SV), OKc m c → OKc (m + f) (e_lp f d c fl sv).2.1 := by
  intro f
  induction f with
  | zero => intro m d c fl sv h; exact h
  | succ f ih =>
    intro m d c fl sv h
    unfold e_lp
    split
    · next h0 =>
      have := ih (m + 1) (d + 1) (e_run c (v_cmd sv)) fl (v_take (v_cmd sv) 59) (OKc_run h _ _ _ _ _ h0)
      exact this.mono (by omega)
    · exact h.mono (by omega)
theorem pN_le {n : Nat} (h : n ≤ 8) : pN n ≤ 8 := by unfold pN; split <;> omega
