/-! CHANGES: what an answer below 0 means; how many commands a text holds -/
theorem nn_open {c : CS} (h : BG c) (x : Int32) : ¬ (m_open c x).1 < 0 := by
  have h3 := h.2
  unfold m_open
  split <;> exact nI_pos (by omega)
theorem nn_drop (c : CS) (id : Int32) : ¬ (m_drop c id).1 < 0 := by
  show ¬ s_countItems (m_drop c id).2 < 0
  rw [cN_eq]
  exact nI_pos (by have := cN_le (m_drop c id).2; omega)
theorem m_unload_1 (st : CS) (id : Int32) : (m_unload st id).1 = s_countLayers (m_takeOut st (s_find st id)) (itm st (s_find st id) 5) := by simp only [m_unload]
theorem nn_unload {m : Nat} {c : CS} (h : OKc m c) {id : Int32} (hg : s_find c id < 12) : ¬ (m_unload c id).1 < 0 := by
  obtain ⟨e, h5⟩ := cLy_ok (OKc_out h hg).ly (itm c (s_find c id) 5)
  rw [m_unload_1, e]
  exact nI_pos (by omega)
theorem hand_1 (t : Int32) (k : Nat) (r : Int32 × CS) : (q_handOver t k r).1 = r.1 ∨ (q_handOver t k r).1 = r.1 + 1 := by
  unfold q_handOver
  split
  · split
    · exact Or.inr rfl
    · exact Or.inl rfl
  · exact Or.inl rfl
theorem m_hand_1 (c : CS) : (m_handOver c).1 = (lp (q_handOver (s_lowest c)) 12 ((0 : Int32), c)).1 := by simp only [m_handOver]
theorem nn_hand (c : CS) : ¬ (m_handOver c).1 < 0 := by
  have key : ∀ n, ∃ j, j ≤ n ∧ (lp (q_handOver (s_lowest c)) n ((0 : Int32), c)).1 = nI j := by
    intro n
    induction n with
    | zero => exact ⟨0, Nat.le_refl 0, rfl⟩
    | succ n ih =>
      obtain ⟨j, hj, e⟩ := ih
      rw [lp_s]
      rcases hand_1 (s_lowest c) n (lp (q_handOver (s_lowest c)) n (0, c)) with h | h
      · exact ⟨j, by omega, by rw [h]; exact e⟩
      · exact ⟨j + 1, by omega, by rw [h, e]; exact nI_1 j⟩
  obtain ⟨j, hj, e⟩ := key 12
  rw [m_hand_1, e]
  exact nI_pos (by omega)
theorem nn_fill (c : CS) (b : Int32) : ¬ (m_fill c b).1 < 0 := by
  obtain ⟨j, hj, e⟩ := fill_a c b
  rw [e]
  exact nI_pos (by omega)
theorem nn_load {m : Nat} {c : CS} (h : OKc m c) {id b : Int32} (hf : f_load c id b = 0) : ¬ (m_load c id b).1 < 0 := by
  obtain ⟨w, hw, e⟩ := load_a h.ly hf
  rw [e]
  exact nI_pos (by omega)
theorem nn_take {m : Nat} {c : CS} (h : OKc m c) (hm : m ≤ 99) {z w v : Int32} {b : Bool} (hf : f_takeIn c z w v = 0) : ¬ (m_takeIn c z w v b).1 < 0 := by
  obtain ⟨j, hj, e⟩ := h.2.1
  rw [takeIn_a (fr_takeIn hf), e]
  exact nI_pos (by omega)
theorem nn_exec {c : CS} {fl : Nat → Int32} {sv : SV} (h : x_exec c fl sv = 0) : ¬ (v_ct sv).1 < 0 := by
  rcases v_ct_or sv with e | ⟨j, -, hj, e⟩
  · unfold x_exec at h
    rw [if_pos e] at h
    exact absurd h (by decide)
  · rw [e]
    exact nI_pos (by omega)
/-! where the reader stands -/
theorem tk_ge (tx : Nat → Int32) (n : Nat) (w : Int32) (p : Nat) : p ≤ (r_take tx n w p).2 ∧ ((r_take tx n w p).1 = true → (r_take tx n w p).2 = p + 1 ∧ p < n) := by
  unfold r_take
  split
  · exact ⟨Nat.le_refl _, fun h => absurd h (by show ¬ false = true; decide)⟩
  · split
    · exact ⟨Nat.le_succ _, fun _ => ⟨rfl, by omega⟩⟩
    · exact ⟨Nat.le_refl _, fun h => absurd h (by show ¬ false = true; decide)⟩
theorem nl_ge (tx : Nat → Int32) (n : Nat) : ∀ (k p : Nat) (v : Int32) (d : Nat), p ≤ (r_nlp tx n k p v d).1 := by
  intro k
  induction k with
  | zero => intro p v d; exact Nat.le_refl _
  | succ k ih =>
    intro p v d
    unfold r_nlp
    split
    · exact Nat.le_trans (Nat.le_succ p) (ih _ _ _)
    · exact Nat.le_refl _
theorem nu_ge (tx : Nat → Int32) (n m p : Nat) (nm : Nat → Int32) (c : Nat) : p ≤ (r_number tx n m p nm c).2.1 := by
  have h := nl_ge tx n m p 0 0
  unfold r_number r_nfin
  split
  · exact h
  · split <;> exact h
theorem pt_ge (tx : Nat → Int32) (n : Nat) (ch : Int32) (p : Nat) (nm : Nat → Int32) (c : Nat) (mq : Int32) : p ≤ (r_part tx n ch p nm c mq).2.1 := by
  unfold r_part
  split
  · exact nu_ge _ _ _ _ _ _
  · split
    · exact nu_ge _ _ _ _ _ _
    · split
      · exact (tk_ge _ _ _ _).1
      · exact (tk_ge _ _ _ _).1
theorem pl_ge (tx : Nat → Int32) (n : Nat) (ps : Nat → Int32) : ∀ (k i p : Nat) (nm : Nat → Int32) (c : Nat) (mq : Int32), p ≤ (r_plp tx n ps k i p nm c mq).2.1 := by
  intro k
  induction k with
  | zero => intro i p nm c mq; exact Nat.le_refl _
  | succ k ih =>
    intro i p nm c mq
    unfold r_plp
    split
    · exact Nat.le_trans (pt_ge _ _ _ _ _ _ _) (ih _ _ _ _ _)
    · exact pt_ge _ _ _ _ _ _ _
theorem kp_1 : ∀ i, i < 7 → (∃ L, strL.getD (kPat i) 0 = L + 1) ∧ chS (kPat i) 0 ≠ 78 ∧ chS (kPat i) 0 ≠ 68 ∧ chS (kPat i) 0 ≠ 33 := by
  intro i hi
  have h : ∀ i, i < 7 → 0 < strL.getD (kPat i) 0 ∧ chS (kPat i) 0 ≠ 78 ∧ chS (kPat i) 0 ≠ 68 ∧ chS (kPat i) 0 ≠ 33 := by decide
  obtain ⟨h1, h2⟩ := h i hi
  exact ⟨⟨strL.getD (kPat i) 0 - 1, by omega⟩, h2⟩
theorem pa_ge (tx : Nat → Int32) (n p : Nat) (nm : Nat → Int32) {i : Nat} (hi : i < 7) (h : (r_pattern tx n (kPat i) p nm).1 = true) : p + 1 ≤ (r_pattern tx n (kPat i) p nm).2.1 := by
  obtain ⟨⟨L, hL⟩, a, b, d⟩ := kp_1 i hi
  unfold r_pattern at h ⊢
  rw [hL] at h ⊢
  unfold r_plp at h ⊢
  split at h
  · next h1 =>
    rw [if_pos h1]
    have h2 : r_part tx n (chS (kPat i) 0) p nm 0 0 = ((r_take tx n (chS (kPat i) 0) p).1, (r_take tx n (chS (kPat i) 0) p).2, nm, 0, 0) := by
      unfold r_part
      rw [if_neg a, if_neg b, if_neg d]
    rw [h2] at h1 ⊢
    have h3 := ((tk_ge tx n (chS (kPat i) 0) p).2 h1).1
    have h4 := pl_ge tx n (chS (kPat i)) L 1 (r_take tx n (chS (kPat i) 0) p).2 nm 0 0
    show p + 1 ≤ (r_plp tx n (chS (kPat i)) L (0 + 1) (r_take tx n (chS (kPat i) 0) p).2 nm 0 0).2.1
    have h5 : (r_plp tx n (chS (kPat i)) L (0 + 1) (r_take tx n (chS (kPat i) 0) p).2 nm 0 0) = r_plp tx n (chS (kPat i)) L 1 (r_take tx n (chS (kPat i) 0) p).2 nm 0 0 := rfl
    rw [h5]
    omega
  · exact absurd h (by show ¬ false = true; decide)
theorem cl_ge (tx : Nat → Int32) (n start : Nat) : ∀ (k i far p : Nat) (nm : Nat → Int32) (c : Nat) (mq : Int32) (kd : Nat), i + k ≤ 7 → (r_clp tx n start k i far p nm c mq kd).1 = true → start + 1 ≤ (r_clp tx n start k i far p nm c mq kd).2.1 := by
  intro k
  induction k with
  | zero => intro i far p nm c mq kd _ h; exact absurd h (by show ¬ false = true; decide)
  | succ k ih =>
    intro i far p nm c mq kd hi h
    unfold r_clp at h ⊢
    split
    · next h1 => exact pa_ge tx n start nm (by omega) h1
    · next h1 =>
      rw [if_neg h1] at h
      exact ih _ _ _ _ _ _ _ (by omega) h
theorem cm_ge (tx : Nat → Int32) (n p : Nat) (nm : Nat → Int32) (c : Nat) (mq : Int32) (kd : Nat) (h : (r_command tx n p nm c mq kd).1 = true) : p + 1 ≤ (r_command tx n p nm c mq kd).2.1 := cl_ge tx n p 7 0 p p nm c mq kd (Nat.le_refl 7) h
theorem ct_le (tx : Nat → Int32) (n : Nat) : ∀ (k ct p : Nat) (nm : Nat → Int32) (c : Nat) (mq : Int32) (kd : Nat), (r_ctlp tx n k ct p nm c mq kd).1 = -1 ∨ ∃ j, (r_ctlp tx n k ct p nm c mq kd).1 = nI j ∧ j ≤ ct + (n - p) / 2 := by
  intro k
  induction k with
  | zero => intro ct p nm c mq kd; exact Or.inl rfl
  | succ k ih =>
    intro ct p nm c mq kd
    unfold r_ctlp
    split
    · next h1 =>
      have h2 := cm_ge tx n p nm c mq kd h1
      split
      · next h3 =>
        split
        · next h4 =>
          have h5 := (tk_ge tx n 59 (r_command tx n p nm c mq kd).2.1).2 h4
          rcases ih (ct + 1) (r_take tx n 59 (r_command tx n p nm c mq kd).2.1).2 (r_command tx n p nm c mq kd).2.2.1 (r_command tx n p nm c mq kd).2.2.2.1 (r_command tx n p nm c mq kd).2.2.2.2.1 (r_command tx n p nm c mq kd).2.2.2.2.2 with h | ⟨j, h6, h7⟩
          · exact Or.inl h
          · refine Or.inr ⟨j, h6, ?_⟩
            rw [h5.1] at h7
            omega
        · exact Or.inl rfl
      · exact Or.inr ⟨ct, rfl, by omega⟩
    · exact Or.inl rfl
theorem e_n_le {sv : SV} (hn : sv.2.2.1 ≤ 20) : e_n sv ≤ 11 := by
  rcases ct_le sv.1 sv.2.2.1 60 1 0 sv.2.1 sv.2.2.2.2.1 sv.2.2.2.2.2.1 sv.2.2.2.2.2.2 with h | ⟨j, h, hj⟩
  · have h : (v_ct sv).1 = -1 := h
    unfold e_n
    rw [h]
    decide
  · have h : (v_ct sv).1 = nI j := h
    unfold e_n
    rw [h, nI_clamp (by omega)]
    omega
theorem OKc_exec {m : Nat} {c : CS} {fl : Nat → Int32} {sv : SV} (h : OKc m c) (hn : sv.2.2.1 ≤ 20) : OKc (m + 11) (e_r c fl sv).2.1 := (OKc_lp (e_n sv) m 0 c fl (v_rew (v_cnt sv)) h).mono (by have := e_n_le hn; omega)
/-- the first of the numbers is not touched -/
theorem keep_0 (c : CS) (fl : Nat → Int32) (k : Nat) (i b : Int32) : m_keep c fl k i b 0 = fl 0 := by
  unfold m_keep
  split
  · rw [pk_un (by decide), pk_un (by decide)]
  · rfl
theorem lp_0 : ∀ (m d : Nat) (c : CS) (fl : Nat → Int32) (sv : SV), (e_lp m d c fl sv).2.2.1 0 = fl 0 := by
  intro m
  induction m with
  | zero => intro d c fl sv; rfl
  | succ m ih =>
    intro d c fl sv
    unfold e_lp
    split
    · exact ih _ _ _ _
    · exact keep_0 _ _ _ _ _
theorem e_fl_0 (c : CS) (fl : Nat → Int32) (sv : SV) : e_fl c fl sv 0 = fl 0 := by
  unfold e_fl
  split
  · exact pk_un (by decide)
  · split
    · exact lp_0 _ _ _ _ _
    · rw [pk_un (by decide)]
      exact lp_0 _ _ _ _ _
theorem pS_up {hS : Nat → CS} {hn : Nat} {c : CS} (h : hn < 8) : pS hS hn c = va_up hS hn c := by unfold pS; rw [if_pos h]
theorem pN_up {hn : Nat} (h : hn < 8) : pN hn = hn + 1 := by unfold pN; rw [if_pos h]
def CHp (m : Nat) (c0 : CS) (hS : Nat → CS) (hn : Nat) (fl : Nat → Int32) (r : Int32) (u : CS × (Nat → CS) × Nat × SV × (Nat → Int32)) : Prop :=
  OKc (m + 11) u.1 ∧ SVok u.2.2.2.1 ∧ u.2.2.2.1.2.2.1 = 0 ∧ u.2.2.2.2 0 = fl 0 ∧ ((r = 1 ∧ u.2.1 = va_up hS hn c0 ∧ u.2.2.1 = hn + 1) ∨ (r = 0 ∧ u.1 = c0 ∧ u.2.1 = hS ∧ u.2.2.1 = hn))
theorem CH_1 {m : Nat} {c0 c : CS} {hS : Nat → CS} {hn : Nat} {fl f : Nat → Int32} {sv : SV} (h8 : hn < 8) (h : OKc (m + 11) c) (h1 : SVok sv) (h2 : sv.2.2.1 = 0) (h3 : f 0 = fl 0) : CHp m c0 hS hn fl 1 (c, pS hS hn c0, pN hn, sv, f) := ⟨h, h1, h2, h3, Or.inl ⟨rfl, pS_up h8, pN_up h8⟩⟩
theorem CH_0 {m : Nat} {c0 : CS} {hS : Nat → CS} {hn : Nat} {fl f : Nat → Int32} {sv : SV} (h : OKc m c0) (h1 : SVok sv) (h2 : sv.2.2.1 = 0) (h3 : f 0 = fl 0) : CHp m c0 hS hn fl 0 (c0, hS, hn, sv, f) := ⟨h.mono (by omega), h1, h2, h3, Or.inr ⟨rfl, rfl, rfl, rfl⟩⟩
theorem LW_weak {H : Heap} {D : va_G} {G : GA} {X : Nat → Nat → Nat} {A A2 : Nat → Prop} {h : Nat} {c0 c2 : CS} {hS : Nat → CS} {hn : Nat} {sv : SV} {lab : List Int32} {fl : Nat → Int32} (hW : LW D G X A h c0 c2 hS hn sv lab fl H) (hA : ∀ q, q < H.size → A q → A2 q) : LW D G X A2 h c0 c2 hS hn sv lab fl H := by
  obtain ⟨ad, c1, lv, bs, e, hl, hP, hD⟩ := hW
  exact ⟨ad, c1, lv, bs, e, hl, hP, D_of (D_nodup hD) (fun q hq => hA _ (P_mem hP hq).lt (D_in hD hq))⟩
/-! the two texts -/
def tI (c : Nat) : List Int32 := (strB.getD 23 [] ++ digs c) ++ strB.getD 24 []
def tU (c : Nat) : List Int32 := strB.getD 25 [] ++ digs c
theorem tI_ok : ∀ c, c < 14 → (tI c).length = strL.getD 23 0 + dg c + strL.getD 24 0 ∧ (tI c).length ≤ 20 ∧ ∀ j, j < 20 → j < (tI c).length → ((tI c).getD j 0 &&& 255 = (tI c).getD j 0 ∧ ¬ (tI c).getD j 0 < 32 ∧ (tI c).getD j 0 ≤ 126) := by decide +kernel
theorem tU_ok : ∀ c, c < 14 → (tU c).length = strL.getD 25 0 + dg c ∧ (tU c).length ≤ 20 ∧ ∀ j, j < 20 → j < (tU c).length → ((tU c).getD j 0 &&& 255 = (tU c).getD j 0 ∧ ¬ (tU c).getD j 0 < 32 ∧ (tU c).getD j 0 ≤ 126) := by decide +kernel
