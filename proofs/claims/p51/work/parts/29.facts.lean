/-! FACTS OF THE SPECS -/
theorem fi_found {p : Nat → Bool} {d : Nat} : ∀ (n k j : Nat), k ≤ j → j < k + n → p j = true → fi p d n k ≤ j ∧ p (fi p d n k) = true := by
  intro n
  induction n with
  | zero => intro k j h1 h2; omega
  | succ n ih =>
    intro k j h1 h2 hj
    by_cases h : p k = true
    · rw [fi_hit h]; exact ⟨h1, h⟩
    · have h : p k = false := by simpa using h
      rw [fi_miss h]
      have hne : k ≠ j := fun e => by rw [e, hj] at h; exact absurd h (by decide)
      exact ih (k + 1) j (by omega) (by omega) hj
theorem fi_or {p : Nat → Bool} {d : Nat} : ∀ (n k : Nat), fi p d n k = d ∨ (p (fi p d n k) = true ∧ fi p d n k < k + n) := by
  intro n
  induction n with
  | zero => intro k; exact Or.inl rfl
  | succ n ih =>
    intro k
    by_cases h : p k = true
    · rw [fi_hit h]; exact Or.inr ⟨h, by omega⟩
    · have h : p k = false := by simpa using h
      rw [fi_miss h]
      rcases ih (k + 1) with h1 | ⟨h1, h2⟩
      · exact Or.inl h1
      · exact Or.inr ⟨h1, by omega⟩
theorem cnt_all {p : Nat → Bool} : ∀ n, (∀ k, k < n → p k = true) → cnt p n = n := by
  intro n
  induction n with
  | zero => intro _; rfl
  | succ n ih =>
    intro h
    unfold cnt
    rw [if_pos (h n (by omega)), ih (fun k hk => h k (by omega))]
theorem fr_free {st : CS} (h : s_countItems st < 12) : s_findFree st < 12 := by
  rcases Nat.lt_or_ge (s_findFree st) 12 with h1 | h1
  · exact h1
  · exfalso
    have hall : ∀ k, k < 12 → p_there (itm st k) = true := by
      intro k hk
      cases hp : p_there (itm st k) with
      | true => rfl
      | false =>
        have hq : q_findFree st k = true := by unfold q_findFree; rw [hp]; rfl
        have := (fi_found (p := q_findFree st) (d := 12) 12 0 k (Nat.zero_le k) (by omega) hq).1
        unfold s_findFree at h1
        omega
    have e : cN st = 12 := cnt_all 12 hall
    rw [cN_eq, e] at h
    exact absurd h (by decide)
theorem fr_takeIn {st : CS} {z w v : Int32} (h : f_takeIn st z w v = 0) : s_findFree st < 12 := by
  unfold f_takeIn at h
  split at h
  · exact absurd h (by decide)
  · split at h
    · exact absurd h (by decide)
    · split at h
      · exact absurd h (by decide)
      · split at h
        · exact absurd h (by decide)
        · split at h
          · exact absurd h (by decide)
          · split at h
            · split at h
              · next h9 => exact fr_free h9
              · exact absurd h (by decide)
            · exact absurd h (by decide)
theorem fr_drop {st : CS} {id : Int32} (h : f_drop st id = 0) : s_find st id < 12 := by
  unfold f_drop at h
  split at h
  · next h9 => exact there_lt (s_find_lt st id) h9
  · exact absurd h (by decide)
theorem fr_unload {st : CS} {id : Int32} (h : f_unload st id = 0) : s_find st id < 12 := by
  unfold f_unload at h
  split at h
  · next h9 => exact there_lt (s_find_lt st id) h9
  · exact absurd h (by decide)
theorem fr_load {st : CS} {id b : Int32} (h : f_load st id b = 0) : s_find st id < 12 := by
  unfold f_load at h
  split at h
  · next h9 => exact there_lt (s_find_lt st id) h9
  · exact absurd h (by decide)
/-- at most three bags -/
def BG (st : CS) : Prop := st.2.2 1 = nI (nbg st) ∧ nbg st ≤ 3
theorem BG_of {st st' : CS} (h : BG st) (e : st'.2.2 1 = st.2.2 1) : BG st' := by
  have e2 : nbg st' = nbg st := by unfold nbg; rw [e]
  exact ⟨by rw [e, e2]; exact h.1, by rw [e2]; exact h.2⟩
theorem BG_open {st : CS} (h : BG st) (x : Int32) : BG (m_open st x).2 := by
  unfold m_open
  split
  · exact h
  · next c =>
    have hlt := nbg_lt h.2 c
    have e : (sN (sL st (nbg st) x) 1 ((sL st (nbg st) x).2.2 1 + 1)).2.2 1 = nI (nbg st + 1) := by
      show upd st.2.2 1 (st.2.2 1 + 1) 1 = _
      rw [pk_us, h.1]
      exact nI_1 _
    have e2 : nbg (sN (sL st (nbg st) x) 1 ((sL st (nbg st) x).2.2 1 + 1)) = nbg st + 1 := by
      unfold nbg at e ⊢
      rw [e, nI_clamp (by unfold nbg at hlt; omega)]
    exact ⟨by rw [e2]; exact e, by rw [e2]; omega⟩
theorem put_2 (st : CS) (g : Nat) (b : Int32) : (m_putInto st g b).2 = st.2 := rfl
theorem takeOut_2 (b : Int32) (g : Nat) (e : Bool) : ∀ (n : Nat) (st : CS), (lp (q_takeOut b g e) n st).2 = st.2 := by
  intro n
  induction n with
  | zero => intro st; rfl
  | succ n ih =>
    intro st
    have h : ∀ (k : Nat) (s : CS), (q_takeOut b g e k s).2 = s.2 := by
      intro k s
      unfold q_takeOut
      cases e <;> (dsimp only; repeat' split) <;> rfl
    show (q_takeOut b g e n (lp (q_takeOut b g e) n st)).2 = st.2
    rw [h, ih]
theorem out_2 (st : CS) (g : Nat) : (m_takeOut st g).2 = st.2 := by
  unfold m_takeOut
  dsimp only
  rw [takeOut_2]
  rfl
theorem fill_2 (b : Int32) : ∀ (n : Nat) (r : Int32 × CS), (lp (q_fill b) n r).2.2 = r.2.2 := by
  intro n
  induction n with
  | zero => intro r; rfl
  | succ n ih =>
    intro r
    have h : ∀ (k : Nat) (s : Int32 × CS), (q_fill b k s).2.2 = s.2.2 := by
      intro k s
      unfold q_fill
      split
      · split <;> rfl
      · rfl
    show (q_fill b n (lp (q_fill b) n r)).2.2 = r.2.2
    rw [h, ih]
theorem pI_2 (st : CS) (k j : Nat) (v : Int32) : (pI st k j v).2 = st.2 := rfl
theorem sN_ne {st : CS} {i j : Nat} {v : Int32} (h : j ≠ i) : (sN st i v).2.2 j = st.2.2 j := pk_un h
theorem hand_q (t : Int32) (k : Nat) (r : Int32 × CS) : (q_handOver t k r).2 = r.2 ∨ ∃ v, (q_handOver t k r).2 = sN (pI (m_takeOut r.2 k) k 5 (-2)) 3 v := by
  unfold q_handOver
  split
  · split
    · exact Or.inr ⟨_, rfl⟩
    · exact Or.inl rfl
  · exact Or.inl rfl
theorem lp_s {α : Type} (f : Nat → α → α) (n : Nat) (x : α) : lp f (n + 1) x = f n (lp f n x) := rfl
theorem hand_2 (t : Int32) (i : Nat) (hi : i ≠ 3) : ∀ (n : Nat) (r : Int32 × CS), (lp (q_handOver t) n r).2.2.2 i = r.2.2.2 i := by
  intro n
  induction n with
  | zero => intro r; rfl
  | succ n ih =>
    intro r
    rw [lp_s]
    rcases hand_q t n (lp (q_handOver t) n r) with h | ⟨v, h⟩
    · rw [h, ih]
    · rw [h, sN_ne hi, pI_2, out_2, ih]
theorem m_hand_2 (st : CS) : (m_handOver st).2 = sN (lp (q_handOver (s_lowest st)) 12 (0, st)).2 2 ((lp (q_handOver (s_lowest st)) 12 (0, st)).2.2.2 2 + (lp (q_handOver (s_lowest st)) 12 (0, st)).1) := rfl
theorem BG_take {st : CS} (h : BG st) (z w v : Int32) (b : Bool) : BG (m_takeIn st z w v b).2 := BG_of h rfl
theorem BG_drop {st : CS} (h : BG st) (id : Int32) : BG (m_drop st id).2 := BG_of h rfl
theorem BG_load {st : CS} (h : BG st) (id b : Int32) : BG (m_load st id b).2 := BG_of h rfl
theorem m_unload_2 (st : CS) (id : Int32) : (m_unload st id).2 = m_takeOut st (s_find st id) := by simp only [m_unload]
theorem BG_unload {st : CS} (h : BG st) (id : Int32) : BG (m_unload st id).2 := BG_of h (by rw [m_unload_2, out_2])
theorem m_fill_2 (st : CS) (b : Int32) : (m_fill st b).2 = (lp (q_fill b) (cN st) (0, st)).2 := rfl
theorem BG_fill {st : CS} (h : BG st) (b : Int32) : BG (m_fill st b).2 := BG_of h (by rw [m_fill_2, fill_2])
theorem BG_hand {st : CS} (h : BG st) : BG (m_handOver st).2 := BG_of h (by rw [m_hand_2, sN_ne (by decide), hand_2 _ 1 (by decide)])
/-! THE PROGRAM'S COMMANDS -/
def mkb (mq : Int32) : Bool := if mq = 0 then false else true
theorem mkb_z (mq : Int32) : z01 mq = bi (mkb mq) := by
  unfold z01 mkb
  split <;> rfl
def x_flt (c0 : CS) (a0 a1 a2 : Int32) : Nat → Nat
  | 0 => f_open c0 a0
  | 1 => f_takeIn c0 a0 a1 a2
  | 2 => f_drop c0 a0
  | 3 => f_load c0 a0 a1
  | 4 => f_unload c0 a0
  | 5 => f_fill c0 a0
  | _ => f_handOver c0
def m_run (c0 : CS) (a0 a1 a2 : Int32) (mk : Bool) : Nat → CS
  | 0 => (m_open c0 a0).2
  | 1 => (m_takeIn c0 a0 a1 a2 mk).2
  | 2 => (m_drop c0 a0).2
  | 3 => (m_load c0 a0 a1).2
  | 4 => (m_unload c0 a0).2
  | 5 => (m_fill c0 a0).2
  | _ => (m_handOver c0).2
theorem BG_run {c0 : CS} (h : BG c0) (a0 a1 a2 : Int32) (mk : Bool) (k : Nat) : BG (m_run c0 a0 a1 a2 mk k) := by
  unfold m_run
  split
  · exact BG_open h _
  · exact BG_take h _ _ _ _
  · exact BG_drop h _
  · exact BG_load h _ _
  · exact BG_unload h _
  · exact BG_fill h _
  · exact BG_hand h
abbrev v_num (sv : SV) (i : Nat) : Int32 := r_num sv.2.1 sv.2.2.2.2.1 i
def v_rew (sv : SV) : SV := (sv.1, sv.2.1, sv.2.2.1, 0, sv.2.2.2.2.1, sv.2.2.2.2.2.1, sv.2.2.2.2.2.2)
def v_clr (sv : SV) : SV := (sv.1, sv.2.1, 0, sv.2.2.2.1, sv.2.2.2.2.1, sv.2.2.2.2.2.1, sv.2.2.2.2.2.2)
def v_take (sv : SV) (w : Int32) : SV := (sv.1, sv.2.1, sv.2.2.1, (r_take sv.1 sv.2.2.1 w sv.2.2.2.1).2, sv.2.2.2.2.1, sv.2.2.2.2.2.1, sv.2.2.2.2.2.2)
def v_cm (sv : SV) : Bool × Nat × (Nat → Int32) × Nat × Int32 × Nat := r_command sv.1 sv.2.2.1 sv.2.2.2.1 sv.2.1 sv.2.2.2.2.1 sv.2.2.2.2.2.1 sv.2.2.2.2.2.2
def v_cmd (sv : SV) : SV := (sv.1, (v_cm sv).2.2.1, sv.2.2.1, (v_cm sv).2.1, (v_cm sv).2.2.2.1, (v_cm sv).2.2.2.2.1, (v_cm sv).2.2.2.2.2)
def v_ct (sv : SV) : Int32 × Nat × (Nat → Int32) × Nat × Int32 × Nat := r_count sv.1 sv.2.2.1 sv.2.1 sv.2.2.2.2.1 sv.2.2.2.2.2.1 sv.2.2.2.2.2.2
def v_cnt (sv : SV) : SV := (sv.1, (v_ct sv).2.2.1, sv.2.2.1, (v_ct sv).2.1, (v_ct sv).2.2.2.1, (v_ct sv).2.2.2.2.1, (v_ct sv).2.2.2.2.2)
def SVok (sv : SV) : Prop := sv.2.2.1 ≤ 60 ∧ sv.2.2.2.1 ≤ 60 ∧ sv.2.2.2.2.1 ≤ 3 ∧ sv.2.2.2.2.2.2 < 7
theorem r_clp_k {tx : Nat → Int32} {n start : Nat} : ∀ (k i far p : Nat) (nm : Nat → Int32) (c : Nat) (mq : Int32) (kd : Nat), i + k ≤ 7 → kd < 7 → (r_clp tx n start k i far p nm c mq kd).2.2.2.2.2 < 7 := by
  intro k
  induction k with
  | zero => intro i far p nm c mq kd _ h; exact h
  | succ k ih =>
    intro i far p nm c mq kd hi h
    unfold r_clp
    split
    · show i < 7
      omega
    · exact ih _ _ _ _ _ _ _ (by omega) h
theorem r_command_k {tx : Nat → Int32} {n p : Nat} {nm : Nat → Int32} {c : Nat} {mq : Int32} {kd : Nat} (h : kd < 7) : (r_command tx n p nm c mq kd).2.2.2.2.2 < 7 := r_clp_k 7 0 p p nm c mq kd (Nat.le_refl 7) h
theorem r_ctlp_k {tx : Nat → Int32} {n : Nat} : ∀ (k ct p : Nat) (nm : Nat → Int32) (c : Nat) (mq : Int32) (kd : Nat), kd < 7 → (r_ctlp tx n k ct p nm c mq kd).2.2.2.2.2 < 7 := by
  intro k
  induction k with
  | zero => intro ct p nm c mq kd h; exact h
  | succ k ih =>
    intro ct p nm c mq kd h
    unfold r_ctlp
    have h1 := r_command_k (tx := tx) (n := n) (p := p) (nm := nm) (c := c) (mq := mq) h
    split
    · split
      · split
        · exact ih _ _ _ _ _ _ h1
        · exact h1
      · exact h1
    · exact h1
theorem r_ctlp_n {tx : Nat → Int32} {n : Nat} : ∀ (k ct p : Nat) (nm : Nat → Int32) (c : Nat) (mq : Int32) (kd : Nat), (r_ctlp tx n k ct p nm c mq kd).1 = -1 ∨ ∃ j, ct ≤ j ∧ j < ct + k ∧ (r_ctlp tx n k ct p nm c mq kd).1 = nI j := by
  intro k
  induction k with
  | zero => intro ct p nm c mq kd; exact Or.inl rfl
  | succ k ih =>
    intro ct p nm c mq kd
    unfold r_ctlp
    split
    · split
      · split
        · rcases ih (ct + 1) (r_take tx n 59 (r_command tx n p nm c mq kd).2.1).2 (r_command tx n p nm c mq kd).2.2.1 (r_command tx n p nm c mq kd).2.2.2.1 (r_command tx n p nm c mq kd).2.2.2.2.1 (r_command tx n p nm c mq kd).2.2.2.2.2 with h | ⟨j, h1, h2, h3⟩
          · exact Or.inl h
          · exact Or.inr ⟨j, by omega, by omega, h3⟩
        · exact Or.inl rfl
      · exact Or.inr ⟨ct, Nat.le_refl _, by omega, rfl⟩
    · exact Or.inl rfl
theorem SVok.rew {sv : SV} (h : SVok sv) : SVok (v_rew sv) := ⟨h.1, Nat.zero_le _, h.2.2.1, h.2.2.2⟩
theorem SVok.clr {sv : SV} (h : SVok sv) : SVok (v_clr sv) := ⟨Nat.zero_le _, h.2.1, h.2.2.1, h.2.2.2⟩
theorem SVok.take {sv : SV} (h : SVok sv) (w : Int32) : SVok (v_take sv w) := ⟨h.1, r_take_p h.1 h.2.1, h.2.2.1, h.2.2.2⟩
theorem SVok.cmd {sv : SV} (h : SVok sv) : SVok (v_cmd sv) := ⟨h.1, r_command_p h.1 h.2.1 h.2.2.1, r_command_c h.1 h.2.1 h.2.2.1, r_command_k h.2.2.2⟩
theorem SVok.cnt {sv : SV} (h : SVok sv) : SVok (v_cnt sv) := ⟨h.1, (r_ctlp_pc h.1 60 1 0 _ _ _ _ (Nat.zero_le _) h.2.2.1).1, (r_ctlp_pc h.1 60 1 0 _ _ _ _ (Nat.zero_le _) h.2.2.1).2, r_ctlp_k 60 1 0 _ _ _ _ h.2.2.2⟩
theorem v_ct_or (sv : SV) : (v_ct sv).1 = -1 ∨ ∃ j, 1 ≤ j ∧ j ≤ 60 ∧ (v_ct sv).1 = nI j := by
  rcases r_ctlp_n (tx := sv.1) (n := sv.2.2.1) 60 1 0 sv.2.1 sv.2.2.2.2.1 sv.2.2.2.2.2.1 sv.2.2.2.2.2.2 with h | ⟨j, h1, h2, h3⟩
  · exact Or.inl h
  · exact Or.inr ⟨j, h1, by omega, h3⟩
def e_flt (c0 : CS) (sv : SV) : Nat := x_flt c0 (v_num sv 0) (v_num sv 1) (v_num sv 2) sv.2.2.2.2.2.2
def e_run (c0 : CS) (sv : SV) : CS := m_run c0 (v_num sv 0) (v_num sv 1) (v_num sv 2) (mkb sv.2.2.2.2.2.1) sv.2.2.2.2.2.2
def e_lp : Nat → Nat → CS → (Nat → Int32) → SV → Nat × CS × (Nat → Int32) × SV
  | 0, d, c0, fl, sv => (d, c0, fl, sv)
  | m + 1, d, c0, fl, sv => if e_flt c0 (v_cmd sv) = 0 then e_lp m (d + 1) (e_run c0 (v_cmd sv)) fl (v_take (v_cmd sv) 59) else (d, c0, m_keep c0 fl (e_flt c0 (v_cmd sv)) (v_num (v_cmd sv) 0) (v_num (v_cmd sv) 1), v_cmd sv)
theorem e_lp_ok : ∀ (m d : Nat) (c0 : CS) (fl : Nat → Int32) (sv : SV), SVok sv → SVok (e_lp m d c0 fl sv).2.2.2 ∧ d ≤ (e_lp m d c0 fl sv).1 ∧ (e_lp m d c0 fl sv).1 ≤ d + m := by
  intro m
  induction m with
  | zero => intro d c0 fl sv h; exact ⟨h, Nat.le_refl _, Nat.le_refl _⟩
  | succ m ih =>
    intro d c0 fl sv h
    unfold e_lp
    split
    · obtain ⟨i1, i2, i3⟩ := ih (d + 1) (e_run c0 (v_cmd sv)) fl (v_take (v_cmd sv) 59) (h.cmd.take 59)
      exact ⟨i1, by omega, by omega⟩
    · exact ⟨h.cmd, Nat.le_refl _, by show d ≤ _; omega⟩
theorem BG_lp : ∀ (m d : Nat) (c0 : CS) (fl : Nat → Int32) (sv : SV), BG c0 → BG (e_lp m d c0 fl sv).2.1 := by
  intro m
  induction m with
  | zero => intro d c0 fl sv h; exact h
  | succ m ih =>
    intro d c0 fl sv h
    unfold e_lp
    split
    · exact ih _ _ _ _ (BG_run h _ _ _ _ _)
    · exact h
theorem x_flt_lt (c0 : CS) (a0 a1 a2 : Int32) (k : Nat) : x_flt c0 a0 a1 a2 k < 6 := by
  unfold x_flt
  split
  · exact f_open_lt _ _
  · exact f_takeIn_lt _ _ _ _
  · exact f_drop_lt _ _
  · exact f_load_lt _ _ _
  · exact f_unload_lt _ _
  · exact f_fill_lt _ _
  · exact f_handOver_lt _
/-- what a program's end is: the count, then where it stops -/
abbrev e_n (sv : SV) : Nat := (v_ct sv).1.toNatClampNeg
abbrev e_r (c0 : CS) (fl : Nat → Int32) (sv : SV) : Nat × CS × (Nat → Int32) × SV := e_lp (e_n sv) 0 c0 fl (v_rew (v_cnt sv))
def x_exec (c0 : CS) (fl : Nat → Int32) (sv : SV) : Nat := if (v_ct sv).1 = -1 then 1 else if (v_ct sv).1 ≤ nI (e_r c0 fl sv).1 then 0 else 4
def e_sv (c0 : CS) (fl : Nat → Int32) (sv : SV) : SV := if (v_ct sv).1 = -1 then v_clr (v_cnt sv) else v_clr (e_r c0 fl sv).2.2.2
def e_fl (c0 : CS) (fl : Nat → Int32) (sv : SV) : Nat → Int32 := if (v_ct sv).1 = -1 then upd fl 3 (nI (v_cnt sv).2.2.2.1) else if (v_ct sv).1 ≤ nI (e_r c0 fl sv).1 then (e_r c0 fl sv).2.2.1 else upd (e_r c0 fl sv).2.2.1 4 (nI (e_r c0 fl sv).1)
def e_c1 (c0 c1 : CS) (sv : SV) : CS := if (v_ct sv).1 = -1 then c1 else c0
theorem SVok_e {c0 : CS} {fl : Nat → Int32} {sv : SV} (h : SVok sv) : SVok (e_sv c0 fl sv) ∧ (e_sv c0 fl sv).2.2.1 = 0 := by
  unfold e_sv
  split
  · exact ⟨h.cnt.clr, rfl⟩
  · exact ⟨(e_lp_ok _ _ _ _ _ h.cnt.rew).1.clr, rfl⟩
/-- two blocks changed by one callee -/
theorem P_rep2 {D : va_G} {cl : List vw_C} {A : Nat → Prop} {BL : List va_W} {H H1 : Heap} {i j : Nat} {C C1 E E1 : va_W} (hP : va_P D cl BL.flatten H) (hD : va_D A BL.flatten) (hi : BL[i]? = some C) (hj : BL[j]? = some E) (hij : i ≠ j) (hkeep : ∀ q : Nat, q < H.size → ¬ va_A (C ++ E) H.size q → H1[q]? = H[q]?) (hP1 : va_P D cl (C1 ++ E1) H1) : va_P D cl ((BL.set i C1).set j E1).flatten H1 := by
  refine P_of (fun q hq => ?_)
  obtain ⟨F, hF, hqF⟩ := List.mem_flatten.mp hq
  obtain ⟨k, hk⟩ := List.getElem?_of_mem hF
  have hjl := (List.getElem?_eq_some_iff.mp hj).1
  have hil := (List.getElem?_eq_some_iff.mp hi).1
  by_cases hkj : k = j
  · subst hkj
    rw [List.getElem?_set_self (by rw [List.length_set]; exact hjl)] at hk
    cases hk
    exact P_mem hP1 (List.mem_append_right _ hqF)
  · rw [List.getElem?_set_ne (Ne.symm hkj)] at hk
    by_cases hki : k = i
    · subst hki
      rw [List.getElem?_set_self hil] at hk
      cases hk
      exact P_mem hP1 (List.mem_append_left _ hqF)
    · rw [List.getElem?_set_ne (Ne.symm hki)] at hk
      have h1 := P_mem (P_blk hP hk) hqF
      refine h1.kept (hkeep q.1 h1.lt (fun h => ?_))
      rcases A_mem h with ⟨p, hp, e⟩ | h
      · rcases List.mem_append.mp hp with hp | hp
        · exact dj_blk hD hi hk (Ne.symm hki) p hp q hqF e
        · exact dj_blk hD hj hk (Ne.symm hkj) p hp q hqF e
      · have := h1.lt
        omega
theorem fl_app (BL : List va_W) (C : va_W) : (BL ++ [C]).flatten = BL.flatten ++ C := by simp
