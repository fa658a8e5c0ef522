/-! RANKS: each rank below the count is an item's -/
theorem bf_iff (f g : Nat → Int32) : p_before f g = true ↔ ((g 3).toInt < (f 3).toInt ∨ ((f 3).toInt = (g 3).toInt ∧ ((g 2).toInt < (f 2).toInt ∨ ((f 2).toInt = (g 2).toInt ∧ (f 0).toInt < (g 0).toInt)))) := by
  unfold p_before
  by_cases h3 : f 3 = g 3
  · rw [if_pos h3, h3]
    by_cases h2 : f 2 = g 2
    · rw [if_pos h2, h2]
      by_cases h0 : g 0 ≤ f 0
      · rw [if_pos h0]
        have := Int32.le_iff_toInt_le.mp h0
        refine ⟨fun h => absurd h (by decide), fun h => ?_⟩
        omega
      · rw [if_neg h0]
        have : ¬ (g 0).toInt ≤ (f 0).toInt := fun h => h0 (Int32.le_iff_toInt_le.mpr h)
        exact ⟨fun _ => by omega, fun _ => rfl⟩
    · rw [if_neg h2]
      have hne : (f 2).toInt ≠ (g 2).toInt := fun e => h2 (Int32.toInt_inj.mp e)
      by_cases h0 : f 2 ≤ g 2
      · rw [if_pos h0]
        have := Int32.le_iff_toInt_le.mp h0
        refine ⟨fun h => absurd h (by decide), fun h => ?_⟩
        omega
      · rw [if_neg h0]
        have : ¬ (f 2).toInt ≤ (g 2).toInt := fun h => h0 (Int32.le_iff_toInt_le.mpr h)
        exact ⟨fun _ => by omega, fun _ => rfl⟩
  · rw [if_neg h3]
    have hne : (f 3).toInt ≠ (g 3).toInt := fun e => h3 (Int32.toInt_inj.mp e)
    by_cases h0 : f 3 ≤ g 3
    · rw [if_pos h0]
      have := Int32.le_iff_toInt_le.mp h0
      refine ⟨fun h => absurd h (by decide), fun h => ?_⟩
      omega
    · rw [if_neg h0]
      have : ¬ (f 3).toInt ≤ (g 3).toInt := fun h => h0 (Int32.le_iff_toInt_le.mpr h)
      exact ⟨fun _ => by omega, fun _ => rfl⟩
def rkp (c : CS) (k j : Nat) : Bool := if p_there (itm c j) = true then p_before (itm c j) (itm c k) else false
def rk (c : CS) (k : Nat) : Nat := cnt (rkp c k) 12
theorem cnt_s (p : Nat → Bool) (n : Nat) : cnt p (n + 1) = if p n = true then cnt p n + 1 else cnt p n := rfl
theorem rk_eq (c : CS) (k : Nat) : s_rankOf c k = nI (rk c k) := by
  have key : ∀ n, lp (q_rankOf c k) n 0 = nI (cnt (rkp c k) n) := by
    intro n
    induction n with
    | zero => rfl
    | succ n ih =>
      rw [lp_s, ih, cnt_s]
      unfold q_rankOf
      by_cases h1 : p_there (itm c n) = true
      · have e : rkp c k n = p_before (itm c n) (itm c k) := by unfold rkp; rw [if_pos h1]
        rw [if_pos h1, e]
        by_cases h2 : p_before (itm c n) (itm c k) = true
        · rw [if_pos h2, if_pos h2]; exact nI_1 _
        · rw [if_neg h2, if_neg h2]
      · have e : rkp c k n = false := by unfold rkp; rw [if_neg h1]
        rw [if_neg h1, e, if_neg (by decide)]
  exact key 12
theorem cnt_lt {p q : Nat → Bool} : ∀ n, (∀ i, i < n → p i = true → q i = true) → cnt p n ≤ cnt q n ∧ ∀ i, i < n → p i = false → q i = true → cnt p n < cnt q n := by
  intro n
  induction n with
  | zero => intro _; exact ⟨Nat.le_refl _, fun i h => absurd h (Nat.not_lt_zero i)⟩
  | succ n ih =>
    intro h
    obtain ⟨i1, i2⟩ := ih (fun i hi => h i (by omega))
    have hn := h n (by omega)
    refine ⟨?_, fun i hi hp hq => ?_⟩
    · unfold cnt
      by_cases a : p n = true
      · rw [if_pos a, if_pos (hn a)]; omega
      · rw [if_neg a]; split <;> omega
    · unfold cnt
      by_cases e : i = n
      · subst e
        rw [hp, hq, if_neg (by decide), if_pos rfl]
        omega
      · have := i2 i (by omega) hp hq
        by_cases a : p n = true
        · rw [if_pos a, if_pos (hn a)]; omega
        · rw [if_neg a]; split <;> omega
theorem rk_lt {c : CS} {k : Nat} (hk : k < 12) (ht : p_there (itm c k) = true) : rk c k < cN c := by
  refine (cnt_lt 12 (fun i _ h => ?_)).2 k hk ?_ ht
  · unfold rkp at h
    split at h
    · assumption
    · exact absurd h (by decide)
  · cases e : rkp c k k with
    | false => rfl
    | true =>
      unfold rkp at e
      rw [if_pos ht, bf_iff] at e
      omega
theorem rk_mono {c : CS} {j k : Nat} (hj : j < 12) (ht : p_there (itm c j) = true) (hb : p_before (itm c j) (itm c k) = true) : rk c j < rk c k := by
  refine (cnt_lt 12 (fun i _ h => ?_)).2 j hj ?_ ?_
  · unfold rkp at h ⊢
    split at h
    · next h1 =>
      rw [if_pos h1]
      rw [bf_iff] at h hb ⊢
      omega
    · exact absurd h (by decide)
  · cases e : rkp c j j with
    | false => rfl
    | true =>
      unfold rkp at e
      rw [if_pos ht, bf_iff] at e
      omega
  · unfold rkp
    rw [if_pos ht]
    exact hb
theorem rk_ne {c : CS} {j k : Nat} (hj : j < 12) (hk : k < 12) (htj : p_there (itm c j) = true) (htk : p_there (itm c k) = true) (hid : itm c j 0 ≠ itm c k 0) : rk c j ≠ rk c k := by
  have hne : (itm c j 0).toInt ≠ (itm c k 0).toInt := fun e => hid (Int32.toInt_inj.mp e)
  by_cases h : p_before (itm c j) (itm c k) = true
  · have := rk_mono hj htj h
    omega
  · have h2 : p_before (itm c k) (itm c j) = true := by
      rw [bf_iff] at h ⊢
      omega
    have := rk_mono hk htk h2
    omega
theorem cnt_fb (p : Nat → Bool) : ∀ n, cnt p n = fb_ct p n := by
  intro n
  induction n with
  | zero => rfl
  | succ n ih =>
    rw [fb_ct_succ, ← ih, cnt_s]
    split <;> rfl
theorem rank_ex {m : Nat} {c : CS} (h : MKc m c) {r : Nat} (hr : r < cN c) : ∃ k, k < 12 ∧ p_there (itm c k) = true ∧ rk c k = r := by
  have e : cN c = fb_ct (fun k => p_there (itm c k)) 12 := cnt_fb _ 12
  have h1 : ∀ i : Nat, ∃ k : Nat, i < cN c → (k < 12 ∧ p_there (itm c k) = true ∧ fb_ct (fun k => p_there (itm c k)) k = i) := by
    intro i
    by_cases hi : i < cN c
    · rw [e] at hi
      obtain ⟨k, a, b, d⟩ := fb_ct_kth hi
      exact ⟨k, fun _ => ⟨a, b, d⟩⟩
    · exact ⟨0, fun h9 => absurd h9 hi⟩
  obtain ⟨g, hg⟩ := Classical.axiomOfChoice h1
  obtain ⟨i, hi, e2⟩ := fb_onto (n := cN c) (f := fun i => rk c (g i)) (fun i hi => rk_lt (hg i hi).1 (hg i hi).2.1) (fun i j hij hj => by
    obtain ⟨a1, a2, a3⟩ := hg i (by omega)
    obtain ⟨b1, b2, b3⟩ := hg j hj
    refine rk_ne a1 b1 a2 b2 (fun e9 => ?_)
    have := h.2.2.2.1 _ _ a1 b1 a2 b2 e9
    rw [this] at a3
    omega) hr
  exact ⟨g i, (hg i hi).1, (hg i hi).2.1, e2⟩
theorem rank_in {m : Nat} {c : CS} (h : MKc m c) {r : Nat} (hr : r < cN c) : x_rank c (nI r) = 0 ∧ p_there (itm c (s_findRank c (nI r))) = true ∧ s_findRank c (nI r) < 12 := by
  obtain ⟨k, a, b, d⟩ := rank_ex h hr
  have hq : q_findRank c (nI r) k = true := by
    unfold q_findRank
    rw [if_pos b, rk_eq, d, if_pos rfl]
  obtain ⟨h1, h2⟩ := fi_found (p := q_findRank c (nI r)) (d := 12) 12 0 k (Nat.zero_le k) (by omega) hq
  have h2 : q_findRank c (nI r) (s_findRank c (nI r)) = true := h2
  have h1 : s_findRank c (nI r) ≤ k := h1
  have h3 : p_there (itm c (s_findRank c (nI r))) = true := by
    unfold q_findRank at h2
    split at h2
    · assumption
    · exact absurd h2 (by decide)
  exact ⟨by unfold x_rank; rw [if_pos h3], h3, by omega⟩
theorem rank_out {c : CS} {i : Int32} (h : ∀ k, k < 12 → p_there (itm c k) = true → nI (rk c k) ≠ i) : x_rank c i = 3 := by
  have e : s_findRank c i = 12 := by
    rcases fi_or (p := q_findRank c i) (d := 12) 12 0 with e | ⟨e, hlt⟩
    · exact e
    · exfalso
      have hlt : s_findRank c i < 12 := by unfold s_findRank; omega
      have e : q_findRank c i (s_findRank c i) = true := e
      generalize s_findRank c i = g at hlt e
      unfold q_findRank at e
      split at e
      · next h1 =>
        split at e
        · next h2 => exact h _ hlt h1 (by rw [← rk_eq]; exact h2)
        · exact absurd e (by decide)
      · exact absurd e (by decide)
  unfold x_rank
  rw [e, itm_12, if_neg (by decide)]
theorem rank_n (c : CS) : x_rank c (nI (cN c)) = 3 := rank_out (fun k hk ht e => by
  have h1 := rk_lt hk ht
  have h2 := cN_le c
  have := (nI_eq (by omega) (by omega)).mp e
  omega)
theorem rank_m1 (c : CS) : x_rank c (-1) = 3 := rank_out (fun k hk ht => nI_nn (by have := rk_lt hk ht; have := cN_le c; omega) (by decide))
