/-! WHAT IS THROWN, AND WHERE -/
theorem noid {c : CS} (h : MKc 11 c) {x : Int32} (hx : ∀ i, i < 11 → nI i ≠ x) : s_find c x = 12 := find_not (fun k hk ht e => by
  obtain ⟨-, ⟨i, hi, ei⟩, -⟩ := (h.2.2.1 k hk).2 ht
  exact hx i hi (ei.symm.trans e))
theorem nf_99 : ∀ i, i < 11 → nI i ≠ 99 := by decide
theorem nf_m1 : ∀ i, i < 11 → nI i ≠ -1 := by decide
theorem nf_item {c : CS} {x : Int32} (h : s_find c x = 12) : x_item c x = 2 := by unfold x_item; rw [h, itm_12, if_neg (by decide)]
theorem nf_packed {c : CS} {x : Int32} (h : s_find c x = 12) : x_packed c x = 2 := by unfold x_packed; rw [h, itm_12, if_neg (by decide)]
theorem nf_drop {c : CS} {x : Int32} (h : s_find c x = 12) : f_drop c x = 2 := by unfold f_drop; rw [h, itm_12, if_neg (by decide)]
theorem nf_load {c : CS} {x b : Int32} (h : s_find c x = 12) : f_load c x b = 2 := by unfold f_load; rw [h, itm_12, if_neg (by decide)]
theorem nf_unload {c : CS} {x : Int32} (h : s_find c x = 12) : f_unload c x = 2 := by unfold f_unload; rw [h, itm_12, if_neg (by decide)]
theorem nf_can {c : CS} {x b : Int32} (h : s_find c x = 12) : x_canPack c x b = 2 := by unfold x_canPack; rw [nf_item h, if_neg (by decide)]
theorem nb_n {c : CS} (hB : BG c) : s_hasBag c (nI (nbg c)) = false := by
  have h3 := hB.2
  unfold s_hasBag
  rw [if_neg (nI_pos (by omega)), hB.1, if_pos (nI_le (Nat.le_refl _) (by omega))]
theorem nb_9 {c : CS} (hB : BG c) : s_hasBag c 9 = false := by
  have h3 := hB.2
  unfold s_hasBag
  rw [if_neg (by decide), hB.1, if_pos (show nI (nbg c) ≤ 9 from nI_le (b := 9) (by omega) (by decide))]
theorem nb_m1 (c : CS) : s_hasBag c (-1) = false := by unfold s_hasBag; rw [if_pos (by decide)]
theorem nb_bag {c : CS} {b : Int32} (h : s_hasBag c b = false) : x_bag c b = 3 := by unfold x_bag; rw [h]; rfl
theorem nb_fill {c : CS} {b : Int32} (h : s_hasBag c b = false) : f_fill c b = 3 := by unfold f_fill; rw [h]; rfl
theorem nb_layer {c : CS} {b w : Int32} (h : s_hasBag c b = false) : x_layer c b w = 3 := by unfold x_layer; rw [nb_bag h, if_neg (by decide)]
theorem nb_place {c : CS} {b w i : Int32} (h : s_hasBag c b = false) : x_place c b w i = 3 := by unfold x_place; rw [nb_layer h, if_neg (by decide)]
theorem ly_top {c : CS} (hB : BG c) {k : Nat} (hk : k < nbg c) (hL : LYok c) : x_layer c (nI k) (nI (cLy c (nI k))) = 3 := by
  obtain ⟨e, h5⟩ := cLy_ok hL (nI k)
  unfold x_layer
  rw [if_pos (x_bag_in hB hk), if_neg (nI_pos (by omega)), e, if_neg (nI_nlt (Nat.le_refl _) (by omega))]
theorem ly_neg {c : CS} (hB : BG c) {k : Nat} (hk : k < nbg c) : x_layer c (nI k) (-1) = 3 := by
  unfold x_layer
  rw [if_pos (x_bag_in hB hk), if_pos (by decide)]
theorem pl_top {c : CS} {b w i : Int32} (h : x_layer c b w = 3) : x_place c b w i = 3 := by unfold x_place; rw [h, if_neg (by decide)]
theorem pl_out {c : CS} (h : MKc 11 c) {k : Nat} (hk : k < nbg c) (hL : 0 < cLy c (nI k)) {i : Int32} (hi : ∀ p, p ≤ 9 → nI p ≠ i) : x_place c (nI k) 0 i = 2 := by
  have e : s_findPlace c (nI k) 0 i = 12 := by
    rcases fi_or (p := q_findPlace c (nI k) 0 i) (d := 12) 12 0 with e | ⟨e, hlt⟩
    · exact e
    · exfalso
      have hlt : s_findPlace c (nI k) 0 i < 12 := by unfold s_findPlace; omega
      have e : q_findPlace c (nI k) 0 i (s_findPlace c (nI k) 0 i) = true := e
      generalize s_findPlace c (nI k) 0 i = g at hlt e
      unfold q_findPlace at e
      split at e
      · split at e
        · split at e
          · next h3 =>
            obtain ⟨p, hp, ep⟩ := (h.2.2.1 g hlt).1
            exact hi p hp (ep.symm.trans h3)
          · exact absurd e (by decide)
        · exact absurd e (by decide)
      · exact absurd e (by decide)
  obtain ⟨e5, h5⟩ := cLy_ok h.1.ly (nI k)
  have hl : x_layer c (nI k) 0 = 0 := by
    unfold x_layer
    rw [if_pos (x_bag_in h.1.1 hk), if_neg (by decide), e5, if_pos (show (0 : Int32) < nI (cLy c (nI k)) from nI_lt (a := 0) hL (by omega))]
  unfold x_place
  rw [if_pos hl, e, itm_12, if_neg (by decide)]
theorem pp_m1 : ∀ p, p ≤ 9 → nI p ≠ -1 := fun p hp => nI_nn (by omega) (by decide)
theorem pp_10 : ∀ p, p ≤ 9 → nI p ≠ 10 := fun p hp e => by
  have := (nI_eq (a := p) (b := 10) (by omega) (by decide)).mp e
  omega
theorem lab_90 {lab : List Int32} (h : lab.length ≤ 90) : x_lab lab 90 = 3 := by
  unfold x_lab
  rw [if_neg (by decide), if_neg (show ¬ (90 : Int32) < nI lab.length from nI_nlt (a := 90) h (by decide))]
theorem lab_m1 (lab : List Int32) : x_lab lab (-1) = 3 := by unfold x_lab; rw [if_pos (by decide)]
theorem nx_0 {c : CS} (h : s_hasPacked c = true) : x_next c = 0 := by unfold x_next; rw [if_pos h]
theorem nx_2 {c : CS} (h : ¬ s_hasPacked c = true) : x_next c = 2 ∧ f_handOver c = 4 := by unfold x_next f_handOver; rw [if_neg h, if_neg h]; exact ⟨rfl, rfl⟩
theorem inbag_there {f : Nat → Int32} (h : p_inbag f = true) : p_there f = true := there_of (fun e => by
  unfold p_inbag at h
  rw [e, if_pos (by decide)] at h
  exact absurd h (by decide))
theorem low_pos {c : CS} (h : MKc 11 c) : ∃ t, 1 ≤ t ∧ t ≤ 30 ∧ s_lowest c = nI t := by
  have key : ∀ n, n ≤ 12 → ∃ t, 1 ≤ t ∧ t ≤ 30 ∧ lp (q_lowest c) n 30 = nI t := by
    intro n
    induction n with
    | zero => intro _; exact ⟨30, by omega, by omega, rfl⟩
    | succ n ih =>
      intro hn
      obtain ⟨t, h1, h2, e⟩ := ih (by omega)
      rw [lp_s, e]
      unfold q_lowest
      by_cases hb : p_inbag (itm c n) = true
      · rw [if_pos hb]
        obtain ⟨⟨t', h3, h4, e'⟩, -⟩ := (h.2.2.1 n (by omega)).2 (inbag_there hb)
        split
        · exact ⟨t', h3, h4, e'⟩
        · exact ⟨t, h1, h2, rfl⟩
      · rw [if_neg hb]
        exact ⟨t, h1, h2, rfl⟩
  exact key 12 (Nat.le_refl 12)
/-! one item, found -/
theorem it_load_m {c : CS} {id b : Int32} (ht : p_there (itm c (s_find c id)) = true) (hb : s_hasBag c b = false) : f_load c id b = 3 := by unfold f_load; rw [if_pos ht, hb]; rfl
theorem it_item {c : CS} {id : Int32} (ht : p_there (itm c (s_find c id)) = true) : x_item c id = 0 := by unfold x_item; rw [if_pos ht]
theorem it_can3 {c : CS} {id b : Int32} (ht : p_there (itm c (s_find c id)) = true) (hb : s_hasBag c b = false) : x_canPack c id b = 3 := by
  unfold x_canPack
  rw [if_pos (it_item ht), nb_bag hb, if_neg (by decide)]
theorem it_can0 {c : CS} {id b : Int32} (ht : p_there (itm c (s_find c id)) = true) (hb : s_hasBag c b = true) : x_canPack c id b = 0 := by
  unfold x_canPack
  have e : x_bag c b = 0 := by unfold x_bag; rw [if_pos hb]
  rw [if_pos (it_item ht), if_pos e]
theorem it_drop4 {c : CS} {id : Int32} (ht : p_there (itm c (s_find c id)) = true) (hi : p_inbag (itm c (s_find c id)) = true) : f_drop c id = 4 := by unfold f_drop; rw [if_pos ht, if_pos hi]
theorem it_load4 {c : CS} {id b : Int32} (ht : p_there (itm c (s_find c id)) = true) (hi : p_inbag (itm c (s_find c id)) = true) (hb : s_hasBag c b = true) : f_load c id b = 4 := by unfold f_load; rw [if_pos ht, if_pos hb, if_pos hi]
theorem it_canF {c : CS} {id b : Int32} (h : f_load c id b ≠ 0) : s_canPack c id b = false := by unfold s_canPack; rw [if_neg h]
theorem it_packed0 {c : CS} {id : Int32} (hi : p_inbag (itm c (s_find c id)) = true) : x_packed c id = 0 := by unfold x_packed; rw [if_pos hi]
theorem it_packed2 {c : CS} {id : Int32} (hi : p_inbag (itm c (s_find c id)) = false) : x_packed c id = 2 := by unfold x_packed; rw [hi]; rfl
theorem it_unload4 {c : CS} {id : Int32} (ht : p_there (itm c (s_find c id)) = true) (hi : p_inbag (itm c (s_find c id)) = false) : f_unload c id = 4 := by unfold f_unload; rw [if_pos ht, hi]; rfl
theorem it_unloadL {m : Nat} {c : CS} (h : OKc m c) {id : Int32} (ht : p_there (itm c (s_find c id)) = true) (hi : p_inbag (itm c (s_find c id)) = true) (hg : ¬ sel (x_bag c (itm c (s_find c id) 5)) (s_countLayers c (itm c (s_find c id) 5)) (-1001) - 1 ≤ itm c (s_find c id) 6) : f_unload c id = 4 := by
  unfold f_unload
  rw [if_pos ht, if_pos hi]
  rcases rg_x_bag c (itm c (s_find c id) 5) with e | e
  · rw [sel_0 e] at hg
    rw [if_neg ?_]
    intro e9
    rw [e9] at hg
    exact hg (Int32.le_refl _)
  · rw [sel_n (by rw [e]; decide)] at hg
    obtain ⟨w, hw, ew⟩ := (h.2.2 _ (s_find_lt c id)).2
    exfalso
    apply hg
    rw [ew]
    have h1 : (-1001 : Int32) - 1 < 0 := by decide
    have h2 := nI_pos' (n := w) (by omega)
    rw [Int32.le_iff_toInt_le] at h2 ⊢
    rw [Int32.lt_iff_toInt_lt] at h1
    omega
theorem it_load5 {c : CS} {id b : Int32} (ht : p_there (itm c (s_find c id)) = true) (hb : s_hasBag c b = true) (hi : p_inbag (itm c (s_find c id)) = false) (hc : s_canPack c id b = false) : f_load c id b = 5 := by
  have h0 : f_load c id b ≠ 0 := fun e => by unfold s_canPack at hc; rw [if_pos e] at hc; exact absurd hc (by decide)
  unfold f_load at h0 ⊢
  rw [if_pos ht, if_pos hb, hi] at h0 ⊢
  rw [if_neg (by decide)] at h0 ⊢
  split at h0
  · exact absurd rfl h0
  · next h1 => rw [if_neg h1]
/-- a refusal's reason -/
theorem rf_cases {c : CS} {id b : Int32} (h : f_load c id b = 5) : (s_refusal c (s_find c id) b = 1 ∧ ¬ itm c (s_find c id) 2 ≤ s_roomIn c b) ∨ ((s_refusal c (s_find c id) b = 2 ∨ s_refusal c (s_find c id) b = 3 ∨ s_refusal c (s_find c id) b = 4) ∧ itm c (s_find c id) 2 ≤ s_roomIn c b) := by
  have h0 : s_refusal c (s_find c id) b ≠ 0 := by
    intro e
    unfold f_load at h
    split at h
    · split at h
      · split at h
        · exact absurd h (by decide)
        · first | exact absurd h (by decide) | (rw [if_pos e] at h; exact absurd h (by decide))
      · exact absurd h (by decide)
    · exact absurd h (by decide)
  unfold s_refusal at h0 ⊢
  by_cases h1 : itm c (s_find c id) 2 ≤ s_roomIn c b
  · right
    rw [if_pos h1] at h0 ⊢
    refine ⟨?_, h1⟩
    split at h0
    · next h2 =>
      rw [if_pos h2]
      split at h0
      · next h3 => rw [if_pos h3]; exact Or.inr (Or.inl rfl)
      · next h3 =>
        rw [if_neg h3]
        split at h0
        · next h4 => rw [if_pos h4]; exact Or.inr (Or.inr rfl)
        · exact absurd rfl h0
    · next h2 => rw [if_neg h2]; exact Or.inl rfl
  · left
    rw [if_neg h1]
    exact ⟨rfl, h1⟩
theorem keep_1 {c : CS} {fl : Nat → Int32} {i b : Int32} : m_keep c fl 5 i b 1 = s_refusal c (s_find c i) b := by
  unfold m_keep
  rw [if_pos rfl, pk_un (by decide), pk_us]
theorem keep_2 {c : CS} {fl : Nat → Int32} {i b : Int32} : m_keep c fl 5 i b 2 = i := by
  unfold m_keep
  rw [if_pos rfl, pk_us]
theorem keep_x {c : CS} {fl : Nat → Int32} {i b : Int32} (h : s_refusal c (s_find c i) b ≠ 0) : x_reason (m_keep c fl 5 i b) = 0 := by
  unfold x_reason
  rw [keep_1, if_neg h]
/-! the three programs -/
def tQ : List Int32 := [113]
def tF : List Int32 := [102, 105, 108, 108, 32, 48, 59, 100, 114, 111, 112, 32, 57, 57]
def tN : List Int32 := [102, 105, 108, 108, 32, 57]
def svQ : SV := v_clr (v_cnt (v_tyL sv0 tQ))
def svF1 : SV := v_cmd (v_rew (v_cnt (v_tyL svQ tF)))
def svF2 : SV := v_cmd (v_take svF1 59)
def svF : SV := v_clr svF2
def svN1 : SV := v_cmd (v_rew (v_cnt (v_tyL svF tN)))
def svN : SV := v_clr svN1
theorem eQ : (v_ct (v_tyL sv0 tQ)).1 = -1 ∧ (v_cnt (v_tyL sv0 tQ)).2.2.2.1 = 0 := by decide +kernel
theorem eF : (v_ct (v_tyL svQ tF)).1 = 2 ∧ svF1.2.2.2.2.2.2 = 5 ∧ v_num svF1 0 = 0 ∧ svF2.2.2.2.2.2.2 = 2 ∧ v_num svF2 0 = 99 := by decide +kernel
theorem eN : (v_ct (v_tyL svF tN)).1 = 1 ∧ svN1.2.2.2.2.2.2 = 5 ∧ v_num svN1 0 = 9 := by decide +kernel
theorem sv0_ok : SVok sv0 ∧ sv0.2.2.1 = 0 := ⟨⟨by decide, by decide, by decide, by decide⟩, rfl⟩
theorem svQ_ok : SVok svQ ∧ svQ.2.2.1 = 0 := ⟨(ty_ok sv0_ok.1 sv0_ok.2 1 (by decide)).1.cnt.clr, rfl⟩
theorem svF_ok : SVok svF ∧ svF.2.2.1 = 0 := ⟨((((ty_ok svQ_ok.1 svQ_ok.2 14 (by decide)).1.cnt.rew).cmd.take 59).cmd).clr, rfl⟩
theorem svN_ok : SVok svN ∧ svN.2.2.1 = 0 := ⟨(((ty_ok svF_ok.1 svF_ok.2 6 (by decide)).1.cnt.rew).cmd).clr, rfl⟩
theorem e_lp_0 {m d : Nat} {c : CS} {fl : Nat → Int32} {sv : SV} (h : e_flt c (v_cmd sv) = 0) : e_lp (m + 1) d c fl sv = e_lp m (d + 1) (e_run c (v_cmd sv)) fl (v_take (v_cmd sv) 59) := by
  show (if e_flt c (v_cmd sv) = 0 then _ else _) = _
  rw [if_pos h]
theorem e_lp_n {m d k : Nat} {c : CS} {fl : Nat → Int32} {sv : SV} (h : e_flt c (v_cmd sv) = k) (hk : k ≠ 0) (h5 : k ≠ 5) : e_lp (m + 1) d c fl sv = (d, c, fl, v_cmd sv) := by
  show (if e_flt c (v_cmd sv) = 0 then _ else _) = _
  rw [if_neg (by rw [h]; exact hk), h]
  unfold m_keep
  rw [if_neg h5]
theorem flt_5 {c : CS} {sv : SV} {k : Nat} {b : Int32} (hk : sv.2.2.2.2.2.2 = 5) (hb : v_num sv 0 = b) (h : f_fill c b = k) : e_flt c sv = k := by
  unfold e_flt
  rw [hk, hb]
  exact h
theorem flt_2 {c : CS} {sv : SV} {k : Nat} {b : Int32} (hk : sv.2.2.2.2.2.2 = 2) (hb : v_num sv 0 = b) (h : f_drop c b = k) : e_flt c sv = k := by
  unfold e_flt
  rw [hk, hb]
  exact h
theorem run_5 {c : CS} {sv : SV} {b : Int32} (hk : sv.2.2.2.2.2.2 = 5) (hb : v_num sv 0 = b) : e_run c sv = (m_fill c b).2 := by
  unfold e_run
  rw [hk, hb]
  rfl
theorem xQ (c : CS) (fl : Nat → Int32) : x_exec c fl (v_tyL sv0 tQ) = 1 ∧ e_sv c fl (v_tyL sv0 tQ) = svQ ∧ e_fl c fl (v_tyL sv0 tQ) = upd fl 3 0 := by
  refine ⟨?_, ?_, ?_⟩
  · unfold x_exec; rw [if_pos eQ.1]
  · unfold e_sv; rw [if_pos eQ.1]; rfl
  · unfold e_fl; rw [if_pos eQ.1, eQ.2]; rfl
theorem rF {c : CS} (h : MKc 11 c) (h1 : 1 ≤ nbg c) (fl : Nat → Int32) : e_r c fl (v_tyL svQ tF) = (1, (m_fill c 0).2, fl, svF2) := by
  have e2 : e_n (v_tyL svQ tF) = 2 := by unfold e_n; rw [eF.1]; decide
  unfold e_r
  rw [e2, e_lp_0 (flt_5 eF.2.1 eF.2.2.1 (f_fill_0 (j := 0) h.1.1 h1))]
  show e_lp (0 + 1) 1 (e_run c svF1) fl (v_take svF1 59) = _
  rw [run_5 eF.2.1 eF.2.2.1]
  exact e_lp_n (k := 2) (flt_2 eF.2.2.2.1 eF.2.2.2.2 (nf_drop (noid (MK_fill (j := 0) h (by decide)) nf_99))) (by decide) (by decide)
theorem xF {c : CS} (h : MKc 11 c) (h1 : 1 ≤ nbg c) (fl : Nat → Int32) : x_exec c fl (v_tyL svQ tF) = 4 ∧ e_sv c fl (v_tyL svQ tF) = svF ∧ e_fl c fl (v_tyL svQ tF) = upd fl 4 1 := by
  refine ⟨?_, ?_, ?_⟩
  · unfold x_exec; rw [rF h h1, eF.1]; rfl
  · unfold e_sv; rw [rF h h1, eF.1]; rfl
  · unfold e_fl; rw [rF h h1, eF.1]; rfl
theorem rN {c : CS} (h : BG c) (fl : Nat → Int32) : e_r c fl (v_tyL svF tN) = (0, c, fl, svN1) := by
  have e2 : e_n (v_tyL svF tN) = 1 := by unfold e_n; rw [eN.1]; decide
  unfold e_r
  rw [e2]
  exact e_lp_n (k := 3) (flt_5 eN.2.1 eN.2.2 (nb_fill (nb_9 h))) (by decide) (by decide)
theorem xN {c : CS} (h : BG c) (fl : Nat → Int32) : x_exec c fl (v_tyL svF tN) = 4 ∧ e_sv c fl (v_tyL svF tN) = svN ∧ e_fl c fl (v_tyL svF tN) = upd fl 4 0 := by
  refine ⟨?_, ?_, ?_⟩
  · unfold x_exec; rw [rN h, eN.1]; rfl
  · unfold e_sv; rw [rN h, eN.1]; rfl
  · unfold e_fl; rw [rN h, eN.1]; rfl
/-- a constant text, as a text that isn't written -/
theorem StrX.of {A : Nat → Prop} {B0 : Nat} {X : Nat → Nat → Nat} {U : State} {H : Heap} (hE : EN B0 X U H) (hAB : ∀ q, A q → B0 ≤ q) {i : Nat} (hi : i < 40) : StrX A U H (X 2 i) (X 3 i) (strL.getD i 0) (fun j => (strB.getD i []).getD j 0) := by
  obtain ⟨h1, h2, h3, h4⟩ := hE.s.2.1 i hi
  exact ⟨h1.narrow hAB, h2.narrow hAB, h3.narrow hAB, va_T.narrow h4 hAB⟩
section LSW
variable {p : Program} {l : Launch} {e : Env} {R : Room} {s : State} {m : MethodId} {args : Array Value} {below : List Frame} {meth : Method} {c : Code} {H : Heap} {locs : List Loc} {cells slots : Nat} {Q : State → Prop}
variable {cc : ByteArray} {pc : Nat} {ls : Array Slot} {rest : List Value}
theorem va_ldcSW (hexec : p.tables.exec = Jvm.exec) (hb : c.code = cc) {own tx : String} {index q : Nat} (hown : s.vm.findClass own = some m.cls) (hZ : vk_R own index tx q s) (hdg : decode cc pc = .ok (.ldc_w index, 3))
    (k : W p l e R s m args below meth c H locs cells slots Q (F0 m (pc + 3) ls (.ref q :: rest))) : W p l e R s m args below meth c H locs cells slots Q (F0 m pc ls rest) := by
  intro T hT X
  obtain ⟨t, a1, b1⟩ := k T hT X
  exact ⟨t, X.ldcStringW hexec hown (text := tx) (a := q) hZ.1 hZ.2 (g := F0 m pc ls rest) rfl (by rw [hb]; exact hdg) t a1, b1⟩
end LSW
theorem ps_lx {s : State} {H : Heap} {D : va_G} {G : GA} {B0 : Nat} {X : Nat → Nat → Nat} {A : Nat → Prop} {h : Nat} {c0 c2 : CS} {hS : Nat → CS} {hn : Nat} {sv : SV} {lab : List Int32} {fl : Nat → Int32} {q v len : Nat} {f : Nat → Int32} {As : List Value} (hK : KK D G s) (hW : LW D G X A h c0 c2 hS hn sv lab fl H) (hE : EN B0 X s H) (hA : ∀ q, H.size ≤ q → A q) (hAB : ∀ q, A q → B0 ≤ q) (hT : StrX A s H q v len f) : PreS s H (va_Pc As (fun U => (LWp D G B0 X A h c0 c2 hS hn sv lab fl H.size U) ∧ StrX A U U.heap q v len f)) As :=
  ⟨fun _ U g mk q => ⟨q.1, ((ps_lw (As := As) hK hW hE hA hAB).1 _ U g mk ⟨q.1, q.2.1⟩).2, StrX.moved (Vm.Alike.refl U.vm) q.2.2⟩, fun U hU hWm => ⟨rfl, ((ps_lw (As := As) hK hW hE hA hAB).2 U hU hWm).2, by rw [hU]; exact hT.moved hWm.alike⟩⟩
theorem lg_self (x : Int64) : lg_cmp x x = 0 := (lg_cmp_eq x x).mpr rfl
