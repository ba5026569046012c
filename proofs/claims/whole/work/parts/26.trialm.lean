/-! What a trial does to a board (pure part). -/
theorem gt_br_conn {n : Nat} {K : Nat → Int32} {p p' : Nat} (hp : p < n * n) (h : gb_conn n K p p') (q : Nat) : gt_br n K p q ↔ gt_br n K p' q := by
  have hp' := gb_conn_lt hp h
  constructor
  · rintro ⟨h1, h2, w, x, hw, hx, hc⟩
    exact ⟨h1, h2, w, x, hw, hx, gb_conn_tr (gb_conn_sy hp h) hc⟩
  · rintro ⟨h1, h2, w, x, hw, hx, hc⟩
    exact ⟨h1, h2, w, x, hw, hx, gb_conn_tr h hc⟩
theorem gb_cnt_or {P P' : Nat → Prop} : ∀ N : Nat, (∀ q, q < N → ¬ (P q ∧ P' q)) → gb_cnt (fun q => P q ∨ P' q) N = gb_cnt P N + gb_cnt P' N := by
  intro N
  induction N with
  | zero => intro _; rfl
  | succ m ih =>
    intro h
    have e := ih (fun q hq => h q (by omega))
    by_cases h1 : P m <;> by_cases h2 : P' m
    · exact absurd ⟨h1, h2⟩ (h m (by omega))
    · rw [gb_cnt_y (P := fun q => P q ∨ P' q) (Or.inl h1), gb_cnt_y h1, gb_cnt_n h2, e]; omega
    · rw [gb_cnt_y (P := fun q => P q ∨ P' q) (Or.inr h2), gb_cnt_n h1, gb_cnt_y h2, e]; omega
    · rw [gb_cnt_n (P := fun q => P q ∨ P' q) (fun z => z.elim h1 h2), gb_cnt_n h1, gb_cnt_n h2, e]
theorem gs_W_size {n : Nat} {K : Nat → Int32} {c : Nat} {ar o s : Nat → Nat} (h : gs_W n K c ar o s) {a : Nat} (ha : a < c) : gb_cnt (gb_conn n K (o (s a))) (n * n) = s (a + 1) - s a := by
  obtain ⟨a1, a2, a3, a4, a5⟩ := gs_W_area h ha
  refine gb_enum _ _ (fun j => o (s a + j)) (fun i hi => ⟨h.2.2.1 _ (by omega), (a5 _).mpr ⟨i, hi, rfl⟩⟩) (fun i j hi hj hij => ?_) (fun q _ hq => (a5 q).mp hq)
  have := h.2.2.2.1 (s a + i) (s a + j) (by omega) (by omega) hij
  omega
/-- the points of the strings of a side beside p, in the first w ways, whose last breath p is -/
def gq_cap (n : Nat) (b : Nat → Nat) (p sd w q : Nat) : Prop := ∃ v x, v < w ∧ gb_nb n p v = some x ∧ b x = sd ∧ gb_cnt (gt_br n (fun q => nI (b q)) x) (n * n) = 1 ∧ gb_conn n (fun q => nI (b q)) x q
theorem gq_cap_0 {n : Nat} {b : Nat → Nat} {p sd q : Nat} : ¬ gq_cap n b p sd 0 q := by
  rintro ⟨v, x, h, -⟩
  omega
theorem gq_cap_w {n : Nat} {b : Nat → Nat} {p sd w q : Nat} : gq_cap n b p sd (w + 1) q ↔ gq_cap n b p sd w q ∨ ∃ x, gb_nb n p w = some x ∧ b x = sd ∧ gb_cnt (gt_br n (fun q => nI (b q)) x) (n * n) = 1 ∧ gb_conn n (fun q => nI (b q)) x q := by
  constructor
  · rintro ⟨v, x, h, h1, h2, h3, h4⟩
    by_cases hv : v = w
    · subst hv; exact Or.inr ⟨x, h1, h2, h3, h4⟩
    · exact Or.inl ⟨v, x, by omega, h1, h2, h3, h4⟩
  · rintro (⟨v, x, h, h1, h2, h3, h4⟩ | ⟨x, h1, h2, h3, h4⟩)
    · exact ⟨v, x, by omega, h1, h2, h3, h4⟩
    · exact ⟨w, x, by omega, h1, h2, h3, h4⟩
theorem gq_cap_tr {n : Nat} {b : Nat → Nat} {p sd w x q : Nat} (h : gq_cap n b p sd w x) (hq : gb_conn n (fun q => nI (b q)) x q) : gq_cap n b p sd w q := by
  obtain ⟨v, y, h0, h1, h2, h3, h4⟩ := h
  exact ⟨v, y, h0, h1, h2, h3, gb_conn_tr h4 hq⟩
theorem gq_cap_lt {n : Nat} {b : Nat → Nat} {p sd w q : Nat} (hp : p < n * n) (hw : w ≤ 4) (h : gq_cap n b p sd w q) : q < n * n := by
  obtain ⟨v, y, h0, h1, h2, h3, h4⟩ := h
  exact gb_conn_lt (gb_nb_lt hp (by omega) h1) h4
theorem gq_cap_b {n : Nat} {b : Nat → Nat} {p sd w q : Nat} (hp : p < n * n) (hw : w ≤ 4) (hb : ∀ q, q < n * n → b q ≤ 2) (h : gq_cap n b p sd w q) : b q = sd := by
  have hq := gq_cap_lt hp hw h
  obtain ⟨v, y, h0, h1, h2, h3, h4⟩ := h
  have hy := gb_nb_lt hp (by omega) h1
  have := gb_conn_k h4
  have e : nI (b q) = nI (b y) := this
  have h5 := hb q hq
  have h6 := hb y hy
  have := (nI_eq (by omega) (by omega)).mp e
  omega
/-- a board with the captured ones taken off -/
def gq_off (N : Nat) (C : Nat → Prop) (t0 t : Nat → Nat) : Prop := ∀ q, q < N → (C q → t q = 0) ∧ (¬ C q → t q = t0 q)
theorem gq_off_eq {N : Nat} {C C' : Nat → Prop} {t0 t : Nat → Nat} (h : gq_off N C t0 t) (he : ∀ q, q < N → (C' q ↔ C q)) : gq_off N C' t0 t := fun q hq => ⟨fun z => (h q hq).1 ((he q hq).mp z), fun z => (h q hq).2 (fun w => z ((he q hq).mpr w))⟩
theorem gq_off_or {N : Nat} {C C' : Nat → Prop} {t0 t t' : Nat → Nat} (h : gq_off N C t0 t) (h' : gq_off N C' t t') : gq_off N (fun q => C q ∨ C' q) t0 t' := by
  intro q hq
  constructor
  · intro hc
    by_cases h2 : C' q
    · exact (h' q hq).1 h2
    · rw [(h' q hq).2 h2]
      exact (h q hq).1 (hc.resolve_right h2)
  · intro hc
    rw [(h' q hq).2 (fun z => hc (Or.inr z))]
    exact (h q hq).2 (fun z => hc (Or.inl z))
/-- p finds a breath for a stone of a side, in the first w ways -/
def gq_bre (n : Nat) (b : Nat → Nat) (p sd w : Nat) : Prop := ∃ v x, v < w ∧ gb_nb n p v = some x ∧ (b x = 0 ∨ (b x = sd ∧ gb_cnt (gt_br n (fun q => nI (b q)) x) (n * n) ≠ 1))
/-- what is tried: the board behind a stone of the side sd at p; how many stones go; whose -/
def gq_T (n : Nat) (b : Nat → Nat) (p sd : Nat) (t : Nat → Nat) (k ls : Nat) : Prop :=
  ((∃ q, gq_cap n b p (3 - sd) 4 q) ∧ gq_off (n * n) (gq_cap n b p (3 - sd) 4) (fun q => if q = p then sd else b q) t ∧ k = gb_cnt (gq_cap n b p (3 - sd) 4) (n * n) ∧ ls = 3 - sd) ∨
  ((∀ q, ¬ gq_cap n b p (3 - sd) 4 q) ∧ gq_bre n b p sd 4 ∧ (∀ q, q < n * n → t q = if q = p then sd else b q) ∧ k = 0 ∧ ls = 3 - sd) ∨
  ((∀ q, ¬ gq_cap n b p (3 - sd) 4 q) ∧ ¬ gq_bre n b p sd 4 ∧ gq_off (n * n) (fun q => gq_cap n b p sd 4 q ∨ q = p) b t ∧ k = gb_cnt (gq_cap n b p sd 4) (n * n) + 1 ∧ ls = sd)
