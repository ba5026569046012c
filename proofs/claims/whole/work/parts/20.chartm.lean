/-! What the chart says (pure part): an area's points one behind the other, their neighbours, breaths, holders. -/
theorem gs_W_area {n : Nat} {K : Nat → Int32} {c : Nat} {ar o s : Nat → Nat} (h : gs_W n K c ar o s) {a : Nat} (ha : a < c) : s a < n * n ∧ s (a + 1) ≤ n * n ∧ o (s a) < n * n ∧ ar (o (s a)) = a ∧ ∀ q, gb_conn n K (o (s a)) q ↔ ∃ j, j < s (a + 1) - s a ∧ o (s a + j) = q := by
  obtain ⟨h1, h2, h3, h4, h5, h6, h7, h8, h9, h10, h11⟩ := h
  have mono : ∀ d x, x + d ≤ c → s x ≤ s (x + d) := by
    intro d
    induction d with
    | zero => intro x _; exact Nat.le_refl _
    | succ d ih =>
      intro x hx
      have e1 := h8 (x + d) (by omega)
      have e2 := ih x (by omega)
      show s x ≤ s (x + d + 1)
      omega
  have hs1 : s (a + 1) ≤ n * n := by
    have e := mono (c - (a + 1)) (a + 1) (by omega)
    rw [show a + 1 + (c - (a + 1)) = c by omega, h7] at e
    exact e
  have hlt := h8 a ha
  have hsa : s a < n * n := by omega
  have hp := h3 (s a) hsa
  have hpa : ar (o (s a)) = a := h9 a (s a) ha (Nat.le_refl _) hlt
  refine ⟨hsa, hs1, hp, hpa, fun q => ⟨fun hq => ?_, fun ⟨j, hj, hq⟩ => ?_⟩⟩
  · have hqN := gb_conn_lt hp hq
    have hqa : ar q = a := by rw [← (h2 _ _ hp hqN).mpr hq]; exact hpa
    obtain ⟨i, hi, rfl⟩ := h5 q hqN
    -- i lies in the area's part of the row
    have key : ∀ x, x ≤ c → ∀ i, i < s x → ∃ y, y < x ∧ s y ≤ i ∧ i < s (y + 1) := by
      intro x
      induction x with
      | zero => intro _ i hi; rw [h6] at hi; omega
      | succ x ih =>
        intro hx i hi
        by_cases hix : i < s x
        · obtain ⟨y, e1, e2, e3⟩ := ih (by omega) i hix
          exact ⟨y, by omega, e2, e3⟩
        · exact ⟨x, by omega, by omega, hi⟩
    obtain ⟨y, e1, e2, e3⟩ := key c (Nat.le_refl c) i (by rw [h7]; exact hi)
    have hy := h9 y i e1 e2 e3
    rw [hqa] at hy
    subst hy
    exact ⟨i - s a, by omega, by rw [show s a + (i - s a) = i by omega]⟩
  · have hb : s a + j < s (a + 1) := by omega
    have hqN := h3 (s a + j) (by omega)
    have := h9 a (s a + j) ha (by omega) hb
    rw [← hq]
    exact (h2 _ _ hp hqN).mp (by rw [hpa, this])
def gc_nb (n : Nat) (P : Nat → Nat) (i w x : Nat) : Prop := ∃ j v, (j < i ∧ v < 4 ∨ j = i ∧ v < w) ∧ gb_nb n (P j) v = some x
theorem gc_nb_0 {n : Nat} {P : Nat → Nat} {x : Nat} : ¬ gc_nb n P 0 0 x := by
  rintro ⟨j, v, h, -⟩
  omega
theorem gc_nb_w {n : Nat} {P : Nat → Nat} {i w x : Nat} : gc_nb n P i (w + 1) x ↔ gc_nb n P i w x ∨ gb_nb n (P i) w = some x := by
  constructor
  · rintro ⟨j, v, h, e⟩
    by_cases hv : j = i ∧ v = w
    · obtain ⟨rfl, rfl⟩ := hv
      exact Or.inr e
    · exact Or.inl ⟨j, v, by omega, e⟩
  · rintro (⟨j, v, h, e⟩ | e)
    · exact ⟨j, v, by omega, e⟩
    · exact ⟨i, w, by omega, e⟩
theorem gc_nb_i {n : Nat} {P : Nat → Nat} {i x : Nat} : gc_nb n P (i + 1) 0 x ↔ gc_nb n P i 4 x := by
  constructor
  · rintro ⟨j, v, h, e⟩
    exact ⟨j, v, by omega, e⟩
  · rintro ⟨j, v, h, e⟩
    exact ⟨j, v, by omega, e⟩
theorem gc_nb_end {n : Nat} {K : Nat → Int32} {P : Nat → Nat} {p m x : Nat} (hP : ∀ q, gb_conn n K p q ↔ ∃ j, j < m ∧ P j = q) : gc_nb n P m 0 x ↔ ∃ q w, gb_conn n K p q ∧ w < 4 ∧ gb_nb n q w = some x := by
  constructor
  · rintro ⟨j, v, h, e⟩
    exact ⟨P j, v, (hP _).mpr ⟨j, by omega, rfl⟩, by omega, e⟩
  · rintro ⟨q, w, hq, hw, e⟩
    obtain ⟨j, hj, rfl⟩ := (hP q).mp hq
    exact ⟨j, w, by omega, e⟩
/-- the breaths found so far -/
def gc_F (n : Nat) (b : Nat → Nat) (P : Nat → Nat) (i w x : Nat) : Prop := x < n * n ∧ b x = 0 ∧ gc_nb n P i w x
theorem gc_F_end {n : Nat} {b : Nat → Nat} {P : Nat → Nat} {p m x : Nat} (hp : p < n * n) (hb : ∀ q, q < n * n → b q ≤ 2) (hP : ∀ q, gb_conn n (fun q => nI (b q)) p q ↔ ∃ j, j < m ∧ P j = q) : gc_F n b P m 0 x ↔ gt_br n (fun q => nI (b q)) p x := by
  constructor
  · rintro ⟨h1, h2, h3⟩
    obtain ⟨q, w, hq, hw, e⟩ := (gc_nb_end hP).mp h3
    exact gt_br_of hp hq hw e (by show nI (b x) = 0; rw [h2]; decide)
  · rintro ⟨h1, h2, w, y, hw, hy, hc⟩
    have h0 : b x = 0 := by
      have h3 : nI (b x) = nI 0 := h2
      have h4 := hb x h1
      exact (nI_eq (by omega) (by omega)).mp h3
    exact ⟨h1, h0, (gc_nb_end hP).mpr ⟨y, 3 - w, hc, by omega, (gb_nb_sym h1 hw hy).2⟩⟩
/-- the least of them, or the bound -/
def gc_least (N : Nat) (F : Nat → Prop) (m : Nat) : Prop := m ≤ N ∧ (∀ q, F q → m ≤ q) ∧ (m < N → F m)
theorem gc_least_eq {N : Nat} {F F' : Nat → Prop} {m : Nat} (h : gc_least N F m) (he : ∀ q, F' q ↔ F q) : gc_least N F' m := ⟨h.1, fun q hq => h.2.1 q ((he q).mp hq), fun hm => (he m).mpr (h.2.2 hm)⟩
theorem gc_least_add {N : Nat} {F F' : Nat → Prop} {m x : Nat} (h : gc_least N F m) (hx : x < N) (he : ∀ q, F' q ↔ F q ∨ q = x) : gc_least N F' (if x < m then x else m) := by
  by_cases hxm : x < m
  · rw [if_pos hxm]
    refine ⟨by omega, fun q hq => ?_, fun _ => (he x).mpr (Or.inr rfl)⟩
    rcases (he q).mp hq with h1 | h1
    · have := h.2.1 q h1; omega
    · omega
  · rw [if_neg hxm]
    refine ⟨h.1, fun q hq => ?_, fun hm => (he m).mpr (Or.inl (h.2.2 hm))⟩
    rcases (he q).mp hq with h1 | h1
    · exact h.2.1 q h1
    · omega
theorem gc_least_un {N : Nat} {F : Nat → Prop} {m m' : Nat} (h : gc_least N F m) (h' : gc_least N F m') : m = m' := by
  rcases Nat.lt_trichotomy m m' with h1 | h1 | h1
  · have := h'.2.1 m (h.2.2 (by have := h'.1; omega)); omega
  · exact h1
  · have := h.2.1 m' (h'.2.2 (by have := h.1; omega)); omega
/-- a side is met beside what hangs together with p -/
def gc_meet (n : Nat) (b : Nat → Nat) (p x : Nat) : Prop := ∃ q w y, gb_conn n (fun q => nI (b q)) p q ∧ w < 4 ∧ gb_nb n q w = some y ∧ b y = x
noncomputable def gc_hold (n : Nat) (b : Nat → Nat) (p : Nat) : Nat := @ite Nat (gc_meet n b p 1 ∧ ¬ gc_meet n b p 2) (Classical.propDecidable _) 1 (@ite Nat (gc_meet n b p 2 ∧ ¬ gc_meet n b p 1) (Classical.propDecidable _) 2 0)
theorem gc_hold_1 {n : Nat} {b : Nat → Nat} {p : Nat} (h1 : gc_meet n b p 1) (h2 : ¬ gc_meet n b p 2) : gc_hold n b p = 1 := by
  unfold gc_hold
  exact if_pos ⟨h1, h2⟩
theorem gc_hold_2 {n : Nat} {b : Nat → Nat} {p : Nat} (h1 : ¬ gc_meet n b p 1) (h2 : gc_meet n b p 2) : gc_hold n b p = 2 := by
  unfold gc_hold
  rw [if_neg (fun z => h1 z.1)]
  exact if_pos ⟨h2, h1⟩
theorem gc_hold_0 {n : Nat} {b : Nat → Nat} {p : Nat} (h : (gc_meet n b p 1 ∧ gc_meet n b p 2) ∨ (¬ gc_meet n b p 1 ∧ ¬ gc_meet n b p 2)) : gc_hold n b p = 0 := by
  unfold gc_hold
  rw [if_neg (fun z => h.elim (fun w => z.2 w.2) (fun w => w.1 z.1)), if_neg (fun z => h.elim (fun w => z.2 w.1) (fun w => w.2 z.1))]
/-- which side was met so far: t; 0: none -/
def gc_M (n : Nat) (b : Nat → Nat) (P : Nat → Nat) (i w t : Nat) : Prop := t ≤ 2 ∧ (∀ x, gc_nb n P i w x → b x = 0 ∨ b x = t) ∧ (t ≠ 0 → ∃ x, gc_nb n P i w x ∧ b x = t)
theorem gc_M_end {n : Nat} {b : Nat → Nat} {P : Nat → Nat} {p m t : Nat} (hP : ∀ q, gb_conn n (fun q => nI (b q)) p q ↔ ∃ j, j < m ∧ P j = q) (h : gc_M n b P m 0 t) : gc_hold n b p = t := by
  obtain ⟨h1, h2, h3⟩ := h
  have hm : ∀ x, x ≠ 0 → (gc_meet n b p x ↔ ∃ y, gc_nb n P m 0 y ∧ b y = x) := fun x hx => by
    constructor
    · rintro ⟨q, w, y, hq, hw, e, hb⟩
      exact ⟨y, (gc_nb_end hP).mpr ⟨q, w, hq, hw, e⟩, hb⟩
    · rintro ⟨y, hy, hb⟩
      obtain ⟨q, w, hq, hw, e⟩ := (gc_nb_end hP).mp hy
      exact ⟨q, w, y, hq, hw, e, hb⟩
  have no : ∀ x, x ≠ 0 → x ≠ t → ¬ gc_meet n b p x := fun x hx hxt hz => by
    obtain ⟨y, hy, hb⟩ := (hm x hx).mp hz
    rcases h2 y hy with e | e <;> omega
  have ht : t = 0 ∨ t = 1 ∨ t = 2 := by omega
  rcases ht with rfl | rfl | rfl
  · exact gc_hold_0 (Or.inr ⟨no 1 (by decide) (by decide), no 2 (by decide) (by decide)⟩)
  · exact gc_hold_1 ((hm 1 (by decide)).mpr (h3 (by decide))) (no 2 (by decide) (by decide))
  · exact gc_hold_2 (no 1 (by decide) (by decide)) ((hm 2 (by decide)).mpr (h3 (by decide)))
