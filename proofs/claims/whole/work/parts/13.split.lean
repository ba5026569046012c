/-! The split of a board into areas (pure part): the flood inside it, the rows of points and of beginnings. -/
def gs_pre (n : Nat) (K A0 : Nat → Int32) (o : Nat → Nat) (b p : Nat) : Prop :=
  p < n * n ∧ (∀ i, i < b → o i < n * n ∧ A0 (o i) ≠ -1) ∧ (∀ i j, i < b → j < b → o i = o j → i = j) ∧ ∀ q, gb_conn n K p q → A0 q = -1
def gs_in (n : Nat) (K A0 O0 : Nat → Int32) (b p c : Nat) (V : Nat → Prop) (r : Nat → Nat) (e : Nat) (A O : Nat → Int32) : Prop :=
  gb_FI n K p V r e ∧ (∀ q, V q → A q = nI c) ∧ (∀ q, ¬ V q → A q = A0 q) ∧ (∀ j, j < e → O (b + j) = nI (r j)) ∧ ∀ j, (j < b ∨ b + e ≤ j) → O j = O0 j
theorem gs_room {n : Nat} {K A0 : Nat → Int32} {o r : Nat → Nat} {b p e x : Nat} (h : gs_pre n K A0 o b p) (h3 : ∀ j, j < e → gb_conn n K p (r j)) (h4 : ∀ i j, i < e → j < e → r i = r j → i = j) (hx : gb_conn n K p x) (hv : ∀ j, j < e → r j ≠ x) : b + e < n * n := by
  obtain ⟨hp, ho, hi, hu⟩ := h
  refine gb_fit1 (N := n * n) (e := b + e) (x := x) (f := fun i => if i < b then o i else r (i - b)) (fun i hi' => ?_) (fun i j hi' hj' hij => ?_) (gb_conn_lt hp hx) (fun i hi' => ?_)
  · by_cases h1 : i < b
    · simp only [if_pos h1]; exact (ho i h1).1
    · simp only [if_neg h1]; exact gb_conn_lt hp (h3 _ (by omega))
  · by_cases h1 : i < b <;> by_cases h2 : j < b
    · simp only [if_pos h1, if_pos h2] at hij; exact hi i j h1 h2 hij
    · simp only [if_pos h1, if_neg h2] at hij
      exact absurd (hu _ (h3 (j - b) (by omega))) (by rw [← hij]; exact (ho i h1).2)
    · simp only [if_neg h1, if_pos h2] at hij
      exact absurd (hu _ (h3 (i - b) (by omega))) (by rw [hij]; exact (ho j h2).2)
    · simp only [if_neg h1, if_neg h2] at hij
      have := h4 (i - b) (j - b) (by omega) (by omega) hij
      omega
  · by_cases h1 : i < b
    · simp only [if_pos h1]; intro z; exact (ho i h1).2 (by rw [z]; exact hu x hx)
    · simp only [if_neg h1]; exact hv _ (by omega)
theorem gs_start {n : Nat} {K A0 O0 : Nat → Int32} {b p c : Nat} : gs_in n K A0 O0 b p c (fun q => q = p) (fun _ => p) 1 (upd A0 p (nI c)) (upd O0 b (nI p)) := by
  refine ⟨gb_FI_0 rfl, fun q hq => ?_, fun q hq => ?_, fun j hj => ?_, fun j hj => ?_⟩
  · simp [upd, hq]
  · simp [upd, hq]
  · simp [upd, show j = 0 by omega]
  · have : j ≠ b := by omega
    simp [upd, this]
/-- one point more -/
theorem gs_add {n : Nat} {K A0 O0 : Nat → Int32} {b p c : Nat} {V : Nat → Prop} {r : Nat → Nat} {e : Nat} {A O : Nat → Int32} {i w x : Nat} (h : gs_in n K A0 O0 b p c V r e A O) (hi : i < e) (hw : w < 4) (hx : gb_nb n (r i) w = some x) (hk : K x = K (r i)) (hv : ¬ V x) :
    gs_in n K A0 O0 b p c (fun q => V q ∨ q = x) (fun j => if j = e then x else r j) (e + 1) (upd A x (nI c)) (upd O (b + e) (nI x)) := by
  obtain ⟨h1, h2, h3, h4, h5⟩ := h
  refine ⟨gb_FI_add h1 hi hw hx hk hv, fun q hq => ?_, fun q hq => ?_, fun j hj => ?_, fun j hj => ?_⟩
  · by_cases hqx : q = x
    · simp [upd, hqx]
    · simp only [upd, if_neg hqx]; exact h2 q (hq.resolve_right hqx)
  · have hqx : q ≠ x := fun z => hq (Or.inr z)
    simp only [upd, if_neg hqx]; exact h3 q (fun z => hq (Or.inl z))
  · by_cases hje : j = e
    · simp [upd, hje]
    · have : b + j ≠ b + e := by omega
      simp only [upd, if_neg this, if_neg hje]; exact h4 j (by omega)
  · have : j ≠ b + e := by omega
    simp only [upd, if_neg this]; exact h5 j (by omega)
/-- a marked point is reached, or not of the kind -/
theorem gs_skip {n : Nat} {K A0 O0 : Nat → Int32} {o : Nat → Nat} {b p c : Nat} {V : Nat → Prop} {r : Nat → Nat} {e : Nat} {A O : Nat → Int32} {i w x : Nat} (hp : gs_pre n K A0 o b p) (h : gs_in n K A0 O0 b p c V r e A O) (hi : i < e) (hw : w < 4) (hx : gb_nb n (r i) w = some x) (hA : A x ≠ -1) (hk : K x = K (r i)) : V x := by
  obtain ⟨h1, h2, h3, h4, h5⟩ := h
  by_cases hv : V x
  · exact hv
  · exact absurd ((h3 x hv).trans (hp.2.2.2 x (gb_conn_st (h1.2.2.1 i hi) hw hx hk))) hA
theorem gs_free {n : Nat} {K A0 O0 : Nat → Int32} {b p c : Nat} {V : Nat → Prop} {r : Nat → Nat} {e : Nat} {A O : Nat → Int32} {x : Nat} (h : gs_in n K A0 O0 b p c V r e A O) (hc : nI c ≠ -1) (hA : A x = -1) : ¬ V x := fun hv => hc ((h.2.1 x hv).symm.trans hA)
/-- what a flood leaves -/
def gs_out (n : Nat) (K A0 O0 : Nat → Int32) (b p c : Nat) (r : Nat → Nat) (e : Nat) (A O : Nat → Int32) : Prop :=
  r 0 = p ∧ 0 < e ∧ (∀ i j, i < e → j < e → r i = r j → i = j) ∧ (∀ q, gb_conn n K p q ↔ ∃ j, j < e ∧ r j = q) ∧ (∀ q, gb_conn n K p q → A q = nI c) ∧ (∀ q, ¬ gb_conn n K p q → A q = A0 q) ∧ (∀ j, j < e → O (b + j) = nI (r j)) ∧ ∀ j, (j < b ∨ b + e ≤ j) → O j = O0 j
theorem gs_end {n : Nat} {K A0 O0 : Nat → Int32} {b p c : Nat} {V : Nat → Prop} {r : Nat → Nat} {e : Nat} {A O : Nat → Int32} (h : gs_in n K A0 O0 b p c V r e A O) (hc : gb_FC n K V r e 0) : gs_out n K A0 O0 b p c r e A O := by
  obtain ⟨h1, h2, h3, h4, h5⟩ := h
  have hV := gb_FI_end h1 hc
  exact ⟨h1.1, h1.2.1, h1.2.2.2.1, fun q => by rw [← hV q]; exact h1.2.2.2.2 q, fun q hq => h2 q ((hV q).mpr hq), fun q hq => h3 q (fun z => hq ((hV q).mp z)), h4, h5⟩
/-- the split so far: c areas, e points in them; all points below p are in one -/
def gs_S (n : Nat) (K : Nat → Int32) (p c e : Nat) (o s : Nat → Nat) (A O S : Nat → Int32) : Prop :=
  (∀ q, q < n * n → A q = -1 ∨ ∃ a, a < c ∧ A q = nI a) ∧ (∀ q, q < p → A q ≠ -1) ∧ (∀ q r, q < n * n → gb_conn n K q r → A r = A q) ∧ (∀ q r, q < n * n → r < n * n → A q ≠ -1 → A r = A q → gb_conn n K q r) ∧
  (∀ i, i < e → o i < n * n ∧ A (o i) ≠ -1 ∧ O i = nI (o i)) ∧ (∀ i j, i < e → j < e → o i = o j → i = j) ∧ (∀ q, q < n * n → A q ≠ -1 → ∃ i, i < e ∧ o i = q) ∧
  (∀ a, a < c → S a = nI (s a)) ∧ s 0 = 0 ∧ s c = e ∧ (∀ a, a < c → s a < s (a + 1)) ∧ (∀ a i, a < c → s a ≤ i → i < s (a + 1) → A (o i) = nI a) ∧ ∀ a, a < c → ∀ q, q < n * n → A q = nI a → o (s a) ≤ q
theorem gs_S_0 {n : Nat} {K A O S : Nat → Int32} (hA : ∀ q, q < n * n → A q = -1) (o : Nat → Nat) : gs_S n K 0 0 0 o (fun _ => 0) A O S :=
  ⟨fun q hq => Or.inl (hA q hq), fun q hq => absurd hq (Nat.not_lt_zero _), fun q r hq hr => (hA r (gb_conn_lt hq hr)).trans (hA q hq).symm, fun q r hq hr h => absurd (hA q hq) h, fun i hi => absurd hi (Nat.not_lt_zero _), fun i j hi => absurd hi (Nat.not_lt_zero _), fun q hq h => absurd (hA q hq) h, fun a ha => absurd ha (Nat.not_lt_zero _), rfl, rfl, fun a ha => absurd ha (Nat.not_lt_zero _), fun a i ha => absurd ha (Nat.not_lt_zero _), fun a ha => absurd ha (Nat.not_lt_zero _)⟩
theorem gs_S_le {n : Nat} {K : Nat → Int32} {p c e : Nat} {o s : Nat → Nat} {A O S : Nat → Int32} (h : gs_S n K p c e o s A O S) : (∀ a, a ≤ c → a ≤ s a) ∧ (∀ a, a ≤ c → s a ≤ e) ∧ e ≤ n * n := by
  obtain ⟨-, -, -, -, h5, h6, -, -, h9, h10, h11, -, -⟩ := h
  refine ⟨fun a => ?_, fun a ha => ?_, gb_fit (fun i hi => (h5 i hi).1) h6⟩
  · induction a with
    | zero => intro _; omega
    | succ a ih => intro ha; have h1 := h11 a (by omega); have h2 := ih (by omega); omega
  · have key : ∀ d, a + d ≤ c → s a ≤ s (a + d) := by
      intro d
      induction d with
      | zero => intro _; exact Nat.le_refl _
      | succ d ih => intro hd; have h1 := h11 (a + d) (by omega); have h2 := ih (by omega); show s a ≤ s (a + d + 1); omega
    have h1 := key (c - a) (by omega)
    rw [show a + (c - a) = c by omega, h10] at h1
    exact h1
theorem gs_S_pass {n : Nat} {K : Nat → Int32} {p c e : Nat} {o s : Nat → Nat} {A O S : Nat → Int32} (h : gs_S n K p c e o s A O S) (hp : A p ≠ -1) : gs_S n K (p + 1) c e o s A O S := by
  refine ⟨h.1, fun q hq => ?_, h.2.2⟩
  by_cases hqp : q = p
  · rw [hqp]; exact hp
  · exact h.2.1 q (by omega)
theorem gs_S_pre {n : Nat} {K : Nat → Int32} {p c e : Nat} {o s : Nat → Nat} {A O S : Nat → Int32} (h : gs_S n K p c e o s A O S) (hpN : p < n * n) (hp : A p = -1) : gs_pre n K A o e p :=
  ⟨hpN, fun i hi => ⟨(h.2.2.2.2.1 i hi).1, (h.2.2.2.2.1 i hi).2.1⟩, h.2.2.2.2.2.1, fun q hq => (h.2.2.1 p q hpN hq).trans hp⟩
theorem gs_S_add {n : Nat} {K : Nat → Int32} {p c e : Nat} {o s r : Nat → Nat} {m : Nat} {A O S A' O' : Nat → Int32} (h : gs_S n K p c e o s A O S) (hpN : p < n * n) (hp : A p = -1) (hc : ∀ a, a ≤ c → nI a ≠ -1) (hcc : ∀ a, a < c → nI a ≠ nI c) (h' : gs_out n K A O e p c r m A' O') :
    gs_S n K (p + 1) (c + 1) (e + m) (fun i => if i < e then o i else r (i - e)) (fun a => if a ≤ c then s a else e + m) A' O' (upd S c (nI e)) := by
  obtain ⟨h1, h2, h3, h4, h5, h6, h7, h8, h9, h10, h11, h12, h13⟩ := h
  obtain ⟨g1, g2, g3, g4, g5, g6, g7, g8⟩ := h'
  have hcon : ∀ q, q < n * n → A q ≠ -1 → ¬ gb_conn n K p q := fun q hq ha hz => ha ((h3 p q hpN hz).trans hp)
  have hAold : ∀ q, q < n * n → A q ≠ -1 → A' q = A q := fun q hq ha => g6 q (hcon q hq ha)
  have hself : gb_conn n K p p := gb_conn_rf
  refine ⟨fun q hq => ?_, fun q hq => ?_, fun q x hq hx => ?_, fun q x hq hx ha he => ?_, fun i hi => ?_, fun i j hi hj hij => ?_, fun q hq ha => ?_, fun a ha => ?_, ?_, ?_, fun a ha => ?_, fun a i ha hi1 hi2 => ?_, fun a ha q hq hqa => ?_⟩
  · by_cases hz : gb_conn n K p q
    · exact Or.inr ⟨c, by omega, g5 q hz⟩
    · rw [g6 q hz]
      rcases h1 q hq with h | ⟨a, ha, h⟩
      · exact Or.inl h
      · exact Or.inr ⟨a, by omega, h⟩
  · by_cases hz : gb_conn n K p q
    · rw [g5 q hz]; exact hc c (by omega)
    · rw [g6 q hz]
      by_cases hqp : q = p
      · exact absurd (by rw [hqp]; exact hself) hz
      · exact h2 q (by omega)
  · by_cases hz : gb_conn n K p q
    · rw [g5 q hz, g5 x (gb_conn_tr hz hx)]
    · have hzx : ¬ gb_conn n K p x := fun w => hz (gb_conn_tr w (gb_conn_sy hq hx))
      rw [g6 q hz, g6 x hzx]; exact h3 q x hq hx
  · by_cases hz : gb_conn n K p q <;> by_cases hzx : gb_conn n K p x
    · exact gb_conn_tr (gb_conn_sy hpN hz) hzx
    · rw [g5 q hz, g6 x hzx] at he
      rcases h1 x hx with h | ⟨a, ha', h⟩
      · exact absurd (he.symm.trans h) (hc c (by omega))
      · exact absurd (h.symm.trans he) (hcc a ha')
    · rw [g6 q hz, g5 x hzx] at he
      rcases h1 q hq with h | ⟨a, ha', h⟩
      · rw [g6 q hz] at ha; exact absurd h ha
      · exact absurd (h.symm.trans he.symm) (hcc a ha')
    · rw [g6 q hz] at ha he; rw [g6 x hzx] at he
      exact h4 q x hq hx ha he
  · by_cases hie : i < e
    · simp only [if_pos hie]
      obtain ⟨a1, a2, a3⟩ := h5 i hie
      exact ⟨a1, by rw [hAold _ a1 a2]; exact a2, by rw [g8 i (Or.inl hie)]; exact a3⟩
    · simp only [if_neg hie]
      have hr : gb_conn n K p (r (i - e)) := (g4 _).mpr ⟨i - e, by omega, rfl⟩
      refine ⟨gb_conn_lt hpN hr, by rw [g5 _ hr]; exact hc c (by omega), ?_⟩
      have := g7 (i - e) (by omega)
      rw [show e + (i - e) = i by omega] at this
      exact this
  · by_cases hie : i < e <;> by_cases hje : j < e
    · simp only [if_pos hie, if_pos hje] at hij; exact h6 i j hie hje hij
    · simp only [if_pos hie, if_neg hje] at hij
      exact absurd ((g4 _).mpr ⟨j - e, by omega, hij.symm⟩) (hcon _ (h5 i hie).1 (h5 i hie).2.1)
    · simp only [if_neg hie, if_pos hje] at hij
      exact absurd ((g4 _).mpr ⟨i - e, by omega, hij⟩) (hcon _ (h5 j hje).1 (h5 j hje).2.1)
    · simp only [if_neg hie, if_neg hje] at hij
      have := g3 (i - e) (j - e) (by omega) (by omega) hij
      omega
  · by_cases hz : gb_conn n K p q
    · obtain ⟨j, hj, hr⟩ := (g4 q).mp hz
      refine ⟨e + j, by omega, ?_⟩
      simp only [if_neg (show ¬ e + j < e by omega), show e + j - e = j by omega]
      exact hr
    · rw [g6 q hz] at ha
      obtain ⟨i, hi, ho⟩ := h7 q hq ha
      exact ⟨i, by omega, by simp only [if_pos hi]; exact ho⟩
  · by_cases hac : a = c
    · subst hac
      simp only [upd, if_pos, Nat.le_refl]
      rw [h10]
    · simp only [upd, if_neg hac, if_pos (show a ≤ c by omega)]
      exact h8 a (by omega)
  · simp only [if_pos (Nat.zero_le c)]; exact h9
  · simp only [if_neg (show ¬ c + 1 ≤ c by omega)]
  · by_cases hac : a = c
    · subst hac
      simp only [if_pos (Nat.le_refl a), if_neg (show ¬ a + 1 ≤ a by omega)]
      omega
    · simp only [if_pos (show a ≤ c by omega), if_pos (show a + 1 ≤ c by omega)]
      exact h11 a (by omega)
  · by_cases hac : a = c
    · subst hac
      simp only [if_pos (Nat.le_refl a), if_neg (show ¬ a + 1 ≤ a by omega)] at hi1 hi2
      have hie : ¬ i < e := by omega
      simp only [if_neg hie]
      exact g5 _ ((g4 _).mpr ⟨i - e, by omega, rfl⟩)
    · simp only [if_pos (show a ≤ c by omega), if_pos (show a + 1 ≤ c by omega)] at hi1 hi2
      have hle := (gs_S_le (K := K) (p := p) (c := c) (e := e) (o := o) (s := s) (A := A) (O := O) (S := S) ⟨h1, h2, h3, h4, h5, h6, h7, h8, h9, h10, h11, h12, h13⟩).2.1 (a + 1) (by omega)
      have hie : i < e := by omega
      simp only [if_pos hie]
      rw [hAold _ (h5 i hie).1 (h5 i hie).2.1]
      exact h12 a i (by omega) hi1 hi2
  · by_cases hac : a = c
    · subst hac
      simp only [if_pos (Nat.le_refl a)]
      rw [h10]
      simp only [if_neg (Nat.lt_irrefl e), Nat.sub_self, g1]
      by_cases hz : gb_conn n K p q
      · by_cases hqp : q < p
        · exact absurd (h3 p q hpN hz) (by rw [hp]; exact h2 q hqp)
        · omega
      · rw [g6 q hz] at hqa
        rcases h1 q hq with h | ⟨x, hx, h⟩
        · exact absurd (hqa.symm.trans h) (hc a (by omega))
        · exact absurd (h.symm.trans hqa) (hcc x hx)
    · simp only [if_pos (show a ≤ c by omega)]
      have hle := (gs_S_le (K := K) (p := p) (c := c) (e := e) (o := o) (s := s) (A := A) (O := O) (S := S) ⟨h1, h2, h3, h4, h5, h6, h7, h8, h9, h10, h11, h12, h13⟩).2.1 (a + 1) (by omega)
      have hlt := h11 a (by omega)
      have hie : s a < e := by omega
      simp only [if_pos hie]
      by_cases hz : gb_conn n K p q
      · rw [g5 q hz] at hqa
        exact absurd hqa.symm (hcc a (by omega))
      · rw [g6 q hz] at hqa
        exact h13 a (by omega) q hq hqa
/-- the split of a whole board, in naturals -/
def gs_W (n : Nat) (K : Nat → Int32) (c : Nat) (ar o s : Nat → Nat) : Prop :=
  (∀ q, q < n * n → ar q < c) ∧ (∀ q r, q < n * n → r < n * n → (ar q = ar r ↔ gb_conn n K q r)) ∧ (∀ i, i < n * n → o i < n * n) ∧ (∀ i j, i < n * n → j < n * n → o i = o j → i = j) ∧ (∀ q, q < n * n → ∃ i, i < n * n ∧ o i = q) ∧
  s 0 = 0 ∧ s c = n * n ∧ (∀ a, a < c → s a < s (a + 1)) ∧ (∀ a i, a < c → s a ≤ i → i < s (a + 1) → ar (o i) = a) ∧ (∀ a, a < c → ∀ q, q < n * n → ar q = a → o (s a) ≤ q) ∧ c ≤ n * n
theorem gs_S_end {n : Nat} {K : Nat → Int32} {c e : Nat} {o s : Nat → Nat} {A O S : Nat → Int32} (hn : n * n < 2 ^ 31) (h : gs_S n K (n * n) c e o s A O S) : e = n * n ∧ ∃ ar : Nat → Nat, (∀ q, q < n * n → A q = nI (ar q)) ∧ gs_W n K c ar o s := by
  have hle := gs_S_le h
  obtain ⟨h1, h2, h3, h4, h5, h6, h7, h8, h9, h10, h11, h12, h13⟩ := h
  have he : e = n * n := by
    have k := gb_enum (N := n * n) e (fun q => A q ≠ -1) o (fun i hi => ⟨(h5 i hi).1, (h5 i hi).2.1⟩) h6 h7
    have k2 := gb_enum (N := n * n) (n * n) (fun q => A q ≠ -1) (fun i => i) (fun i hi => ⟨hi, h2 i hi⟩) (fun i j _ _ h => h) (fun q hq _ => ⟨q, hq, rfl⟩)
    omega
  subst he
  have hcN : c ≤ n * n := by have := hle.1 c (Nat.le_refl c); rw [h10] at this; exact this
  refine ⟨rfl, fun q => if q < n * n then (A q).toNatClampNeg else 0, ?_, ?_⟩
  · intro q hq
    simp only [if_pos hq]
    rcases h1 q hq with h | ⟨a, ha, h⟩
    · exact absurd h (h2 q hq)
    · rw [h, nI_clamp (by omega)]
  · have har : ∀ q, q < n * n → ∃ a, a < c ∧ A q = nI a ∧ (if q < n * n then (A q).toNatClampNeg else 0) = a := by
      intro q hq
      rcases h1 q hq with h | ⟨a, ha, h⟩
      · exact absurd h (h2 q hq)
      · exact ⟨a, ha, h, by rw [if_pos hq, h, nI_clamp (by omega)]⟩
    refine ⟨fun q hq => ?_, fun q x hq hx => ?_, fun i hi => (h5 i hi).1, h6, fun q hq => h7 q hq (h2 q hq), h9, h10, h11, fun a i ha hi1 hi2 => ?_, fun a ha q hq hqa => ?_, hcN⟩
    · obtain ⟨a, ha, -, e1⟩ := har q hq
      simp only [e1]; exact ha
    · obtain ⟨a, ha, e0, e1⟩ := har q hq
      obtain ⟨a', ha', e0', e1'⟩ := har x hx
      simp only [e1, e1']
      constructor
      · intro z; exact h4 q x hq hx (h2 q hq) (by rw [e0, e0', z])
      · intro z
        have := h3 q x hq z
        rw [e0, e0'] at this
        exact ((nI_eq (by omega) (by omega)).mp this).symm
    · have hlt : i < n * n := Nat.lt_of_lt_of_le hi2 (hle.2.1 (a + 1) (by omega))
      have hA := h12 a i ha hi1 hi2
      obtain ⟨a', ha', e0', e1'⟩ := har (o i) (h5 i hlt).1
      rw [e0'] at hA
      simp only [e1']
      exact (nI_eq (by omega) (by omega)).mp hA
    · obtain ⟨a', ha', e0', e1'⟩ := har q hq
      simp only [e1'] at hqa
      exact h13 a ha q hq (by rw [e0', hqa])
