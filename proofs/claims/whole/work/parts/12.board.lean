/-! The board: points, neighbours (the class's order of ways: up, left, right, down), what hangs together, counting, the flood. -/
theorem gb_dm {n r c : Nat} (hc : c < n) : (n * r + c) / n = r ∧ (n * r + c) % n = c := by
  have hn : 0 < n := by omega
  constructor
  · rw [Nat.mul_add_div hn, Nat.div_eq_of_lt hc, Nat.add_zero]
  · rw [Nat.mul_add_mod, Nat.mod_eq_of_lt hc]
theorem gb_lt {n r c : Nat} (hr : r < n) (hc : c < n) : n * r + c < n * n := by
  have h : n * (r + 1) ≤ n * n := Nat.mul_le_mul_left n hr
  rw [Nat.mul_add, Nat.mul_one] at h
  omega
theorem gb_rc {n p : Nat} (hp : p < n * n) : ∃ r c, r < n ∧ c < n ∧ p = n * r + c ∧ p / n = r ∧ p % n = c := by
  have hn : 0 < n := by
    cases n with
    | zero => simp at hp
    | succ k => omega
  exact ⟨p / n, p % n, Nat.div_lt_of_lt_mul hp, Nat.mod_lt _ hn, (Nat.div_add_mod p n).symm, rfl, rfl⟩
def gb_nb (n p w : Nat) : Option Nat :=
  if w = 0 then (if 0 < p / n then some (p - n) else none)
  else if w = 1 then (if 0 < p % n then some (p - 1) else none)
  else if w = 2 then (if p % n < n - 1 then some (p + 1) else none)
  else (if p / n < n - 1 then some (p + n) else none)
def gb_oi (o : Option Nat) : Int32 := match o with
  | none => -1
  | some q => nI q
/-- a neighbour is a point, and it has the point as a neighbour, the other way -/
theorem gb_nb_sym {n p w q : Nat} (hp : p < n * n) (hw : w < 4) (h : gb_nb n p w = some q) : q < n * n ∧ gb_nb n q (3 - w) = some p := by
  obtain ⟨r, c, hr, hc, e, hd, hm⟩ := gb_rc hp
  have hn : 0 < n := by omega
  unfold gb_nb at h
  rw [hd, hm] at h
  have hw4 : w = 0 ∨ w = 1 ∨ w = 2 ∨ w = 3 := by omega
  rcases hw4 with rfl | rfl | rfl | rfl
  · rw [if_pos rfl] at h
    by_cases h0 : 0 < r
    · rw [if_pos h0] at h
      have hq : q = p - n := (Option.some.inj h).symm
      obtain ⟨r', rfl⟩ : ∃ r', r = r' + 1 := ⟨r - 1, by omega⟩
      have hq2 : q = n * r' + c := by rw [hq, e, Nat.mul_add, Nat.mul_one]; omega
      refine ⟨by rw [hq2]; exact gb_lt (by omega) hc, ?_⟩
      obtain ⟨d1, d2⟩ := gb_dm (n := n) (r := r') (c := c) hc
      unfold gb_nb
      rw [hq2, d1]
      rw [if_neg (by decide), if_neg (by decide), if_neg (by decide), if_pos (by omega)]
      rw [e, Nat.mul_add, Nat.mul_one]
      congr 1
      omega
    · rw [if_neg h0] at h; cases h
  · rw [if_neg (by decide), if_pos rfl] at h
    by_cases h0 : 0 < c
    · rw [if_pos h0] at h
      have hq : q = p - 1 := (Option.some.inj h).symm
      have hq2 : q = n * r + (c - 1) := by omega
      refine ⟨by rw [hq2]; exact gb_lt hr (by omega), ?_⟩
      obtain ⟨d1, d2⟩ := gb_dm (n := n) (r := r) (c := c - 1) (by omega)
      unfold gb_nb
      rw [hq2, d2]
      rw [if_neg (by decide), if_neg (by decide), if_pos (by decide), if_pos (by omega)]
      congr 1
      omega
    · rw [if_neg h0] at h; cases h
  · rw [if_neg (by decide), if_neg (by decide), if_pos rfl] at h
    by_cases h0 : c < n - 1
    · rw [if_pos h0] at h
      have hq : q = p + 1 := (Option.some.inj h).symm
      have hq2 : q = n * r + (c + 1) := by omega
      refine ⟨by rw [hq2]; exact gb_lt hr (by omega), ?_⟩
      obtain ⟨d1, d2⟩ := gb_dm (n := n) (r := r) (c := c + 1) (by omega)
      unfold gb_nb
      rw [hq2, d2]
      rw [if_neg (by decide), if_pos (by decide), if_pos (by omega)]
      congr 1
      omega
    · rw [if_neg h0] at h; cases h
  · rw [if_neg (by decide), if_neg (by decide), if_neg (by decide)] at h
    by_cases h0 : r < n - 1
    · rw [if_pos h0] at h
      have hq : q = p + n := (Option.some.inj h).symm
      have hq2 : q = n * (r + 1) + c := by rw [hq, e, Nat.mul_add, Nat.mul_one]; omega
      refine ⟨by rw [hq2]; exact gb_lt (by omega) hc, ?_⟩
      obtain ⟨d1, d2⟩ := gb_dm (n := n) (r := r + 1) (c := c) hc
      unfold gb_nb
      rw [hq2, d1]
      rw [if_pos (by decide), if_pos (by omega)]
      rw [e, Nat.mul_add, Nat.mul_one]
      congr 1
      omega
    · rw [if_neg h0] at h; cases h
theorem gb_nb_lt {n p w q : Nat} (hp : p < n * n) (hw : w < 4) (h : gb_nb n p w = some q) : q < n * n := (gb_nb_sym hp hw h).1
/-- beside one another -/
def gb_adj (n p q : Nat) : Prop := ∃ w, w < 4 ∧ gb_nb n p w = some q
theorem gb_adj_sym {n p q : Nat} (hp : p < n * n) (h : gb_adj n p q) : gb_adj n q p := by
  obtain ⟨w, hw, e⟩ := h
  exact ⟨3 - w, by omega, (gb_nb_sym hp hw e).2⟩
theorem gb_adj_lt {n p q : Nat} (hp : p < n * n) (h : gb_adj n p q) : q < n * n := by
  obtain ⟨w, hw, e⟩ := h
  exact gb_nb_lt hp hw e
/-- one comes from p to q over points of p's kind -/
def gb_conn (n : Nat) (k : Nat → Int32) (p q : Nat) : Prop := ∀ S : Nat → Prop, S p → (∀ a w b, S a → w < 4 → gb_nb n a w = some b → k b = k a → S b) → S q
theorem gb_conn_rf {n : Nat} {k : Nat → Int32} {p : Nat} : gb_conn n k p p := fun _ h _ => h
theorem gb_conn_tr {n : Nat} {k : Nat → Int32} {p q r : Nat} (h1 : gb_conn n k p q) (h2 : gb_conn n k q r) : gb_conn n k p r := fun S hp hc => h2 S (h1 S hp hc) hc
theorem gb_conn_st {n : Nat} {k : Nat → Int32} {p a w b : Nat} (h : gb_conn n k p a) (hw : w < 4) (hb : gb_nb n a w = some b) (hk : k b = k a) : gb_conn n k p b := fun S hp hc => hc a w b (h S hp hc) hw hb hk
theorem gb_conn_k {n : Nat} {k : Nat → Int32} {p q : Nat} (h : gb_conn n k p q) : k q = k p := h (fun x => k x = k p) rfl (fun _ _ _ ha _ _ hk => hk.trans ha)
theorem gb_conn_lt {n : Nat} {k : Nat → Int32} {p q : Nat} (hp : p < n * n) (h : gb_conn n k p q) : q < n * n := h (fun x => x < n * n) hp (fun _ _ _ ha hw hb _ => gb_nb_lt ha hw hb)
theorem gb_conn_sy {n : Nat} {k : Nat → Int32} {p q : Nat} (hp : p < n * n) (h : gb_conn n k p q) : gb_conn n k q p :=
  (h (fun x => x < n * n ∧ gb_conn n k x p) ⟨hp, gb_conn_rf⟩ (fun a w b ha hw hb hk => ⟨gb_nb_lt ha.1 hw hb, gb_conn_tr (gb_conn_st gb_conn_rf (show 3 - w < 4 by omega) (gb_nb_sym ha.1 hw hb).2 hk.symm) ha.2⟩)).2
/-- how many of the first N have it -/
noncomputable def gb_cnt (P : Nat → Prop) : Nat → Nat
  | 0 => 0
  | n + 1 => gb_cnt P n + @ite Nat (P n) (Classical.propDecidable _) 1 0
theorem gb_cnt_y {P : Nat → Prop} {n : Nat} (h : P n) : gb_cnt P (n + 1) = gb_cnt P n + 1 := by
  show gb_cnt P n + @ite Nat (P n) (Classical.propDecidable _) 1 0 = _
  rw [if_pos h]
theorem gb_cnt_n {P : Nat → Prop} {n : Nat} (h : ¬ P n) : gb_cnt P (n + 1) = gb_cnt P n := by
  show gb_cnt P n + @ite Nat (P n) (Classical.propDecidable _) 1 0 = _
  rw [if_neg h]; rfl
theorem gb_cnt_eq {P P' : Nat → Prop} : ∀ N : Nat, (∀ q, q < N → (P q ↔ P' q)) → gb_cnt P N = gb_cnt P' N := by
  intro N
  induction N with
  | zero => intro _; rfl
  | succ n ih =>
    intro h
    have e := ih (fun q hq => h q (by omega))
    by_cases hp : P n
    · rw [gb_cnt_y hp, gb_cnt_y ((h n (by omega)).mp hp), e]
    · rw [gb_cnt_n hp, gb_cnt_n (fun z => hp ((h n (by omega)).mpr z)), e]
theorem gb_cnt_le {P : Nat → Prop} : ∀ N : Nat, gb_cnt P N ≤ N := by
  intro N
  induction N with
  | zero => exact Nat.le_refl _
  | succ n ih =>
    by_cases hp : P n
    · rw [gb_cnt_y hp]; omega
    · rw [gb_cnt_n hp]; omega
theorem gb_cnt_0 {P : Nat → Prop} : ∀ N : Nat, (∀ q, q < N → ¬ P q) → gb_cnt P N = 0 := by
  intro N
  induction N with
  | zero => intro _; rfl
  | succ n ih => intro h; rw [gb_cnt_n (h n (by omega))]; exact ih (fun q hq => h q (by omega))
/-- one more has it -/
theorem gb_cnt_add {P P' : Nat → Prop} {x : Nat} (hx : ¬ P x) (h : ∀ q, P' q ↔ P q ∨ q = x) : ∀ N : Nat, x < N → gb_cnt P' N = gb_cnt P N + 1 := by
  intro N
  induction N with
  | zero => intro hN; omega
  | succ n ih =>
    intro hN
    by_cases hxn : x = n
    · subst hxn
      rw [gb_cnt_y ((h x).mpr (Or.inr rfl)), gb_cnt_n hx]
      congr 1
      exact gb_cnt_eq x (fun q hq => by
        rw [h q]
        exact ⟨fun z => z.resolve_right (by omega), Or.inl⟩)
    · have e := ih (by omega)
      by_cases hp : P n
      · rw [gb_cnt_y hp, gb_cnt_y ((h n).mpr (Or.inl hp)), e]
      · rw [gb_cnt_n hp, gb_cnt_n (fun z => ((h n).mp z).elim hp (fun q => hxn q.symm)), e]
theorem gb_cnt_pos {P : Nat → Prop} {x : Nat} (hx : P x) : ∀ N : Nat, x < N → 0 < gb_cnt P N := by
  intro N
  induction N with
  | zero => intro h; omega
  | succ n ih =>
    intro h
    by_cases hxn : x = n
    · subst hxn; rw [gb_cnt_y hx]; omega
    · have e := ih (by omega)
      by_cases hp : P n
      · rw [gb_cnt_y hp]; omega
      · rw [gb_cnt_n hp]; exact e
/-- a row without a repetition that holds just those: as many -/
theorem gb_enum {N : Nat} : ∀ (e : Nat) (P : Nat → Prop) (f : Nat → Nat), (∀ i, i < e → f i < N ∧ P (f i)) → (∀ i j, i < e → j < e → f i = f j → i = j) → (∀ q, q < N → P q → ∃ i, i < e ∧ f i = q) → gb_cnt P N = e := by
  intro e
  induction e with
  | zero =>
    intro P f _ _ h3
    exact gb_cnt_0 N (fun q hq hp => by obtain ⟨i, hi, -⟩ := h3 q hq hp; omega)
  | succ e ih =>
    intro P f h1 h2 h3
    have hx := h1 e (by omega)
    have k := ih (fun q => P q ∧ q ≠ f e) f (fun i hi => ⟨(h1 i (by omega)).1, (h1 i (by omega)).2, fun z => by have := h2 i e (by omega) (by omega) z; omega⟩)
      (fun i j hi hj => h2 i j (by omega) (by omega))
      (fun q hq hp => by
        obtain ⟨i, hi, hf⟩ := h3 q hq hp.1
        refine ⟨i, ?_, hf⟩
        have : i ≠ e := fun z => hp.2 (by rw [← hf, z])
        omega)
    rw [← k]
    refine gb_cnt_add (x := f e) (fun z => z.2 rfl) (fun q => ?_) N hx.1
    constructor
    · intro hq
      by_cases hz : q = f e
      · exact Or.inr hz
      · exact Or.inl ⟨hq, hz⟩
    · intro hq
      rcases hq with hq | hq
      · exact hq.1
      · rw [hq]; exact hx.2
/-- a row of points without a repetition is no longer than the board; a point that isn't in it makes it shorter -/
theorem gb_fit {N e : Nat} {f : Nat → Nat} (h1 : ∀ i, i < e → f i < N) (h2 : ∀ i j, i < e → j < e → f i = f j → i = j) : e ≤ N := by
  have k := gb_enum (N := N) e (fun q => ∃ i, i < e ∧ f i = q) f (fun i hi => ⟨h1 i hi, i, hi, rfl⟩) h2 (fun q _ hp => hp)
  rw [← k]
  exact gb_cnt_le N
theorem gb_fit1 {N e x : Nat} {f : Nat → Nat} (h1 : ∀ i, i < e → f i < N) (h2 : ∀ i j, i < e → j < e → f i = f j → i = j) (hx : x < N) (hn : ∀ i, i < e → f i ≠ x) : e < N := by
  have k := gb_fit (N := N) (e := e + 1) (f := fun i => if i = e then x else f i)
    (fun i hi => by
      by_cases hie : i = e
      · simp [hie, hx]
      · simp only [if_neg hie]; exact h1 i (by omega))
    (fun i j hi hj hij => by
      by_cases hie : i = e <;> by_cases hje : j = e
      · omega
      · simp only [if_pos hie, if_neg hje] at hij
        exact absurd hij.symm (hn j (by omega))
      · simp only [if_neg hie, if_pos hje] at hij
        exact absurd hij (hn i (by omega))
      · simp only [if_neg hie, if_neg hje] at hij
        exact h2 i j (by omega) (by omega) hij)
  omega
/-- the flood from p: what it has reached (V), in which order (r, e of them) -/
def gb_FI (n : Nat) (k : Nat → Int32) (p : Nat) (V : Nat → Prop) (r : Nat → Nat) (e : Nat) : Prop :=
  r 0 = p ∧ 0 < e ∧ (∀ j, j < e → gb_conn n k p (r j)) ∧ (∀ i j, i < e → j < e → r i = r j → i = j) ∧ ∀ q, V q ↔ ∃ j, j < e ∧ r j = q
/-- all neighbours of the first i, and of the i-th those of the first w ways, are reached, if of the kind -/
def gb_FC (n : Nat) (k : Nat → Int32) (V : Nat → Prop) (r : Nat → Nat) (i w : Nat) : Prop :=
  (∀ j, j < i → ∀ v, v < 4 → ∀ b, gb_nb n (r j) v = some b → k b = k (r j) → V b) ∧ ∀ v, v < w → ∀ b, gb_nb n (r i) v = some b → k b = k (r i) → V b
theorem gb_FI_0 {n : Nat} {k : Nat → Int32} {p : Nat} {r : Nat → Nat} (hr : r 0 = p) : gb_FI n k p (fun q => q = p) r 1 := by
  refine ⟨hr, by omega, fun j hj => ?_, fun i j hi hj _ => by omega, fun q => ⟨fun h => ⟨0, by omega, by rw [hr, h]⟩, fun ⟨j, hj, h⟩ => ?_⟩⟩
  · rw [show j = 0 by omega, hr]; exact gb_conn_rf
  · rw [show j = 0 by omega, hr] at h; exact h.symm
theorem gb_FC_0 {n : Nat} {k : Nat → Int32} {V : Nat → Prop} {r : Nat → Nat} : gb_FC n k V r 0 0 := ⟨fun j hj => by omega, fun v hv => by omega⟩
theorem gb_FC_next {n : Nat} {k : Nat → Int32} {V : Nat → Prop} {r : Nat → Nat} {i : Nat} (h : gb_FC n k V r i 4) : gb_FC n k V r (i + 1) 0 := by
  refine ⟨fun j hj => ?_, fun v hv => by omega⟩
  by_cases hji : j = i
  · subst hji; exact h.2
  · exact h.1 j (by omega)
theorem gb_FC_skip {n : Nat} {k : Nat → Int32} {V : Nat → Prop} {r : Nat → Nat} {i w : Nat} (h : gb_FC n k V r i w) (hs : ∀ b, gb_nb n (r i) w = some b → k b = k (r i) → V b) : gb_FC n k V r i (w + 1) := by
  refine ⟨h.1, fun v hv => ?_⟩
  by_cases hvw : v = w
  · subst hvw; exact hs
  · exact h.2 v (by omega)
theorem gb_FI_add {n : Nat} {k : Nat → Int32} {p : Nat} {V : Nat → Prop} {r : Nat → Nat} {e i w b : Nat} (h : gb_FI n k p V r e) (hi : i < e) (hw : w < 4) (hb : gb_nb n (r i) w = some b) (hk : k b = k (r i)) (hv : ¬ V b) :
    gb_FI n k p (fun q => V q ∨ q = b) (fun j => if j = e then b else r j) (e + 1) := by
  obtain ⟨h1, h2, h3, h4, h5⟩ := h
  have hne : ∀ j, j < e → r j ≠ b := fun j hj z => hv ((h5 b).mpr ⟨j, hj, z⟩)
  refine ⟨?_, by omega, fun j hj => ?_, fun x y hx hy hxy => ?_, fun q => ⟨fun hq => ?_, fun ⟨j, hj, hq⟩ => ?_⟩⟩
  · show (if 0 = e then b else r 0) = p
    rw [if_neg (by omega), h1]
  · show gb_conn n k p (if j = e then b else r j)
    by_cases hje : j = e
    · rw [if_pos hje]; exact gb_conn_st (h3 i hi) hw hb hk
    · rw [if_neg hje]; exact h3 j (by omega)
  · have hxy' : (if x = e then b else r x) = (if y = e then b else r y) := hxy
    by_cases hxe : x = e <;> by_cases hye : y = e
    · omega
    · rw [if_pos hxe, if_neg hye] at hxy'; exact absurd hxy'.symm (hne y (by omega))
    · rw [if_neg hxe, if_pos hye] at hxy'; exact absurd hxy' (hne x (by omega))
    · rw [if_neg hxe, if_neg hye] at hxy'; exact h4 x y (by omega) (by omega) hxy'
  · rcases hq with hq | hq
    · obtain ⟨j, hj, e1⟩ := (h5 q).mp hq
      exact ⟨j, by omega, by show (if j = e then b else r j) = q; rw [if_neg (by omega)]; exact e1⟩
    · exact ⟨e, by omega, by show (if e = e then b else r e) = q; rw [if_pos rfl]; exact hq.symm⟩
  · have hq' : (if j = e then b else r j) = q := hq
    by_cases hje : j = e
    · rw [if_pos hje] at hq'; exact Or.inr hq'.symm
    · rw [if_neg hje] at hq'; exact Or.inl ((h5 q).mpr ⟨j, by omega, hq'⟩)
theorem gb_FC_add {n : Nat} {k : Nat → Int32} {V : Nat → Prop} {r : Nat → Nat} {e i w b : Nat} (h : gb_FC n k V r i w) (hi : i < e) (hb : gb_nb n (r i) w = some b) :
    gb_FC n k (fun q => V q ∨ q = b) (fun j => if j = e then b else r j) i (w + 1) := by
  refine ⟨fun j hj v hv x hx hk => ?_, fun v hv x hx hk => ?_⟩
  · have hr : (if j = e then b else r j) = r j := if_neg (by omega)
    simp only [hr] at hx hk
    exact Or.inl (h.1 j hj v hv x hx hk)
  · have hr : (if i = e then b else r i) = r i := if_neg (by omega)
    simp only [hr] at hx hk
    by_cases hvw : v = w
    · subst hvw
      rw [hb] at hx
      exact Or.inr (Option.some.inj hx).symm
    · exact Or.inl (h.2 v (by omega) x hx hk)
/-- the flood has ended: it has reached just what hangs together with p -/
theorem gb_FI_end {n : Nat} {k : Nat → Int32} {p : Nat} {V : Nat → Prop} {r : Nat → Nat} {e : Nat} (h : gb_FI n k p V r e) (hc : gb_FC n k V r e 0) (q : Nat) : V q ↔ gb_conn n k p q := by
  obtain ⟨h1, h2, h3, h4, h5⟩ := h
  constructor
  · intro hq
    obtain ⟨j, hj, e1⟩ := (h5 q).mp hq
    rw [← e1]; exact h3 j hj
  · intro hq
    refine hq V ((h5 p).mpr ⟨0, h2, h1⟩) (fun a w b ha hw hb hk => ?_)
    obtain ⟨j, hj, e1⟩ := (h5 a).mp ha
    rw [← e1] at hb hk
    exact hc.1 j hj w hw b hb hk
/-- its length is the number of those points -/
theorem gb_FI_len {n : Nat} {k : Nat → Int32} {p : Nat} {V : Nat → Prop} {r : Nat → Nat} {e : Nat} (hp : p < n * n) (h : gb_FI n k p V r e) (hc : gb_FC n k V r e 0) : gb_cnt (gb_conn n k p) (n * n) = e := by
  have hV := gb_FI_end h hc
  obtain ⟨h1, h2, h3, h4, h5⟩ := h
  exact gb_enum e _ r (fun i hi => ⟨gb_conn_lt hp (h3 i hi), h3 i hi⟩) h4 (fun q _ hq => by
    obtain ⟨j, hj, e1⟩ := (h5 q).mp ((hV q).mpr hq)
    exact ⟨j, hj, e1⟩)
