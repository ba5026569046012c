/-! Boards that stood, by their hash (pure part). -/
def gh_mix (V : Nat → Nat) : Nat → Int64
  | 0 => 0
  | k + 1 => (gh_mix V k ^^^ lN (V k)) * (-7046029254386353131 : Int64)
def gh (V : Nat → Nat) (L : Nat) : Nat := (gh_mix V L).toBitVec.toNat / 2 ^ 57
theorem gh_mix_eq {V V' : Nat → Nat} : ∀ L : Nat, (∀ i, i < L → V i = V' i) → gh_mix V L = gh_mix V' L := by
  intro L
  induction L with
  | zero => intro _; rfl
  | succ k ih =>
    intro h
    show (gh_mix V k ^^^ lN (V k)) * _ = (gh_mix V' k ^^^ lN (V' k)) * _
    rw [ih (fun i hi => h i (by omega)), h k (by omega)]
theorem gh_eq {V V' : Nat → Nat} {L : Nat} (h : ∀ i, i < L → V i = V' i) : gh V L = gh V' L := by
  unfold gh
  rw [gh_mix_eq L h]
theorem gh_lt (V : Nat → Nat) (L : Nat) : gh V L < 128 := by
  unfold gh
  have h := (gh_mix V L).toBitVec.isLt
  have e : (2 : Nat) ^ 64 = 2 ^ 57 * 128 := by decide
  rw [e] at h
  exact Nat.div_lt_of_lt_mul h
theorem gh_word (x : Int64) : (x.toUInt64 >>> ((nI 57).toInt64.toUInt64 &&& Int64.toUInt64 63)).toInt64.toInt32 = nI (x.toBitVec.toNat / 2 ^ 57) := by
  obtain ⟨v, hv, rfl⟩ := wb_of x
  rw [wb_shr hv (by decide), lN_i, wb_tn hv]
/-- the newest below k whose hash is u -/
def gh_top (hs : Nat → Nat) (u : Nat) : Nat → Option Nat
  | 0 => none
  | k + 1 => if hs k = u then some k else gh_top hs u k
theorem gh_top_some {hs : Nat → Nat} {u : Nat} : ∀ {k i : Nat}, gh_top hs u k = some i → i < k ∧ hs i = u ∧ ∀ j, i < j → j < k → hs j ≠ u := by
  intro k
  induction k with
  | zero => intro i h; cases h
  | succ k ih =>
    intro i h
    unfold gh_top at h
    by_cases hk : hs k = u
    · rw [if_pos hk] at h
      cases h
      exact ⟨by omega, hk, fun j h1 h2 => by omega⟩
    · rw [if_neg hk] at h
      obtain ⟨a, b, c⟩ := ih h
      refine ⟨by omega, b, fun j h1 h2 => ?_⟩
      by_cases hj : j = k
      · rw [hj]; exact hk
      · exact c j h1 (by omega)
theorem gh_top_none {hs : Nat → Nat} {u : Nat} : ∀ {k : Nat}, gh_top hs u k = none → ∀ j, j < k → hs j ≠ u := by
  intro k
  induction k with
  | zero => intro _ j hj; omega
  | succ k ih =>
    intro h j hj
    unfold gh_top at h
    by_cases hk : hs k = u
    · rw [if_pos hk] at h; cases h
    · rw [if_neg hk] at h
      by_cases hjk : j = k
      · rw [hjk]; exact hk
      · exact ih h j (by omega)
theorem gh_top_ext {hs hs' : Nat → Nat} {u : Nat} : ∀ {k : Nat}, (∀ j, j < k → hs j = hs' j) → gh_top hs u k = gh_top hs' u k := by
  intro k
  induction k with
  | zero => intro _; rfl
  | succ k ih =>
    intro h
    unfold gh_top
    rw [h k (by omega), ih (fun j hj => h j (by omega))]
/-- the history's cells: positions q, boards B -/
def xh_P (D : va_G) (h : xa_H) (N m : Nat) (q B : Nat → Nat) (ob : Nat → Option Nat) (pt : Nat → Int32) (tb tw : Nat → Nat) (V : Nat → Nat → Nat) : Prop :=
  ∀ i, i ≤ m → h (q i) = some (.inr (6, [va_rf (if i = 0 then none else some (q (i - 1))), va_rf (ob i), .ref (B i), .int (nI i), .int (pt i), .int (nI (tb i)), .int (nI (tw i))])) ∧ h (B i) = some (xp_c D N (V i))
/-- the buckets' chains -/
def xh_B (N m : Nat) (q : Nat → Nat) (ob F : Nat → Option Nat) (V : Nat → Nat → Nat) : Prop :=
  (∀ i, i ≤ m → ob i = (gh_top (fun j => gh (V j) ((N + 31) / 32)) (gh (V i) ((N + 31) / 32)) i).map q) ∧ ∀ u, u < 128 → F u = (gh_top (fun j => gh (V j) ((N + 31) / 32)) u (m + 1)).map q
/-- two packed boards have the same words -/
def xh_E (N : Nat) (V W : Nat → Nat) : Prop := ∀ i, i < (N + 31) / 32 → V i = W i
