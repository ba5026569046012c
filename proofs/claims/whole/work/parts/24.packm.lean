/-! Words of 64 bits (a family of the given laws, BITS.to-paste), and boards packed two bits a point. -/
theorem wb_tb (n : Nat) : (lN n).toBitVec = BitVec.ofNat 64 n := rfl
theorem wb_inj {a b : Int64} (h : a.toBitVec = b.toBitVec) : a = b := Int64.toBitVec_inj.mp h
theorem wb_tn {n : Nat} (h : n < 2 ^ 64) : (lN n).toBitVec.toNat = n := by rw [wb_tb, BitVec.toNat_ofNat, Nat.mod_eq_of_lt h]
theorem wb_of (x : Int64) : ∃ n, n < 2 ^ 64 ∧ x = lN n := ⟨x.toBitVec.toNat, x.toBitVec.isLt, wb_inj (by rw [wb_tb]; simp)⟩
theorem wb_of32 (x : Int32) : ∃ n, n < 2 ^ 32 ∧ x = nI n := ⟨x.toBitVec.toNat, x.toBitVec.isLt, Int32.toBitVec_inj.mp (by show _ = BitVec.ofNat 32 _; simp)⟩
theorem wb_c : ∀ k, k < 64 → ((nI k).toInt64 &&& 63) = lN k := by decide +kernel
theorem wb_cu : ∀ k, k < 64 → ((nI k).toInt64.toUInt64 &&& Int64.toUInt64 63) = UInt64.ofNat k := by decide +kernel
theorem wb_sm : ∀ k, k < 64 → (BitVec.ofNat 64 k).smod 64 = BitVec.ofNat 64 k := by decide +kernel
theorem wb_pw {a b : Nat} (h : a ≤ b) : 2 ^ b = 2 ^ a * 2 ^ (b - a) := by rw [← Nat.pow_add]; congr 1; omega
theorem wb_lt2 {a b : Nat} (h : a < b) : 2 ^ a < 2 ^ b := Nat.pow_lt_pow_right (by decide) h
theorem wb_mod (n : Nat) : lN n = lN (n % 2 ^ 64) := wb_inj (by rw [wb_tb, wb_tb]; apply BitVec.eq_of_toNat_eq; rw [BitVec.toNat_ofNat, BitVec.toNat_ofNat, Nat.mod_mod])
theorem wb_shr {n k : Nat} (hn : n < 2 ^ 64) (hk : k < 64) : ((lN n).toUInt64 >>> ((nI k).toInt64.toUInt64 &&& Int64.toUInt64 63)).toInt64 = lN (n / 2 ^ k) := by
  rw [wb_cu k hk]
  apply wb_inj
  apply BitVec.eq_of_toNat_eq
  show ((lN n).toUInt64 >>> UInt64.ofNat k).toNat = (BitVec.ofNat 64 _).toNat
  have h1 : (UInt64.ofNat k).toNat = k := by
    show (BitVec.ofNat 64 k).toNat = k
    rw [BitVec.toNat_ofNat, Nat.mod_eq_of_lt (by omega)]
  have h2 : (lN n).toUInt64.toNat = n := wb_tn hn
  rw [UInt64.toNat_shiftRight, h1, h2, Nat.mod_eq_of_lt hk, Nat.shiftRight_eq_div_pow, BitVec.toNat_ofNat, Nat.mod_eq_of_lt (Nat.lt_of_le_of_lt (Nat.div_le_self _ _) hn)]
theorem wb_shl (n : Nat) {k : Nat} (hk : k < 64) : lN n <<< ((nI k).toInt64 &&& 63) = lN (n * 2 ^ k) := by
  rw [wb_c k hk]
  apply wb_inj
  rw [Int64.toBitVec_shiftLeft, wb_tb, wb_tb, wb_tb, wb_sm k hk]
  apply BitVec.eq_of_toNat_eq
  rw [BitVec.shiftLeft_eq', BitVec.toNat_shiftLeft, BitVec.toNat_ofNat, BitVec.toNat_ofNat, BitVec.toNat_ofNat, Nat.mod_eq_of_lt (show k < 2 ^ 64 by omega), Nat.shiftLeft_eq, Nat.mul_mod, Nat.mod_mod, ← Nat.mul_mod]
theorem wb_and {a b : Nat} (ha : a < 2 ^ 64) (hb : b < 2 ^ 64) : lN a &&& lN b = lN (a &&& b) := by
  apply wb_inj
  rw [Int64.toBitVec_and, wb_tb, wb_tb, wb_tb]
  apply BitVec.eq_of_toNat_eq
  rw [BitVec.toNat_and, BitVec.toNat_ofNat, BitVec.toNat_ofNat, BitVec.toNat_ofNat, Nat.mod_eq_of_lt ha, Nat.mod_eq_of_lt hb, Nat.mod_eq_of_lt (Nat.and_lt_two_pow _ hb)]
theorem wb_or {a b : Nat} (ha : a < 2 ^ 64) (hb : b < 2 ^ 64) : lN a ||| lN b = lN (a ||| b) := by
  apply wb_inj
  rw [Int64.toBitVec_or, wb_tb, wb_tb, wb_tb]
  apply BitVec.eq_of_toNat_eq
  rw [BitVec.toNat_or, BitVec.toNat_ofNat, BitVec.toNat_ofNat, BitVec.toNat_ofNat, Nat.mod_eq_of_lt ha, Nat.mod_eq_of_lt hb, Nat.mod_eq_of_lt (Nat.or_lt_two_pow ha hb)]
theorem wb_mask {n k : Nat} (hn : n < 2 ^ 64) (hk : k < 64) : lN n &&& lN (2 ^ k - 1) = lN (n % 2 ^ k) := by
  rw [wb_and hn (by have := wb_lt2 hk; omega), Nat.and_two_pow_sub_one_eq_mod]
theorem wb_a1 {n : Nat} (hn : n < 2 ^ 64) : lN n &&& 1 = lN (n % 2) := wb_mask (k := 1) hn (by decide)
theorem wb_bit {n k : Nat} (hn : n < 2 ^ 64) (hk : k < 64) : ((lN n).toUInt64 >>> ((nI k).toInt64.toUInt64 &&& Int64.toUInt64 63)).toInt64 &&& 1 = lN (n / 2 ^ k % 2) := by
  rw [wb_shr hn hk, wb_a1 (Nat.lt_of_le_of_lt (Nat.div_le_self _ _) hn)]
def gp_dg (v j : Nat) : Nat := v / 2 ^ (2 * j) % 4
theorem gp_4 (x : Nat) : x % 4 = (x.testBit 0).toNat + 2 * (x.testBit 1).toNat := by
  have h0 : x.testBit 0 = decide (x % 2 = 1) := Nat.testBit_zero x
  have h1 : x.testBit 1 = decide (x / 2 % 2 = 1) := by
    have := Nat.testBit_succ x 0
    rw [this, Nat.testBit_zero]
  rw [h0, h1]
  have a : x % 2 = 0 ∨ x % 2 = 1 := by omega
  have b : x / 2 % 2 = 0 ∨ x / 2 % 2 = 1 := by omega
  rcases a with a | a <;> rcases b with b | b <;> simp [a, b] <;> omega
theorem gp_dg_bits (v j : Nat) : gp_dg v j = (v.testBit (2 * j)).toNat + 2 * (v.testBit (2 * j + 1)).toNat := by
  unfold gp_dg
  rw [gp_4, Nat.testBit_div_two_pow, Nat.testBit_div_two_pow, Nat.zero_add, Nat.add_comm 1 (2 * j)]
theorem gp_dg_lt (v j : Nat) : gp_dg v j < 4 := Nat.mod_lt _ (by decide)
theorem gp_toNat {a b c d : Bool} (h : a.toNat + 2 * b.toNat = c.toNat + 2 * d.toNat) : a = c ∧ b = d := by
  cases a <;> cases b <;> cases c <;> cases d <;> simp_all
theorem gp_ext {v w : Nat} (hv : v < 2 ^ 64) (hw : w < 2 ^ 64) (h : ∀ j, j < 32 → gp_dg v j = gp_dg w j) : v = w := by
  apply Nat.eq_of_testBit_eq
  intro t
  by_cases ht : t < 64
  · have h1 := h (t / 2) (by omega)
    rw [gp_dg_bits, gp_dg_bits] at h1
    obtain ⟨e1, e2⟩ := gp_toNat h1
    by_cases h2 : t % 2 = 0
    · rw [show 2 * (t / 2) = t by omega] at e1; exact e1
    · rw [show 2 * (t / 2) + 1 = t by omega] at e2; exact e2
  · have p : 2 ^ 64 ≤ 2 ^ t := Nat.pow_le_pow_right (by decide) (by omega)
    rw [Nat.testBit_lt_two_pow (by omega), Nat.testBit_lt_two_pow (by omega)]
/-- a word with one digit set anew -/
def gp_set (v j k : Nat) : Nat := (v &&& (2 ^ 64 - (3 * 2 ^ (2 * j) + 1))) ||| (k * 2 ^ (2 * j))
theorem gp_tb {j k t : Nat} (hk : k < 4) : (k * 2 ^ (2 * j)).testBit t = (decide (2 * j ≤ t ∧ t < 2 * j + 2) && k.testBit (t - 2 * j)) := by
  rw [Nat.testBit_mul_two_pow]
  by_cases h1 : 2 * j ≤ t
  · by_cases h2 : t < 2 * j + 2
    · simp [h1, h2]
    · have : k.testBit (t - 2 * j) = false := Nat.testBit_lt_two_pow (Nat.lt_of_lt_of_le hk (by
        have := Nat.pow_le_pow_right (show 0 < 2 by decide) (show 2 ≤ t - 2 * j by omega)
        exact this))
      simp [this]
  · simp [h1]
theorem gp_set_bit {v j k t : Nat} (hj : j < 32) (hk : k < 4) (ht : t < 64) : (gp_set v j k).testBit t = if 2 * j ≤ t ∧ t < 2 * j + 2 then k.testBit (t - 2 * j) else v.testBit t := by
  have hM : 3 * 2 ^ (2 * j) < 2 ^ 64 := by
    have := Nat.pow_le_pow_right (show 0 < 2 by decide) (show 2 * j ≤ 62 by omega)
    have e : (2 : Nat) ^ 64 = 4 * 2 ^ 62 := by decide
    omega
  unfold gp_set
  rw [Nat.testBit_or, Nat.testBit_and, Nat.testBit_two_pow_sub_succ hM, gp_tb (show 3 < 4 by decide), gp_tb hk]
  by_cases h : 2 * j ≤ t ∧ t < 2 * j + 2
  · have h3 : (3 : Nat).testBit (t - 2 * j) = true := by
      rcases (show t - 2 * j = 0 ∨ t - 2 * j = 1 by omega) with e | e <;> rw [e] <;> decide
    simp [h, ht, h3]
  · simp [h, ht]
theorem gp_set_lt {v j k : Nat} (hv : v < 2 ^ 64) (hj : j < 32) (hk : k < 4) : gp_set v j k < 2 ^ 64 := by
  unfold gp_set
  refine Nat.or_lt_two_pow ?_ ?_
  · exact Nat.lt_of_le_of_lt Nat.and_le_left hv
  · have := Nat.pow_le_pow_right (show 0 < 2 by decide) (show 2 * j ≤ 62 by omega)
    have e : (2 : Nat) ^ 64 = 4 * 2 ^ 62 := by decide
    have h1 : k * 2 ^ (2 * j) ≤ 3 * 2 ^ (2 * j) := Nat.mul_le_mul_right _ (by omega)
    omega
theorem gp_set_dg {v j k i : Nat} (hj : j < 32) (hk : k < 4) (hi : i < 32) : gp_dg (gp_set v j k) i = if i = j then k else gp_dg v i := by
  rw [gp_dg_bits, gp_set_bit hj hk (by omega), gp_set_bit hj hk (by omega)]
  by_cases h : i = j
  · subst h
    rw [if_pos rfl, if_pos (by omega), if_pos (by omega), show 2 * i - 2 * i = 0 by omega, show 2 * i + 1 - 2 * i = 1 by omega, ← gp_4]
    omega
  · rw [if_neg h, if_neg (by omega), if_neg (by omega), gp_dg_bits]
/-- a board of N points, packed -/
def gp_B (N : Nat) (b : Nat → Nat) (V : Nat → Nat) : Prop := ∀ i, i < (N + 31) / 32 → V i < 2 ^ 64 ∧ ∀ j, j < 32 → gp_dg (V i) j = if 32 * i + j < N then b (32 * i + j) else 0
theorem gp_B_at {N : Nat} {b V : Nat → Nat} (h : gp_B N b V) {p : Nat} (hp : p < N) : gp_dg (V (p / 32)) (p % 32) = b p := by
  have h1 := (h (p / 32) (by omega)).2 (p % 32) (by omega)
  rw [show 32 * (p / 32) + p % 32 = p by omega, if_pos hp] at h1
  exact h1
theorem gp_B_set {N : Nat} {b V : Nat → Nat} (h : gp_B N b V) {p k : Nat} (hp : p < N) (hk : k < 4) : gp_B N (fun q => if q = p then k else b q) (fun i => if i = p / 32 then gp_set (V (p / 32)) (p % 32) k else V i) := by
  intro i hi
  by_cases hip : i = p / 32
  · subst hip
    simp only [if_pos]
    refine ⟨gp_set_lt (h _ hi).1 (by omega) hk, fun j hj => ?_⟩
    rw [gp_set_dg (by omega) hk hj]
    by_cases hj2 : j = p % 32
    · rw [if_pos hj2, if_pos (by omega), if_pos (by omega)]
    · rw [if_neg hj2, (h _ hi).2 j hj]
      by_cases h3 : 32 * (p / 32) + j < N
      · rw [if_pos h3, if_pos h3, if_neg (by omega)]
      · rw [if_neg h3, if_neg h3]
  · simp only [if_neg hip]
    refine ⟨(h i hi).1, fun j hj => ?_⟩
    rw [(h i hi).2 j hj]
    by_cases h3 : 32 * i + j < N
    · rw [if_pos h3, if_pos h3, if_neg (by omega)]
    · rw [if_neg h3, if_neg h3]
theorem gp_B_eq {N : Nat} {b b' V V' : Nat → Nat} (h : gp_B N b V) (h' : gp_B N b' V') : (∀ i, i < (N + 31) / 32 → V i = V' i) ↔ ∀ p, p < N → b p = b' p := by
  constructor
  · intro he p hp
    rw [← gp_B_at h hp, ← gp_B_at h' hp, he (p / 32) (by omega)]
  · intro he i hi
    refine gp_ext (h i hi).1 (h' i hi).1 (fun j hj => ?_)
    rw [(h i hi).2 j hj, (h' i hi).2 j hj]
    by_cases h3 : 32 * i + j < N
    · rw [if_pos h3, if_pos h3, he _ h3]
    · rw [if_neg h3, if_neg h3]
theorem gp_B_ext {N : Nat} {b b' V : Nat → Nat} (h : gp_B N b V) (he : ∀ p, p < N → b p = b' p) : gp_B N b' V := fun i hi => ⟨(h i hi).1, fun j hj => by
  rw [(h i hi).2 j hj]
  by_cases h3 : 32 * i + j < N
  · rw [if_pos h3, if_pos h3, he _ h3]
  · rw [if_neg h3, if_neg h3]⟩
theorem gp_B_0 (N : Nat) : gp_B N (fun _ => 0) (fun _ => 0) := fun i hi => ⟨show 0 < 2 ^ 64 by decide, fun j hj => by
  have h0 : gp_dg 0 j = 0 := by unfold gp_dg; rw [Nat.zero_div]
  rw [h0]
  by_cases h3 : 32 * i + j < N
  · rw [if_pos h3]
  · rw [if_neg h3]⟩
/-- the machine's words for it -/
theorem gp_get {v j : Nat} (hv : v < 2 ^ 64) (hj : j < 32) : (((lN v).toUInt64 >>> ((nI (2 * j)).toInt64.toUInt64 &&& Int64.toUInt64 63)).toInt64 &&& 3).toInt32 = nI (gp_dg v j) := by
  rw [wb_shr hv (by omega)]
  have h1 : v / 2 ^ (2 * j) < 2 ^ 64 := Nat.lt_of_le_of_lt (Nat.div_le_self _ _) hv
  have h2 := wb_mask (k := 2) h1 (by decide)
  rw [show (3 : Int64) = lN (2 ^ 2 - 1) from by decide, h2, lN_i]
  rfl
theorem gp_not {M : Nat} (hM : M < 2 ^ 64) : lN M ^^^ (-1) = lN (2 ^ 64 - (M + 1)) := by
  apply wb_inj
  rw [Int64.toBitVec_xor, wb_tb, wb_tb]
  apply BitVec.eq_of_getLsbD_eq
  intro i hi
  rw [BitVec.getLsbD_xor, BitVec.getLsbD_ofNat, BitVec.getLsbD_ofNat, Nat.testBit_two_pow_sub_succ hM]
  have h1 : (-1 : Int64).toBitVec.getLsbD i = true := by
    have h2 : (-1 : Int64).toBitVec = BitVec.allOnes 64 := by decide
    rw [h2, BitVec.getLsbD_allOnes]
    simp [hi]
  rw [h1]
  simp [hi]
theorem gp_put {v j k : Nat} (hv : v < 2 ^ 64) (hj : j < 32) (hk : k < 4) : (lN v &&& (3 <<< ((nI (2 * j)).toInt64 &&& 63) ^^^ (-1))) ||| ((nI k).toInt64 <<< ((nI (2 * j)).toInt64 &&& 63)) = lN (gp_set v j k) := by
  have hp := Nat.pow_le_pow_right (show 0 < 2 by decide) (show 2 * j ≤ 62 by omega)
  have e : (2 : Nat) ^ 64 = 4 * 2 ^ 62 := by decide
  have hM : 3 * 2 ^ (2 * j) < 2 ^ 64 := by omega
  have hK : k * 2 ^ (2 * j) < 2 ^ 64 := by
    have h1 : k * 2 ^ (2 * j) ≤ 3 * 2 ^ (2 * j) := Nat.mul_le_mul_right _ (by omega)
    omega
  rw [show (3 : Int64) = lN 3 from by decide, wb_shl 3 (by omega), gp_not hM, nI_l (by omega), wb_shl k (by omega), wb_and hv (by omega), wb_or (Nat.lt_of_le_of_lt Nat.and_le_left hv) hK]
  rfl
