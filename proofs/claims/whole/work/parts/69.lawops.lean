/-! The law's loop, case by case. -/
/-- the array that the law is given -/
def xL_S0 (H0 : Heap) (a0 L : Nat) : Prop := a0 < H0.size ∧ L < 2 ^ 31
/-- class and reference stand for one game -/
def xL_Q (D : va_G) (h : xa_H) (sz o M : Nat) : Prop := ∃ (n fs : Nat) (b : Nat → Nat) (m : Nat) (bd : Nat → Nat → Nat) (pt : Nat → Int32) (tb tw : Nat → Nat) (cd : Nat) (F : Nat → Int64), xS_S D h o (o + 44) n fs b m bd pt tb tw ∧ xR_S D h (o + 28) n fs b m bd pt tb tw cd ∧ h (o + 43) = some (.inl (D.1 101, 1, .inr (.inl F))) ∧ xZ_I n fs b m bd pt tb tw ∧ m ≤ M ∧ o + 44 ≤ sz
theorem gx_why_gr {D D' : va_G} {h h' : xa_H} {o r n fs : Nat} {b : Nat → Nat} {m : Nat} {bd : Nat → Nat → Nat} {pt : Nat → Int32} {p j j' : Nat} (hw : gx_why D h o n fs b m bd pt p j) (hr : gr_why D' h' r n fs b m bd pt p j') : j = j' := by
  by_cases hok : gx_ok n fs b m bd pt p
  · rw [(gx_why_yes hok hw).1, (gr_why_yes hok hr).1]
  · rcases hw with ⟨w1, w2⟩ | ⟨w1, w2, w3⟩ | ⟨w1, w2, t, k, ls, hT, ⟨-, w3⟩ | ⟨hno, -, -⟩⟩ <;> rcases hr with ⟨r1, r2⟩ | ⟨r1, r2, r3⟩ | ⟨r1, r2, t', k', ls', hT', ⟨-, r3⟩ | ⟨hno', -, -⟩⟩
    · omega
    · exact absurd w1 r1
    · exact absurd w1 r1
    · exact absurd w1 r1
    · exact absurd r1 w1
    · omega
    · exact absurd r2 w2
    · exact absurd r2 w2
    · exact absurd r1 w1
    · exact absurd w2 r2
    · omega
    · exact absurd ⟨r1, r2, t', k', ls', hT', hno'⟩ hok
    · exact absurd ⟨w1, w2, t, k, ls, hT, hno⟩ hok
    · exact absurd ⟨w1, w2, t, k, ls, hT, hno⟩ hok
    · exact absurd ⟨w1, w2, t, k, ls, hT, hno⟩ hok
    · exact absurd ⟨w1, w2, t, k, ls, hT, hno⟩ hok
def gx_ago (n fs : Nat) (b : Nat → Nat) (m : Nat) (bd : Nat → Nat → Nat) (p : Nat) (x : Int32) : Prop := (b p ≠ 0 ∧ x = -1) ∨ (b p = 0 ∧ ∃ (t : Nat → Nat) (k ls : Nat), gq_T n b p (gx_turn fs m) t k ls ∧ ((x = -1 ∧ ∀ j, j ≤ m → ¬ gx_same (n * n) (bd j) t) ∨ ∃ j, j ≤ m ∧ x = nI (m - j) ∧ gx_same (n * n) (bd j) t ∧ ∀ j', j < j' → j' ≤ m → ¬ gx_same (n * n) (bd j') t))
theorem gx_ago_un {n fs : Nat} {b : Nat → Nat} {m : Nat} {bd : Nat → Nat → Nat} {p : Nat} {x y : Int32} (hx : gx_ago n fs b m bd p x) (hy : gx_ago n fs b m bd p y) : x = y := by
  rcases hx with ⟨a1, a2⟩ | ⟨a1, t, k, ls, hT, ha⟩ <;> rcases hy with ⟨b1, b2⟩ | ⟨b1, t', k', ls', hT', hb⟩
  · rw [a2, b2]
  · exact absurd b1 a1
  · exact absurd a1 b1
  · have hs := (gq_T_un hT hT').1
    have hs' := (gq_T_un hT' hT).1
    rcases ha with ⟨a2, a3⟩ | ⟨j, a2, a3, a4, a5⟩ <;> rcases hb with ⟨b2, b3⟩ | ⟨j', b2, b3, b4, b5⟩
    · rw [a2, b2]
    · exact absurd (gx_same_tr b4 hs') (a3 j' b2)
    · exact absurd (gx_same_tr a4 hs) (b3 j a2)
    · have h1 : ¬ j < j' := fun z => a5 j' z b2 (gx_same_tr b4 hs')
      have h2 : ¬ j' < j := fun z => b5 j z a2 (gx_same_tr a4 hs)
      have : j = j' := by omega
      rw [a3, b3, this]
theorem gx_str_un {n : Nat} {b : Nat → Nat} {p w : Nat} {x y : Int32} (hx : gx_str n b p w x) (hy : gx_str n b p w y) : x = y := by
  rcases hx with ⟨a1, a2⟩ | ⟨a1, ha⟩ <;> rcases hy with ⟨b1, b2⟩ | ⟨b1, hb⟩
  · rw [a2, b2]
  · exact absurd a1 b1
  · exact absurd b1 a1
  · rcases ha with ⟨a2, a3⟩ | ⟨a2, a3⟩ | ⟨a2, x', a3, a4⟩ | ⟨a2, x', a3, a4⟩ <;> rcases hb with ⟨b2, b3⟩ | ⟨b2, b3⟩ | ⟨b2, y', b3, b4⟩ | ⟨b2, y', b3, b4⟩ <;> first | omega | (rw [a3, b3, gc_least_un a4 b4]; done) | (rw [a3, b3]; done)
theorem i32_12 {x : Int32} (hx : x < nI 1 ∨ nI 2 < x) : x ≠ nI 1 ∧ x ≠ nI 2 := by
  refine ⟨fun e => ?_, fun e => ?_⟩
  · rw [e] at hx
    exact absurd hx (by decide)
  · rw [e] at hx
    exact absurd hx (by decide)
section LL
variable {l : Launch} {D : va_G} {H0 : Heap} {h : xa_H} {sz : Nat} {R : Room} {Z Z0 : xa_Z} {a0 L i o k n0 n fs : Nat} {f : Nat → Int32} {b : Nat → Nat} {m : Nat} {bd : Nat → Nat → Nat} {pt : Nat → Int32} {tb tw : Nat → Nat} {cd : Nat} {F : Nat → Int64}
theorem w_t_at {c : Nat} {y : Int32} {G : Nat → Int64} (hR : 9 ≤ R.frames ∧ 179 ≤ R.locals) (hM : xR_S D h (o + 28) n fs b m bd pt tb tw c) (hc : c ≤ 3) (hG : h (o + 43) = some (.inl (D.1 101, 1, .inr (.inl G)))) (hy : c = 0 → G 0 = y.toInt64) (hk : k ≤ R.cells) (hn : n0 ≤ R.slots) (kont : xa_X l D H0 M_Law_law R Z k n0 h sz 1093 [(0, .ref a0), (1, .ref o), (2, .ref (o + 28)), (3, .ref (o + 43)), (4, .int (nI i))] []) :
    xa_X l D H0 M_Law_law R Z k n0 h sz 182 [(5, .int (nI c)), (6, .int y), (0, .ref a0), (1, .ref o), (2, .ref (o + 28)), (3, .ref (o + 43)), (4, .int (nI i))] [] := by
  obtain ⟨v, g0, -⟩ := hM.code
  refine xa_aload_n d_Law_law_182 rfl ?_
  refine xa_callVr (As := []) (st := []) d_Law_law_183 k_Law_89 g0 (c_Ref_thrown hM) rfl rfl (Nat.le_of_ble_eq_true rfl) ⟨by have := hR.1; show 0 + 1 ≤ _; omega, by have := hR.2; show 8 + (1 + 11) + 0 ≤ _; omega⟩ (by omega) (by omega) ?_
  refine xa_iload d_Law_law_186 rfl ?_
  refine xa_icmp_eqN (tgt := 193) d_Law_law_188 (by decide) (by omega) (by omega) (fun hz => ?_) (fun hz => ?_)
  ·
    refine xa_iload d_Law_law_193 rfl ?_
    refine xa_if_neN (tgt := 210) d_Law_law_195 (by decide) (by omega) (fun hz2 => ?_) (fun hz2 => ?_)
    ·
      refine xa_goto (tgt := 1093) d_Law_law_210 (by decide) ?_
      exact xa_sl kont ⟨rfl, rfl, rfl, rfl, rfl, trivial⟩
    ·
      refine xa_aload_n d_Law_law_198 rfl ?_
      refine xa_iconst (v := nI 0) d_Law_law_199 rfl ?_
      refine xa_laldE (j := 0) d_Law_law_200 hG rfl (by decide) (by decide) (hy hz2) ?_
      refine xa_iload d_Law_law_201 rfl ?_
      refine xa_i2l d_Law_law_203 rfl ?_
      refine xa_lcmp d_Law_law_204 ?_
      refine xa_int (y := nI 0) (lg_cmp_self _) ?_
      refine xa_if_eqN (tgt := 210) d_Law_law_205 (by decide) (by omega) (fun hz3 => ?_) (fun hz3 => ?_)
      ·
        refine xa_goto (tgt := 1093) d_Law_law_210 (by decide) ?_
        exact xa_sl kont ⟨rfl, rfl, rfl, rfl, rfl, trivial⟩
      · omega
  · omega
theorem w_o_at (htr : l.stackTraces = false) (hsc : xL_S0 H0 a0 L) (hi : i + 2 < L) (hR : 9 ≤ R.frames ∧ 179 ≤ R.locals) (hk : k + 2 ≤ R.cells) (hn0 : n0 + 13 ≤ R.slots) (hS : xS_S D h o (o + 44) n fs b m bd pt tb tw) (hM : xR_S D h (o + 28) n fs b m bd pt tb tw cd) (hF : h (o + 43) = some (.inl (D.1 101, 1, .inr (.inl F)))) (hZ : xZ_I n fs b m bd pt tb tw) (hm : m < 1000) (hsz : o + 44 ≤ sz) (kont : ∀ (k' n' : Nat) (h' : xa_H) (sz' : Nat), k' ≤ k + 2 → n' ≤ n0 + 13 → xL_Q D h' sz' o (m + 1) → xa_X l D H0 M_Law_law R (xa_ZY (xa_Sc H0 a0 L f) Z0) k' n' h' sz' 1093 [(0, .ref a0), (1, .ref o), (2, .ref (o + 28)), (3, .ref (o + 43)), (4, .int (nI i))] []) :
    xa_X l D H0 M_Law_law R (xa_ZY (xa_Sc H0 a0 L f) Z0) k n0 h sz 157 [(0, .ref a0), (1, .ref o), (2, .ref (o + 28)), (3, .ref (o + 43)), (4, .int (nI i))] [] := by
  have hsc0 := hsc
  obtain ⟨hsa, hsL⟩ := hsc0
  have hn := hZ.1.1
  have hN : n * n ≤ 169 := Nat.mul_le_mul hn.2 hn.2
  have hI := hZ.S hm
  have o0 := hS.1
  refine xa_aload_n d_Law_law_157 rfl ?_
  refine xa_aload_n d_Law_law_158 rfl ?_
  refine xa_iload d_Law_law_159 rfl ?_
  refine xa_iconst (v := nI 1) d_Law_law_161 rfl ?_
  refine xa_iaddN d_Law_law_162 ?_
  refine xa_ialdB (j := i + 1) hsa d_Law_law_163 (by omega) rfl hsL ?_
  refine xa_aload_n d_Law_law_164 rfl ?_
  generalize hx1 : f (i + 1) = x1
  rcases i32_pt x1 (N := n * n) (by omega) with ⟨p, hp, rfl⟩ | hxb
  · refine xa_callSW (As := [.ref o, .int (nI p), .ref (o + 43)]) (st := []) d_Law_law_165 k_Law_85 (c_Law_at (ol := o + 43) o0 (e_at hS hI hp) (fun x h' sz' hq => ⟨F, (hq.2.2.1 _ (by omega) (by omega)).trans hF⟩)) rfl rfl (Nat.le_of_ble_eq_true rfl) ⟨by have := hR.1; show 8 + 1 ≤ _; omega, by have := hR.2; show 8 + (4 + 11) + 131 ≤ _; omega⟩ (by omega) (by omega) (fun v h' sz' hq => ?_)
    obtain ⟨e1, x, h1, G, ⟨hx, hS1, hF1, hsz1⟩, hG0, e2⟩ := hq
    rw [e1, e2]
    have hM1 : xR_S D (xa_u h1 (o + 43) (.inl (D.1 101, 1, .inr (.inl G)))) (o + 28) n fs b m bd pt tb tw cd := hM.frame (fun q q1 q2 => xa_u_ne (hF1 q (by omega) (by omega)) (by omega))
    obtain ⟨v1, g0, -⟩ := hM1.code
    refine xa_istore d_Law_law_168 rfl rfl ?_
    refine xa_aload_n d_Law_law_170 rfl ?_
    refine xa_aload_n d_Law_law_171 rfl ?_
    refine xa_iload d_Law_law_172 rfl ?_
    refine xa_iconst (v := nI 1) d_Law_law_174 rfl ?_
    refine xa_iaddN d_Law_law_175 ?_
    refine xa_ialdB (j := i + 1) hsa d_Law_law_176 (by omega) rfl hsL ?_
    rw [hx1]
    refine xa_callV (As := [.int (nI p)]) (st := []) d_Law_law_177 k_Law_88 g0 (c_Ref_at hM1 hn hp) rfl rfl (Nat.le_of_ble_eq_true rfl) ⟨by have := hR.1; show 1 + 1 ≤ _; omega, by have := hR.2; show 8 + (2 + 11) + 21 ≤ _; omega⟩ (by omega) (by omega) (fun v h2 sz2 hq => ?_)
    obtain ⟨e3, hM2, hF2, e4⟩ := hq
    rw [e3, e4]
    have hS2 : xS_S D h2 o (o + 44) n fs b m bd pt tb tw := hS1.frame (by omega) (fun q hq => (hF2 q (by omega)).trans (xa_u_ne rfl (by omega)))
    have hG2 : h2 (o + 43) = some (.inl (D.1 101, 1, .inr (.inl G))) := (hF2 _ (by omega)).trans (xa_u_eq _ _ _)
    refine xa_istore d_Law_law_180 rfl rfl ?_
    refine xa_ls ?_ (w_t_at (c := 0) (y := nI (b p)) hR hM2 (by omega) hG2 (fun _ => by rw [hG0, hx]) (by omega) (by omega) (kont _ _ _ _ (by omega) (by omega) ⟨_, _, _, _, _, _, _, _, _, _, hS2, hM2, hG2, hZ, by omega, by omega⟩))
    exact ⟨rfl, rfl, rfl, rfl, rfl, rfl, rfl, trivial⟩
  · refine xa_callSW (As := [.ref o, .int x1, .ref (o + 43)]) (st := []) d_Law_law_165 k_Law_85 (t_Law_at_IOOB o0 (t_SB_at htr hS hxb)) rfl rfl (Nat.le_of_ble_eq_true rfl) ⟨by have := hR.1; show 8 + 1 ≤ _; omega, by have := hR.2; show 8 + (4 + 11) + 131 ≤ _; omega⟩ (by omega) (by omega) (fun v h' sz' hq => ?_)
    obtain ⟨e1, e2, hsz1⟩ := hq
    rw [e1, e2]
    have hM1 := hM
    have hS1 := hS
    have hG1 := hF
    obtain ⟨v1, g0, -⟩ := hM1.code
    refine xa_istore d_Law_law_168 rfl rfl ?_
    refine xa_aload_n d_Law_law_170 rfl ?_
    refine xa_aload_n d_Law_law_171 rfl ?_
    refine xa_iload d_Law_law_172 rfl ?_
    refine xa_iconst (v := nI 1) d_Law_law_174 rfl ?_
    refine xa_iaddN d_Law_law_175 ?_
    refine xa_ialdB (j := i + 1) hsa d_Law_law_176 (by omega) rfl hsL ?_
    rw [hx1]
    refine xa_callV (As := [.int x1]) (st := []) d_Law_law_177 k_Law_88 g0 (c_Ref_atX hM1 hxb) rfl rfl (Nat.le_of_ble_eq_true rfl) ⟨by have := hR.1; show 1 + 1 ≤ _; omega, by have := hR.2; show 8 + (2 + 11) + 21 ≤ _; omega⟩ (by omega) (by omega) (fun v h2 sz2 hq => ?_)
    obtain ⟨e3, hM2, hF2, e4⟩ := hq
    rw [e3, e4]
    have hS2 : xS_S D h2 o (o + 44) n fs b m bd pt tb tw := hS1.frame (by omega) (fun q hq => hF2 q (by omega))
    have hG2 : h2 (o + 43) = some (.inl (D.1 101, 1, .inr (.inl F))) := (hF2 _ (by omega)).trans hG1
    refine xa_istore d_Law_law_180 rfl rfl ?_
    refine xa_ls ?_ (w_t_at (c := 1) (y := nI 0) hR hM2 (by omega) hG2 (fun z => by omega) (by omega) (by omega) (kont _ _ _ _ (by omega) (by omega) ⟨_, _, _, _, _, _, _, _, _, _, hS2, hM2, hG2, hZ, by omega, by omega⟩))
    exact ⟨rfl, rfl, rfl, rfl, rfl, rfl, rfl, trivial⟩
theorem w_t_owner {c : Nat} {y : Int32} {G : Nat → Int64} (hR : 9 ≤ R.frames ∧ 179 ≤ R.locals) (hM : xR_S D h (o + 28) n fs b m bd pt tb tw c) (hc : c ≤ 3) (hG : h (o + 43) = some (.inl (D.1 101, 1, .inr (.inl G)))) (hy : c = 0 → G 0 = y.toInt64) (hk : k ≤ R.cells) (hn : n0 ≤ R.slots) (kont : xa_X l D H0 M_Law_law R Z k n0 h sz 1093 [(0, .ref a0), (1, .ref o), (2, .ref (o + 28)), (3, .ref (o + 43)), (4, .int (nI i))] []) :
    xa_X l D H0 M_Law_law R Z k n0 h sz 887 [(5, .int (nI c)), (6, .int y), (0, .ref a0), (1, .ref o), (2, .ref (o + 28)), (3, .ref (o + 43)), (4, .int (nI i))] [] := by
  obtain ⟨v, g0, -⟩ := hM.code
  refine xa_aload_n d_Law_law_887 rfl ?_
  refine xa_callVr (As := []) (st := []) d_Law_law_888 k_Law_89 g0 (c_Ref_thrown hM) rfl rfl (Nat.le_of_ble_eq_true rfl) ⟨by have := hR.1; show 0 + 1 ≤ _; omega, by have := hR.2; show 8 + (1 + 11) + 0 ≤ _; omega⟩ (by omega) (by omega) ?_
  refine xa_iload d_Law_law_891 rfl ?_
  refine xa_icmp_eqN (tgt := 898) d_Law_law_893 (by decide) (by omega) (by omega) (fun hz => ?_) (fun hz => ?_)
  ·
    refine xa_iload d_Law_law_898 rfl ?_
    refine xa_if_neN (tgt := 915) d_Law_law_900 (by decide) (by omega) (fun hz2 => ?_) (fun hz2 => ?_)
    ·
      refine xa_goto (tgt := 1093) d_Law_law_915 (by decide) ?_
      exact xa_sl kont ⟨rfl, rfl, rfl, rfl, rfl, trivial⟩
    ·
      refine xa_aload_n d_Law_law_903 rfl ?_
      refine xa_iconst (v := nI 0) d_Law_law_904 rfl ?_
      refine xa_laldE (j := 0) d_Law_law_905 hG rfl (by decide) (by decide) (hy hz2) ?_
      refine xa_iload d_Law_law_906 rfl ?_
      refine xa_i2l d_Law_law_908 rfl ?_
      refine xa_lcmp d_Law_law_909 ?_
      refine xa_int (y := nI 0) (lg_cmp_self _) ?_
      refine xa_if_eqN (tgt := 915) d_Law_law_910 (by decide) (by omega) (fun hz3 => ?_) (fun hz3 => ?_)
      ·
        refine xa_goto (tgt := 1093) d_Law_law_915 (by decide) ?_
        exact xa_sl kont ⟨rfl, rfl, rfl, rfl, rfl, trivial⟩
      · omega
  · omega
theorem w_o_owner (htr : l.stackTraces = false) (hsc : xL_S0 H0 a0 L) (hi : i + 2 < L) (hR : 9 ≤ R.frames ∧ 179 ≤ R.locals) (hk : k + 2 ≤ R.cells) (hn0 : n0 + 13 ≤ R.slots) (hS : xS_S D h o (o + 44) n fs b m bd pt tb tw) (hM : xR_S D h (o + 28) n fs b m bd pt tb tw cd) (hF : h (o + 43) = some (.inl (D.1 101, 1, .inr (.inl F)))) (hZ : xZ_I n fs b m bd pt tb tw) (hm : m < 1000) (hsz : o + 44 ≤ sz) (kont : ∀ (k' n' : Nat) (h' : xa_H) (sz' : Nat), k' ≤ k + 2 → n' ≤ n0 + 13 → xL_Q D h' sz' o (m + 1) → xa_X l D H0 M_Law_law R (xa_ZY (xa_Sc H0 a0 L f) Z0) k' n' h' sz' 1093 [(0, .ref a0), (1, .ref o), (2, .ref (o + 28)), (3, .ref (o + 43)), (4, .int (nI i))] []) :
    xa_X l D H0 M_Law_law R (xa_ZY (xa_Sc H0 a0 L f) Z0) k n0 h sz 862 [(0, .ref a0), (1, .ref o), (2, .ref (o + 28)), (3, .ref (o + 43)), (4, .int (nI i))] [] := by
  have hsc0 := hsc
  obtain ⟨hsa, hsL⟩ := hsc0
  have hn := hZ.1.1
  have hN : n * n ≤ 169 := Nat.mul_le_mul hn.2 hn.2
  have hI := hZ.S hm
  have o0 := hS.1
  refine xa_aload_n d_Law_law_862 rfl ?_
  refine xa_aload_n d_Law_law_863 rfl ?_
  refine xa_iload d_Law_law_864 rfl ?_
  refine xa_iconst (v := nI 1) d_Law_law_866 rfl ?_
  refine xa_iaddN d_Law_law_867 ?_
  refine xa_ialdB (j := i + 1) hsa d_Law_law_868 (by omega) rfl hsL ?_
  refine xa_aload_n d_Law_law_869 rfl ?_
  generalize hx1 : f (i + 1) = x1
  rcases i32_pt x1 (N := n * n) (by omega) with ⟨p, hp, rfl⟩ | hxb
  · refine xa_callSW (As := [.ref o, .int (nI p), .ref (o + 43)]) (st := []) d_Law_law_870 k_Law_140 (c_Law_owner (ol := o + 43) o0 (e_owner hS hI hp) (fun x h' sz' hq => ⟨F, (hq.2.2.1 _ (by omega) (by omega)).trans hF⟩)) rfl rfl (Nat.le_of_ble_eq_true rfl) ⟨by have := hR.1; show 8 + 1 ≤ _; omega, by have := hR.2; show 8 + (4 + 11) + 131 ≤ _; omega⟩ (by omega) (by omega) (fun v h' sz' hq => ?_)
    obtain ⟨e1, x, h1, G, ⟨hx, hS1, hF1, hsz1⟩, hG0, e2⟩ := hq
    rw [e1, e2]
    have hM1 : xR_S D (xa_u h1 (o + 43) (.inl (D.1 101, 1, .inr (.inl G)))) (o + 28) n fs b m bd pt tb tw cd := hM.frame (fun q q1 q2 => xa_u_ne (hF1 q (by omega) (by omega)) (by omega))
    obtain ⟨v1, g0, -⟩ := hM1.code
    refine xa_istore d_Law_law_873 rfl rfl ?_
    refine xa_aload_n d_Law_law_875 rfl ?_
    refine xa_aload_n d_Law_law_876 rfl ?_
    refine xa_iload d_Law_law_877 rfl ?_
    refine xa_iconst (v := nI 1) d_Law_law_879 rfl ?_
    refine xa_iaddN d_Law_law_880 ?_
    refine xa_ialdB (j := i + 1) hsa d_Law_law_881 (by omega) rfl hsL ?_
    rw [hx1]
    refine xa_callV (As := [.int (nI p)]) (st := []) d_Law_law_882 k_Law_142 g0 (c_Ref_owner hM1 hZ hp) rfl rfl (Nat.le_of_ble_eq_true rfl) ⟨by have := hR.1; show 4 + 1 ≤ _; omega, by have := hR.2; show 8 + (2 + 11) + 96 ≤ _; omega⟩ (by omega) (by omega) (fun v h2 sz2 hq => ?_)
    obtain ⟨e3, hM2, hF2, e4⟩ := hq
    rw [e3, e4]
    have hS2 : xS_S D h2 o (o + 44) n fs b m bd pt tb tw := hS1.frame (by omega) (fun q hq => (hF2 q (by omega)).trans (xa_u_ne rfl (by omega)))
    have hG2 : h2 (o + 43) = some (.inl (D.1 101, 1, .inr (.inl G))) := (hF2 _ (by omega)).trans (xa_u_eq _ _ _)
    refine xa_istore d_Law_law_885 rfl rfl ?_
    refine xa_ls ?_ (w_t_owner (c := 0) (y := nI (gx_own n b p)) hR hM2 (by omega) hG2 (fun _ => by rw [hG0, hx]) (by omega) (by omega) (kont _ _ _ _ (by omega) (by omega) ⟨_, _, _, _, _, _, _, _, _, _, hS2, hM2, hG2, hZ, by omega, by omega⟩))
    exact ⟨rfl, rfl, rfl, rfl, rfl, rfl, rfl, trivial⟩
  · refine xa_callSW (As := [.ref o, .int x1, .ref (o + 43)]) (st := []) d_Law_law_870 k_Law_140 (t_Law_owner_IOOB o0 (t_SB_owner htr hS hxb)) rfl rfl (Nat.le_of_ble_eq_true rfl) ⟨by have := hR.1; show 8 + 1 ≤ _; omega, by have := hR.2; show 8 + (4 + 11) + 131 ≤ _; omega⟩ (by omega) (by omega) (fun v h' sz' hq => ?_)
    obtain ⟨e1, e2, hsz1⟩ := hq
    rw [e1, e2]
    have hM1 := hM
    have hS1 := hS
    have hG1 := hF
    obtain ⟨v1, g0, -⟩ := hM1.code
    refine xa_istore d_Law_law_873 rfl rfl ?_
    refine xa_aload_n d_Law_law_875 rfl ?_
    refine xa_aload_n d_Law_law_876 rfl ?_
    refine xa_iload d_Law_law_877 rfl ?_
    refine xa_iconst (v := nI 1) d_Law_law_879 rfl ?_
    refine xa_iaddN d_Law_law_880 ?_
    refine xa_ialdB (j := i + 1) hsa d_Law_law_881 (by omega) rfl hsL ?_
    rw [hx1]
    refine xa_callV (As := [.int x1]) (st := []) d_Law_law_882 k_Law_142 g0 (c_Ref_ownerX hM1 hxb) rfl rfl (Nat.le_of_ble_eq_true rfl) ⟨by have := hR.1; show 4 + 1 ≤ _; omega, by have := hR.2; show 8 + (2 + 11) + 96 ≤ _; omega⟩ (by omega) (by omega) (fun v h2 sz2 hq => ?_)
    obtain ⟨e3, hM2, hF2, e4⟩ := hq
    rw [e3, e4]
    have hS2 : xS_S D h2 o (o + 44) n fs b m bd pt tb tw := hS1.frame (by omega) (fun q hq => hF2 q (by omega))
    have hG2 : h2 (o + 43) = some (.inl (D.1 101, 1, .inr (.inl F))) := (hF2 _ (by omega)).trans hG1
    refine xa_istore d_Law_law_885 rfl rfl ?_
    refine xa_ls ?_ (w_t_owner (c := 1) (y := nI 0) hR hM2 (by omega) hG2 (fun z => by omega) (by omega) (by omega) (kont _ _ _ _ (by omega) (by omega) ⟨_, _, _, _, _, _, _, _, _, _, hS2, hM2, hG2, hZ, by omega, by omega⟩))
    exact ⟨rfl, rfl, rfl, rfl, rfl, rfl, rfl, trivial⟩
theorem w_t_move {c : Nat} {y : Int32} {G : Nat → Int64} (hR : 9 ≤ R.frames ∧ 179 ≤ R.locals) (hM : xR_S D h (o + 28) n fs b m bd pt tb tw c) (hc : c ≤ 3) (hG : h (o + 43) = some (.inl (D.1 101, 1, .inr (.inl G)))) (hy : c = 0 → G 0 = y.toInt64) (hk : k ≤ R.cells) (hn : n0 ≤ R.slots) (kont : xa_X l D H0 M_Law_law R Z k n0 h sz 1093 [(0, .ref a0), (1, .ref o), (2, .ref (o + 28)), (3, .ref (o + 43)), (4, .int (nI i))] []) :
    xa_X l D H0 M_Law_law R Z k n0 h sz 595 [(5, .int (nI c)), (6, .int y), (0, .ref a0), (1, .ref o), (2, .ref (o + 28)), (3, .ref (o + 43)), (4, .int (nI i))] [] := by
  obtain ⟨v, g0, -⟩ := hM.code
  refine xa_aload_n d_Law_law_595 rfl ?_
  refine xa_callVr (As := []) (st := []) d_Law_law_596 k_Law_89 g0 (c_Ref_thrown hM) rfl rfl (Nat.le_of_ble_eq_true rfl) ⟨by have := hR.1; show 0 + 1 ≤ _; omega, by have := hR.2; show 8 + (1 + 11) + 0 ≤ _; omega⟩ (by omega) (by omega) ?_
  refine xa_iload d_Law_law_599 rfl ?_
  refine xa_icmp_eqN (tgt := 606) d_Law_law_601 (by decide) (by omega) (by omega) (fun hz => ?_) (fun hz => ?_)
  ·
    refine xa_iload d_Law_law_606 rfl ?_
    refine xa_if_neN (tgt := 623) d_Law_law_608 (by decide) (by omega) (fun hz2 => ?_) (fun hz2 => ?_)
    ·
      refine xa_goto (tgt := 1093) d_Law_law_623 (by decide) ?_
      exact xa_sl kont ⟨rfl, rfl, rfl, rfl, rfl, trivial⟩
    ·
      refine xa_aload_n d_Law_law_611 rfl ?_
      refine xa_iconst (v := nI 0) d_Law_law_612 rfl ?_
      refine xa_laldE (j := 0) d_Law_law_613 hG rfl (by decide) (by decide) (hy hz2) ?_
      refine xa_iload d_Law_law_614 rfl ?_
      refine xa_i2l d_Law_law_616 rfl ?_
      refine xa_lcmp d_Law_law_617 ?_
      refine xa_int (y := nI 0) (lg_cmp_self _) ?_
      refine xa_if_eqN (tgt := 623) d_Law_law_618 (by decide) (by omega) (fun hz3 => ?_) (fun hz3 => ?_)
      ·
        refine xa_goto (tgt := 1093) d_Law_law_623 (by decide) ?_
        exact xa_sl kont ⟨rfl, rfl, rfl, rfl, rfl, trivial⟩
      · omega
  · omega
theorem w_o_move (htr : l.stackTraces = false) (hsc : xL_S0 H0 a0 L) (hi : i + 2 < L) (hR : 9 ≤ R.frames ∧ 179 ≤ R.locals) (hk : k + 2 ≤ R.cells) (hn0 : n0 + 13 ≤ R.slots) (hS : xS_S D h o (o + 44) n fs b m bd pt tb tw) (hM : xR_S D h (o + 28) n fs b m bd pt tb tw cd) (hF : h (o + 43) = some (.inl (D.1 101, 1, .inr (.inl F)))) (hZ : xZ_I n fs b m bd pt tb tw) (hm : m < 1000) (hsz : o + 44 ≤ sz) (kont : ∀ (k' n' : Nat) (h' : xa_H) (sz' : Nat), k' ≤ k + 2 → n' ≤ n0 + 13 → xL_Q D h' sz' o (m + 1) → xa_X l D H0 M_Law_law R (xa_ZY (xa_Sc H0 a0 L f) Z0) k' n' h' sz' 1093 [(0, .ref a0), (1, .ref o), (2, .ref (o + 28)), (3, .ref (o + 43)), (4, .int (nI i))] []) :
    xa_X l D H0 M_Law_law R (xa_ZY (xa_Sc H0 a0 L f) Z0) k n0 h sz 570 [(0, .ref a0), (1, .ref o), (2, .ref (o + 28)), (3, .ref (o + 43)), (4, .int (nI i))] [] := by
  have hsc0 := hsc
  obtain ⟨hsa, hsL⟩ := hsc0
  have hn := hZ.1.1
  have hN : n * n ≤ 169 := Nat.mul_le_mul hn.2 hn.2
  have hI := hZ.S hm
  have o0 := hS.1
  refine xa_aload_n d_Law_law_570 rfl ?_
  refine xa_aload_n d_Law_law_571 rfl ?_
  refine xa_iload d_Law_law_572 rfl ?_
  refine xa_iconst (v := nI 1) d_Law_law_574 rfl ?_
  refine xa_iaddN d_Law_law_575 ?_
  refine xa_ialdB (j := i + 1) hsa d_Law_law_576 (by omega) rfl hsL ?_
  refine xa_aload_n d_Law_law_577 rfl ?_
  generalize hx1 : f (i + 1) = x1
  rcases i32_pt x1 (N := m) (by omega) with ⟨p, hp, rfl⟩ | hxb
  · refine xa_callSW (As := [.ref o, .int (nI p), .ref (o + 43)]) (st := []) d_Law_law_578 k_Law_125 (c_Law_move (ol := o + 43) o0 (e_move hS hI hp) (fun x h' sz' hq => ⟨F, (hq.2.2.1 _ (by omega) (by omega)).trans hF⟩)) rfl rfl (Nat.le_of_ble_eq_true rfl) ⟨by have := hR.1; show 7 + 1 ≤ _; omega, by have := hR.2; show 8 + (4 + 11) + 110 ≤ _; omega⟩ (by omega) (by omega) (fun v h' sz' hq => ?_)
    obtain ⟨e1, x, h1, G, ⟨hx, hS1, hF1, hsz1⟩, hG0, e2⟩ := hq
    rw [e1, e2]
    have hM1 : xR_S D (xa_u h1 (o + 43) (.inl (D.1 101, 1, .inr (.inl G)))) (o + 28) n fs b m bd pt tb tw cd := hM.frame (fun q q1 q2 => xa_u_ne (hF1 q (by omega) (by omega)) (by omega))
    obtain ⟨v1, g0, -⟩ := hM1.code
    refine xa_istore d_Law_law_581 rfl rfl ?_
    refine xa_aload_n d_Law_law_583 rfl ?_
    refine xa_aload_n d_Law_law_584 rfl ?_
    refine xa_iload d_Law_law_585 rfl ?_
    refine xa_iconst (v := nI 1) d_Law_law_587 rfl ?_
    refine xa_iaddN d_Law_law_588 ?_
    refine xa_ialdB (j := i + 1) hsa d_Law_law_589 (by omega) rfl hsL ?_
    rw [hx1]
    refine xa_callV (As := [.int (nI p)]) (st := []) d_Law_law_590 k_Law_127 g0 (c_Ref_move hM1 (by omega) hp) rfl rfl (Nat.le_of_ble_eq_true rfl) ⟨by have := hR.1; show 0 + 1 ≤ _; omega, by have := hR.2; show 8 + (2 + 11) + 0 ≤ _; omega⟩ (by omega) (by omega) (fun v h2 sz2 hq => ?_)
    obtain ⟨e3, hM2, hF2, e4⟩ := hq
    rw [e3, e4]
    have hS2 : xS_S D h2 o (o + 44) n fs b m bd pt tb tw := hS1.frame (by omega) (fun q hq => (hF2 q (by omega)).trans (xa_u_ne rfl (by omega)))
    have hG2 : h2 (o + 43) = some (.inl (D.1 101, 1, .inr (.inl G))) := (hF2 _ (by omega)).trans (xa_u_eq _ _ _)
    refine xa_istore d_Law_law_593 rfl rfl ?_
    refine xa_ls ?_ (w_t_move (c := 0) (y := pt (p + 1)) hR hM2 (by omega) hG2 (fun _ => by rw [hG0, hx]) (by omega) (by omega) (kont _ _ _ _ (by omega) (by omega) ⟨_, _, _, _, _, _, _, _, _, _, hS2, hM2, hG2, hZ, by omega, by omega⟩))
    exact ⟨rfl, rfl, rfl, rfl, rfl, rfl, rfl, trivial⟩
  · refine xa_callSW (As := [.ref o, .int x1, .ref (o + 43)]) (st := []) d_Law_law_578 k_Law_125 (t_Law_move_IOOB o0 (t_SB_move htr hS hxb)) rfl rfl (Nat.le_of_ble_eq_true rfl) ⟨by have := hR.1; show 7 + 1 ≤ _; omega, by have := hR.2; show 8 + (4 + 11) + 110 ≤ _; omega⟩ (by omega) (by omega) (fun v h' sz' hq => ?_)
    obtain ⟨e1, e2, hsz1⟩ := hq
    rw [e1, e2]
    have hM1 := hM
    have hS1 := hS
    have hG1 := hF
    obtain ⟨v1, g0, -⟩ := hM1.code
    refine xa_istore d_Law_law_581 rfl rfl ?_
    refine xa_aload_n d_Law_law_583 rfl ?_
    refine xa_aload_n d_Law_law_584 rfl ?_
    refine xa_iload d_Law_law_585 rfl ?_
    refine xa_iconst (v := nI 1) d_Law_law_587 rfl ?_
    refine xa_iaddN d_Law_law_588 ?_
    refine xa_ialdB (j := i + 1) hsa d_Law_law_589 (by omega) rfl hsL ?_
    rw [hx1]
    refine xa_callV (As := [.int x1]) (st := []) d_Law_law_590 k_Law_127 g0 (c_Ref_moveX hM1 hxb) rfl rfl (Nat.le_of_ble_eq_true rfl) ⟨by have := hR.1; show 0 + 1 ≤ _; omega, by have := hR.2; show 8 + (2 + 11) + 0 ≤ _; omega⟩ (by omega) (by omega) (fun v h2 sz2 hq => ?_)
    obtain ⟨e3, hM2, hF2, e4⟩ := hq
    rw [e3, e4]
    have hS2 : xS_S D h2 o (o + 44) n fs b m bd pt tb tw := hS1.frame (by omega) (fun q hq => hF2 q (by omega))
    have hG2 : h2 (o + 43) = some (.inl (D.1 101, 1, .inr (.inl F))) := (hF2 _ (by omega)).trans hG1
    refine xa_istore d_Law_law_593 rfl rfl ?_
    refine xa_ls ?_ (w_t_move (c := 1) (y := nI 0) hR hM2 (by omega) hG2 (fun z => by omega) (by omega) (by omega) (kont _ _ _ _ (by omega) (by omega) ⟨_, _, _, _, _, _, _, _, _, _, hS2, hM2, hG2, hZ, by omega, by omega⟩))
    exact ⟨rfl, rfl, rfl, rfl, rfl, rfl, rfl, trivial⟩
theorem w_t_taken {c : Nat} {y : Int32} {G : Nat → Int64} (hR : 9 ≤ R.frames ∧ 179 ≤ R.locals) (hM : xR_S D h (o + 28) n fs b m bd pt tb tw c) (hc : c ≤ 3) (hG : h (o + 43) = some (.inl (D.1 101, 1, .inr (.inl G)))) (hy : c = 0 → G 0 = y.toInt64) (hk : k ≤ R.cells) (hn : n0 ≤ R.slots) (kont : xa_X l D H0 M_Law_law R Z k n0 h sz 1093 [(0, .ref a0), (1, .ref o), (2, .ref (o + 28)), (3, .ref (o + 43)), (4, .int (nI i))] []) :
    xa_X l D H0 M_Law_law R Z k n0 h sz 651 [(5, .int (nI c)), (6, .int y), (0, .ref a0), (1, .ref o), (2, .ref (o + 28)), (3, .ref (o + 43)), (4, .int (nI i))] [] := by
  obtain ⟨v, g0, -⟩ := hM.code
  refine xa_aload_n d_Law_law_651 rfl ?_
  refine xa_callVr (As := []) (st := []) d_Law_law_652 k_Law_89 g0 (c_Ref_thrown hM) rfl rfl (Nat.le_of_ble_eq_true rfl) ⟨by have := hR.1; show 0 + 1 ≤ _; omega, by have := hR.2; show 8 + (1 + 11) + 0 ≤ _; omega⟩ (by omega) (by omega) ?_
  refine xa_iload d_Law_law_655 rfl ?_
  refine xa_icmp_eqN (tgt := 662) d_Law_law_657 (by decide) (by omega) (by omega) (fun hz => ?_) (fun hz => ?_)
  ·
    refine xa_iload d_Law_law_662 rfl ?_
    refine xa_if_neN (tgt := 679) d_Law_law_664 (by decide) (by omega) (fun hz2 => ?_) (fun hz2 => ?_)
    ·
      refine xa_goto (tgt := 1093) d_Law_law_679 (by decide) ?_
      exact xa_sl kont ⟨rfl, rfl, rfl, rfl, rfl, trivial⟩
    ·
      refine xa_aload_n d_Law_law_667 rfl ?_
      refine xa_iconst (v := nI 0) d_Law_law_668 rfl ?_
      refine xa_laldE (j := 0) d_Law_law_669 hG rfl (by decide) (by decide) (hy hz2) ?_
      refine xa_iload d_Law_law_670 rfl ?_
      refine xa_i2l d_Law_law_672 rfl ?_
      refine xa_lcmp d_Law_law_673 ?_
      refine xa_int (y := nI 0) (lg_cmp_self _) ?_
      refine xa_if_eqN (tgt := 679) d_Law_law_674 (by decide) (by omega) (fun hz3 => ?_) (fun hz3 => ?_)
      ·
        refine xa_goto (tgt := 1093) d_Law_law_679 (by decide) ?_
        exact xa_sl kont ⟨rfl, rfl, rfl, rfl, rfl, trivial⟩
      · omega
  · omega
theorem w_o_taken (htr : l.stackTraces = false) (hsc : xL_S0 H0 a0 L) (hi : i + 2 < L) (hR : 9 ≤ R.frames ∧ 179 ≤ R.locals) (hk : k + 2 ≤ R.cells) (hn0 : n0 + 13 ≤ R.slots) (hS : xS_S D h o (o + 44) n fs b m bd pt tb tw) (hM : xR_S D h (o + 28) n fs b m bd pt tb tw cd) (hF : h (o + 43) = some (.inl (D.1 101, 1, .inr (.inl F)))) (hZ : xZ_I n fs b m bd pt tb tw) (hm : m < 1000) (hsz : o + 44 ≤ sz) (kont : ∀ (k' n' : Nat) (h' : xa_H) (sz' : Nat), k' ≤ k + 2 → n' ≤ n0 + 13 → xL_Q D h' sz' o (m + 1) → xa_X l D H0 M_Law_law R (xa_ZY (xa_Sc H0 a0 L f) Z0) k' n' h' sz' 1093 [(0, .ref a0), (1, .ref o), (2, .ref (o + 28)), (3, .ref (o + 43)), (4, .int (nI i))] []) :
    xa_X l D H0 M_Law_law R (xa_ZY (xa_Sc H0 a0 L f) Z0) k n0 h sz 626 [(0, .ref a0), (1, .ref o), (2, .ref (o + 28)), (3, .ref (o + 43)), (4, .int (nI i))] [] := by
  have hsc0 := hsc
  obtain ⟨hsa, hsL⟩ := hsc0
  have hn := hZ.1.1
  have hN : n * n ≤ 169 := Nat.mul_le_mul hn.2 hn.2
  have hI := hZ.S hm
  have o0 := hS.1
  refine xa_aload_n d_Law_law_626 rfl ?_
  refine xa_aload_n d_Law_law_627 rfl ?_
  refine xa_iload d_Law_law_628 rfl ?_
  refine xa_iconst (v := nI 1) d_Law_law_630 rfl ?_
  refine xa_iaddN d_Law_law_631 ?_
  refine xa_ialdB (j := i + 1) hsa d_Law_law_632 (by omega) rfl hsL ?_
  refine xa_aload_n d_Law_law_633 rfl ?_
  generalize hx1 : f (i + 1) = x1
  rcases i32_rg x1 (a := 1) (N := 2) (by omega) (by omega) with ⟨p, hp1, hp2, rfl⟩ | hxb
  · refine xa_callSW (As := [.ref o, .int (nI p), .ref (o + 43)]) (st := []) d_Law_law_634 k_Law_128 (c_Law_taken (ol := o + 43) o0 (e_taken hS (by omega)) (fun x h' sz' hq => ⟨F, (hq.2.2.1 _ (by omega) (by omega)).trans hF⟩)) rfl rfl (Nat.le_of_ble_eq_true rfl) ⟨by have := hR.1; show 8 + 1 ≤ _; omega, by have := hR.2; show 8 + (4 + 11) + 130 ≤ _; omega⟩ (by omega) (by omega) (fun v h' sz' hq => ?_)
    obtain ⟨e1, x, h1, G, ⟨hx, hS1, hF1, hsz1⟩, hG0, e2⟩ := hq
    rw [e1, e2]
    have hM1 : xR_S D (xa_u h1 (o + 43) (.inl (D.1 101, 1, .inr (.inl G)))) (o + 28) n fs b m bd pt tb tw cd := hM.frame (fun q q1 q2 => xa_u_ne (hF1 q (by omega) (by omega)) (by omega))
    obtain ⟨v1, g0, -⟩ := hM1.code
    refine xa_istore d_Law_law_637 rfl rfl ?_
    refine xa_aload_n d_Law_law_639 rfl ?_
    refine xa_aload_n d_Law_law_640 rfl ?_
    refine xa_iload d_Law_law_641 rfl ?_
    refine xa_iconst (v := nI 1) d_Law_law_643 rfl ?_
    refine xa_iaddN d_Law_law_644 ?_
    refine xa_ialdB (j := i + 1) hsa d_Law_law_645 (by omega) rfl hsL ?_
    rw [hx1]
    refine xa_callV (As := [.int (nI p)]) (st := []) d_Law_law_646 k_Law_130 g0 (c_Ref_taken hM1 (by omega) hZ.2.2.2.2.2 (by omega)) rfl rfl (Nat.le_of_ble_eq_true rfl) ⟨by have := hR.1; show 1 + 1 ≤ _; omega, by have := hR.2; show 8 + (4 + 11) + 22 ≤ _; omega⟩ (by omega) (by omega) (fun v h2 sz2 hq => ?_)
    obtain ⟨e3, hM2, hF2, e4⟩ := hq
    rw [e3, e4]
    have hS2 : xS_S D h2 o (o + 44) n fs b m bd pt tb tw := hS1.frame (by omega) (fun q hq => (hF2 q (by omega)).trans (xa_u_ne rfl (by omega)))
    have hG2 : h2 (o + 43) = some (.inl (D.1 101, 1, .inr (.inl G))) := (hF2 _ (by omega)).trans (xa_u_eq _ _ _)
    refine xa_istore d_Law_law_649 rfl rfl ?_
    refine xa_ls ?_ (w_t_taken (c := 0) (y := nI (if p = 1 then tb m else tw m)) hR hM2 (by omega) hG2 (fun _ => by rw [hG0, hx]) (by omega) (by omega) (kont _ _ _ _ (by omega) (by omega) ⟨_, _, _, _, _, _, _, _, _, _, hS2, hM2, hG2, hZ, by omega, by omega⟩))
    exact ⟨rfl, rfl, rfl, rfl, rfl, rfl, rfl, trivial⟩
  · refine xa_callSW (As := [.ref o, .int x1, .ref (o + 43)]) (st := []) d_Law_law_634 k_Law_128 (t_Law_taken_IAE o0 (t_SB_taken htr (i32_12 hxb))) rfl rfl (Nat.le_of_ble_eq_true rfl) ⟨by have := hR.1; show 8 + 1 ≤ _; omega, by have := hR.2; show 8 + (4 + 11) + 130 ≤ _; omega⟩ (by omega) (by omega) (fun v h' sz' hq => ?_)
    obtain ⟨e1, e2, hsz1⟩ := hq
    rw [e1, e2]
    have hM1 := hM
    have hS1 := hS
    have hG1 := hF
    obtain ⟨v1, g0, -⟩ := hM1.code
    refine xa_istore d_Law_law_637 rfl rfl ?_
    refine xa_aload_n d_Law_law_639 rfl ?_
    refine xa_aload_n d_Law_law_640 rfl ?_
    refine xa_iload d_Law_law_641 rfl ?_
    refine xa_iconst (v := nI 1) d_Law_law_643 rfl ?_
    refine xa_iaddN d_Law_law_644 ?_
    refine xa_ialdB (j := i + 1) hsa d_Law_law_645 (by omega) rfl hsL ?_
    rw [hx1]
    refine xa_callV (As := [.int x1]) (st := []) d_Law_law_646 k_Law_130 g0 (c_Ref_takenX hM1 hxb) rfl rfl (Nat.le_of_ble_eq_true rfl) ⟨by have := hR.1; show 1 + 1 ≤ _; omega, by have := hR.2; show 8 + (4 + 11) + 22 ≤ _; omega⟩ (by omega) (by omega) (fun v h2 sz2 hq => ?_)
    obtain ⟨e3, hM2, hF2, e4⟩ := hq
    rw [e3, e4]
    have hS2 : xS_S D h2 o (o + 44) n fs b m bd pt tb tw := hS1.frame (by omega) (fun q hq => hF2 q (by omega))
    have hG2 : h2 (o + 43) = some (.inl (D.1 101, 1, .inr (.inl F))) := (hF2 _ (by omega)).trans hG1
    refine xa_istore d_Law_law_649 rfl rfl ?_
    refine xa_ls ?_ (w_t_taken (c := 1) (y := nI 0) hR hM2 (by omega) hG2 (fun z => by omega) (by omega) (by omega) (kont _ _ _ _ (by omega) (by omega) ⟨_, _, _, _, _, _, _, _, _, _, hS2, hM2, hG2, hZ, by omega, by omega⟩))
    exact ⟨rfl, rfl, rfl, rfl, rfl, rfl, rfl, trivial⟩
theorem w_t_strings {c : Nat} {y : Int32} {G : Nat → Int64} (hR : 9 ≤ R.frames ∧ 179 ≤ R.locals) (hM : xR_S D h (o + 28) n fs b m bd pt tb tw c) (hc : c ≤ 3) (hG : h (o + 43) = some (.inl (D.1 101, 1, .inr (.inl G)))) (hy : c = 0 → G 0 = y.toInt64) (hk : k ≤ R.cells) (hn : n0 ≤ R.slots) (kont : xa_X l D H0 M_Law_law R Z k n0 h sz 1093 [(0, .ref a0), (1, .ref o), (2, .ref (o + 28)), (3, .ref (o + 43)), (4, .int (nI i))] []) :
    xa_X l D H0 M_Law_law R Z k n0 h sz 775 [(5, .int (nI c)), (6, .int y), (0, .ref a0), (1, .ref o), (2, .ref (o + 28)), (3, .ref (o + 43)), (4, .int (nI i))] [] := by
  obtain ⟨v, g0, -⟩ := hM.code
  refine xa_aload_n d_Law_law_775 rfl ?_
  refine xa_callVr (As := []) (st := []) d_Law_law_776 k_Law_89 g0 (c_Ref_thrown hM) rfl rfl (Nat.le_of_ble_eq_true rfl) ⟨by have := hR.1; show 0 + 1 ≤ _; omega, by have := hR.2; show 8 + (1 + 11) + 0 ≤ _; omega⟩ (by omega) (by omega) ?_
  refine xa_iload d_Law_law_779 rfl ?_
  refine xa_icmp_eqN (tgt := 786) d_Law_law_781 (by decide) (by omega) (by omega) (fun hz => ?_) (fun hz => ?_)
  ·
    refine xa_iload d_Law_law_786 rfl ?_
    refine xa_if_neN (tgt := 803) d_Law_law_788 (by decide) (by omega) (fun hz2 => ?_) (fun hz2 => ?_)
    ·
      refine xa_goto (tgt := 1093) d_Law_law_803 (by decide) ?_
      exact xa_sl kont ⟨rfl, rfl, rfl, rfl, rfl, trivial⟩
    ·
      refine xa_aload_n d_Law_law_791 rfl ?_
      refine xa_iconst (v := nI 0) d_Law_law_792 rfl ?_
      refine xa_laldE (j := 0) d_Law_law_793 hG rfl (by decide) (by decide) (hy hz2) ?_
      refine xa_iload d_Law_law_794 rfl ?_
      refine xa_i2l d_Law_law_796 rfl ?_
      refine xa_lcmp d_Law_law_797 ?_
      refine xa_int (y := nI 0) (lg_cmp_self _) ?_
      refine xa_if_eqN (tgt := 803) d_Law_law_798 (by decide) (by omega) (fun hz3 => ?_) (fun hz3 => ?_)
      ·
        refine xa_goto (tgt := 1093) d_Law_law_803 (by decide) ?_
        exact xa_sl kont ⟨rfl, rfl, rfl, rfl, rfl, trivial⟩
      · omega
  · omega
theorem w_o_strings (htr : l.stackTraces = false) (hsc : xL_S0 H0 a0 L) (hi : i + 2 < L) (hR : 9 ≤ R.frames ∧ 179 ≤ R.locals) (hk : k + 2 ≤ R.cells) (hn0 : n0 + 13 ≤ R.slots) (hS : xS_S D h o (o + 44) n fs b m bd pt tb tw) (hM : xR_S D h (o + 28) n fs b m bd pt tb tw cd) (hF : h (o + 43) = some (.inl (D.1 101, 1, .inr (.inl F)))) (hZ : xZ_I n fs b m bd pt tb tw) (hm : m < 1000) (hsz : o + 44 ≤ sz) (kont : ∀ (k' n' : Nat) (h' : xa_H) (sz' : Nat), k' ≤ k + 2 → n' ≤ n0 + 13 → xL_Q D h' sz' o (m + 1) → xa_X l D H0 M_Law_law R (xa_ZY (xa_Sc H0 a0 L f) Z0) k' n' h' sz' 1093 [(0, .ref a0), (1, .ref o), (2, .ref (o + 28)), (3, .ref (o + 43)), (4, .int (nI i))] []) :
    xa_X l D H0 M_Law_law R (xa_ZY (xa_Sc H0 a0 L f) Z0) k n0 h sz 750 [(0, .ref a0), (1, .ref o), (2, .ref (o + 28)), (3, .ref (o + 43)), (4, .int (nI i))] [] := by
  have hsc0 := hsc
  obtain ⟨hsa, hsL⟩ := hsc0
  have hn := hZ.1.1
  have hN : n * n ≤ 169 := Nat.mul_le_mul hn.2 hn.2
  have hI := hZ.S hm
  have o0 := hS.1
  refine xa_aload_n d_Law_law_750 rfl ?_
  refine xa_aload_n d_Law_law_751 rfl ?_
  refine xa_iload d_Law_law_752 rfl ?_
  refine xa_iconst (v := nI 1) d_Law_law_754 rfl ?_
  refine xa_iaddN d_Law_law_755 ?_
  refine xa_ialdB (j := i + 1) hsa d_Law_law_756 (by omega) rfl hsL ?_
  refine xa_aload_n d_Law_law_757 rfl ?_
  generalize hx1 : f (i + 1) = x1
  rcases i32_rg x1 (a := 1) (N := 2) (by omega) (by omega) with ⟨p, hp1, hp2, rfl⟩ | hxb
  · refine xa_callSW (As := [.ref o, .int (nI p), .ref (o + 43)]) (st := []) d_Law_law_758 k_Law_134 (c_Law_strings (ol := o + 43) o0 (e_strings hS (by omega)) (fun x h' sz' hq => ⟨F, (hq.2.2.1 _ (by omega) (by omega)).trans hF⟩)) rfl rfl (Nat.le_of_ble_eq_true rfl) ⟨by have := hR.1; show 8 + 1 ≤ _; omega, by have := hR.2; show 8 + (4 + 11) + 130 ≤ _; omega⟩ (by omega) (by omega) (fun v h' sz' hq => ?_)
    obtain ⟨e1, x, h1, G, ⟨hx, hS1, hF1, hsz1⟩, hG0, e2⟩ := hq
    rw [e1, e2]
    have hM1 : xR_S D (xa_u h1 (o + 43) (.inl (D.1 101, 1, .inr (.inl G)))) (o + 28) n fs b m bd pt tb tw cd := hM.frame (fun q q1 q2 => xa_u_ne (hF1 q (by omega) (by omega)) (by omega))
    obtain ⟨v1, g0, -⟩ := hM1.code
    refine xa_istore d_Law_law_761 rfl rfl ?_
    refine xa_aload_n d_Law_law_763 rfl ?_
    refine xa_aload_n d_Law_law_764 rfl ?_
    refine xa_iload d_Law_law_765 rfl ?_
    refine xa_iconst (v := nI 1) d_Law_law_767 rfl ?_
    refine xa_iaddN d_Law_law_768 ?_
    refine xa_ialdB (j := i + 1) hsa d_Law_law_769 (by omega) rfl hsL ?_
    rw [hx1]
    refine xa_callV (As := [.int (nI p)]) (st := []) d_Law_law_770 k_Law_136 g0 (c_Ref_strings hM1 hZ (by omega)) rfl rfl (Nat.le_of_ble_eq_true rfl) ⟨by have := hR.1; show 3 + 1 ≤ _; omega, by have := hR.2; show 8 + (2 + 11) + 72 ≤ _; omega⟩ (by omega) (by omega) (fun v h2 sz2 hq => ?_)
    obtain ⟨e3, hM2, hF2, e4⟩ := hq
    rw [e3, e4]
    have hS2 : xS_S D h2 o (o + 44) n fs b m bd pt tb tw := hS1.frame (by omega) (fun q hq => (hF2 q (by omega)).trans (xa_u_ne rfl (by omega)))
    have hG2 : h2 (o + 43) = some (.inl (D.1 101, 1, .inr (.inl G))) := (hF2 _ (by omega)).trans (xa_u_eq _ _ _)
    refine xa_istore d_Law_law_773 rfl rfl ?_
    refine xa_ls ?_ (w_t_strings (c := 0) (y := nI (gb_cnt (fun q => b q = p ∧ gx_lst n (fun q => nI (b q)) q) (n * n))) hR hM2 (by omega) hG2 (fun _ => by rw [hG0, hx]) (by omega) (by omega) (kont _ _ _ _ (by omega) (by omega) ⟨_, _, _, _, _, _, _, _, _, _, hS2, hM2, hG2, hZ, by omega, by omega⟩))
    exact ⟨rfl, rfl, rfl, rfl, rfl, rfl, rfl, trivial⟩
  · refine xa_callSW (As := [.ref o, .int x1, .ref (o + 43)]) (st := []) d_Law_law_758 k_Law_134 (t_Law_strings_IAE o0 (t_SB_strings htr (i32_12 hxb))) rfl rfl (Nat.le_of_ble_eq_true rfl) ⟨by have := hR.1; show 8 + 1 ≤ _; omega, by have := hR.2; show 8 + (4 + 11) + 130 ≤ _; omega⟩ (by omega) (by omega) (fun v h' sz' hq => ?_)
    obtain ⟨e1, e2, hsz1⟩ := hq
    rw [e1, e2]
    have hM1 := hM
    have hS1 := hS
    have hG1 := hF
    obtain ⟨v1, g0, -⟩ := hM1.code
    refine xa_istore d_Law_law_761 rfl rfl ?_
    refine xa_aload_n d_Law_law_763 rfl ?_
    refine xa_aload_n d_Law_law_764 rfl ?_
    refine xa_iload d_Law_law_765 rfl ?_
    refine xa_iconst (v := nI 1) d_Law_law_767 rfl ?_
    refine xa_iaddN d_Law_law_768 ?_
    refine xa_ialdB (j := i + 1) hsa d_Law_law_769 (by omega) rfl hsL ?_
    rw [hx1]
    refine xa_callV (As := [.int x1]) (st := []) d_Law_law_770 k_Law_136 g0 (c_Ref_stringsX hM1 hxb) rfl rfl (Nat.le_of_ble_eq_true rfl) ⟨by have := hR.1; show 3 + 1 ≤ _; omega, by have := hR.2; show 8 + (2 + 11) + 72 ≤ _; omega⟩ (by omega) (by omega) (fun v h2 sz2 hq => ?_)
    obtain ⟨e3, hM2, hF2, e4⟩ := hq
    rw [e3, e4]
    have hS2 : xS_S D h2 o (o + 44) n fs b m bd pt tb tw := hS1.frame (by omega) (fun q hq => hF2 q (by omega))
    have hG2 : h2 (o + 43) = some (.inl (D.1 101, 1, .inr (.inl F))) := (hF2 _ (by omega)).trans hG1
    refine xa_istore d_Law_law_773 rfl rfl ?_
    refine xa_ls ?_ (w_t_strings (c := 1) (y := nI 0) hR hM2 (by omega) hG2 (fun z => by omega) (by omega) (by omega) (kont _ _ _ _ (by omega) (by omega) ⟨_, _, _, _, _, _, _, _, _, _, hS2, hM2, hG2, hZ, by omega, by omega⟩))
    exact ⟨rfl, rfl, rfl, rfl, rfl, rfl, rfl, trivial⟩
theorem w_t_safe {c : Nat} {y : Int32} {G : Nat → Int64} (hR : 9 ≤ R.frames ∧ 179 ≤ R.locals) (hM : xR_S D h (o + 28) n fs b m bd pt tb tw c) (hc : c ≤ 3) (hG : h (o + 43) = some (.inl (D.1 101, 1, .inr (.inl G)))) (hy : c = 0 → G 0 = y.toInt64) (hk : k ≤ R.cells) (hn : n0 ≤ R.slots) (kont : xa_X l D H0 M_Law_law R Z k n0 h sz 1093 [(0, .ref a0), (1, .ref o), (2, .ref (o + 28)), (3, .ref (o + 43)), (4, .int (nI i))] []) :
    xa_X l D H0 M_Law_law R Z k n0 h sz 1006 [(5, .int (nI c)), (6, .int y), (0, .ref a0), (1, .ref o), (2, .ref (o + 28)), (3, .ref (o + 43)), (4, .int (nI i))] [] := by
  obtain ⟨v, g0, -⟩ := hM.code
  refine xa_aload_n d_Law_law_1006 rfl ?_
  refine xa_callVr (As := []) (st := []) d_Law_law_1007 k_Law_89 g0 (c_Ref_thrown hM) rfl rfl (Nat.le_of_ble_eq_true rfl) ⟨by have := hR.1; show 0 + 1 ≤ _; omega, by have := hR.2; show 8 + (1 + 11) + 0 ≤ _; omega⟩ (by omega) (by omega) ?_
  refine xa_iload d_Law_law_1010 rfl ?_
  refine xa_icmp_eqN (tgt := 1017) d_Law_law_1012 (by decide) (by omega) (by omega) (fun hz => ?_) (fun hz => ?_)
  ·
    refine xa_iload d_Law_law_1017 rfl ?_
    refine xa_if_neN (tgt := 1034) d_Law_law_1019 (by decide) (by omega) (fun hz2 => ?_) (fun hz2 => ?_)
    ·
      refine xa_goto (tgt := 1093) d_Law_law_1034 (by decide) ?_
      exact xa_sl kont ⟨rfl, rfl, rfl, rfl, rfl, trivial⟩
    ·
      refine xa_aload_n d_Law_law_1022 rfl ?_
      refine xa_iconst (v := nI 0) d_Law_law_1023 rfl ?_
      refine xa_laldE (j := 0) d_Law_law_1024 hG rfl (by decide) (by decide) (hy hz2) ?_
      refine xa_iload d_Law_law_1025 rfl ?_
      refine xa_i2l d_Law_law_1027 rfl ?_
      refine xa_lcmp d_Law_law_1028 ?_
      refine xa_int (y := nI 0) (lg_cmp_self _) ?_
      refine xa_if_eqN (tgt := 1034) d_Law_law_1029 (by decide) (by omega) (fun hz3 => ?_) (fun hz3 => ?_)
      ·
        refine xa_goto (tgt := 1093) d_Law_law_1034 (by decide) ?_
        exact xa_sl kont ⟨rfl, rfl, rfl, rfl, rfl, trivial⟩
      · omega
  · omega
theorem w_o_safe (htr : l.stackTraces = false) (hsc : xL_S0 H0 a0 L) (hi : i + 2 < L) (hR : 9 ≤ R.frames ∧ 179 ≤ R.locals) (hk : k + 2 ≤ R.cells) (hn0 : n0 + 13 ≤ R.slots) (hS : xS_S D h o (o + 44) n fs b m bd pt tb tw) (hM : xR_S D h (o + 28) n fs b m bd pt tb tw cd) (hF : h (o + 43) = some (.inl (D.1 101, 1, .inr (.inl F)))) (hZ : xZ_I n fs b m bd pt tb tw) (hm : m < 1000) (hsz : o + 44 ≤ sz) (kont : ∀ (k' n' : Nat) (h' : xa_H) (sz' : Nat), k' ≤ k + 2 → n' ≤ n0 + 13 → xL_Q D h' sz' o (m + 1) → xa_X l D H0 M_Law_law R (xa_ZY (xa_Sc H0 a0 L f) Z0) k' n' h' sz' 1093 [(0, .ref a0), (1, .ref o), (2, .ref (o + 28)), (3, .ref (o + 43)), (4, .int (nI i))] []) :
    xa_X l D H0 M_Law_law R (xa_ZY (xa_Sc H0 a0 L f) Z0) k n0 h sz 981 [(0, .ref a0), (1, .ref o), (2, .ref (o + 28)), (3, .ref (o + 43)), (4, .int (nI i))] [] := by
  have hsc0 := hsc
  obtain ⟨hsa, hsL⟩ := hsc0
  have hn := hZ.1.1
  have hN : n * n ≤ 169 := Nat.mul_le_mul hn.2 hn.2
  have hI := hZ.S hm
  have o0 := hS.1
  refine xa_aload_n d_Law_law_981 rfl ?_
  refine xa_aload_n d_Law_law_982 rfl ?_
  refine xa_iload d_Law_law_983 rfl ?_
  refine xa_iconst (v := nI 1) d_Law_law_985 rfl ?_
  refine xa_iaddN d_Law_law_986 ?_
  refine xa_ialdB (j := i + 1) hsa d_Law_law_987 (by omega) rfl hsL ?_
  refine xa_aload_n d_Law_law_988 rfl ?_
  generalize hx1 : f (i + 1) = x1
  rcases i32_rg x1 (a := 1) (N := 2) (by omega) (by omega) with ⟨p, hp1, hp2, rfl⟩ | hxb
  · refine xa_callSW (As := [.ref o, .int (nI p), .ref (o + 43)]) (st := []) d_Law_law_989 k_Law_146 (c_Law_safe (ol := o + 43) o0 (e_safe hS (by omega) (by omega)) (fun x h' sz' hq => ⟨F, (hq.2.2.1 _ (by omega) (by omega)).trans hF⟩)) rfl rfl (Nat.le_of_ble_eq_true rfl) ⟨by have := hR.1; show 8 + 1 ≤ _; omega, by have := hR.2; show 8 + (4 + 11) + 137 ≤ _; omega⟩ (by omega) (by omega) (fun v h' sz' hq => ?_)
    obtain ⟨e1, x, h1, G, ⟨hx, hS1, hF1, hsz1⟩, hG0, e2⟩ := hq
    rw [e1, e2]
    have hM1 : xR_S D (xa_u h1 (o + 43) (.inl (D.1 101, 1, .inr (.inl G)))) (o + 28) n fs b m bd pt tb tw cd := hM.frame (fun q q1 q2 => xa_u_ne (hF1 q (by omega) (by omega)) (by omega))
    obtain ⟨v1, g0, -⟩ := hM1.code
    refine xa_istore d_Law_law_992 rfl rfl ?_
    refine xa_aload_n d_Law_law_994 rfl ?_
    refine xa_aload_n d_Law_law_995 rfl ?_
    refine xa_iload d_Law_law_996 rfl ?_
    refine xa_iconst (v := nI 1) d_Law_law_998 rfl ?_
    refine xa_iaddN d_Law_law_999 ?_
    refine xa_ialdB (j := i + 1) hsa d_Law_law_1000 (by omega) rfl hsL ?_
    rw [hx1]
    refine xa_callV (As := [.int (nI p)]) (st := []) d_Law_law_1001 k_Law_148 g0 (c_Ref_safe hM1 hZ (by omega)) rfl rfl (Nat.le_of_ble_eq_true rfl) ⟨by have := hR.1; show 5 + 1 ≤ _; omega, by have := hR.2; show 8 + (5 + 11) + 119 ≤ _; omega⟩ (by omega) (by omega) (fun v h2 sz2 hq => ?_)
    obtain ⟨e3, hM2, hF2, e4⟩ := hq
    rw [e3, e4]
    have hS2 : xS_S D h2 o (o + 44) n fs b m bd pt tb tw := hS1.frame (by omega) (fun q hq => (hF2 q (by omega)).trans (xa_u_ne rfl (by omega)))
    have hG2 : h2 (o + 43) = some (.inl (D.1 101, 1, .inr (.inl G))) := (hF2 _ (by omega)).trans (xa_u_eq _ _ _)
    refine xa_istore d_Law_law_1004 rfl rfl ?_
    refine xa_ls ?_ (w_t_safe (c := 0) (y := nI (gl_safe n (gl_k b p))) hR hM2 (by omega) hG2 (fun _ => by rw [hG0, hx]) (by omega) (by omega) (kont _ _ _ _ (by omega) (by omega) ⟨_, _, _, _, _, _, _, _, _, _, hS2, hM2, hG2, hZ, by omega, by omega⟩))
    exact ⟨rfl, rfl, rfl, rfl, rfl, rfl, rfl, trivial⟩
  · refine xa_callSW (As := [.ref o, .int x1, .ref (o + 43)]) (st := []) d_Law_law_989 k_Law_146 (t_Law_safe_IAE o0 (t_SB_safe htr (i32_12 hxb))) rfl rfl (Nat.le_of_ble_eq_true rfl) ⟨by have := hR.1; show 8 + 1 ≤ _; omega, by have := hR.2; show 8 + (4 + 11) + 137 ≤ _; omega⟩ (by omega) (by omega) (fun v h' sz' hq => ?_)
    obtain ⟨e1, e2, hsz1⟩ := hq
    rw [e1, e2]
    have hM1 := hM
    have hS1 := hS
    have hG1 := hF
    obtain ⟨v1, g0, -⟩ := hM1.code
    refine xa_istore d_Law_law_992 rfl rfl ?_
    refine xa_aload_n d_Law_law_994 rfl ?_
    refine xa_aload_n d_Law_law_995 rfl ?_
    refine xa_iload d_Law_law_996 rfl ?_
    refine xa_iconst (v := nI 1) d_Law_law_998 rfl ?_
    refine xa_iaddN d_Law_law_999 ?_
    refine xa_ialdB (j := i + 1) hsa d_Law_law_1000 (by omega) rfl hsL ?_
    rw [hx1]
    refine xa_callV (As := [.int x1]) (st := []) d_Law_law_1001 k_Law_148 g0 (c_Ref_safeX hM1 hxb) rfl rfl (Nat.le_of_ble_eq_true rfl) ⟨by have := hR.1; show 5 + 1 ≤ _; omega, by have := hR.2; show 8 + (5 + 11) + 119 ≤ _; omega⟩ (by omega) (by omega) (fun v h2 sz2 hq => ?_)
    obtain ⟨e3, hM2, hF2, e4⟩ := hq
    rw [e3, e4]
    have hS2 : xS_S D h2 o (o + 44) n fs b m bd pt tb tw := hS1.frame (by omega) (fun q hq => hF2 q (by omega))
    have hG2 : h2 (o + 43) = some (.inl (D.1 101, 1, .inr (.inl F))) := (hF2 _ (by omega)).trans hG1
    refine xa_istore d_Law_law_1004 rfl rfl ?_
    refine xa_ls ?_ (w_t_safe (c := 1) (y := nI 0) hR hM2 (by omega) hG2 (fun z => by omega) (by omega) (by omega) (kont _ _ _ _ (by omega) (by omega) ⟨_, _, _, _, _, _, _, _, _, _, hS2, hM2, hG2, hZ, by omega, by omega⟩))
    exact ⟨rfl, rfl, rfl, rfl, rfl, rfl, rfl, trivial⟩
theorem w_t_ground {c : Nat} {y : Int32} {G : Nat → Int64} (hR : 9 ≤ R.frames ∧ 179 ≤ R.locals) (hM : xR_S D h (o + 28) n fs b m bd pt tb tw c) (hc : c ≤ 3) (hG : h (o + 43) = some (.inl (D.1 101, 1, .inr (.inl G)))) (hy : c = 0 → G 0 = y.toInt64) (hk : k ≤ R.cells) (hn : n0 ≤ R.slots) (kont : xa_X l D H0 M_Law_law R Z k n0 h sz 1093 [(0, .ref a0), (1, .ref o), (2, .ref (o + 28)), (3, .ref (o + 43)), (4, .int (nI i))] []) :
    xa_X l D H0 M_Law_law R Z k n0 h sz 831 [(5, .int (nI c)), (6, .int y), (0, .ref a0), (1, .ref o), (2, .ref (o + 28)), (3, .ref (o + 43)), (4, .int (nI i))] [] := by
  obtain ⟨v, g0, -⟩ := hM.code
  refine xa_aload_n d_Law_law_831 rfl ?_
  refine xa_callVr (As := []) (st := []) d_Law_law_832 k_Law_89 g0 (c_Ref_thrown hM) rfl rfl (Nat.le_of_ble_eq_true rfl) ⟨by have := hR.1; show 0 + 1 ≤ _; omega, by have := hR.2; show 8 + (1 + 11) + 0 ≤ _; omega⟩ (by omega) (by omega) ?_
  refine xa_iload d_Law_law_835 rfl ?_
  refine xa_icmp_eqN (tgt := 842) d_Law_law_837 (by decide) (by omega) (by omega) (fun hz => ?_) (fun hz => ?_)
  ·
    refine xa_iload d_Law_law_842 rfl ?_
    refine xa_if_neN (tgt := 859) d_Law_law_844 (by decide) (by omega) (fun hz2 => ?_) (fun hz2 => ?_)
    ·
      refine xa_goto (tgt := 1093) d_Law_law_859 (by decide) ?_
      exact xa_sl kont ⟨rfl, rfl, rfl, rfl, rfl, trivial⟩
    ·
      refine xa_aload_n d_Law_law_847 rfl ?_
      refine xa_iconst (v := nI 0) d_Law_law_848 rfl ?_
      refine xa_laldE (j := 0) d_Law_law_849 hG rfl (by decide) (by decide) (hy hz2) ?_
      refine xa_iload d_Law_law_850 rfl ?_
      refine xa_i2l d_Law_law_852 rfl ?_
      refine xa_lcmp d_Law_law_853 ?_
      refine xa_int (y := nI 0) (lg_cmp_self _) ?_
      refine xa_if_eqN (tgt := 859) d_Law_law_854 (by decide) (by omega) (fun hz3 => ?_) (fun hz3 => ?_)
      ·
        refine xa_goto (tgt := 1093) d_Law_law_859 (by decide) ?_
        exact xa_sl kont ⟨rfl, rfl, rfl, rfl, rfl, trivial⟩
      · omega
  · omega
theorem w_o_ground (htr : l.stackTraces = false) (hsc : xL_S0 H0 a0 L) (hi : i + 2 < L) (hR : 9 ≤ R.frames ∧ 179 ≤ R.locals) (hk : k + 2 ≤ R.cells) (hn0 : n0 + 13 ≤ R.slots) (hS : xS_S D h o (o + 44) n fs b m bd pt tb tw) (hM : xR_S D h (o + 28) n fs b m bd pt tb tw cd) (hF : h (o + 43) = some (.inl (D.1 101, 1, .inr (.inl F)))) (hZ : xZ_I n fs b m bd pt tb tw) (hm : m < 1000) (hsz : o + 44 ≤ sz) (kont : ∀ (k' n' : Nat) (h' : xa_H) (sz' : Nat), k' ≤ k + 2 → n' ≤ n0 + 13 → xL_Q D h' sz' o (m + 1) → xa_X l D H0 M_Law_law R (xa_ZY (xa_Sc H0 a0 L f) Z0) k' n' h' sz' 1093 [(0, .ref a0), (1, .ref o), (2, .ref (o + 28)), (3, .ref (o + 43)), (4, .int (nI i))] []) :
    xa_X l D H0 M_Law_law R (xa_ZY (xa_Sc H0 a0 L f) Z0) k n0 h sz 806 [(0, .ref a0), (1, .ref o), (2, .ref (o + 28)), (3, .ref (o + 43)), (4, .int (nI i))] [] := by
  have hsc0 := hsc
  obtain ⟨hsa, hsL⟩ := hsc0
  have hn := hZ.1.1
  have hN : n * n ≤ 169 := Nat.mul_le_mul hn.2 hn.2
  have hI := hZ.S hm
  have o0 := hS.1
  refine xa_aload_n d_Law_law_806 rfl ?_
  refine xa_aload_n d_Law_law_807 rfl ?_
  refine xa_iload d_Law_law_808 rfl ?_
  refine xa_iconst (v := nI 1) d_Law_law_810 rfl ?_
  refine xa_iaddN d_Law_law_811 ?_
  refine xa_ialdB (j := i + 1) hsa d_Law_law_812 (by omega) rfl hsL ?_
  refine xa_aload_n d_Law_law_813 rfl ?_
  generalize hx1 : f (i + 1) = x1
  rcases i32_rg x1 (a := 0) (N := 2) (by omega) (by omega) with ⟨p, hp1, hp2, rfl⟩ | hxb
  · refine xa_callSW (As := [.ref o, .int (nI p), .ref (o + 43)]) (st := []) d_Law_law_814 k_Law_137 (c_Law_ground (ol := o + 43) o0 (e_ground hS hp2) (fun x h' sz' hq => ⟨F, (hq.2.2.1 _ (by omega) (by omega)).trans hF⟩)) rfl rfl (Nat.le_of_ble_eq_true rfl) ⟨by have := hR.1; show 8 + 1 ≤ _; omega, by have := hR.2; show 8 + (4 + 11) + 130 ≤ _; omega⟩ (by omega) (by omega) (fun v h' sz' hq => ?_)
    obtain ⟨e1, x, h1, G, ⟨hx, hS1, hF1, hsz1⟩, hG0, e2⟩ := hq
    rw [e1, e2]
    have hM1 : xR_S D (xa_u h1 (o + 43) (.inl (D.1 101, 1, .inr (.inl G)))) (o + 28) n fs b m bd pt tb tw cd := hM.frame (fun q q1 q2 => xa_u_ne (hF1 q (by omega) (by omega)) (by omega))
    obtain ⟨v1, g0, -⟩ := hM1.code
    refine xa_istore d_Law_law_817 rfl rfl ?_
    refine xa_aload_n d_Law_law_819 rfl ?_
    refine xa_aload_n d_Law_law_820 rfl ?_
    refine xa_iload d_Law_law_821 rfl ?_
    refine xa_iconst (v := nI 1) d_Law_law_823 rfl ?_
    refine xa_iaddN d_Law_law_824 ?_
    refine xa_ialdB (j := i + 1) hsa d_Law_law_825 (by omega) rfl hsL ?_
    rw [hx1]
    refine xa_callV (As := [.int (nI p)]) (st := []) d_Law_law_826 k_Law_139 g0 (c_Ref_ground hM1 hZ hp2) rfl rfl (Nat.le_of_ble_eq_true rfl) ⟨by have := hR.1; show 4 + 1 ≤ _; omega, by have := hR.2; show 8 + (4 + 11) + 96 ≤ _; omega⟩ (by omega) (by omega) (fun v h2 sz2 hq => ?_)
    obtain ⟨e3, hM2, hF2, e4⟩ := hq
    rw [e3, e4]
    have hS2 : xS_S D h2 o (o + 44) n fs b m bd pt tb tw := hS1.frame (by omega) (fun q hq => (hF2 q (by omega)).trans (xa_u_ne rfl (by omega)))
    have hG2 : h2 (o + 43) = some (.inl (D.1 101, 1, .inr (.inl G))) := (hF2 _ (by omega)).trans (xa_u_eq _ _ _)
    refine xa_istore d_Law_law_829 rfl rfl ?_
    refine xa_ls ?_ (w_t_ground (c := 0) (y := nI (gb_cnt (fun q => gx_own n b q = p) (n * n))) hR hM2 (by omega) hG2 (fun _ => by rw [hG0, hx]) (by omega) (by omega) (kont _ _ _ _ (by omega) (by omega) ⟨_, _, _, _, _, _, _, _, _, _, hS2, hM2, hG2, hZ, by omega, by omega⟩))
    exact ⟨rfl, rfl, rfl, rfl, rfl, rfl, rfl, trivial⟩
  · refine xa_callSW (As := [.ref o, .int x1, .ref (o + 43)]) (st := []) d_Law_law_814 k_Law_137 (t_Law_ground_IAE o0 (t_SB_ground htr hxb)) rfl rfl (Nat.le_of_ble_eq_true rfl) ⟨by have := hR.1; show 8 + 1 ≤ _; omega, by have := hR.2; show 8 + (4 + 11) + 130 ≤ _; omega⟩ (by omega) (by omega) (fun v h' sz' hq => ?_)
    obtain ⟨e1, e2, hsz1⟩ := hq
    rw [e1, e2]
    have hM1 := hM
    have hS1 := hS
    have hG1 := hF
    obtain ⟨v1, g0, -⟩ := hM1.code
    refine xa_istore d_Law_law_817 rfl rfl ?_
    refine xa_aload_n d_Law_law_819 rfl ?_
    refine xa_aload_n d_Law_law_820 rfl ?_
    refine xa_iload d_Law_law_821 rfl ?_
    refine xa_iconst (v := nI 1) d_Law_law_823 rfl ?_
    refine xa_iaddN d_Law_law_824 ?_
    refine xa_ialdB (j := i + 1) hsa d_Law_law_825 (by omega) rfl hsL ?_
    rw [hx1]
    refine xa_callV (As := [.int x1]) (st := []) d_Law_law_826 k_Law_139 g0 (c_Ref_groundX hM1 hxb) rfl rfl (Nat.le_of_ble_eq_true rfl) ⟨by have := hR.1; show 4 + 1 ≤ _; omega, by have := hR.2; show 8 + (4 + 11) + 96 ≤ _; omega⟩ (by omega) (by omega) (fun v h2 sz2 hq => ?_)
    obtain ⟨e3, hM2, hF2, e4⟩ := hq
    rw [e3, e4]
    have hS2 : xS_S D h2 o (o + 44) n fs b m bd pt tb tw := hS1.frame (by omega) (fun q hq => hF2 q (by omega))
    have hG2 : h2 (o + 43) = some (.inl (D.1 101, 1, .inr (.inl F))) := (hF2 _ (by omega)).trans hG1
    refine xa_istore d_Law_law_829 rfl rfl ?_
    refine xa_ls ?_ (w_t_ground (c := 1) (y := nI 0) hR hM2 (by omega) hG2 (fun z => by omega) (by omega) (by omega) (kont _ _ _ _ (by omega) (by omega) ⟨_, _, _, _, _, _, _, _, _, _, hS2, hM2, hG2, hZ, by omega, by omega⟩))
    exact ⟨rfl, rfl, rfl, rfl, rfl, rfl, rfl, trivial⟩
theorem w_t_why {c : Nat} {y : Int32} {G : Nat → Int64} (hR : 9 ≤ R.frames ∧ 179 ≤ R.locals) (hM : xR_S D h (o + 28) n fs b m bd pt tb tw c) (hc : c ≤ 3) (hG : h (o + 43) = some (.inl (D.1 101, 1, .inr (.inl G)))) (hy : c = 0 → G 0 = y.toInt64) (hk : k ≤ R.cells) (hn : n0 ≤ R.slots) (kont : xa_X l D H0 M_Law_law R Z k n0 h sz 1093 [(0, .ref a0), (1, .ref o), (2, .ref (o + 28)), (3, .ref (o + 43)), (4, .int (nI i))] []) :
    xa_X l D H0 M_Law_law R Z k n0 h sz 418 [(5, .int (nI c)), (6, .int y), (0, .ref a0), (1, .ref o), (2, .ref (o + 28)), (3, .ref (o + 43)), (4, .int (nI i))] [] := by
  obtain ⟨v, g0, -⟩ := hM.code
  refine xa_aload_n d_Law_law_418 rfl ?_
  refine xa_callVr (As := []) (st := []) d_Law_law_419 k_Law_89 g0 (c_Ref_thrown hM) rfl rfl (Nat.le_of_ble_eq_true rfl) ⟨by have := hR.1; show 0 + 1 ≤ _; omega, by have := hR.2; show 8 + (1 + 11) + 0 ≤ _; omega⟩ (by omega) (by omega) ?_
  refine xa_iload d_Law_law_422 rfl ?_
  refine xa_icmp_eqN (tgt := 429) d_Law_law_424 (by decide) (by omega) (by omega) (fun hz => ?_) (fun hz => ?_)
  ·
    refine xa_iload d_Law_law_429 rfl ?_
    refine xa_if_neN (tgt := 446) d_Law_law_431 (by decide) (by omega) (fun hz2 => ?_) (fun hz2 => ?_)
    ·
      refine xa_goto (tgt := 1093) d_Law_law_446 (by decide) ?_
      exact xa_sl kont ⟨rfl, rfl, rfl, rfl, rfl, trivial⟩
    ·
      refine xa_aload_n d_Law_law_434 rfl ?_
      refine xa_iconst (v := nI 0) d_Law_law_435 rfl ?_
      refine xa_laldE (j := 0) d_Law_law_436 hG rfl (by decide) (by decide) (hy hz2) ?_
      refine xa_iload d_Law_law_437 rfl ?_
      refine xa_i2l d_Law_law_439 rfl ?_
      refine xa_lcmp d_Law_law_440 ?_
      refine xa_int (y := nI 0) (lg_cmp_self _) ?_
      refine xa_if_eqN (tgt := 446) d_Law_law_441 (by decide) (by omega) (fun hz3 => ?_) (fun hz3 => ?_)
      ·
        refine xa_goto (tgt := 1093) d_Law_law_446 (by decide) ?_
        exact xa_sl kont ⟨rfl, rfl, rfl, rfl, rfl, trivial⟩
      · omega
  · omega
theorem w_o_why (htr : l.stackTraces = false) (hsc : xL_S0 H0 a0 L) (hi : i + 2 < L) (hR : 9 ≤ R.frames ∧ 179 ≤ R.locals) (hk : k + 2 ≤ R.cells) (hn0 : n0 + 13 ≤ R.slots) (hS : xS_S D h o (o + 44) n fs b m bd pt tb tw) (hM : xR_S D h (o + 28) n fs b m bd pt tb tw cd) (hF : h (o + 43) = some (.inl (D.1 101, 1, .inr (.inl F)))) (hZ : xZ_I n fs b m bd pt tb tw) (hm : m < 1000) (hsz : o + 44 ≤ sz) (kont : ∀ (k' n' : Nat) (h' : xa_H) (sz' : Nat), k' ≤ k + 2 → n' ≤ n0 + 13 → xL_Q D h' sz' o (m + 1) → xa_X l D H0 M_Law_law R (xa_ZY (xa_Sc H0 a0 L f) Z0) k' n' h' sz' 1093 [(0, .ref a0), (1, .ref o), (2, .ref (o + 28)), (3, .ref (o + 43)), (4, .int (nI i))] []) :
    xa_X l D H0 M_Law_law R (xa_ZY (xa_Sc H0 a0 L f) Z0) k n0 h sz 393 [(0, .ref a0), (1, .ref o), (2, .ref (o + 28)), (3, .ref (o + 43)), (4, .int (nI i))] [] := by
  have hsc0 := hsc
  obtain ⟨hsa, hsL⟩ := hsc0
  have hn := hZ.1.1
  have hN : n * n ≤ 169 := Nat.mul_le_mul hn.2 hn.2
  have hI := hZ.S hm
  have o0 := hS.1
  refine xa_aload_n d_Law_law_393 rfl ?_
  refine xa_aload_n d_Law_law_394 rfl ?_
  refine xa_iload d_Law_law_395 rfl ?_
  refine xa_iconst (v := nI 1) d_Law_law_397 rfl ?_
  refine xa_iaddN d_Law_law_398 ?_
  refine xa_ialdB (j := i + 1) hsa d_Law_law_399 (by omega) rfl hsL ?_
  refine xa_aload_n d_Law_law_400 rfl ?_
  generalize hx1 : f (i + 1) = x1
  rcases i32_pt x1 (N := n * n) (by omega) with ⟨p, hp, rfl⟩ | hxb
  · refine xa_callSW (As := [.ref o, .int (nI p), .ref (o + 43)]) (st := []) d_Law_law_401 k_Law_107 (c_Law_why (ol := o + 43) o0 (e_why hS hI (by omega) hp) (fun x h' sz' hq => ⟨F, (hq.2.2.1 _ (by omega) (by omega)).trans hF⟩)) rfl rfl (Nat.le_of_ble_eq_true rfl) ⟨by have := hR.1; show 8 + 1 ≤ _; omega, by have := hR.2; show 8 + (4 + 11) + 156 ≤ _; omega⟩ (by omega) (by omega) (fun v h' sz' hq => ?_)
    obtain ⟨e1, x, h1, G, ⟨hx, hS1, hF1, hsz1⟩, hG0, e2⟩ := hq
    rw [e1, e2]
    have hM1 : xR_S D (xa_u h1 (o + 43) (.inl (D.1 101, 1, .inr (.inl G)))) (o + 28) n fs b m bd pt tb tw cd := hM.frame (fun q q1 q2 => xa_u_ne (hF1 q (by omega) (by omega)) (by omega))
    obtain ⟨v1, g0, -⟩ := hM1.code
    refine xa_istore d_Law_law_404 rfl rfl ?_
    refine xa_aload_n d_Law_law_406 rfl ?_
    refine xa_aload_n d_Law_law_407 rfl ?_
    refine xa_iload d_Law_law_408 rfl ?_
    refine xa_iconst (v := nI 1) d_Law_law_410 rfl ?_
    refine xa_iaddN d_Law_law_411 ?_
    refine xa_ialdB (j := i + 1) hsa d_Law_law_412 (by omega) rfl hsL ?_
    rw [hx1]
    refine xa_callV (As := [.int (nI p)]) (st := []) d_Law_law_413 k_Law_109 g0 (c_Ref_why hM1 hZ hp) rfl rfl (Nat.le_of_ble_eq_true rfl) ⟨by have := hR.1; show 5 + 1 ≤ _; omega, by have := hR.2; show 8 + (2 + 11) + 119 ≤ _; omega⟩ (by omega) (by omega) (fun v h2 sz2 hq => ?_)
    obtain ⟨⟨j', e3, hw'⟩, hM2, hF2, e4⟩ := hq
    rw [e3, e4]
    obtain ⟨j, hxj, hw⟩ := hx
    have hjj := gx_why_gr hw hw'
    have hS2 : xS_S D h2 o (o + 44) n fs b m bd pt tb tw := hS1.frame (by omega) (fun q hq => (hF2 q (by omega)).trans (xa_u_ne rfl (by omega)))
    have hG2 : h2 (o + 43) = some (.inl (D.1 101, 1, .inr (.inl G))) := (hF2 _ (by omega)).trans (xa_u_eq _ _ _)
    refine xa_istore d_Law_law_416 rfl rfl ?_
    refine xa_ls ?_ (w_t_why (c := 0) (y := nI j') hR hM2 (by omega) hG2 (fun _ => by rw [hG0, hxj, hjj]) (by omega) (by omega) (kont _ _ _ _ (by omega) (by omega) ⟨_, _, _, _, _, _, _, _, _, _, hS2, hM2, hG2, hZ, by omega, by omega⟩))
    exact ⟨rfl, rfl, rfl, rfl, rfl, rfl, rfl, trivial⟩
  · refine xa_callSW (As := [.ref o, .int x1, .ref (o + 43)]) (st := []) d_Law_law_401 k_Law_107 (t_Law_why_IOOB o0 (t_SB_why htr hS hxb)) rfl rfl (Nat.le_of_ble_eq_true rfl) ⟨by have := hR.1; show 8 + 1 ≤ _; omega, by have := hR.2; show 8 + (4 + 11) + 156 ≤ _; omega⟩ (by omega) (by omega) (fun v h' sz' hq => ?_)
    obtain ⟨e1, e2, hsz1⟩ := hq
    rw [e1, e2]
    have hM1 := hM
    have hS1 := hS
    have hG1 := hF
    obtain ⟨v1, g0, -⟩ := hM1.code
    refine xa_istore d_Law_law_404 rfl rfl ?_
    refine xa_aload_n d_Law_law_406 rfl ?_
    refine xa_aload_n d_Law_law_407 rfl ?_
    refine xa_iload d_Law_law_408 rfl ?_
    refine xa_iconst (v := nI 1) d_Law_law_410 rfl ?_
    refine xa_iaddN d_Law_law_411 ?_
    refine xa_ialdB (j := i + 1) hsa d_Law_law_412 (by omega) rfl hsL ?_
    rw [hx1]
    refine xa_callV (As := [.int x1]) (st := []) d_Law_law_413 k_Law_109 g0 (c_Ref_whyX hM1 hxb) rfl rfl (Nat.le_of_ble_eq_true rfl) ⟨by have := hR.1; show 5 + 1 ≤ _; omega, by have := hR.2; show 8 + (2 + 11) + 119 ≤ _; omega⟩ (by omega) (by omega) (fun v h2 sz2 hq => ?_)
    obtain ⟨e3, hM2, hF2, e4⟩ := hq
    rw [e3, e4]
    have hS2 : xS_S D h2 o (o + 44) n fs b m bd pt tb tw := hS1.frame (by omega) (fun q hq => hF2 q (by omega))
    have hG2 : h2 (o + 43) = some (.inl (D.1 101, 1, .inr (.inl F))) := (hF2 _ (by omega)).trans hG1
    refine xa_istore d_Law_law_416 rfl rfl ?_
    refine xa_ls ?_ (w_t_why (c := 1) (y := nI 0) hR hM2 (by omega) hG2 (fun z => by omega) (by omega) (by omega) (kont _ _ _ _ (by omega) (by omega) ⟨_, _, _, _, _, _, _, _, _, _, hS2, hM2, hG2, hZ, by omega, by omega⟩))
    exact ⟨rfl, rfl, rfl, rfl, rfl, rfl, rfl, trivial⟩
theorem w_t_ago {c : Nat} {y : Int32} {G : Nat → Int64} (hR : 9 ≤ R.frames ∧ 179 ≤ R.locals) (hM : xR_S D h (o + 28) n fs b m bd pt tb tw c) (hc : c ≤ 3) (hG : h (o + 43) = some (.inl (D.1 101, 1, .inr (.inl G)))) (hy : c = 0 → G 0 = y.toInt64) (hk : k ≤ R.cells) (hn : n0 ≤ R.slots) (kont : xa_X l D H0 M_Law_law R Z k n0 h sz 1093 [(0, .ref a0), (1, .ref o), (2, .ref (o + 28)), (3, .ref (o + 43)), (4, .int (nI i))] []) :
    xa_X l D H0 M_Law_law R Z k n0 h sz 1062 [(5, .int (nI c)), (6, .int y), (0, .ref a0), (1, .ref o), (2, .ref (o + 28)), (3, .ref (o + 43)), (4, .int (nI i))] [] := by
  obtain ⟨v, g0, -⟩ := hM.code
  refine xa_aload_n d_Law_law_1062 rfl ?_
  refine xa_callVr (As := []) (st := []) d_Law_law_1063 k_Law_89 g0 (c_Ref_thrown hM) rfl rfl (Nat.le_of_ble_eq_true rfl) ⟨by have := hR.1; show 0 + 1 ≤ _; omega, by have := hR.2; show 8 + (1 + 11) + 0 ≤ _; omega⟩ (by omega) (by omega) ?_
  refine xa_iload d_Law_law_1066 rfl ?_
  refine xa_icmp_eqN (tgt := 1073) d_Law_law_1068 (by decide) (by omega) (by omega) (fun hz => ?_) (fun hz => ?_)
  ·
    refine xa_iload d_Law_law_1073 rfl ?_
    refine xa_if_neN (tgt := 1090) d_Law_law_1075 (by decide) (by omega) (fun hz2 => ?_) (fun hz2 => ?_)
    ·
      refine xa_goto (tgt := 1093) d_Law_law_1090 (by decide) ?_
      exact xa_sl kont ⟨rfl, rfl, rfl, rfl, rfl, trivial⟩
    ·
      refine xa_aload_n d_Law_law_1078 rfl ?_
      refine xa_iconst (v := nI 0) d_Law_law_1079 rfl ?_
      refine xa_laldE (j := 0) d_Law_law_1080 hG rfl (by decide) (by decide) (hy hz2) ?_
      refine xa_iload d_Law_law_1081 rfl ?_
      refine xa_i2l d_Law_law_1083 rfl ?_
      refine xa_lcmp d_Law_law_1084 ?_
      refine xa_int (y := nI 0) (lg_cmp_self _) ?_
      refine xa_if_eqN (tgt := 1090) d_Law_law_1085 (by decide) (by omega) (fun hz3 => ?_) (fun hz3 => ?_)
      ·
        refine xa_goto (tgt := 1093) d_Law_law_1090 (by decide) ?_
        exact xa_sl kont ⟨rfl, rfl, rfl, rfl, rfl, trivial⟩
      · omega
  · omega
theorem w_o_ago (htr : l.stackTraces = false) (hsc : xL_S0 H0 a0 L) (hi : i + 2 < L) (hR : 9 ≤ R.frames ∧ 179 ≤ R.locals) (hk : k + 2 ≤ R.cells) (hn0 : n0 + 13 ≤ R.slots) (hS : xS_S D h o (o + 44) n fs b m bd pt tb tw) (hM : xR_S D h (o + 28) n fs b m bd pt tb tw cd) (hF : h (o + 43) = some (.inl (D.1 101, 1, .inr (.inl F)))) (hZ : xZ_I n fs b m bd pt tb tw) (hm : m < 1000) (hsz : o + 44 ≤ sz) (kont : ∀ (k' n' : Nat) (h' : xa_H) (sz' : Nat), k' ≤ k + 2 → n' ≤ n0 + 13 → xL_Q D h' sz' o (m + 1) → xa_X l D H0 M_Law_law R (xa_ZY (xa_Sc H0 a0 L f) Z0) k' n' h' sz' 1093 [(0, .ref a0), (1, .ref o), (2, .ref (o + 28)), (3, .ref (o + 43)), (4, .int (nI i))] []) :
    xa_X l D H0 M_Law_law R (xa_ZY (xa_Sc H0 a0 L f) Z0) k n0 h sz 1037 [(0, .ref a0), (1, .ref o), (2, .ref (o + 28)), (3, .ref (o + 43)), (4, .int (nI i))] [] := by
  have hsc0 := hsc
  obtain ⟨hsa, hsL⟩ := hsc0
  have hn := hZ.1.1
  have hN : n * n ≤ 169 := Nat.mul_le_mul hn.2 hn.2
  have hI := hZ.S hm
  have o0 := hS.1
  refine xa_aload_n d_Law_law_1037 rfl ?_
  refine xa_aload_n d_Law_law_1038 rfl ?_
  refine xa_iload d_Law_law_1039 rfl ?_
  refine xa_iconst (v := nI 1) d_Law_law_1041 rfl ?_
  refine xa_iaddN d_Law_law_1042 ?_
  refine xa_ialdB (j := i + 1) hsa d_Law_law_1043 (by omega) rfl hsL ?_
  refine xa_aload_n d_Law_law_1044 rfl ?_
  generalize hx1 : f (i + 1) = x1
  rcases i32_pt x1 (N := n * n) (by omega) with ⟨p, hp, rfl⟩ | hxb
  · refine xa_callSW (As := [.ref o, .int (nI p), .ref (o + 43)]) (st := []) d_Law_law_1045 k_Law_149 (c_Law_ago (ol := o + 43) o0 (e_ago hS hI (by omega) hp) (fun x h' sz' hq => ⟨F, (hq.2.2.1 _ (by omega) (by omega)).trans hF⟩)) rfl rfl (Nat.le_of_ble_eq_true rfl) ⟨by have := hR.1; show 8 + 1 ≤ _; omega, by have := hR.2; show 8 + (4 + 11) + 136 ≤ _; omega⟩ (by omega) (by omega) (fun v h' sz' hq => ?_)
    obtain ⟨e1, x, h1, G, ⟨hx, hS1, hF1, hsz1⟩, hG0, e2⟩ := hq
    rw [e1, e2]
    have hM1 : xR_S D (xa_u h1 (o + 43) (.inl (D.1 101, 1, .inr (.inl G)))) (o + 28) n fs b m bd pt tb tw cd := hM.frame (fun q q1 q2 => xa_u_ne (hF1 q (by omega) (by omega)) (by omega))
    obtain ⟨v1, g0, -⟩ := hM1.code
    refine xa_istore d_Law_law_1048 rfl rfl ?_
    refine xa_aload_n d_Law_law_1050 rfl ?_
    refine xa_aload_n d_Law_law_1051 rfl ?_
    refine xa_iload d_Law_law_1052 rfl ?_
    refine xa_iconst (v := nI 1) d_Law_law_1054 rfl ?_
    refine xa_iaddN d_Law_law_1055 ?_
    refine xa_ialdB (j := i + 1) hsa d_Law_law_1056 (by omega) rfl hsL ?_
    rw [hx1]
    refine xa_callV (As := [.int (nI p)]) (st := []) d_Law_law_1057 k_Law_151 g0 (c_Ref_ago hM1 hZ hp) rfl rfl (Nat.le_of_ble_eq_true rfl) ⟨by have := hR.1; show 4 + 1 ≤ _; omega, by have := hR.2; show 8 + (3 + 11) + 98 ≤ _; omega⟩ (by omega) (by omega) (fun v h2 sz2 hq => ?_)
    obtain ⟨hv, hM2, hF2, e4⟩ := hq
    rw [e4]
    obtain ⟨y, e3, hy⟩ : ∃ y, v = some (.int y) ∧ gx_ago n fs b m bd p y := by
      rcases hv with ⟨h0, e⟩ | ⟨h0, t, k, ls, hT, ⟨e, hno⟩ | ⟨j, hj, e, hs⟩⟩
      · exact ⟨_, e, Or.inl ⟨h0, rfl⟩⟩
      · exact ⟨_, e, Or.inr ⟨h0, t, k, ls, hT, Or.inl ⟨rfl, hno⟩⟩⟩
      · exact ⟨_, e, Or.inr ⟨h0, t, k, ls, hT, Or.inr ⟨j, hj, rfl, hs⟩⟩⟩
    rw [e3]
    have hS2 : xS_S D h2 o (o + 44) n fs b m bd pt tb tw := hS1.frame (by omega) (fun q hq => (hF2 q (by omega)).trans (xa_u_ne rfl (by omega)))
    have hG2 : h2 (o + 43) = some (.inl (D.1 101, 1, .inr (.inl G))) := (hF2 _ (by omega)).trans (xa_u_eq _ _ _)
    refine xa_istore d_Law_law_1060 rfl rfl ?_
    refine xa_ls ?_ (w_t_ago (c := 0) (y := y) hR hM2 (by omega) hG2 (fun _ => by rw [hG0, gx_ago_un hx hy]) (by omega) (by omega) (kont _ _ _ _ (by omega) (by omega) ⟨_, _, _, _, _, _, _, _, _, _, hS2, hM2, hG2, hZ, by omega, by omega⟩))
    exact ⟨rfl, rfl, rfl, rfl, rfl, rfl, rfl, trivial⟩
  · refine xa_callSW (As := [.ref o, .int x1, .ref (o + 43)]) (st := []) d_Law_law_1045 k_Law_149 (t_Law_ago_IOOB o0 (t_SB_ago htr hS hxb)) rfl rfl (Nat.le_of_ble_eq_true rfl) ⟨by have := hR.1; show 8 + 1 ≤ _; omega, by have := hR.2; show 8 + (4 + 11) + 136 ≤ _; omega⟩ (by omega) (by omega) (fun v h' sz' hq => ?_)
    obtain ⟨e1, e2, hsz1⟩ := hq
    rw [e1, e2]
    have hM1 := hM
    have hS1 := hS
    have hG1 := hF
    obtain ⟨v1, g0, -⟩ := hM1.code
    refine xa_istore d_Law_law_1048 rfl rfl ?_
    refine xa_aload_n d_Law_law_1050 rfl ?_
    refine xa_aload_n d_Law_law_1051 rfl ?_
    refine xa_iload d_Law_law_1052 rfl ?_
    refine xa_iconst (v := nI 1) d_Law_law_1054 rfl ?_
    refine xa_iaddN d_Law_law_1055 ?_
    refine xa_ialdB (j := i + 1) hsa d_Law_law_1056 (by omega) rfl hsL ?_
    rw [hx1]
    refine xa_callV (As := [.int x1]) (st := []) d_Law_law_1057 k_Law_151 g0 (c_Ref_agoX hM1 hxb) rfl rfl (Nat.le_of_ble_eq_true rfl) ⟨by have := hR.1; show 4 + 1 ≤ _; omega, by have := hR.2; show 8 + (3 + 11) + 98 ≤ _; omega⟩ (by omega) (by omega) (fun v h2 sz2 hq => ?_)
    obtain ⟨e3, hM2, hF2, e4⟩ := hq
    rw [e3, e4]
    have hS2 : xS_S D h2 o (o + 44) n fs b m bd pt tb tw := hS1.frame (by omega) (fun q hq => hF2 q (by omega))
    have hG2 : h2 (o + 43) = some (.inl (D.1 101, 1, .inr (.inl F))) := (hF2 _ (by omega)).trans hG1
    refine xa_istore d_Law_law_1060 rfl rfl ?_
    refine xa_ls ?_ (w_t_ago (c := 1) (y := nI 0) hR hM2 (by omega) hG2 (fun z => by omega) (by omega) (by omega) (kont _ _ _ _ (by omega) (by omega) ⟨_, _, _, _, _, _, _, _, _, _, hS2, hM2, hG2, hZ, by omega, by omega⟩))
    exact ⟨rfl, rfl, rfl, rfl, rfl, rfl, rfl, trivial⟩
theorem w_t_play {c : Nat} {y : Int32} {G : Nat → Int64} (hR : 9 ≤ R.frames ∧ 179 ≤ R.locals) (hM : xR_S D h (o + 28) n fs b m bd pt tb tw c) (hc : c ≤ 3) (hG : h (o + 43) = some (.inl (D.1 101, 1, .inr (.inl G)))) (hy : c = 0 → G 0 = y.toInt64) (hk : k ≤ R.cells) (hn : n0 ≤ R.slots) (kont : xa_X l D H0 M_Law_law R Z k n0 h sz 1093 [(0, .ref a0), (1, .ref o), (2, .ref (o + 28)), (3, .ref (o + 43)), (4, .int (nI i))] []) :
    xa_X l D H0 M_Law_law R Z k n0 h sz 362 [(5, .int (nI c)), (6, .int y), (0, .ref a0), (1, .ref o), (2, .ref (o + 28)), (3, .ref (o + 43)), (4, .int (nI i))] [] := by
  obtain ⟨v, g0, -⟩ := hM.code
  refine xa_aload_n d_Law_law_362 rfl ?_
  refine xa_callVr (As := []) (st := []) d_Law_law_363 k_Law_89 g0 (c_Ref_thrown hM) rfl rfl (Nat.le_of_ble_eq_true rfl) ⟨by have := hR.1; show 0 + 1 ≤ _; omega, by have := hR.2; show 8 + (1 + 11) + 0 ≤ _; omega⟩ (by omega) (by omega) ?_
  refine xa_iload d_Law_law_366 rfl ?_
  refine xa_icmp_eqN (tgt := 373) d_Law_law_368 (by decide) (by omega) (by omega) (fun hz => ?_) (fun hz => ?_)
  ·
    refine xa_iload d_Law_law_373 rfl ?_
    refine xa_if_neN (tgt := 390) d_Law_law_375 (by decide) (by omega) (fun hz2 => ?_) (fun hz2 => ?_)
    ·
      refine xa_goto (tgt := 1093) d_Law_law_390 (by decide) ?_
      exact xa_sl kont ⟨rfl, rfl, rfl, rfl, rfl, trivial⟩
    ·
      refine xa_aload_n d_Law_law_378 rfl ?_
      refine xa_iconst (v := nI 0) d_Law_law_379 rfl ?_
      refine xa_laldE (j := 0) d_Law_law_380 hG rfl (by decide) (by decide) (hy hz2) ?_
      refine xa_iload d_Law_law_381 rfl ?_
      refine xa_i2l d_Law_law_383 rfl ?_
      refine xa_lcmp d_Law_law_384 ?_
      refine xa_int (y := nI 0) (lg_cmp_self _) ?_
      refine xa_if_eqN (tgt := 390) d_Law_law_385 (by decide) (by omega) (fun hz3 => ?_) (fun hz3 => ?_)
      ·
        refine xa_goto (tgt := 1093) d_Law_law_390 (by decide) ?_
        exact xa_sl kont ⟨rfl, rfl, rfl, rfl, rfl, trivial⟩
      · omega
  · omega
theorem w_o_play (htr : l.stackTraces = false) (hsc : xL_S0 H0 a0 L) (hi : i + 2 < L) (hR : 9 ≤ R.frames ∧ 179 ≤ R.locals) (hk : k + 2 ≤ R.cells) (hn0 : n0 + 13 ≤ R.slots) (hS : xS_S D h o (o + 44) n fs b m bd pt tb tw) (hM : xR_S D h (o + 28) n fs b m bd pt tb tw cd) (hF : h (o + 43) = some (.inl (D.1 101, 1, .inr (.inl F)))) (hZ : xZ_I n fs b m bd pt tb tw) (hm : m < 1000) (hsz : o + 44 ≤ sz) (kont : ∀ (k' n' : Nat) (h' : xa_H) (sz' : Nat), k' ≤ k + 2 → n' ≤ n0 + 13 → xL_Q D h' sz' o (m + 1) → xa_X l D H0 M_Law_law R (xa_ZY (xa_Sc H0 a0 L f) Z0) k' n' h' sz' 1093 [(0, .ref a0), (1, .ref o), (2, .ref (o + 28)), (3, .ref (o + 43)), (4, .int (nI i))] []) :
    xa_X l D H0 M_Law_law R (xa_ZY (xa_Sc H0 a0 L f) Z0) k n0 h sz 337 [(0, .ref a0), (1, .ref o), (2, .ref (o + 28)), (3, .ref (o + 43)), (4, .int (nI i))] [] := by
  have hsc0 := hsc
  obtain ⟨hsa, hsL⟩ := hsc0
  have hn := hZ.1.1
  have hN : n * n ≤ 169 := Nat.mul_le_mul hn.2 hn.2
  have hI := hZ.S hm
  have o0 := hS.1
  refine xa_aload_n d_Law_law_337 rfl ?_
  refine xa_aload_n d_Law_law_338 rfl ?_
  refine xa_iload d_Law_law_339 rfl ?_
  refine xa_iconst (v := nI 1) d_Law_law_341 rfl ?_
  refine xa_iaddN d_Law_law_342 ?_
  refine xa_ialdB (j := i + 1) hsa d_Law_law_343 (by omega) rfl hsL ?_
  refine xa_aload_n d_Law_law_344 rfl ?_
  generalize hx1 : f (i + 1) = x1
  rcases i32_pt x1 (N := n * n) (by omega) with ⟨p, hp, rfl⟩ | hxb
  · by_cases hok : gx_ok n fs b m bd pt p
    · refine xa_callSW (As := [.ref o, .int (nI p), .ref (o + 43)]) (st := []) d_Law_law_345 k_Law_104 (c_Law_play (ol := o + 43) o0 (e_play hS hI ⟨by omega, hsz⟩ hp hok) (fun x h' sz' hq => ⟨F, (hq.2.1 _ (by omega) (by omega)).trans hF⟩)) rfl rfl (Nat.le_of_ble_eq_true rfl) ⟨by have := hR.1; show 8 + 1 ≤ _; omega, by have := hR.2; show 8 + (4 + 11) + 156 ≤ _; omega⟩ (by omega) (by omega) (fun v h' sz' hq => ?_)
      obtain ⟨e1, x, h1, G, ⟨⟨t, kk, ls, hT, hxk, hS1⟩, hF1, hsz1⟩, hG0, e2⟩ := hq
      rw [e1, e2]
      have hM1 : xR_S D (xa_u h1 (o + 43) (.inl (D.1 101, 1, .inr (.inl G)))) (o + 28) n fs b m bd pt tb tw cd := hM.frame (fun q q1 q2 => xa_u_ne (hF1 q (by omega) (by omega)) (by omega))
      obtain ⟨v1, g0, -⟩ := hM1.code
      refine xa_istore d_Law_law_348 rfl rfl ?_
      refine xa_aload_n d_Law_law_350 rfl ?_
      refine xa_aload_n d_Law_law_351 rfl ?_
      refine xa_iload d_Law_law_352 rfl ?_
      refine xa_iconst (v := nI 1) d_Law_law_354 rfl ?_
      refine xa_iaddN d_Law_law_355 ?_
      refine xa_ialdB (j := i + 1) hsa d_Law_law_356 (by omega) rfl hsL ?_
      rw [hx1]
      refine xa_callV (As := [.int (nI p)]) (st := []) d_Law_law_357 k_Law_106 g0 (c_Ref_play hM1 hZ hm hp hok hT) rfl rfl (Nat.le_of_ble_eq_true rfl) ⟨by have := hR.1; show 5 + 1 ≤ _; omega, by have := hR.2; show 8 + (4 + 11) + 119 ≤ _; omega⟩ (by omega) (by omega) (fun v h2 sz2 hq => ?_)
      obtain ⟨e3, hM2, hF2, e4⟩ := hq
      rw [e3, e4]
      have hS2 : xS_S D h2 o (o + 44) n fs t (m + 1) (xh_up bd (m + 1) t) (xh_up pt (m + 1) (nI p)) (xh_up tb (m + 1) (tb m + if ls = 1 then kk else 0)) (xh_up tw (m + 1) (tw m + if ls = 2 then kk else 0)) := hS1.frame (by omega) (fun q hq => (hF2 q (by omega)).trans (xa_u_ne rfl (by omega)))
      have hG2 : h2 (o + 43) = some (.inl (D.1 101, 1, .inr (.inl G))) := (hF2 _ (by omega)).trans (xa_u_eq _ _ _)
      refine xa_istore d_Law_law_360 rfl rfl ?_
      refine xa_ls ?_ (w_t_play (c := 0) (y := nI kk) hR hM2 (by omega) hG2 (fun _ => by rw [hG0, hxk]) (by omega) (by omega) (kont _ _ _ _ (by omega) (by omega) ⟨_, _, _, _, _, _, _, _, _, _, hS2, hM2, hG2, hZ.play hm hp hok hT, Nat.le_refl _, by omega⟩))
      exact ⟨rfl, rfl, rfl, rfl, rfl, rfl, rfl, trivial⟩
    · refine xa_callSW (As := [.ref o, .int (nI p), .ref (o + 43)]) (st := []) d_Law_law_345 k_Law_104 (t_Law_play_ISE o0 (t_SB_play2 htr hS hI (by omega) hp hok)) rfl rfl (Nat.le_of_ble_eq_true rfl) ⟨by have := hR.1; show 8 + 1 ≤ _; omega, by have := hR.2; show 8 + (4 + 11) + 156 ≤ _; omega⟩ (by omega) (by omega) (fun v h' sz' hq => ?_)
      obtain ⟨e1, hS1, hF1, hsz1⟩ := hq
      rw [e1]
      have hM1 : xR_S D h' (o + 28) n fs b m bd pt tb tw cd := hM.frame (fun q q1 q2 => hF1 q (by omega) (by omega))
      have hG1 : h' (o + 43) = some (.inl (D.1 101, 1, .inr (.inl F))) := (hF1 _ (by omega) (by omega)).trans hF
      obtain ⟨v1, g0, -⟩ := hM1.code
      refine xa_istore d_Law_law_348 rfl rfl ?_
      refine xa_aload_n d_Law_law_350 rfl ?_
      refine xa_aload_n d_Law_law_351 rfl ?_
      refine xa_iload d_Law_law_352 rfl ?_
      refine xa_iconst (v := nI 1) d_Law_law_354 rfl ?_
      refine xa_iaddN d_Law_law_355 ?_
      refine xa_ialdB (j := i + 1) hsa d_Law_law_356 (by omega) rfl hsL ?_
      rw [hx1]
      refine xa_callV (As := [.int (nI p)]) (st := []) d_Law_law_357 k_Law_106 g0 (c_Ref_playY hM1 hZ hm hp hok) rfl rfl (Nat.le_of_ble_eq_true rfl) ⟨by have := hR.1; show 5 + 1 ≤ _; omega, by have := hR.2; show 8 + (4 + 11) + 119 ≤ _; omega⟩ (by omega) (by omega) (fun v h2 sz2 hq => ?_)
      obtain ⟨e3, hM2, hF2, e4⟩ := hq
      rw [e3, e4]
      have hS2 : xS_S D h2 o (o + 44) n fs b m bd pt tb tw := hS1.frame (by omega) (fun q hq => hF2 q (by omega))
      have hG2 : h2 (o + 43) = some (.inl (D.1 101, 1, .inr (.inl F))) := (hF2 _ (by omega)).trans hG1
      refine xa_istore d_Law_law_360 rfl rfl ?_
      refine xa_ls ?_ (w_t_play (c := 2) (y := nI 0) hR hM2 (by omega) hG2 (fun z => by omega) (by omega) (by omega) (kont _ _ _ _ (by omega) (by omega) ⟨_, _, _, _, _, _, _, _, _, _, hS2, hM2, hG2, hZ, by omega, by omega⟩))
      exact ⟨rfl, rfl, rfl, rfl, rfl, rfl, rfl, trivial⟩
  · refine xa_callSW (As := [.ref o, .int x1, .ref (o + 43)]) (st := []) d_Law_law_345 k_Law_104 (t_Law_play_IOOB o0 (t_SB_play1 htr hS hxb)) rfl rfl (Nat.le_of_ble_eq_true rfl) ⟨by have := hR.1; show 8 + 1 ≤ _; omega, by have := hR.2; show 8 + (4 + 11) + 156 ≤ _; omega⟩ (by omega) (by omega) (fun v h' sz' hq => ?_)
    obtain ⟨e1, e2, hsz1⟩ := hq
    rw [e1, e2]
    have hM1 := hM
    have hS1 := hS
    have hG1 := hF
    obtain ⟨v1, g0, -⟩ := hM1.code
    refine xa_istore d_Law_law_348 rfl rfl ?_
    refine xa_aload_n d_Law_law_350 rfl ?_
    refine xa_aload_n d_Law_law_351 rfl ?_
    refine xa_iload d_Law_law_352 rfl ?_
    refine xa_iconst (v := nI 1) d_Law_law_354 rfl ?_
    refine xa_iaddN d_Law_law_355 ?_
    refine xa_ialdB (j := i + 1) hsa d_Law_law_356 (by omega) rfl hsL ?_
    rw [hx1]
    refine xa_callV (As := [.int x1]) (st := []) d_Law_law_357 k_Law_106 g0 (c_Ref_playX hM1 hxb) rfl rfl (Nat.le_of_ble_eq_true rfl) ⟨by have := hR.1; show 5 + 1 ≤ _; omega, by have := hR.2; show 8 + (4 + 11) + 119 ≤ _; omega⟩ (by omega) (by omega) (fun v h2 sz2 hq => ?_)
    obtain ⟨e3, hM2, hF2, e4⟩ := hq
    rw [e3, e4]
    have hS2 : xS_S D h2 o (o + 44) n fs b m bd pt tb tw := hS1.frame (by omega) (fun q hq => hF2 q (by omega))
    have hG2 : h2 (o + 43) = some (.inl (D.1 101, 1, .inr (.inl F))) := (hF2 _ (by omega)).trans hG1
    refine xa_istore d_Law_law_360 rfl rfl ?_
    refine xa_ls ?_ (w_t_play (c := 1) (y := nI 0) hR hM2 (by omega) hG2 (fun z => by omega) (by omega) (by omega) (kont _ _ _ _ (by omega) (by omega) ⟨_, _, _, _, _, _, _, _, _, _, hS2, hM2, hG2, hZ, by omega, by omega⟩))
    exact ⟨rfl, rfl, rfl, rfl, rfl, rfl, rfl, trivial⟩
theorem w_t_string {c : Nat} {y : Int32} {G : Nat → Int64} (hR : 9 ≤ R.frames ∧ 179 ≤ R.locals) (hM : xR_S D h (o + 28) n fs b m bd pt tb tw c) (hc : c ≤ 3) (hG : h (o + 43) = some (.inl (D.1 101, 1, .inr (.inl G)))) (hy : c = 0 → G 0 = y.toInt64) (hk : k ≤ R.cells) (hn : n0 ≤ R.slots) (kont : xa_X l D H0 M_Law_law R Z k n0 h sz 1093 [(0, .ref a0), (1, .ref o), (2, .ref (o + 28)), (3, .ref (o + 43)), (4, .int (nI i))] []) :
    xa_X l D H0 M_Law_law R Z k n0 h sz 719 [(5, .int (nI c)), (6, .int y), (0, .ref a0), (1, .ref o), (2, .ref (o + 28)), (3, .ref (o + 43)), (4, .int (nI i))] [] := by
  obtain ⟨v, g0, -⟩ := hM.code
  refine xa_aload_n d_Law_law_719 rfl ?_
  refine xa_callVr (As := []) (st := []) d_Law_law_720 k_Law_89 g0 (c_Ref_thrown hM) rfl rfl (Nat.le_of_ble_eq_true rfl) ⟨by have := hR.1; show 0 + 1 ≤ _; omega, by have := hR.2; show 8 + (1 + 11) + 0 ≤ _; omega⟩ (by omega) (by omega) ?_
  refine xa_iload d_Law_law_723 rfl ?_
  refine xa_icmp_eqN (tgt := 730) d_Law_law_725 (by decide) (by omega) (by omega) (fun hz => ?_) (fun hz => ?_)
  ·
    refine xa_iload d_Law_law_730 rfl ?_
    refine xa_if_neN (tgt := 747) d_Law_law_732 (by decide) (by omega) (fun hz2 => ?_) (fun hz2 => ?_)
    ·
      refine xa_goto (tgt := 1093) d_Law_law_747 (by decide) ?_
      exact xa_sl kont ⟨rfl, rfl, rfl, rfl, rfl, trivial⟩
    ·
      refine xa_aload_n d_Law_law_735 rfl ?_
      refine xa_iconst (v := nI 0) d_Law_law_736 rfl ?_
      refine xa_laldE (j := 0) d_Law_law_737 hG rfl (by decide) (by decide) (hy hz2) ?_
      refine xa_iload d_Law_law_738 rfl ?_
      refine xa_i2l d_Law_law_740 rfl ?_
      refine xa_lcmp d_Law_law_741 ?_
      refine xa_int (y := nI 0) (lg_cmp_self _) ?_
      refine xa_if_eqN (tgt := 747) d_Law_law_742 (by decide) (by omega) (fun hz3 => ?_) (fun hz3 => ?_)
      ·
        refine xa_goto (tgt := 1093) d_Law_law_747 (by decide) ?_
        exact xa_sl kont ⟨rfl, rfl, rfl, rfl, rfl, trivial⟩
      · omega
  · omega
theorem w_o_string (htr : l.stackTraces = false) (hsc : xL_S0 H0 a0 L) (hi : i + 2 < L) (hR : 9 ≤ R.frames ∧ 179 ≤ R.locals) (hk : k + 2 ≤ R.cells) (hn0 : n0 + 13 ≤ R.slots) (hS : xS_S D h o (o + 44) n fs b m bd pt tb tw) (hM : xR_S D h (o + 28) n fs b m bd pt tb tw cd) (hF : h (o + 43) = some (.inl (D.1 101, 1, .inr (.inl F)))) (hZ : xZ_I n fs b m bd pt tb tw) (hm : m < 1000) (hsz : o + 44 ≤ sz) (kont : ∀ (k' n' : Nat) (h' : xa_H) (sz' : Nat), k' ≤ k + 2 → n' ≤ n0 + 13 → xL_Q D h' sz' o (m + 1) → xa_X l D H0 M_Law_law R (xa_ZY (xa_Sc H0 a0 L f) Z0) k' n' h' sz' 1093 [(0, .ref a0), (1, .ref o), (2, .ref (o + 28)), (3, .ref (o + 43)), (4, .int (nI i))] []) :
    xa_X l D H0 M_Law_law R (xa_ZY (xa_Sc H0 a0 L f) Z0) k n0 h sz 682 [(0, .ref a0), (1, .ref o), (2, .ref (o + 28)), (3, .ref (o + 43)), (4, .int (nI i))] [] := by
  have hsc0 := hsc
  obtain ⟨hsa, hsL⟩ := hsc0
  have hn := hZ.1.1
  have hN : n * n ≤ 169 := Nat.mul_le_mul hn.2 hn.2
  have hI := hZ.S hm
  have o0 := hS.1
  refine xa_aload_n d_Law_law_682 rfl ?_
  refine xa_aload_n d_Law_law_683 rfl ?_
  refine xa_iload d_Law_law_684 rfl ?_
  refine xa_iconst (v := nI 1) d_Law_law_686 rfl ?_
  refine xa_iaddN d_Law_law_687 ?_
  refine xa_ialdB (j := i + 1) hsa d_Law_law_688 (by omega) rfl hsL ?_
  refine xa_aload_n d_Law_law_689 rfl ?_
  refine xa_iload d_Law_law_690 rfl ?_
  refine xa_iconst (v := nI 2) d_Law_law_692 rfl ?_
  refine xa_iaddN d_Law_law_693 ?_
  refine xa_ialdB (j := i + 2) hsa d_Law_law_694 (by omega) rfl hsL ?_
  refine xa_aload_n d_Law_law_695 rfl ?_
  generalize hx1 : f (i + 1) = x1
  generalize hx2 : f (i + 2) = x2
  rcases i32_pt x1 (N := n * n) (by omega) with ⟨p, hp, rfl⟩ | hxb
  · rcases i32_rg x2 (a := 0) (N := 3) (by omega) (by omega) with ⟨w, hw1, hw2, rfl⟩ | hyb
    · refine xa_callSW (As := [.ref o, .int (nI p), .int (nI w), .ref (o + 43)]) (st := []) d_Law_law_696 k_Law_131 (c_Law_string (ol := o + 43) o0 (e_string hS hI hp hw2) (fun x h' sz' hq => ⟨F, (hq.2.2.1 _ (by omega) (by omega)).trans hF⟩)) rfl rfl (Nat.le_of_ble_eq_true rfl) ⟨by have := hR.1; show 8 + 1 ≤ _; omega, by have := hR.2; show 8 + (5 + 11) + 133 ≤ _; omega⟩ (by omega) (by omega) (fun v h' sz' hq => ?_)
      obtain ⟨e1, x, h1, G, ⟨hx, hS1, hF1, hsz1⟩, hG0, e2⟩ := hq
      rw [e1, e2]
      have hM1 : xR_S D (xa_u h1 (o + 43) (.inl (D.1 101, 1, .inr (.inl G)))) (o + 28) n fs b m bd pt tb tw cd := hM.frame (fun q q1 q2 => xa_u_ne (hF1 q (by omega) (by omega)) (by omega))
      obtain ⟨v1, g0, -⟩ := hM1.code
      refine xa_istore d_Law_law_699 rfl rfl ?_
      refine xa_aload_n d_Law_law_701 rfl ?_
      refine xa_aload_n d_Law_law_702 rfl ?_
      refine xa_iload d_Law_law_703 rfl ?_
      refine xa_iconst (v := nI 1) d_Law_law_705 rfl ?_
      refine xa_iaddN d_Law_law_706 ?_
      refine xa_ialdB (j := i + 1) hsa d_Law_law_707 (by omega) rfl hsL ?_
      rw [hx1]
      refine xa_aload_n d_Law_law_708 rfl ?_
      refine xa_iload d_Law_law_709 rfl ?_
      refine xa_iconst (v := nI 2) d_Law_law_711 rfl ?_
      refine xa_iaddN d_Law_law_712 ?_
      refine xa_ialdB (j := i + 2) hsa d_Law_law_713 (by omega) rfl hsL ?_
      rw [hx2]
      refine xa_callV (As := [.int (nI p), .int (nI w)]) (st := []) d_Law_law_714 k_Law_133 g0 (c_Ref_string hM1 hZ hp hw2) rfl rfl (Nat.le_of_ble_eq_true rfl) ⟨by have := hR.1; show 3 + 1 ≤ _; omega, by have := hR.2; show 8 + (4 + 11) + 72 ≤ _; omega⟩ (by omega) (by omega) (fun v h2 sz2 hq => ?_)
      obtain ⟨⟨y, e3, hy⟩, hM2, hF2, e4⟩ := hq
      rw [e3, e4]
      have hS2 : xS_S D h2 o (o + 44) n fs b m bd pt tb tw := hS1.frame (by omega) (fun q hq => (hF2 q (by omega)).trans (xa_u_ne rfl (by omega)))
      have hG2 : h2 (o + 43) = some (.inl (D.1 101, 1, .inr (.inl G))) := (hF2 _ (by omega)).trans (xa_u_eq _ _ _)
      refine xa_istore d_Law_law_717 rfl rfl ?_
      refine xa_ls ?_ (w_t_string (c := 0) (y := y) hR hM2 (by omega) hG2 (fun _ => by rw [hG0, gx_str_un hx hy]) (by omega) (by omega) (kont _ _ _ _ (by omega) (by omega) ⟨_, _, _, _, _, _, _, _, _, _, hS2, hM2, hG2, hZ, by omega, by omega⟩))
      exact ⟨rfl, rfl, rfl, rfl, rfl, rfl, rfl, trivial⟩
    · refine xa_callSW (As := [.ref o, .int (nI p), .int x2, .ref (o + 43)]) (st := []) d_Law_law_696 k_Law_131 (t_Law_string_IAE o0 (t_SB_string2 htr hS hI hp hyb)) rfl rfl (Nat.le_of_ble_eq_true rfl) ⟨by have := hR.1; show 8 + 1 ≤ _; omega, by have := hR.2; show 8 + (5 + 11) + 133 ≤ _; omega⟩ (by omega) (by omega) (fun v h' sz' hq => ?_)
      obtain ⟨e1, e2, hsz1⟩ := hq
      rw [e1, e2]
      have hM1 := hM
      have hS1 := hS
      have hG1 := hF
      obtain ⟨v1, g0, -⟩ := hM1.code
      refine xa_istore d_Law_law_699 rfl rfl ?_
      refine xa_aload_n d_Law_law_701 rfl ?_
      refine xa_aload_n d_Law_law_702 rfl ?_
      refine xa_iload d_Law_law_703 rfl ?_
      refine xa_iconst (v := nI 1) d_Law_law_705 rfl ?_
      refine xa_iaddN d_Law_law_706 ?_
      refine xa_ialdB (j := i + 1) hsa d_Law_law_707 (by omega) rfl hsL ?_
      rw [hx1]
      refine xa_aload_n d_Law_law_708 rfl ?_
      refine xa_iload d_Law_law_709 rfl ?_
      refine xa_iconst (v := nI 2) d_Law_law_711 rfl ?_
      refine xa_iaddN d_Law_law_712 ?_
      refine xa_ialdB (j := i + 2) hsa d_Law_law_713 (by omega) rfl hsL ?_
      rw [hx2]
      refine xa_callV (As := [.int (nI p), .int x2]) (st := []) d_Law_law_714 k_Law_133 g0 (c_Ref_stringY hM1 hZ hp hyb) rfl rfl (Nat.le_of_ble_eq_true rfl) ⟨by have := hR.1; show 3 + 1 ≤ _; omega, by have := hR.2; show 8 + (4 + 11) + 72 ≤ _; omega⟩ (by omega) (by omega) (fun v h2 sz2 hq => ?_)
      obtain ⟨e3, hM2, hF2, e4⟩ := hq
      rw [e3, e4]
      have hS2 : xS_S D h2 o (o + 44) n fs b m bd pt tb tw := hS1.frame (by omega) (fun q hq => hF2 q (by omega))
      have hG2 : h2 (o + 43) = some (.inl (D.1 101, 1, .inr (.inl F))) := (hF2 _ (by omega)).trans hG1
      refine xa_istore d_Law_law_717 rfl rfl ?_
      refine xa_ls ?_ (w_t_string (c := 2) (y := nI 0) hR hM2 (by omega) hG2 (fun z => by omega) (by omega) (by omega) (kont _ _ _ _ (by omega) (by omega) ⟨_, _, _, _, _, _, _, _, _, _, hS2, hM2, hG2, hZ, by omega, by omega⟩))
      exact ⟨rfl, rfl, rfl, rfl, rfl, rfl, rfl, trivial⟩
  · refine xa_callSW (As := [.ref o, .int x1, .int x2, .ref (o + 43)]) (st := []) d_Law_law_696 k_Law_131 (t_Law_string_IOOB o0 (t_SB_string1 htr hS hxb)) rfl rfl (Nat.le_of_ble_eq_true rfl) ⟨by have := hR.1; show 8 + 1 ≤ _; omega, by have := hR.2; show 8 + (5 + 11) + 133 ≤ _; omega⟩ (by omega) (by omega) (fun v h' sz' hq => ?_)
    obtain ⟨e1, e2, hsz1⟩ := hq
    rw [e1, e2]
    have hM1 := hM
    have hS1 := hS
    have hG1 := hF
    obtain ⟨v1, g0, -⟩ := hM1.code
    refine xa_istore d_Law_law_699 rfl rfl ?_
    refine xa_aload_n d_Law_law_701 rfl ?_
    refine xa_aload_n d_Law_law_702 rfl ?_
    refine xa_iload d_Law_law_703 rfl ?_
    refine xa_iconst (v := nI 1) d_Law_law_705 rfl ?_
    refine xa_iaddN d_Law_law_706 ?_
    refine xa_ialdB (j := i + 1) hsa d_Law_law_707 (by omega) rfl hsL ?_
    rw [hx1]
    refine xa_aload_n d_Law_law_708 rfl ?_
    refine xa_iload d_Law_law_709 rfl ?_
    refine xa_iconst (v := nI 2) d_Law_law_711 rfl ?_
    refine xa_iaddN d_Law_law_712 ?_
    refine xa_ialdB (j := i + 2) hsa d_Law_law_713 (by omega) rfl hsL ?_
    rw [hx2]
    refine xa_callV (As := [.int x1, .int x2]) (st := []) d_Law_law_714 k_Law_133 g0 (c_Ref_stringX hM1 hxb) rfl rfl (Nat.le_of_ble_eq_true rfl) ⟨by have := hR.1; show 3 + 1 ≤ _; omega, by have := hR.2; show 8 + (4 + 11) + 72 ≤ _; omega⟩ (by omega) (by omega) (fun v h2 sz2 hq => ?_)
    obtain ⟨e3, hM2, hF2, e4⟩ := hq
    rw [e3, e4]
    have hS2 : xS_S D h2 o (o + 44) n fs b m bd pt tb tw := hS1.frame (by omega) (fun q hq => hF2 q (by omega))
    have hG2 : h2 (o + 43) = some (.inl (D.1 101, 1, .inr (.inl F))) := (hF2 _ (by omega)).trans hG1
    refine xa_istore d_Law_law_717 rfl rfl ?_
    refine xa_ls ?_ (w_t_string (c := 1) (y := nI 0) hR hM2 (by omega) hG2 (fun z => by omega) (by omega) (by omega) (kont _ _ _ _ (by omega) (by omega) ⟨_, _, _, _, _, _, _, _, _, _, hS2, hM2, hG2, hZ, by omega, by omega⟩))
    exact ⟨rfl, rfl, rfl, rfl, rfl, rfl, rfl, trivial⟩
theorem w_t_alive {c : Nat} {x : Nat} {G : Nat → Int64} (hR : 9 ≤ R.frames ∧ 179 ≤ R.locals) (hM : xR_S D h (o + 28) n fs b m bd pt tb tw c) (hc : c ≤ 3) (hG : h (o + 43) = some (.inl (D.1 101, 1, .inr (.inl G)))) (hx1 : x ≤ 1) (hy : c = 0 → (x = 1 ∧ G 0 = 1) ∨ (x = 0 ∧ G 0 = 0)) (hk : k ≤ R.cells) (hn : n0 ≤ R.slots) (kont : xa_X l D H0 M_Law_law R Z k n0 h sz 1093 [(0, .ref a0), (1, .ref o), (2, .ref (o + 28)), (3, .ref (o + 43)), (4, .int (nI i))] []) :
    xa_X l D H0 M_Law_law R Z k n0 h sz 943 [(5, .int (nI c)), (6, .int (nI x)), (0, .ref a0), (1, .ref o), (2, .ref (o + 28)), (3, .ref (o + 43)), (4, .int (nI i))] [] := by
  obtain ⟨v, g0, -⟩ := hM.code
  refine xa_aload_n d_Law_law_943 rfl ?_
  refine xa_callVr (As := []) (st := []) d_Law_law_944 k_Law_89 g0 (c_Ref_thrown hM) rfl rfl (Nat.le_of_ble_eq_true rfl) ⟨by have := hR.1; show 0 + 1 ≤ _; omega, by have := hR.2; show 8 + (1 + 11) + 0 ≤ _; omega⟩ (by omega) (by omega) ?_
  refine xa_iload d_Law_law_947 rfl ?_
  refine xa_icmp_eqN (tgt := 954) d_Law_law_949 (by decide) (by omega) (by omega) (fun hz => ?_) (fun hz => ?_)
  ·
    refine xa_iload d_Law_law_954 rfl ?_
    refine xa_if_neN (tgt := 978) d_Law_law_956 (by decide) (by omega) (fun hz2 => ?_) (fun hz2 => ?_)
    ·
      refine xa_goto (tgt := 1093) d_Law_law_978 (by decide) ?_
      exact xa_sl kont ⟨rfl, rfl, rfl, rfl, rfl, trivial⟩
    ·
      refine xa_aload_n d_Law_law_959 rfl ?_
      refine xa_iconst (v := nI 0) d_Law_law_960 rfl ?_
      refine xa_laldE (j := 0) d_Law_law_961 hG rfl (by decide) (by decide) rfl ?_
      refine xa_iload d_Law_law_962 rfl ?_
      refine xa_if_eqN (tgt := 971) d_Law_law_964 (by decide) (by omega) (fun hx0 => ?_) (fun hx0 => ?_)
      · have hG0 : G 0 = 0 := by
          rcases hy hz2 with z | z
          · omega
          · exact z.2
        rw [hG0]
        refine xa_lconst (v := 0) d_Law_law_971 rfl ?_
        refine xa_lcmp d_Law_law_972 ?_
        refine xa_int (y := nI 0) (lg_cmp_self _) ?_
        refine xa_if_eqN (tgt := 978) d_Law_law_973 (by decide) (by omega) (fun hz3 => ?_) (fun hz3 => ?_)
        ·
          refine xa_goto (tgt := 1093) d_Law_law_978 (by decide) ?_
          exact xa_sl kont ⟨rfl, rfl, rfl, rfl, rfl, trivial⟩
        · omega
      · have hG0 : G 0 = 1 := by
          rcases hy hz2 with z | z
          · exact z.2
          · omega
        rw [hG0]
        refine xa_lconst (v := 1) d_Law_law_967 rfl ?_
        refine xa_goto (tgt := 972) d_Law_law_968 (by decide) ?_
        refine xa_lcmp d_Law_law_972 ?_
        refine xa_int (y := nI 0) (lg_cmp_self _) ?_
        refine xa_if_eqN (tgt := 978) d_Law_law_973 (by decide) (by omega) (fun hz3 => ?_) (fun hz3 => ?_)
        ·
          refine xa_goto (tgt := 1093) d_Law_law_978 (by decide) ?_
          exact xa_sl kont ⟨rfl, rfl, rfl, rfl, rfl, trivial⟩
        · omega
  · omega
theorem w_o_alive (htr : l.stackTraces = false) (hsc : xL_S0 H0 a0 L) (hi : i + 2 < L) (hR : 9 ≤ R.frames ∧ 179 ≤ R.locals) (hk : k + 2 ≤ R.cells) (hn0 : n0 + 13 ≤ R.slots) (hS : xS_S D h o (o + 44) n fs b m bd pt tb tw) (hM : xR_S D h (o + 28) n fs b m bd pt tb tw cd) (hF : h (o + 43) = some (.inl (D.1 101, 1, .inr (.inl F)))) (hZ : xZ_I n fs b m bd pt tb tw) (hm : m < 1000) (hsz : o + 44 ≤ sz) (kont : ∀ (k' n' : Nat) (h' : xa_H) (sz' : Nat), k' ≤ k + 2 → n' ≤ n0 + 13 → xL_Q D h' sz' o (m + 1) → xa_X l D H0 M_Law_law R (xa_ZY (xa_Sc H0 a0 L f) Z0) k' n' h' sz' 1093 [(0, .ref a0), (1, .ref o), (2, .ref (o + 28)), (3, .ref (o + 43)), (4, .int (nI i))] []) :
    xa_X l D H0 M_Law_law R (xa_ZY (xa_Sc H0 a0 L f) Z0) k n0 h sz 918 [(0, .ref a0), (1, .ref o), (2, .ref (o + 28)), (3, .ref (o + 43)), (4, .int (nI i))] [] := by
  have hsc0 := hsc
  obtain ⟨hsa, hsL⟩ := hsc0
  have hn := hZ.1.1
  have hN : n * n ≤ 169 := Nat.mul_le_mul hn.2 hn.2
  have hI := hZ.S hm
  have o0 := hS.1
  refine xa_aload_n d_Law_law_918 rfl ?_
  refine xa_aload_n d_Law_law_919 rfl ?_
  refine xa_iload d_Law_law_920 rfl ?_
  refine xa_iconst (v := nI 1) d_Law_law_922 rfl ?_
  refine xa_iaddN d_Law_law_923 ?_
  refine xa_ialdB (j := i + 1) hsa d_Law_law_924 (by omega) rfl hsL ?_
  refine xa_aload_n d_Law_law_925 rfl ?_
  generalize hx1 : f (i + 1) = x1
  rcases i32_pt x1 (N := n * n) (by omega) with ⟨p, hp, rfl⟩ | hxb
  · refine xa_callSW (As := [.ref o, .int (nI p), .ref (o + 43)]) (st := []) d_Law_law_926 k_Law_143 (c_Law_alive (ol := o + 43) o0 (e_alive hS hI (by omega) hp) (fun x h' sz' hq => ⟨F, (hq.2.2.1 _ (by omega) (by omega)).trans hF⟩)) rfl rfl (Nat.le_of_ble_eq_true rfl) ⟨by have := hR.1; show 8 + 1 ≤ _; omega, by have := hR.2; show 8 + (4 + 11) + 137 ≤ _; omega⟩ (by omega) (by omega) (fun v h' sz' hq => ?_)
    obtain ⟨e1, x, h1, G, hxle, ⟨hx, hS1, hF1, hsz1⟩, hG0, e2⟩ := hq
    rw [e1, e2]
    have hM1 : xR_S D (xa_u h1 (o + 43) (.inl (D.1 101, 1, .inr (.inl G)))) (o + 28) n fs b m bd pt tb tw cd := hM.frame (fun q q1 q2 => xa_u_ne (hF1 q (by omega) (by omega)) (by omega))
    obtain ⟨v1, g0, -⟩ := hM1.code
    refine xa_istore d_Law_law_929 rfl rfl ?_
    refine xa_aload_n d_Law_law_931 rfl ?_
    refine xa_aload_n d_Law_law_932 rfl ?_
    refine xa_iload d_Law_law_933 rfl ?_
    refine xa_iconst (v := nI 1) d_Law_law_935 rfl ?_
    refine xa_iaddN d_Law_law_936 ?_
    refine xa_ialdB (j := i + 1) hsa d_Law_law_937 (by omega) rfl hsL ?_
    rw [hx1]
    refine xa_callV (As := [.int (nI p)]) (st := []) d_Law_law_938 k_Law_145 g0 (c_Ref_alive hM1 hZ hp) rfl rfl (Nat.le_of_ble_eq_true rfl) ⟨by have := hR.1; show 5 + 1 ≤ _; omega, by have := hR.2; show 8 + (2 + 11) + 119 ≤ _; omega⟩ (by omega) (by omega) (fun v h2 sz2 hq => ?_)
    obtain ⟨hv, hM2, hF2, e4⟩ := hq
    rw [e4]
    have e3 : v = some (.int (nI x)) := by
      rcases hx with ⟨rfl, hx⟩ | ⟨rfl, hx⟩
      · rcases hv with ⟨e, _⟩ | ⟨_, z⟩
        · exact e
        · exact absurd hx z
      · rcases hv with ⟨_, z⟩ | ⟨e, _⟩
        · exact absurd z hx
        · exact e
    rw [e3]
    have hS2 : xS_S D h2 o (o + 44) n fs b m bd pt tb tw := hS1.frame (by omega) (fun q hq => (hF2 q (by omega)).trans (xa_u_ne rfl (by omega)))
    have hG2 : h2 (o + 43) = some (.inl (D.1 101, 1, .inr (.inl G))) := (hF2 _ (by omega)).trans (xa_u_eq _ _ _)
    refine xa_istore d_Law_law_941 rfl rfl ?_
    refine xa_ls ?_ (w_t_alive (c := 0) (x := x) hR hM2 (by omega) hG2 hxle (fun _ => hG0) (by omega) (by omega) (kont _ _ _ _ (by omega) (by omega) ⟨_, _, _, _, _, _, _, _, _, _, hS2, hM2, hG2, hZ, by omega, by omega⟩))
    exact ⟨rfl, rfl, rfl, rfl, rfl, rfl, rfl, trivial⟩
  · refine xa_callSW (As := [.ref o, .int x1, .ref (o + 43)]) (st := []) d_Law_law_926 k_Law_143 (t_Law_alive_IOOB o0 (t_SB_alive htr hS hxb)) rfl rfl (Nat.le_of_ble_eq_true rfl) ⟨by have := hR.1; show 8 + 1 ≤ _; omega, by have := hR.2; show 8 + (4 + 11) + 137 ≤ _; omega⟩ (by omega) (by omega) (fun v h' sz' hq => ?_)
    obtain ⟨e1, e2, hsz1⟩ := hq
    rw [e1, e2]
    have hM1 := hM
    have hS1 := hS
    have hG1 := hF
    obtain ⟨v1, g0, -⟩ := hM1.code
    refine xa_istore d_Law_law_929 rfl rfl ?_
    refine xa_aload_n d_Law_law_931 rfl ?_
    refine xa_aload_n d_Law_law_932 rfl ?_
    refine xa_iload d_Law_law_933 rfl ?_
    refine xa_iconst (v := nI 1) d_Law_law_935 rfl ?_
    refine xa_iaddN d_Law_law_936 ?_
    refine xa_ialdB (j := i + 1) hsa d_Law_law_937 (by omega) rfl hsL ?_
    rw [hx1]
    refine xa_callV (As := [.int x1]) (st := []) d_Law_law_938 k_Law_145 g0 (c_Ref_aliveX hM1 hxb) rfl rfl (Nat.le_of_ble_eq_true rfl) ⟨by have := hR.1; show 5 + 1 ≤ _; omega, by have := hR.2; show 8 + (2 + 11) + 119 ≤ _; omega⟩ (by omega) (by omega) (fun v h2 sz2 hq => ?_)
    obtain ⟨e3, hM2, hF2, e4⟩ := hq
    rw [e3, e4]
    have hS2 : xS_S D h2 o (o + 44) n fs b m bd pt tb tw := hS1.frame (by omega) (fun q hq => hF2 q (by omega))
    have hG2 : h2 (o + 43) = some (.inl (D.1 101, 1, .inr (.inl F))) := (hF2 _ (by omega)).trans hG1
    refine xa_istore d_Law_law_941 rfl rfl ?_
    refine xa_ls ?_ (w_t_alive (c := 1) (x := 0) hR hM2 (by omega) hG2 (by omega) (fun z => by omega) (by omega) (by omega) (kont _ _ _ _ (by omega) (by omega) ⟨_, _, _, _, _, _, _, _, _, _, hS2, hM2, hG2, hZ, by omega, by omega⟩))
    exact ⟨rfl, rfl, rfl, rfl, rfl, rfl, rfl, trivial⟩
theorem w_t_pass {c : Nat} {x : Nat} {G : Nat → Int64} (hR : 9 ≤ R.frames ∧ 179 ≤ R.locals) (hM : xR_S D h (o + 28) n fs b m bd pt tb tw c) (hc : c ≤ 3) (hG : h (o + 43) = some (.inl (D.1 101, 1, .inr (.inl G)))) (hx1 : x ≤ 1) (hy : c = 0 → (x = 1 ∧ G 0 = 1) ∨ (x = 0 ∧ G 0 = 0)) (hk : k ≤ R.cells) (hn : n0 ≤ R.slots) (kont : xa_X l D H0 M_Law_law R Z k n0 h sz 1093 [(0, .ref a0), (1, .ref o), (2, .ref (o + 28)), (3, .ref (o + 43)), (4, .int (nI i))] []) :
    xa_X l D H0 M_Law_law R Z k n0 h sz 475 [(5, .int (nI c)), (6, .int (nI x)), (0, .ref a0), (1, .ref o), (2, .ref (o + 28)), (3, .ref (o + 43)), (4, .int (nI i))] [] := by
  obtain ⟨v, g0, -⟩ := hM.code
  refine xa_aload_n d_Law_law_475 rfl ?_
  refine xa_callVr (As := []) (st := []) d_Law_law_476 k_Law_89 g0 (c_Ref_thrown hM) rfl rfl (Nat.le_of_ble_eq_true rfl) ⟨by have := hR.1; show 0 + 1 ≤ _; omega, by have := hR.2; show 8 + (1 + 11) + 0 ≤ _; omega⟩ (by omega) (by omega) ?_
  refine xa_iload d_Law_law_479 rfl ?_
  refine xa_icmp_eqN (tgt := 486) d_Law_law_481 (by decide) (by omega) (by omega) (fun hz => ?_) (fun hz => ?_)
  ·
    refine xa_iload d_Law_law_486 rfl ?_
    refine xa_if_neN (tgt := 510) d_Law_law_488 (by decide) (by omega) (fun hz2 => ?_) (fun hz2 => ?_)
    ·
      refine xa_goto (tgt := 1093) d_Law_law_510 (by decide) ?_
      exact xa_sl kont ⟨rfl, rfl, rfl, rfl, rfl, trivial⟩
    ·
      refine xa_aload_n d_Law_law_491 rfl ?_
      refine xa_iconst (v := nI 0) d_Law_law_492 rfl ?_
      refine xa_laldE (j := 0) d_Law_law_493 hG rfl (by decide) (by decide) rfl ?_
      refine xa_iload d_Law_law_494 rfl ?_
      refine xa_if_eqN (tgt := 503) d_Law_law_496 (by decide) (by omega) (fun hx0 => ?_) (fun hx0 => ?_)
      · have hG0 : G 0 = 0 := by
          rcases hy hz2 with z | z
          · omega
          · exact z.2
        rw [hG0]
        refine xa_lconst (v := 0) d_Law_law_503 rfl ?_
        refine xa_lcmp d_Law_law_504 ?_
        refine xa_int (y := nI 0) (lg_cmp_self _) ?_
        refine xa_if_eqN (tgt := 510) d_Law_law_505 (by decide) (by omega) (fun hz3 => ?_) (fun hz3 => ?_)
        ·
          refine xa_goto (tgt := 1093) d_Law_law_510 (by decide) ?_
          exact xa_sl kont ⟨rfl, rfl, rfl, rfl, rfl, trivial⟩
        · omega
      · have hG0 : G 0 = 1 := by
          rcases hy hz2 with z | z
          · exact z.2
          · omega
        rw [hG0]
        refine xa_lconst (v := 1) d_Law_law_499 rfl ?_
        refine xa_goto (tgt := 504) d_Law_law_500 (by decide) ?_
        refine xa_lcmp d_Law_law_504 ?_
        refine xa_int (y := nI 0) (lg_cmp_self _) ?_
        refine xa_if_eqN (tgt := 510) d_Law_law_505 (by decide) (by omega) (fun hz3 => ?_) (fun hz3 => ?_)
        ·
          refine xa_goto (tgt := 1093) d_Law_law_510 (by decide) ?_
          exact xa_sl kont ⟨rfl, rfl, rfl, rfl, rfl, trivial⟩
        · omega
  · omega
theorem w_o_pass (htr : l.stackTraces = false) (hsc : xL_S0 H0 a0 L) (hi : i + 2 < L) (hR : 9 ≤ R.frames ∧ 179 ≤ R.locals) (hk : k + 2 ≤ R.cells) (hn0 : n0 + 13 ≤ R.slots) (hS : xS_S D h o (o + 44) n fs b m bd pt tb tw) (hM : xR_S D h (o + 28) n fs b m bd pt tb tw cd) (hF : h (o + 43) = some (.inl (D.1 101, 1, .inr (.inl F)))) (hZ : xZ_I n fs b m bd pt tb tw) (hm : m < 1000) (hsz : o + 44 ≤ sz) (kont : ∀ (k' n' : Nat) (h' : xa_H) (sz' : Nat), k' ≤ k + 2 → n' ≤ n0 + 13 → xL_Q D h' sz' o (m + 1) → xa_X l D H0 M_Law_law R (xa_ZY (xa_Sc H0 a0 L f) Z0) k' n' h' sz' 1093 [(0, .ref a0), (1, .ref o), (2, .ref (o + 28)), (3, .ref (o + 43)), (4, .int (nI i))] []) :
    xa_X l D H0 M_Law_law R (xa_ZY (xa_Sc H0 a0 L f) Z0) k n0 h sz 462 [(0, .ref a0), (1, .ref o), (2, .ref (o + 28)), (3, .ref (o + 43)), (4, .int (nI i))] [] := by
  have hsc0 := hsc
  obtain ⟨hsa, hsL⟩ := hsc0
  have hn := hZ.1.1
  have hN : n * n ≤ 169 := Nat.mul_le_mul hn.2 hn.2
  have hI := hZ.S hm
  have o0 := hS.1
  refine xa_aload_n d_Law_law_462 rfl ?_
  refine xa_aload_n d_Law_law_463 rfl ?_
  by_cases hend : gx_end pt m
  · refine xa_callSW (As := [.ref o, .ref (o + 43)]) (st := []) d_Law_law_464 k_Law_114 (t_Law_pass_ISE o0 (t_SB_pass htr hS hI hend)) rfl rfl (Nat.le_of_ble_eq_true rfl) ⟨by have := hR.1; show 8 + 1 ≤ _; omega, by have := hR.2; show 8 + (3 + 11) + 129 ≤ _; omega⟩ (by omega) (by omega) (fun v h' sz' hq => ?_)
    obtain ⟨e1, e2, hsz1⟩ := hq
    rw [e1, e2]
    have hM1 := hM
    have hS1 := hS
    have hG1 := hF
    obtain ⟨v1, g0, -⟩ := hM1.code
    refine xa_istore d_Law_law_467 rfl rfl ?_
    refine xa_aload_n d_Law_law_469 rfl ?_
    refine xa_callV (As := []) (st := []) d_Law_law_470 k_Law_117 g0 (c_Ref_passX hM1 hZ hend) rfl rfl (Nat.le_of_ble_eq_true rfl) ⟨by have := hR.1; show 1 + 1 ≤ _; omega, by have := hR.2; show 8 + (1 + 11) + 22 ≤ _; omega⟩ (by omega) (by omega) (fun v h2 sz2 hq => ?_)
    obtain ⟨e3, hM2, hF2, e4⟩ := hq
    rw [e3, e4]
    have hS2 : xS_S D h2 o (o + 44) n fs b m bd pt tb tw := hS1.frame (by omega) (fun q hq => hF2 q (by omega))
    have hG2 : h2 (o + 43) = some (.inl (D.1 101, 1, .inr (.inl F))) := (hF2 _ (by omega)).trans hG1
    refine xa_istore d_Law_law_473 rfl rfl ?_
    refine xa_ls ?_ (w_t_pass (c := 1) (x := 0) hR hM2 (by omega) hG2 (by omega) (fun z => by omega) (by omega) (by omega) (kont _ _ _ _ (by omega) (by omega) ⟨_, _, _, _, _, _, _, _, _, _, hS2, hM2, hG2, hZ, by omega, by omega⟩))
    exact ⟨rfl, rfl, rfl, rfl, rfl, rfl, rfl, trivial⟩
  · refine xa_callSW (As := [.ref o, .ref (o + 43)]) (st := []) d_Law_law_464 k_Law_114 (c_Law_pass (ol := o + 43) o0 (e_pass hS hI ⟨by omega, hsz⟩ hend) (fun x h' sz' hq => ⟨F, (hq.2.2.1 _ (by omega) (by omega)).trans hF⟩)) rfl rfl (Nat.le_of_ble_eq_true rfl) ⟨by have := hR.1; show 8 + 1 ≤ _; omega, by have := hR.2; show 8 + (3 + 11) + 129 ≤ _; omega⟩ (by omega) (by omega) (fun v h' sz' hq => ?_)
    obtain ⟨e1, x, h1, G, hxle, ⟨hx, hS1, hF1, hsz1⟩, hG0, e2⟩ := hq
    rw [e1, e2]
    have hM1 : xR_S D (xa_u h1 (o + 43) (.inl (D.1 101, 1, .inr (.inl G)))) (o + 28) n fs b m bd pt tb tw cd := hM.frame (fun q q1 q2 => xa_u_ne (hF1 q (by omega) (by omega)) (by omega))
    obtain ⟨v1, g0, -⟩ := hM1.code
    refine xa_istore d_Law_law_467 rfl rfl ?_
    refine xa_aload_n d_Law_law_469 rfl ?_
    refine xa_callV (As := []) (st := []) d_Law_law_470 k_Law_117 g0 (c_Ref_pass hM1 hZ hm hend) rfl rfl (Nat.le_of_ble_eq_true rfl) ⟨by have := hR.1; show 1 + 1 ≤ _; omega, by have := hR.2; show 8 + (1 + 11) + 22 ≤ _; omega⟩ (by omega) (by omega) (fun v h2 sz2 hq => ?_)
    obtain ⟨hv, hM2, hF2, e4⟩ := hq
    rw [e4]
    have e3 : v = some (.int (nI x)) := by
      rcases hx with ⟨rfl, hx⟩ | ⟨rfl, hx⟩
      · rcases hv with ⟨e, _⟩ | ⟨_, z⟩
        · exact e
        · exact absurd hx z
      · rcases hv with ⟨_, z⟩ | ⟨e, _⟩
        · exact absurd z hx
        · exact e
    rw [e3]
    have hS2 : xS_S D h2 o (o + 44) n fs b (m + 1) (xh_up bd (m + 1) (bd m)) (xh_up pt (m + 1) (-1)) (xh_up tb (m + 1) (tb m)) (xh_up tw (m + 1) (tw m)) := hS1.frame (by omega) (fun q hq => (hF2 q (by omega)).trans (xa_u_ne rfl (by omega)))
    have hG2 : h2 (o + 43) = some (.inl (D.1 101, 1, .inr (.inl G))) := (hF2 _ (by omega)).trans (xa_u_eq _ _ _)
    refine xa_istore d_Law_law_473 rfl rfl ?_
    refine xa_ls ?_ (w_t_pass (c := 0) (x := x) hR hM2 (by omega) hG2 hxle (fun _ => hG0) (by omega) (by omega) (kont _ _ _ _ (by omega) (by omega) ⟨_, _, _, _, _, _, _, _, _, _, hS2, hM2, hG2, hZ.pass hm, Nat.le_refl _, by omega⟩))
    exact ⟨rfl, rfl, rfl, rfl, rfl, rfl, rfl, trivial⟩
theorem w_t_back {c : Nat} {y : Int32} {G : Nat → Int64} (hR : 9 ≤ R.frames ∧ 179 ≤ R.locals) (hM : xR_S D h (o + 28) n fs b m bd pt tb tw c) (hc : c ≤ 3) (hG : h (o + 43) = some (.inl (D.1 101, 1, .inr (.inl G)))) (hy : c = 0 → G 0 = y.toInt64) (hk : k ≤ R.cells) (hn : n0 ≤ R.slots) (kont : xa_X l D H0 M_Law_law R Z k n0 h sz 1093 [(0, .ref a0), (1, .ref o), (2, .ref (o + 28)), (3, .ref (o + 43)), (4, .int (nI i))] []) :
    xa_X l D H0 M_Law_law R Z k n0 h sz 526 [(5, .int (nI c)), (6, .int y), (0, .ref a0), (1, .ref o), (2, .ref (o + 28)), (3, .ref (o + 43)), (4, .int (nI i))] [] := by
  obtain ⟨v, g0, -⟩ := hM.code
  refine xa_aload_n d_Law_law_526 rfl ?_
  refine xa_callVr (As := []) (st := []) d_Law_law_527 k_Law_89 g0 (c_Ref_thrown hM) rfl rfl (Nat.le_of_ble_eq_true rfl) ⟨by have := hR.1; show 0 + 1 ≤ _; omega, by have := hR.2; show 8 + (1 + 11) + 0 ≤ _; omega⟩ (by omega) (by omega) ?_
  refine xa_iload d_Law_law_530 rfl ?_
  refine xa_icmp_eqN (tgt := 537) d_Law_law_532 (by decide) (by omega) (by omega) (fun hz => ?_) (fun hz => ?_)
  ·
    refine xa_iload d_Law_law_537 rfl ?_
    refine xa_if_neN (tgt := 554) d_Law_law_539 (by decide) (by omega) (fun hz2 => ?_) (fun hz2 => ?_)
    ·
      refine xa_goto (tgt := 1093) d_Law_law_554 (by decide) ?_
      exact xa_sl kont ⟨rfl, rfl, rfl, rfl, rfl, trivial⟩
    ·
      refine xa_aload_n d_Law_law_542 rfl ?_
      refine xa_iconst (v := nI 0) d_Law_law_543 rfl ?_
      refine xa_laldE (j := 0) d_Law_law_544 hG rfl (by decide) (by decide) (hy hz2) ?_
      refine xa_iload d_Law_law_545 rfl ?_
      refine xa_i2l d_Law_law_547 rfl ?_
      refine xa_lcmp d_Law_law_548 ?_
      refine xa_int (y := nI 0) (lg_cmp_self _) ?_
      refine xa_if_eqN (tgt := 554) d_Law_law_549 (by decide) (by omega) (fun hz3 => ?_) (fun hz3 => ?_)
      ·
        refine xa_goto (tgt := 1093) d_Law_law_554 (by decide) ?_
        exact xa_sl kont ⟨rfl, rfl, rfl, rfl, rfl, trivial⟩
      · omega
  · omega
theorem w_o_back (htr : l.stackTraces = false) (hsc : xL_S0 H0 a0 L) (hi : i + 2 < L) (hR : 9 ≤ R.frames ∧ 179 ≤ R.locals) (hk : k + 2 ≤ R.cells) (hn0 : n0 + 13 ≤ R.slots) (hS : xS_S D h o (o + 44) n fs b m bd pt tb tw) (hM : xR_S D h (o + 28) n fs b m bd pt tb tw cd) (hF : h (o + 43) = some (.inl (D.1 101, 1, .inr (.inl F)))) (hZ : xZ_I n fs b m bd pt tb tw) (hm : m < 1000) (hsz : o + 44 ≤ sz) (kont : ∀ (k' n' : Nat) (h' : xa_H) (sz' : Nat), k' ≤ k + 2 → n' ≤ n0 + 13 → xL_Q D h' sz' o (m + 1) → xa_X l D H0 M_Law_law R (xa_ZY (xa_Sc H0 a0 L f) Z0) k' n' h' sz' 1093 [(0, .ref a0), (1, .ref o), (2, .ref (o + 28)), (3, .ref (o + 43)), (4, .int (nI i))] []) :
    xa_X l D H0 M_Law_law R (xa_ZY (xa_Sc H0 a0 L f) Z0) k n0 h sz 513 [(0, .ref a0), (1, .ref o), (2, .ref (o + 28)), (3, .ref (o + 43)), (4, .int (nI i))] [] := by
  have hsc0 := hsc
  obtain ⟨hsa, hsL⟩ := hsc0
  have hn := hZ.1.1
  have hN : n * n ≤ 169 := Nat.mul_le_mul hn.2 hn.2
  have hI := hZ.S hm
  have o0 := hS.1
  refine xa_aload_n d_Law_law_513 rfl ?_
  refine xa_aload_n d_Law_law_514 rfl ?_
  cases m with
  | zero =>
    refine xa_callSW (As := [.ref o, .ref (o + 43)]) (st := []) d_Law_law_515 k_Law_118 (t_Law_back_ISE o0 (t_SB_back htr hS)) rfl rfl (Nat.le_of_ble_eq_true rfl) ⟨by have := hR.1; show 7 + 1 ≤ _; omega, by have := hR.2; show 8 + (3 + 11) + 133 ≤ _; omega⟩ (by omega) (by omega) (fun v h' sz' hq => ?_)
    obtain ⟨e1, e2, hsz1⟩ := hq
    rw [e1, e2]
    have hM1 := hM
    have hS1 := hS
    have hG1 := hF
    obtain ⟨v1, g0, -⟩ := hM1.code
    refine xa_istore d_Law_law_518 rfl rfl ?_
    refine xa_aload_n d_Law_law_520 rfl ?_
    refine xa_callV (As := []) (st := []) d_Law_law_521 k_Law_120 g0 (c_Ref_backX hM1) rfl rfl (Nat.le_of_ble_eq_true rfl) ⟨by have := hR.1; show 0 + 1 ≤ _; omega, by have := hR.2; show 8 + (2 + 11) + 0 ≤ _; omega⟩ (by omega) (by omega) (fun v h2 sz2 hq => ?_)
    obtain ⟨e3, hM2, hF2, e4⟩ := hq
    rw [e3, e4]
    have hS2 : xS_S D h2 o (o + 44) n fs b 0 bd pt tb tw := hS1.frame (by omega) (fun q hq => hF2 q (by omega))
    have hG2 : h2 (o + 43) = some (.inl (D.1 101, 1, .inr (.inl F))) := (hF2 _ (by omega)).trans hG1
    refine xa_istore d_Law_law_524 rfl rfl ?_
    refine xa_ls ?_ (w_t_back (c := 1) (y := nI 0) hR hM2 (by omega) hG2 (fun z => by omega) (by omega) (by omega) (kont _ _ _ _ (by omega) (by omega) ⟨_, _, _, _, _, _, _, _, _, _, hS2, hM2, hG2, hZ, by omega, by omega⟩))
    exact ⟨rfl, rfl, rfl, rfl, rfl, rfl, rfl, trivial⟩
  | succ m =>
    refine xa_callSW (As := [.ref o, .ref (o + 43)]) (st := []) d_Law_law_515 k_Law_118 (c_Law_back (ol := o + 43) o0 (e_back hS hI ⟨by omega, hsz⟩) (fun x h' sz' hq => ⟨F, (hq.2.2.1 _ (by omega) (by omega)).trans hF⟩)) rfl rfl (Nat.le_of_ble_eq_true rfl) ⟨by have := hR.1; show 7 + 1 ≤ _; omega, by have := hR.2; show 8 + (3 + 11) + 133 ≤ _; omega⟩ (by omega) (by omega) (fun v h' sz' hq => ?_)
    obtain ⟨e1, x, h1, G, ⟨hx, hS1, hF1, hsz1⟩, hG0, e2⟩ := hq
    rw [e1, e2]
    have hM1 : xR_S D (xa_u h1 (o + 43) (.inl (D.1 101, 1, .inr (.inl G)))) (o + 28) n fs b (m + 1) bd pt tb tw cd := hM.frame (fun q q1 q2 => xa_u_ne (hF1 q (by omega) (by omega)) (by omega))
    obtain ⟨v1, g0, -⟩ := hM1.code
    refine xa_istore d_Law_law_518 rfl rfl ?_
    refine xa_aload_n d_Law_law_520 rfl ?_
    refine xa_callV (As := []) (st := []) d_Law_law_521 k_Law_120 g0 (c_Ref_back hM1 hn (by omega)) rfl rfl (Nat.le_of_ble_eq_true rfl) ⟨by have := hR.1; show 0 + 1 ≤ _; omega, by have := hR.2; show 8 + (2 + 11) + 0 ≤ _; omega⟩ (by omega) (by omega) (fun v h2 sz2 hq => ?_)
    obtain ⟨e3, hM2, hF2, e4⟩ := hq
    rw [e3, e4]
    have hS2 : xS_S D h2 o (o + 44) n fs (bd m) m bd pt tb tw := hS1.frame (by omega) (fun q hq => (hF2 q (by omega)).trans (xa_u_ne rfl (by omega)))
    have hG2 : h2 (o + 43) = some (.inl (D.1 101, 1, .inr (.inl G))) := (hF2 _ (by omega)).trans (xa_u_eq _ _ _)
    refine xa_istore d_Law_law_524 rfl rfl ?_
    refine xa_ls ?_ (w_t_back (c := 0) (y := nI m) hR hM2 (by omega) hG2 (fun _ => by rw [hG0, hx]) (by omega) (by omega) (kont _ _ _ _ (by omega) (by omega) ⟨_, _, _, _, _, _, _, _, _, _, hS2, hM2, hG2, hZ.back, by omega, by omega⟩))
    exact ⟨rfl, rfl, rfl, rfl, rfl, rfl, rfl, trivial⟩
theorem w_t_put {c : Nat} {x : Nat} {G : Nat → Int64} (hR : 9 ≤ R.frames ∧ 179 ≤ R.locals) (hM : xR_S D h (o + 28) n fs b m bd pt tb tw c) (hc : c ≤ 3) (hG : h (o + 43) = some (.inl (D.1 101, 1, .inr (.inl G)))) (hx1 : x ≤ 1) (hy : c = 0 → (x = 1 ∧ G 0 = 1) ∨ (x = 0 ∧ G 0 = 0)) (hk : k ≤ R.cells) (hn : n0 ≤ R.slots) (kont : xa_X l D H0 M_Law_law R Z k n0 h sz 1093 [(0, .ref a0), (1, .ref o), (2, .ref (o + 28)), (3, .ref (o + 43)), (4, .int (nI i))] []) :
    xa_X l D H0 M_Law_law R Z k n0 h sz 250 [(5, .int (nI c)), (6, .int (nI x)), (0, .ref a0), (1, .ref o), (2, .ref (o + 28)), (3, .ref (o + 43)), (4, .int (nI i))] [] := by
  obtain ⟨v, g0, -⟩ := hM.code
  refine xa_aload_n d_Law_law_250 rfl ?_
  refine xa_callVr (As := []) (st := []) d_Law_law_251 k_Law_89 g0 (c_Ref_thrown hM) rfl rfl (Nat.le_of_ble_eq_true rfl) ⟨by have := hR.1; show 0 + 1 ≤ _; omega, by have := hR.2; show 8 + (1 + 11) + 0 ≤ _; omega⟩ (by omega) (by omega) ?_
  refine xa_iload d_Law_law_254 rfl ?_
  refine xa_icmp_eqN (tgt := 261) d_Law_law_256 (by decide) (by omega) (by omega) (fun hz => ?_) (fun hz => ?_)
  ·
    refine xa_iload d_Law_law_261 rfl ?_
    refine xa_if_neN (tgt := 285) d_Law_law_263 (by decide) (by omega) (fun hz2 => ?_) (fun hz2 => ?_)
    ·
      refine xa_goto (tgt := 1093) d_Law_law_285 (by decide) ?_
      exact xa_sl kont ⟨rfl, rfl, rfl, rfl, rfl, trivial⟩
    ·
      refine xa_aload_n d_Law_law_266 rfl ?_
      refine xa_iconst (v := nI 0) d_Law_law_267 rfl ?_
      refine xa_laldE (j := 0) d_Law_law_268 hG rfl (by decide) (by decide) rfl ?_
      refine xa_iload d_Law_law_269 rfl ?_
      refine xa_if_eqN (tgt := 278) d_Law_law_271 (by decide) (by omega) (fun hx0 => ?_) (fun hx0 => ?_)
      · have hG0 : G 0 = 0 := by
          rcases hy hz2 with z | z
          · omega
          · exact z.2
        rw [hG0]
        refine xa_lconst (v := 0) d_Law_law_278 rfl ?_
        refine xa_lcmp d_Law_law_279 ?_
        refine xa_int (y := nI 0) (lg_cmp_self _) ?_
        refine xa_if_eqN (tgt := 285) d_Law_law_280 (by decide) (by omega) (fun hz3 => ?_) (fun hz3 => ?_)
        ·
          refine xa_goto (tgt := 1093) d_Law_law_285 (by decide) ?_
          exact xa_sl kont ⟨rfl, rfl, rfl, rfl, rfl, trivial⟩
        · omega
      · have hG0 : G 0 = 1 := by
          rcases hy hz2 with z | z
          · exact z.2
          · omega
        rw [hG0]
        refine xa_lconst (v := 1) d_Law_law_274 rfl ?_
        refine xa_goto (tgt := 279) d_Law_law_275 (by decide) ?_
        refine xa_lcmp d_Law_law_279 ?_
        refine xa_int (y := nI 0) (lg_cmp_self _) ?_
        refine xa_if_eqN (tgt := 285) d_Law_law_280 (by decide) (by omega) (fun hz3 => ?_) (fun hz3 => ?_)
        ·
          refine xa_goto (tgt := 1093) d_Law_law_285 (by decide) ?_
          exact xa_sl kont ⟨rfl, rfl, rfl, rfl, rfl, trivial⟩
        · omega
  · omega
theorem w_o_put (htr : l.stackTraces = false) (hsc : xL_S0 H0 a0 L) (hi : i + 2 < L) (hR : 9 ≤ R.frames ∧ 179 ≤ R.locals) (hk : k + 2 ≤ R.cells) (hn0 : n0 + 13 ≤ R.slots) (hS : xS_S D h o (o + 44) n fs b m bd pt tb tw) (hM : xR_S D h (o + 28) n fs b m bd pt tb tw cd) (hF : h (o + 43) = some (.inl (D.1 101, 1, .inr (.inl F)))) (hZ : xZ_I n fs b m bd pt tb tw) (hm : m < 1000) (hsz : o + 44 ≤ sz) (kont : ∀ (k' n' : Nat) (h' : xa_H) (sz' : Nat), k' ≤ k + 2 → n' ≤ n0 + 13 → xL_Q D h' sz' o (m + 1) → xa_X l D H0 M_Law_law R (xa_ZY (xa_Sc H0 a0 L f) Z0) k' n' h' sz' 1093 [(0, .ref a0), (1, .ref o), (2, .ref (o + 28)), (3, .ref (o + 43)), (4, .int (nI i))] []) :
    xa_X l D H0 M_Law_law R (xa_ZY (xa_Sc H0 a0 L f) Z0) k n0 h sz 213 [(0, .ref a0), (1, .ref o), (2, .ref (o + 28)), (3, .ref (o + 43)), (4, .int (nI i))] [] := by
  have hsc0 := hsc
  obtain ⟨hsa, hsL⟩ := hsc0
  have hn := hZ.1.1
  have hN : n * n ≤ 169 := Nat.mul_le_mul hn.2 hn.2
  have hI := hZ.S hm
  have o0 := hS.1
  refine xa_aload_n d_Law_law_213 rfl ?_
  refine xa_aload_n d_Law_law_214 rfl ?_
  refine xa_iload d_Law_law_215 rfl ?_
  refine xa_iconst (v := nI 1) d_Law_law_217 rfl ?_
  refine xa_iaddN d_Law_law_218 ?_
  refine xa_ialdB (j := i + 1) hsa d_Law_law_219 (by omega) rfl hsL ?_
  refine xa_aload_n d_Law_law_220 rfl ?_
  refine xa_iload d_Law_law_221 rfl ?_
  refine xa_iconst (v := nI 2) d_Law_law_223 rfl ?_
  refine xa_iaddN d_Law_law_224 ?_
  refine xa_ialdB (j := i + 2) hsa d_Law_law_225 (by omega) rfl hsL ?_
  refine xa_aload_n d_Law_law_226 rfl ?_
  generalize hx1 : f (i + 1) = x1
  generalize hx2 : f (i + 2) = x2
  rcases i32_pt x1 (N := n * n) (by omega) with ⟨p, hp, rfl⟩ | hxb
  · rcases i32_rg x2 (a := 0) (N := 2) (by omega) (by omega) with ⟨w, hw1, hw2, rfl⟩ | hyb
    · by_cases hm0 : m = 0
      · subst hm0
        refine xa_callSW (As := [.ref o, .int (nI p), .int (nI w), .ref (o + 43)]) (st := []) d_Law_law_227 k_Law_92 (c_Law_put (ol := o + 43) o0 (e_put hS hI ⟨by omega, hsz⟩ hp hw2) (fun x h' sz' hq => ⟨F, (hq.2.1 _ (by omega) (by omega)).trans hF⟩)) rfl rfl (Nat.le_of_ble_eq_true rfl) ⟨by have := hR.1; show 8 + 1 ≤ _; omega, by have := hR.2; show 8 + (5 + 11) + 133 ≤ _; omega⟩ (by omega) (by omega) (fun v h' sz' hq => ?_)
        obtain ⟨e1, x, h1, G, hxle, ⟨hx, hF1, hsz1⟩, hG0, e2⟩ := hq
        rw [e1, e2]
        have hM1 : xR_S D (xa_u h1 (o + 43) (.inl (D.1 101, 1, .inr (.inl G)))) (o + 28) n fs b 0 bd pt tb tw cd := hM.frame (fun q q1 q2 => xa_u_ne (hF1 q (by omega) (by omega)) (by omega))
        obtain ⟨v1, g0, -⟩ := hM1.code
        refine xa_istore d_Law_law_230 rfl rfl ?_
        refine xa_aload_n d_Law_law_232 rfl ?_
        refine xa_aload_n d_Law_law_233 rfl ?_
        refine xa_iload d_Law_law_234 rfl ?_
        refine xa_iconst (v := nI 1) d_Law_law_236 rfl ?_
        refine xa_iaddN d_Law_law_237 ?_
        refine xa_ialdB (j := i + 1) hsa d_Law_law_238 (by omega) rfl hsL ?_
        rw [hx1]
        refine xa_aload_n d_Law_law_239 rfl ?_
        refine xa_iload d_Law_law_240 rfl ?_
        refine xa_iconst (v := nI 2) d_Law_law_242 rfl ?_
        refine xa_iaddN d_Law_law_243 ?_
        refine xa_ialdB (j := i + 2) hsa d_Law_law_244 (by omega) rfl hsL ?_
        rw [hx2]
        refine xa_callV (As := [.int (nI p), .int (nI w)]) (st := []) d_Law_law_245 k_Law_95 g0 (c_Ref_put hM1 hZ hp hw2) rfl rfl (Nat.le_of_ble_eq_true rfl) ⟨by have := hR.1; show 4 + 1 ≤ _; omega, by have := hR.2; show 8 + (5 + 11) + 95 ≤ _; omega⟩ (by omega) (by omega) (fun v h2 sz2 hq => ?_)
        obtain ⟨hv, hF2, e4⟩ := hq
        rw [e4]
        rcases hx with ⟨rfl, hbr, hS1⟩ | ⟨rfl, hbr, hS1⟩
        · obtain ⟨e3, -, hM2⟩ := hv.resolve_right (fun z => z.2.1 hbr)
          rw [e3]
          refine xa_int (y := nI 1) rfl ?_
          have hS2 : xS_S D h2 o (o + 44) n fs (fun q => if q = p then w else b q) 0 (xh_up bd 0 (fun x => if x = p then w else bd 0 x)) (xh_up pt 0 (-2)) (xh_up tb 0 0) (xh_up tw 0 0) := hS1.frame (by omega) (fun q hq => (hF2 q (by omega)).trans (xa_u_ne rfl (by omega)))
          have hG2 : h2 (o + 43) = some (.inl (D.1 101, 1, .inr (.inl G))) := (hF2 _ (by omega)).trans (xa_u_eq _ _ _)
          refine xa_istore d_Law_law_248 rfl rfl ?_
          refine xa_ls ?_ (w_t_put (c := 0) (x := 1) hR hM2 (by omega) hG2 (by omega) (fun _ => hG0) (by omega) (by omega) (kont _ _ _ _ (by omega) (by omega) ⟨_, _, _, _, _, _, _, _, _, _, hS2, hM2, hG2, hZ.put hp hw2 hbr, by omega, by omega⟩))
          exact ⟨rfl, rfl, rfl, rfl, rfl, rfl, rfl, trivial⟩
        · obtain ⟨e3, -, hM2⟩ := hv.resolve_left (fun z => hbr z.2.1)
          rw [e3]
          refine xa_int (y := nI 0) rfl ?_
          have hS2 : xS_S D h2 o (o + 44) n fs b 0 bd pt tb tw := hS1.frame (by omega) (fun q hq => (hF2 q (by omega)).trans (xa_u_ne rfl (by omega)))
          have hG2 : h2 (o + 43) = some (.inl (D.1 101, 1, .inr (.inl G))) := (hF2 _ (by omega)).trans (xa_u_eq _ _ _)
          refine xa_istore d_Law_law_248 rfl rfl ?_
          refine xa_ls ?_ (w_t_put (c := 0) (x := 0) hR hM2 (by omega) hG2 (by omega) (fun _ => hG0) (by omega) (by omega) (kont _ _ _ _ (by omega) (by omega) ⟨_, _, _, _, _, _, _, _, _, _, hS2, hM2, hG2, hZ, by omega, by omega⟩))
          exact ⟨rfl, rfl, rfl, rfl, rfl, rfl, rfl, trivial⟩
      · refine xa_callSW (As := [.ref o, .int (nI p), .int (nI w), .ref (o + 43)]) (st := []) d_Law_law_227 k_Law_92 (t_Law_put_ISE o0 (t_SB_put3 htr hS hI hp hw2 hm0)) rfl rfl (Nat.le_of_ble_eq_true rfl) ⟨by have := hR.1; show 8 + 1 ≤ _; omega, by have := hR.2; show 8 + (5 + 11) + 133 ≤ _; omega⟩ (by omega) (by omega) (fun v h' sz' hq => ?_)
        obtain ⟨e1, e2, hsz1⟩ := hq
        rw [e1, e2]
        have hM1 := hM
        have hS1 := hS
        have hG1 := hF
        obtain ⟨v1, g0, -⟩ := hM1.code
        refine xa_istore d_Law_law_230 rfl rfl ?_
        refine xa_aload_n d_Law_law_232 rfl ?_
        refine xa_aload_n d_Law_law_233 rfl ?_
        refine xa_iload d_Law_law_234 rfl ?_
        refine xa_iconst (v := nI 1) d_Law_law_236 rfl ?_
        refine xa_iaddN d_Law_law_237 ?_
        refine xa_ialdB (j := i + 1) hsa d_Law_law_238 (by omega) rfl hsL ?_
        rw [hx1]
        refine xa_aload_n d_Law_law_239 rfl ?_
        refine xa_iload d_Law_law_240 rfl ?_
        refine xa_iconst (v := nI 2) d_Law_law_242 rfl ?_
        refine xa_iaddN d_Law_law_243 ?_
        refine xa_ialdB (j := i + 2) hsa d_Law_law_244 (by omega) rfl hsL ?_
        rw [hx2]
        refine xa_callV (As := [.int (nI p), .int (nI w)]) (st := []) d_Law_law_245 k_Law_95 g0 (c_Ref_putW hM1 hZ hp hw2 hm0) rfl rfl (Nat.le_of_ble_eq_true rfl) ⟨by have := hR.1; show 4 + 1 ≤ _; omega, by have := hR.2; show 8 + (5 + 11) + 95 ≤ _; omega⟩ (by omega) (by omega) (fun v h2 sz2 hq => ?_)
        obtain ⟨e3, hM2, hF2, e4⟩ := hq
        rw [e3, e4]
        have hS2 : xS_S D h2 o (o + 44) n fs b m bd pt tb tw := hS1.frame (by omega) (fun q hq => hF2 q (by omega))
        have hG2 : h2 (o + 43) = some (.inl (D.1 101, 1, .inr (.inl F))) := (hF2 _ (by omega)).trans hG1
        refine xa_istore d_Law_law_248 rfl rfl ?_
        refine xa_ls ?_ (w_t_put (c := 3) (x := 0) hR hM2 (by omega) hG2 (by omega) (fun z => by omega) (by omega) (by omega) (kont _ _ _ _ (by omega) (by omega) ⟨_, _, _, _, _, _, _, _, _, _, hS2, hM2, hG2, hZ, by omega, by omega⟩))
        exact ⟨rfl, rfl, rfl, rfl, rfl, rfl, rfl, trivial⟩
    · refine xa_callSW (As := [.ref o, .int (nI p), .int x2, .ref (o + 43)]) (st := []) d_Law_law_227 k_Law_92 (t_Law_put_IAE o0 (t_SB_put2 htr hS hI hp hyb)) rfl rfl (Nat.le_of_ble_eq_true rfl) ⟨by have := hR.1; show 8 + 1 ≤ _; omega, by have := hR.2; show 8 + (5 + 11) + 133 ≤ _; omega⟩ (by omega) (by omega) (fun v h' sz' hq => ?_)
      obtain ⟨e1, e2, hsz1⟩ := hq
      rw [e1, e2]
      have hM1 := hM
      have hS1 := hS
      have hG1 := hF
      obtain ⟨v1, g0, -⟩ := hM1.code
      refine xa_istore d_Law_law_230 rfl rfl ?_
      refine xa_aload_n d_Law_law_232 rfl ?_
      refine xa_aload_n d_Law_law_233 rfl ?_
      refine xa_iload d_Law_law_234 rfl ?_
      refine xa_iconst (v := nI 1) d_Law_law_236 rfl ?_
      refine xa_iaddN d_Law_law_237 ?_
      refine xa_ialdB (j := i + 1) hsa d_Law_law_238 (by omega) rfl hsL ?_
      rw [hx1]
      refine xa_aload_n d_Law_law_239 rfl ?_
      refine xa_iload d_Law_law_240 rfl ?_
      refine xa_iconst (v := nI 2) d_Law_law_242 rfl ?_
      refine xa_iaddN d_Law_law_243 ?_
      refine xa_ialdB (j := i + 2) hsa d_Law_law_244 (by omega) rfl hsL ?_
      rw [hx2]
      refine xa_callV (As := [.int (nI p), .int x2]) (st := []) d_Law_law_245 k_Law_95 g0 (c_Ref_putY hM1 hZ hp hyb) rfl rfl (Nat.le_of_ble_eq_true rfl) ⟨by have := hR.1; show 4 + 1 ≤ _; omega, by have := hR.2; show 8 + (5 + 11) + 95 ≤ _; omega⟩ (by omega) (by omega) (fun v h2 sz2 hq => ?_)
      obtain ⟨e3, hM2, hF2, e4⟩ := hq
      rw [e3, e4]
      have hS2 : xS_S D h2 o (o + 44) n fs b m bd pt tb tw := hS1.frame (by omega) (fun q hq => hF2 q (by omega))
      have hG2 : h2 (o + 43) = some (.inl (D.1 101, 1, .inr (.inl F))) := (hF2 _ (by omega)).trans hG1
      refine xa_istore d_Law_law_248 rfl rfl ?_
      refine xa_ls ?_ (w_t_put (c := 2) (x := 0) hR hM2 (by omega) hG2 (by omega) (fun z => by omega) (by omega) (by omega) (kont _ _ _ _ (by omega) (by omega) ⟨_, _, _, _, _, _, _, _, _, _, hS2, hM2, hG2, hZ, by omega, by omega⟩))
      exact ⟨rfl, rfl, rfl, rfl, rfl, rfl, rfl, trivial⟩
  · refine xa_callSW (As := [.ref o, .int x1, .int x2, .ref (o + 43)]) (st := []) d_Law_law_227 k_Law_92 (t_Law_put_IOOB o0 (t_SB_put1 htr hS hxb)) rfl rfl (Nat.le_of_ble_eq_true rfl) ⟨by have := hR.1; show 8 + 1 ≤ _; omega, by have := hR.2; show 8 + (5 + 11) + 133 ≤ _; omega⟩ (by omega) (by omega) (fun v h' sz' hq => ?_)
    obtain ⟨e1, e2, hsz1⟩ := hq
    rw [e1, e2]
    have hM1 := hM
    have hS1 := hS
    have hG1 := hF
    obtain ⟨v1, g0, -⟩ := hM1.code
    refine xa_istore d_Law_law_230 rfl rfl ?_
    refine xa_aload_n d_Law_law_232 rfl ?_
    refine xa_aload_n d_Law_law_233 rfl ?_
    refine xa_iload d_Law_law_234 rfl ?_
    refine xa_iconst (v := nI 1) d_Law_law_236 rfl ?_
    refine xa_iaddN d_Law_law_237 ?_
    refine xa_ialdB (j := i + 1) hsa d_Law_law_238 (by omega) rfl hsL ?_
    rw [hx1]
    refine xa_aload_n d_Law_law_239 rfl ?_
    refine xa_iload d_Law_law_240 rfl ?_
    refine xa_iconst (v := nI 2) d_Law_law_242 rfl ?_
    refine xa_iaddN d_Law_law_243 ?_
    refine xa_ialdB (j := i + 2) hsa d_Law_law_244 (by omega) rfl hsL ?_
    rw [hx2]
    refine xa_callV (As := [.int x1, .int x2]) (st := []) d_Law_law_245 k_Law_95 g0 (c_Ref_putX hM1 hxb) rfl rfl (Nat.le_of_ble_eq_true rfl) ⟨by have := hR.1; show 4 + 1 ≤ _; omega, by have := hR.2; show 8 + (5 + 11) + 95 ≤ _; omega⟩ (by omega) (by omega) (fun v h2 sz2 hq => ?_)
    obtain ⟨e3, hM2, hF2, e4⟩ := hq
    rw [e3, e4]
    have hS2 : xS_S D h2 o (o + 44) n fs b m bd pt tb tw := hS1.frame (by omega) (fun q hq => hF2 q (by omega))
    have hG2 : h2 (o + 43) = some (.inl (D.1 101, 1, .inr (.inl F))) := (hF2 _ (by omega)).trans hG1
    refine xa_istore d_Law_law_248 rfl rfl ?_
    refine xa_ls ?_ (w_t_put (c := 1) (x := 0) hR hM2 (by omega) hG2 (by omega) (fun z => by omega) (by omega) (by omega) (kont _ _ _ _ (by omega) (by omega) ⟨_, _, _, _, _, _, _, _, _, _, hS2, hM2, hG2, hZ, by omega, by omega⟩))
    exact ⟨rfl, rfl, rfl, rfl, rfl, rfl, rfl, trivial⟩
theorem w_t_first {c : Nat}  {G : Nat → Int64} (hR : 9 ≤ R.frames ∧ 179 ≤ R.locals) (hM : xR_S D h (o + 28) n fs b m bd pt tb tw c) (hc : c ≤ 3) (hG : h (o + 43) = some (.inl (D.1 101, 1, .inr (.inl G))))  (hk : k ≤ R.cells) (hn : n0 ≤ R.slots) (kont : xa_X l D H0 M_Law_law R Z k n0 h sz 1093 [(0, .ref a0), (1, .ref o), (2, .ref (o + 28)), (3, .ref (o + 43)), (4, .int (nI i))] []) :
    xa_X l D H0 M_Law_law R Z k n0 h sz 310 [(5, .int (nI c)), (0, .ref a0), (1, .ref o), (2, .ref (o + 28)), (3, .ref (o + 43)), (4, .int (nI i))] [] := by
  obtain ⟨v, g0, -⟩ := hM.code
  refine xa_aload_n d_Law_law_310 rfl ?_
  refine xa_callVr (As := []) (st := []) d_Law_law_311 k_Law_89 g0 (c_Ref_thrown hM) rfl rfl (Nat.le_of_ble_eq_true rfl) ⟨by have := hR.1; show 0 + 1 ≤ _; omega, by have := hR.2; show 8 + (1 + 11) + 0 ≤ _; omega⟩ (by omega) (by omega) ?_
  refine xa_iload d_Law_law_314 rfl ?_
  refine xa_icmp_eqN (tgt := 321) d_Law_law_316 (by decide) (by omega) (by omega) (fun hz => ?_) (fun hz => ?_)
  ·
    refine xa_goto (tgt := 1093) d_Law_law_321 (by decide) ?_
    exact xa_sl kont ⟨rfl, rfl, rfl, rfl, rfl, trivial⟩
  · omega
theorem w_o_first (htr : l.stackTraces = false) (hsc : xL_S0 H0 a0 L) (hi : i + 2 < L) (hR : 9 ≤ R.frames ∧ 179 ≤ R.locals) (hk : k + 2 ≤ R.cells) (hn0 : n0 + 13 ≤ R.slots) (hS : xS_S D h o (o + 44) n fs b m bd pt tb tw) (hM : xR_S D h (o + 28) n fs b m bd pt tb tw cd) (hF : h (o + 43) = some (.inl (D.1 101, 1, .inr (.inl F)))) (hZ : xZ_I n fs b m bd pt tb tw) (hm : m < 1000) (hsz : o + 44 ≤ sz) (kont : ∀ (k' n' : Nat) (h' : xa_H) (sz' : Nat), k' ≤ k + 2 → n' ≤ n0 + 13 → xL_Q D h' sz' o (m + 1) → xa_X l D H0 M_Law_law R (xa_ZY (xa_Sc H0 a0 L f) Z0) k' n' h' sz' 1093 [(0, .ref a0), (1, .ref o), (2, .ref (o + 28)), (3, .ref (o + 43)), (4, .int (nI i))] []) :
    xa_X l D H0 M_Law_law R (xa_ZY (xa_Sc H0 a0 L f) Z0) k n0 h sz 288 [(0, .ref a0), (1, .ref o), (2, .ref (o + 28)), (3, .ref (o + 43)), (4, .int (nI i))] [] := by
  have hsc0 := hsc
  obtain ⟨hsa, hsL⟩ := hsc0
  have hn := hZ.1.1
  have hN : n * n ≤ 169 := Nat.mul_le_mul hn.2 hn.2
  have hI := hZ.S hm
  have o0 := hS.1
  refine xa_aload_n d_Law_law_288 rfl ?_
  refine xa_aload_n d_Law_law_289 rfl ?_
  refine xa_iload d_Law_law_290 rfl ?_
  refine xa_iconst (v := nI 1) d_Law_law_292 rfl ?_
  refine xa_iaddN d_Law_law_293 ?_
  refine xa_ialdB (j := i + 1) hsa d_Law_law_294 (by omega) rfl hsL ?_
  generalize hx1 : f (i + 1) = x1
  rcases i32_rg x1 (a := 1) (N := 2) (by omega) (by omega) with ⟨p, hp1, hp2, rfl⟩ | hxb
  · by_cases hm0 : m = 0
    · refine xa_callSW (As := [.ref o, .int (nI p)]) (st := []) d_Law_law_295 k_Law_96 (c_Law_first o0 (e_first hS (by omega) hm0 (by omega))) rfl rfl (Nat.le_of_ble_eq_true rfl) ⟨by have := hR.1; show 8 + 1 ≤ _; omega, by have := hR.2; show 8 + (3 + 11) + 130 ≤ _; omega⟩ (by omega) (by omega) (fun v h' sz' hq => ?_)
      obtain ⟨e1, hS1, hF1, hsz1⟩ := hq
      rw [e1]
      generalize hh1 : h' = h1 at *
      have hM1 : xR_S D h1 (o + 28) n fs b m bd pt tb tw cd := hM.frame (fun q q1 q2 => hF1 q (by omega) (by omega))
      obtain ⟨v1, g0, -⟩ := hM1.code
      refine xa_istore d_Law_law_298 rfl rfl ?_
      refine xa_aload_n d_Law_law_300 rfl ?_
      refine xa_aload_n d_Law_law_301 rfl ?_
      refine xa_iload d_Law_law_302 rfl ?_
      refine xa_iconst (v := nI 1) d_Law_law_304 rfl ?_
      refine xa_iaddN d_Law_law_305 ?_
      refine xa_ialdB (j := i + 1) hsa d_Law_law_306 (by omega) rfl hsL ?_
      rw [hx1]
      refine xa_callV (As := [.int (nI p)]) (st := []) d_Law_law_307 k_Law_99 g0 (c_Ref_first hM1 hm0 (by omega)) rfl rfl (Nat.le_of_ble_eq_true rfl) ⟨by have := hR.1; show 0 + 1 ≤ _; omega, by have := hR.2; show 8 + (2 + 11) + 0 ≤ _; omega⟩ (by omega) (by omega) (fun v h2 sz2 hq => ?_)
      obtain ⟨e3, hM2, hF2, e4⟩ := hq
      rw [e3, e4]
      have hS2 : xS_S D h2 o (o + 44) n p b m bd pt tb tw := hS1.frame (by omega) (fun q hq => hF2 q (by omega))
      have hG2 : h2 (o + 43) = some (.inl (D.1 101, 1, .inr (.inl F))) := (hF2 _ (by omega)).trans ((hF1 _ (by omega) (by omega)).trans hF)
      refine xa_ls ?_ (w_t_first (c := 0)  hR hM2 (by omega) hG2  (by omega) (by omega) (kont _ _ _ _ (by omega) (by omega) ⟨_, _, _, _, _, _, _, _, _, _, hS2, hM2, hG2, hZ.first (by omega), by omega, by omega⟩))
      exact ⟨rfl, rfl, rfl, rfl, rfl, rfl, trivial⟩
    · refine xa_callSW (As := [.ref o, .int (nI p)]) (st := []) d_Law_law_295 k_Law_96 (t_Law_first_ISE o0 (t_SB_first2 htr hS ⟨hm0, hm⟩ (by omega))) rfl rfl (Nat.le_of_ble_eq_true rfl) ⟨by have := hR.1; show 8 + 1 ≤ _; omega, by have := hR.2; show 8 + (3 + 11) + 130 ≤ _; omega⟩ (by omega) (by omega) (fun v h' sz' hq => ?_)
      obtain ⟨e1, e2, hsz1⟩ := hq
      rw [e1, e2]
      have hM1 := hM
      have hS1 := hS
      have hG1 := hF
      obtain ⟨v1, g0, -⟩ := hM1.code
      refine xa_istore d_Law_law_298 rfl rfl ?_
      refine xa_aload_n d_Law_law_300 rfl ?_
      refine xa_aload_n d_Law_law_301 rfl ?_
      refine xa_iload d_Law_law_302 rfl ?_
      refine xa_iconst (v := nI 1) d_Law_law_304 rfl ?_
      refine xa_iaddN d_Law_law_305 ?_
      refine xa_ialdB (j := i + 1) hsa d_Law_law_306 (by omega) rfl hsL ?_
      rw [hx1]
      refine xa_callV (As := [.int (nI p)]) (st := []) d_Law_law_307 k_Law_99 g0 (c_Ref_firstY hM1 ⟨hm0, by omega⟩ (by omega)) rfl rfl (Nat.le_of_ble_eq_true rfl) ⟨by have := hR.1; show 0 + 1 ≤ _; omega, by have := hR.2; show 8 + (2 + 11) + 0 ≤ _; omega⟩ (by omega) (by omega) (fun v h2 sz2 hq => ?_)
      obtain ⟨e3, hM2, hF2, e4⟩ := hq
      rw [e3, e4]
      have hS2 : xS_S D h2 o (o + 44) n fs b m bd pt tb tw := hS1.frame (by omega) (fun q hq => hF2 q (by omega))
      have hG2 : h2 (o + 43) = some (.inl (D.1 101, 1, .inr (.inl F))) := (hF2 _ (by omega)).trans hG1
      refine xa_ls ?_ (w_t_first (c := 2)  hR hM2 (by omega) hG2  (by omega) (by omega) (kont _ _ _ _ (by omega) (by omega) ⟨_, _, _, _, _, _, _, _, _, _, hS2, hM2, hG2, hZ, by omega, by omega⟩))
      exact ⟨rfl, rfl, rfl, rfl, rfl, rfl, trivial⟩
  · refine xa_callSW (As := [.ref o, .int x1]) (st := []) d_Law_law_295 k_Law_96 (t_Law_first_IAE o0 (t_SB_first1 htr (i32_12 hxb))) rfl rfl (Nat.le_of_ble_eq_true rfl) ⟨by have := hR.1; show 8 + 1 ≤ _; omega, by have := hR.2; show 8 + (3 + 11) + 130 ≤ _; omega⟩ (by omega) (by omega) (fun v h' sz' hq => ?_)
    obtain ⟨e1, e2, hsz1⟩ := hq
    rw [e1, e2]
    have hM1 := hM
    have hS1 := hS
    have hG1 := hF
    obtain ⟨v1, g0, -⟩ := hM1.code
    refine xa_istore d_Law_law_298 rfl rfl ?_
    refine xa_aload_n d_Law_law_300 rfl ?_
    refine xa_aload_n d_Law_law_301 rfl ?_
    refine xa_iload d_Law_law_302 rfl ?_
    refine xa_iconst (v := nI 1) d_Law_law_304 rfl ?_
    refine xa_iaddN d_Law_law_305 ?_
    refine xa_ialdB (j := i + 1) hsa d_Law_law_306 (by omega) rfl hsL ?_
    rw [hx1]
    refine xa_callV (As := [.int x1]) (st := []) d_Law_law_307 k_Law_99 g0 (c_Ref_firstX hM1 hxb) rfl rfl (Nat.le_of_ble_eq_true rfl) ⟨by have := hR.1; show 0 + 1 ≤ _; omega, by have := hR.2; show 8 + (2 + 11) + 0 ≤ _; omega⟩ (by omega) (by omega) (fun v h2 sz2 hq => ?_)
    obtain ⟨e3, hM2, hF2, e4⟩ := hq
    rw [e3, e4]
    have hS2 : xS_S D h2 o (o + 44) n fs b m bd pt tb tw := hS1.frame (by omega) (fun q hq => hF2 q (by omega))
    have hG2 : h2 (o + 43) = some (.inl (D.1 101, 1, .inr (.inl F))) := (hF2 _ (by omega)).trans hG1
    refine xa_ls ?_ (w_t_first (c := 1)  hR hM2 (by omega) hG2  (by omega) (by omega) (kont _ _ _ _ (by omega) (by omega) ⟨_, _, _, _, _, _, _, _, _, _, hS2, hM2, hG2, hZ, by omega, by omega⟩))
    exact ⟨rfl, rfl, rfl, rfl, rfl, rfl, trivial⟩
theorem w_o_size (htr : l.stackTraces = false) (hsc : xL_S0 H0 a0 L) (hi : i + 2 < L) (hR : 9 ≤ R.frames ∧ 179 ≤ R.locals) (hk : k + 2 ≤ R.cells) (hn0 : n0 + 13 ≤ R.slots) (hS : xS_S D h o (o + 44) n fs b m bd pt tb tw) (hM : xR_S D h (o + 28) n fs b m bd pt tb tw cd) (hF : h (o + 43) = some (.inl (D.1 101, 1, .inr (.inl F)))) (hZ : xZ_I n fs b m bd pt tb tw) (hm : m < 1000) (hsz : o + 44 ≤ sz) (kont : ∀ (k' n' : Nat) (h' : xa_H) (sz' : Nat), k' ≤ k + 2 → n' ≤ n0 + 13 → xL_Q D h' sz' o (m + 1) → xa_X l D H0 M_Law_law R (xa_ZY (xa_Sc H0 a0 L f) Z0) k' n' h' sz' 1093 [(0, .ref a0), (1, .ref o), (2, .ref (o + 28)), (3, .ref (o + 43)), (4, .int (nI i))] []) :
    xa_X l D H0 M_Law_law R (xa_ZY (xa_Sc H0 a0 L f) Z0) k n0 h sz 144 [(0, .ref a0), (1, .ref o), (2, .ref (o + 28)), (3, .ref (o + 43)), (4, .int (nI i))] [] := by
  have hn := hZ.1.1
  have hN : n * n ≤ 169 := Nat.mul_le_mul hn.2 hn.2
  have hI := hZ.S hm
  have o0 := hS.1
  refine xa_aload_n d_Law_law_144 rfl ?_
  refine xa_callV (As := []) (st := []) d_Law_law_145 k_Law_81 o0 (e_size hS) rfl rfl (Nat.le_of_ble_eq_true rfl) ⟨by have := hR.1; show 0 + 1 ≤ _; omega, by have := hR.2; show 8 + (1 + 11) + 0 ≤ _; omega⟩ (by omega) (by omega) (fun v h1 sz1 hq => ?_)
  obtain ⟨x, e1, hx, hS1, hF1, hsz1⟩ := hq
  rw [e1, hx]
  have hM1 : xR_S D h1 (o + 28) n fs b m bd pt tb tw cd := hM.frame (fun q q1 q2 => hF1 q (by omega) (by omega))
  obtain ⟨v1, g0, -⟩ := hM1.code
  refine xa_aload_n d_Law_law_148 rfl ?_
  refine xa_callV (As := []) (st := [.int (nI (n))]) d_Law_law_149 k_Law_84 g0 (c_Ref_size hM1) rfl rfl (Nat.le_of_ble_eq_true rfl) ⟨by have := hR.1; show 0 + 1 ≤ _; omega, by have := hR.2; show 8 + (1 + 11) + 0 ≤ _; omega⟩ (by omega) (by omega) (fun v h2 sz2 hq => ?_)
  obtain ⟨e3, hM2, hF2, e4⟩ := hq
  rw [e3, e4]
  have hS2 : xS_S D h2 o (o + 44) n fs b m bd pt tb tw := hS1.frame (by omega) (fun q hq => hF2 q (by omega))
  have hG2 : h2 (o + 43) = some (.inl (D.1 101, 1, .inr (.inl F))) := (hF2 _ (by omega)).trans ((hF1 _ (by omega) (by omega)).trans hF)
  refine xa_icmp_eq (tgt := 1093) d_Law_law_152 (by decide) (fun _ => ?_) (fun z => absurd rfl z)
  exact kont _ _ _ _ (by omega) (by omega) ⟨_, _, _, _, _, _, _, _, _, _, hS2, hM2, hG2, hZ, by omega, by omega⟩
theorem w_o_turn (htr : l.stackTraces = false) (hsc : xL_S0 H0 a0 L) (hi : i + 2 < L) (hR : 9 ≤ R.frames ∧ 179 ≤ R.locals) (hk : k + 2 ≤ R.cells) (hn0 : n0 + 13 ≤ R.slots) (hS : xS_S D h o (o + 44) n fs b m bd pt tb tw) (hM : xR_S D h (o + 28) n fs b m bd pt tb tw cd) (hF : h (o + 43) = some (.inl (D.1 101, 1, .inr (.inl F)))) (hZ : xZ_I n fs b m bd pt tb tw) (hm : m < 1000) (hsz : o + 44 ≤ sz) (kont : ∀ (k' n' : Nat) (h' : xa_H) (sz' : Nat), k' ≤ k + 2 → n' ≤ n0 + 13 → xL_Q D h' sz' o (m + 1) → xa_X l D H0 M_Law_law R (xa_ZY (xa_Sc H0 a0 L f) Z0) k' n' h' sz' 1093 [(0, .ref a0), (1, .ref o), (2, .ref (o + 28)), (3, .ref (o + 43)), (4, .int (nI i))] []) :
    xa_X l D H0 M_Law_law R (xa_ZY (xa_Sc H0 a0 L f) Z0) k n0 h sz 324 [(0, .ref a0), (1, .ref o), (2, .ref (o + 28)), (3, .ref (o + 43)), (4, .int (nI i))] [] := by
  have hn := hZ.1.1
  have hN : n * n ≤ 169 := Nat.mul_le_mul hn.2 hn.2
  have hI := hZ.S hm
  have o0 := hS.1
  refine xa_aload_n d_Law_law_324 rfl ?_
  refine xa_callV (As := []) (st := []) d_Law_law_325 k_Law_100 o0 (e_turn hS hI) rfl rfl (Nat.le_of_ble_eq_true rfl) ⟨by have := hR.1; show 1 + 1 ≤ _; omega, by have := hR.2; show 8 + (1 + 11) + 20 ≤ _; omega⟩ (by omega) (by omega) (fun v h1 sz1 hq => ?_)
  obtain ⟨x, e1, hx, hS1, hF1, hsz1⟩ := hq
  rw [e1, hx]
  have hM1 : xR_S D h1 (o + 28) n fs b m bd pt tb tw cd := hM.frame (fun q q1 q2 => hF1 q (by omega) (by omega))
  obtain ⟨v1, g0, -⟩ := hM1.code
  refine xa_aload_n d_Law_law_328 rfl ?_
  refine xa_callV (As := []) (st := [.int (nI (gx_turn fs m))]) d_Law_law_329 k_Law_103 g0 (c_Ref_turn hM1 hZ.1.2.1 (by omega)) rfl rfl (Nat.le_of_ble_eq_true rfl) ⟨by have := hR.1; show 1 + 1 ≤ _; omega, by have := hR.2; show 8 + (1 + 11) + 20 ≤ _; omega⟩ (by omega) (by omega) (fun v h2 sz2 hq => ?_)
  obtain ⟨e3, hM2, hF2, e4⟩ := hq
  rw [e3, e4]
  have hS2 : xS_S D h2 o (o + 44) n fs b m bd pt tb tw := hS1.frame (by omega) (fun q hq => hF2 q (by omega))
  have hG2 : h2 (o + 43) = some (.inl (D.1 101, 1, .inr (.inl F))) := (hF2 _ (by omega)).trans ((hF1 _ (by omega) (by omega)).trans hF)
  refine xa_icmp_eq (tgt := 1093) d_Law_law_332 (by decide) (fun _ => ?_) (fun z => absurd rfl z)
  exact kont _ _ _ _ (by omega) (by omega) ⟨_, _, _, _, _, _, _, _, _, _, hS2, hM2, hG2, hZ, by omega, by omega⟩
theorem w_o_allowed (htr : l.stackTraces = false) (hsc : xL_S0 H0 a0 L) (hi : i + 2 < L) (hR : 9 ≤ R.frames ∧ 179 ≤ R.locals) (hk : k + 2 ≤ R.cells) (hn0 : n0 + 13 ≤ R.slots) (hS : xS_S D h o (o + 44) n fs b m bd pt tb tw) (hM : xR_S D h (o + 28) n fs b m bd pt tb tw cd) (hF : h (o + 43) = some (.inl (D.1 101, 1, .inr (.inl F)))) (hZ : xZ_I n fs b m bd pt tb tw) (hm : m < 1000) (hsz : o + 44 ≤ sz) (kont : ∀ (k' n' : Nat) (h' : xa_H) (sz' : Nat), k' ≤ k + 2 → n' ≤ n0 + 13 → xL_Q D h' sz' o (m + 1) → xa_X l D H0 M_Law_law R (xa_ZY (xa_Sc H0 a0 L f) Z0) k' n' h' sz' 1093 [(0, .ref a0), (1, .ref o), (2, .ref (o + 28)), (3, .ref (o + 43)), (4, .int (nI i))] []) :
    xa_X l D H0 M_Law_law R (xa_ZY (xa_Sc H0 a0 L f) Z0) k n0 h sz 449 [(0, .ref a0), (1, .ref o), (2, .ref (o + 28)), (3, .ref (o + 43)), (4, .int (nI i))] [] := by
  have hn := hZ.1.1
  have hN : n * n ≤ 169 := Nat.mul_le_mul hn.2 hn.2
  have hI := hZ.S hm
  have o0 := hS.1
  refine xa_aload_n d_Law_law_449 rfl ?_
  refine xa_callV (As := []) (st := []) d_Law_law_450 k_Law_110 o0 (e_allowed hS hI (by omega)) rfl rfl (Nat.le_of_ble_eq_true rfl) ⟨by have := hR.1; show 6 + 1 ≤ _; omega, by have := hR.2; show 8 + (3 + 11) + 135 ≤ _; omega⟩ (by omega) (by omega) (fun v h1 sz1 hq => ?_)
  obtain ⟨x, e1, hx, hS1, hF1, hsz1⟩ := hq
  rw [e1, hx]
  have hM1 : xR_S D h1 (o + 28) n fs b m bd pt tb tw cd := hM.frame (fun q q1 q2 => hF1 q (by omega) (by omega))
  obtain ⟨v1, g0, -⟩ := hM1.code
  refine xa_aload_n d_Law_law_453 rfl ?_
  refine xa_callV (As := []) (st := [.int (nI (gb_cnt (gx_ok n fs b m bd pt) (n * n)))]) d_Law_law_454 k_Law_113 g0 (c_Ref_allowed hM1 hZ) rfl rfl (Nat.le_of_ble_eq_true rfl) ⟨by have := hR.1; show 5 + 1 ≤ _; omega, by have := hR.2; show 8 + (3 + 11) + 119 ≤ _; omega⟩ (by omega) (by omega) (fun v h2 sz2 hq => ?_)
  obtain ⟨e3, hM2, hF2, e4⟩ := hq
  rw [e3, e4]
  have hS2 : xS_S D h2 o (o + 44) n fs b m bd pt tb tw := hS1.frame (by omega) (fun q hq => hF2 q (by omega))
  have hG2 : h2 (o + 43) = some (.inl (D.1 101, 1, .inr (.inl F))) := (hF2 _ (by omega)).trans ((hF1 _ (by omega) (by omega)).trans hF)
  refine xa_icmp_eq (tgt := 1093) d_Law_law_457 (by decide) (fun _ => ?_) (fun z => absurd rfl z)
  exact kont _ _ _ _ (by omega) (by omega) ⟨_, _, _, _, _, _, _, _, _, _, hS2, hM2, hG2, hZ, by omega, by omega⟩
theorem w_o_moves (htr : l.stackTraces = false) (hsc : xL_S0 H0 a0 L) (hi : i + 2 < L) (hR : 9 ≤ R.frames ∧ 179 ≤ R.locals) (hk : k + 2 ≤ R.cells) (hn0 : n0 + 13 ≤ R.slots) (hS : xS_S D h o (o + 44) n fs b m bd pt tb tw) (hM : xR_S D h (o + 28) n fs b m bd pt tb tw cd) (hF : h (o + 43) = some (.inl (D.1 101, 1, .inr (.inl F)))) (hZ : xZ_I n fs b m bd pt tb tw) (hm : m < 1000) (hsz : o + 44 ≤ sz) (kont : ∀ (k' n' : Nat) (h' : xa_H) (sz' : Nat), k' ≤ k + 2 → n' ≤ n0 + 13 → xL_Q D h' sz' o (m + 1) → xa_X l D H0 M_Law_law R (xa_ZY (xa_Sc H0 a0 L f) Z0) k' n' h' sz' 1093 [(0, .ref a0), (1, .ref o), (2, .ref (o + 28)), (3, .ref (o + 43)), (4, .int (nI i))] []) :
    xa_X l D H0 M_Law_law R (xa_ZY (xa_Sc H0 a0 L f) Z0) k n0 h sz 557 [(0, .ref a0), (1, .ref o), (2, .ref (o + 28)), (3, .ref (o + 43)), (4, .int (nI i))] [] := by
  have hn := hZ.1.1
  have hN : n * n ≤ 169 := Nat.mul_le_mul hn.2 hn.2
  have hI := hZ.S hm
  have o0 := hS.1
  refine xa_aload_n d_Law_law_557 rfl ?_
  refine xa_callV (As := []) (st := []) d_Law_law_558 k_Law_121 o0 (e_moves hS) rfl rfl (Nat.le_of_ble_eq_true rfl) ⟨by have := hR.1; show 0 + 1 ≤ _; omega, by have := hR.2; show 8 + (1 + 11) + 0 ≤ _; omega⟩ (by omega) (by omega) (fun v h1 sz1 hq => ?_)
  obtain ⟨x, e1, hx, hS1, hF1, hsz1⟩ := hq
  rw [e1, hx]
  have hM1 : xR_S D h1 (o + 28) n fs b m bd pt tb tw cd := hM.frame (fun q q1 q2 => hF1 q (by omega) (by omega))
  obtain ⟨v1, g0, -⟩ := hM1.code
  refine xa_aload_n d_Law_law_561 rfl ?_
  refine xa_callV (As := []) (st := [.int (nI (m))]) d_Law_law_562 k_Law_124 g0 (c_Ref_moves hM1) rfl rfl (Nat.le_of_ble_eq_true rfl) ⟨by have := hR.1; show 0 + 1 ≤ _; omega, by have := hR.2; show 8 + (1 + 11) + 0 ≤ _; omega⟩ (by omega) (by omega) (fun v h2 sz2 hq => ?_)
  obtain ⟨e3, hM2, hF2, e4⟩ := hq
  rw [e3, e4]
  have hS2 : xS_S D h2 o (o + 44) n fs b m bd pt tb tw := hS1.frame (by omega) (fun q hq => hF2 q (by omega))
  have hG2 : h2 (o + 43) = some (.inl (D.1 101, 1, .inr (.inl F))) := (hF2 _ (by omega)).trans ((hF1 _ (by omega) (by omega)).trans hF)
  refine xa_icmp_eq (tgt := 1093) d_Law_law_565 (by decide) (fun _ => ?_) (fun z => absurd rfl z)
  exact kont _ _ _ _ (by omega) (by omega) ⟨_, _, _, _, _, _, _, _, _, _, hS2, hM2, hG2, hZ, by omega, by omega⟩
end LL
