/-! The reference: its state; a move leaves every string a breath. -/
theorem gb_cnt_ex {P : Nat → Prop} {N : Nat} (h : gb_cnt P N ≠ 0) : ∃ q, q < N ∧ P q := Classical.byContradiction fun z => h (gb_cnt_0 N (fun q hq hP => z ⟨q, hq, hP⟩))
theorem gb_cnt_two {P : Nat → Prop} {N p : Nat} (hp : P p) (hpN : p < N) (h : gb_cnt P N ≠ 1) : ∃ q, q < N ∧ q ≠ p ∧ P q := Classical.byContradiction fun hno => h (by
  rw [gb_cnt_eq (P' := fun q => q = p) N (fun q hq => ⟨fun z => Classical.byContradiction fun hqp => hno ⟨q, hq, hqp, z⟩, fun z => by rw [z]; exact hp⟩)]
  have := gb_cnt_add (P := fun _ => False) (P' := fun q => q = p) (x := p) (fun z => z) (fun q => ⟨fun z => Or.inr z, fun z => z.elim (fun z => z.elim) (fun z => z)⟩) N hpN
  rw [gb_cnt_0 (P := fun _ => False) N (fun _ _ z => z)] at this
  exact this)
theorem gb_conn_sub {n : Nat} {B T : Nat → Int32} {x : Nat} (h : ∀ q, gb_conn n B x q → T q = B q) {q : Nat} (hq : gb_conn n B x q) : gb_conn n T x q :=
  (hq (fun y => gb_conn n B x y ∧ gb_conn n T x y) ⟨gb_conn_rf, gb_conn_rf⟩ (fun a w c ha hw hc hk => by
    have h1 := gb_conn_st ha.1 hw hc hk
    exact ⟨h1, gb_conn_st ha.2 hw hc (by rw [h _ h1, h _ ha.1]; exact hk)⟩)).2
theorem gb_conn_same {n : Nat} {B T : Nat → Int32} (h : ∀ q, q < n * n → B q = T q) {x q : Nat} (hx : x < n * n) : gb_conn n B x q ↔ gb_conn n T x q :=
  ⟨gb_conn_sub (fun q hq => (h q (gb_conn_lt hx hq)).symm), gb_conn_sub (fun q hq => h q (gb_conn_lt hx hq))⟩
theorem gt_br_same {n : Nat} {B T : Nat → Int32} (h : ∀ q, q < n * n → B q = T q) {x q : Nat} (hx : x < n * n) : gt_br n B x q ↔ gt_br n T x q := by
  unfold gt_br
  constructor
  · rintro ⟨h1, h2, w, y, hw, hy, hc⟩
    exact ⟨h1, by rw [← h q h1]; exact h2, w, y, hw, hy, (gb_conn_same h hx).mp hc⟩
  · rintro ⟨h1, h2, w, y, hw, hy, hc⟩
    exact ⟨h1, by rw [h q h1]; exact h2, w, y, hw, hy, (gb_conn_same h hx).mpr hc⟩
theorem gx_br_same {n : Nat} {b t : Nat → Nat} (h : gx_same (n * n) b t) (hb : gx_br n b) : gx_br n t := fun p hp h0 => by
  rw [← gb_cnt_eq (P := gt_br n (fun q => nI (b q)) p) (n * n) (fun q _ => gt_br_same (fun q hq => by show nI (b q) = nI (t q); rw [h q hq]) hp)]
  exact hb p hp (by rw [h p hp]; exact h0)
theorem gt_br_tr {n : Nat} {B : Nat → Int32} {x y q : Nat} (h : gb_conn n B x y) (hq : gt_br n B y q) : gt_br n B x q := by
  obtain ⟨h1, h2, w, z, hw, hz, hc⟩ := hq
  exact ⟨h1, h2, w, z, hw, hz, gb_conn_tr h hc⟩
/-- a move leaves every string a breath -/
theorem gq_T_br {n p sd : Nat} {b t : Nat → Nat} {k ls : Nat} (hp : p < n * n) (hp0 : b p = 0) (hsd : sd = 1 ∨ sd = 2) (hb : ∀ q, q < n * n → b q ≤ 2) (hbr : gx_br n b) (hT : gq_T n b p sd t k ls) : gx_br n t := by
  have eB : ∀ q, b q = 0 → nI (b q) = 0 := fun q hq => by rw [hq]; rfl
  have eZ : ∀ q, q < n * n → nI (b q) = 0 → b q = 0 := fun q hq hz => (nI_eq (a := b q) (b := 0) (by have := hb q hq; omega) (by omega)).mp hz
  -- a string that is left as it was keeps each breath that is free behind the move
  have keep : ∀ x, x < n * n → (∀ q, gb_conn n (fun q => nI (b q)) x q → t q = b q) → ∀ y, gt_br n (fun q => nI (b q)) x y → t y = 0 → gt_br n (fun q => nI (t q)) x y := by
    intro x hx hsame y hy hty
    obtain ⟨h1, h2, w, z, hw, hz, hc⟩ := hy
    exact ⟨h1, by show nI (t y) = 0; rw [hty]; rfl, w, z, hw, hz, gb_conn_sub (fun q hq => by show nI (t q) = nI (b q); rw [hsame q hq]) hc⟩
  have pos : ∀ x y, x < n * n → gt_br n (fun q => nI (t q)) x y → gb_cnt (gt_br n (fun q => nI (t q)) x) (n * n) ≠ 0 := fun x y hx hy => by
    have := gb_cnt_pos (x := y) hy (n * n) hy.1
    omega
  -- the first two cases at once: C goes, the stone stays
  have two : ∀ C : Nat → Prop, (∀ q, C q ↔ gq_cap n b p (3 - sd) 4 q) → gq_off (n * n) C (fun q => if q = p then sd else b q) t → (∃ y, gt_br n (fun q => nI (t q)) p y) → gx_br n t := by
    intro C hC hoff hpy x hx htx
    have hCp : ¬ C p := fun z => by
      have := gq_cap_b hp (by omega) hb ((hC p).mp z)
      omega
    have htp : t p = sd := by rw [(hoff p hp).2 hCp]; exact if_pos rfl
    obtain ⟨y0, hy0⟩ := hpy
    by_cases hxp : x = p
    · rw [hxp]; exact pos p y0 hp hy0
    have hCx : ¬ C x := fun z => htx ((hoff x hx).1 z)
    have htbx : t x = b x := by rw [(hoff x hx).2 hCx]; exact if_neg hxp
    have hbx : b x ≠ 0 := fun z => htx (htbx.trans z)
    have hsame : ∀ q, gb_conn n (fun q => nI (b q)) x q → t q = b q := fun q hq => by
      have hqN := gb_conn_lt hx hq
      have hqp : q ≠ p := fun z => hbx (by rw [← gb_b_eq hx hb hq, z]; exact hp0)
      have hCq : ¬ C q := fun z => hCx ((hC x).mpr (gq_cap_tr ((hC q).mp z) (gb_conn_sy hx hq)))
      rw [(hoff q hqN).2 hCq]
      exact if_neg hqp
    have hfree : ∀ y, y < n * n → y ≠ p → b y = 0 → t y = 0 := fun y hy hyp hby => by
      by_cases hCy : C y
      · exact (hoff y hy).1 hCy
      · rw [(hoff y hy).2 hCy]
        show (if y = p then sd else b y) = 0
        rw [if_neg hyp]; exact hby
    by_cases hex : ∃ y, y ≠ p ∧ gt_br n (fun q => nI (b q)) x y
    · obtain ⟨y, hyp, hy⟩ := hex
      exact pos x y hx (keep x hx hsame y hy (hfree y hy.1 hyp (eZ y hy.1 hy.2.1)))
    · obtain ⟨y, hyN, hy⟩ := gb_cnt_ex (hbr x hx hbx)
      have hyp : y = p := Classical.byContradiction fun z => hex ⟨y, z, hy⟩
      subst hyp
      obtain ⟨h1, h2, w, z, hw, hz, hc⟩ := id hy
      have hzN := gb_conn_lt hx hc
      have hbz : b z = b x := gb_b_eq hx hb hc
      have hbx2 := hb x hx
      by_cases hs : b x = sd
      · have htz : t z = sd := by rw [hsame z hc, hbz]; exact hs
        obtain ⟨-, hzy⟩ := gb_nb_sym hp hw hz
        have hxy : gb_conn n (fun q => nI (t q)) x y := gb_conn_st (gb_conn_sub (T := fun q => nI (t q)) (fun q hq => by show nI (t q) = nI (b q); rw [hsame q hq]) hc) (show 3 - w < 4 by omega) hzy (by show nI (t y) = nI (t z); rw [htp, htz])
        exact pos x y0 hx (gt_br_tr hxy hy0)
      · have hcnt : gb_cnt (gt_br n (fun q => nI (b q)) z) (n * n) = 1 := Classical.byContradiction fun hne => by
          obtain ⟨q, hq, hqy, hqz⟩ := gb_cnt_two (p := y) (gt_br_tr (gb_conn_sy hx hc) hy) hp hne
          exact hex ⟨q, hqy, gt_br_tr hc hqz⟩
        exact absurd ((hC x).mpr ⟨w, z, hw, hz, by omega, hcnt, gb_conn_sy hx hc⟩) hCx
  rcases hT with ⟨⟨q, v, x, hv, hx, hbx, hcnt, hc⟩, hoff, -, -⟩ | ⟨hno, hbre, ht, -, -⟩ | ⟨hno, hbre, hoff, -, -⟩
  · refine two _ (fun q => Iff.rfl) hoff ⟨x, ?_⟩
    obtain ⟨hxN, hxs⟩ := gb_nb_sym hp hv hx
    exact ⟨hxN, by show nI (t x) = 0; rw [(hoff x hxN).1 ⟨v, x, hv, hx, hbx, hcnt, gb_conn_rf⟩]; rfl, 3 - v, p, by omega, hxs, gb_conn_rf⟩
  · have hoff : gq_off (n * n) (gq_cap n b p (3 - sd) 4) (fun q => if q = p then sd else b q) t := fun q hq => ⟨fun z => absurd z (hno q), fun _ => ht q hq⟩
    refine two _ (fun q => Iff.rfl) hoff ?_
    obtain ⟨v, x, hv, hx, hc⟩ := hbre
    obtain ⟨hxN, hxs⟩ := gb_nb_sym hp hv hx
    have hxp : x ≠ p := fun z => gb_nb_irr hp hv (by rw [hx, z])
    have htx : t x = b x := (ht x hxN).trans (if_neg hxp)
    rcases hc with hc | ⟨hc, hcnt⟩
    · exact ⟨x, hxN, by show nI (t x) = 0; rw [htx, hc]; rfl, 3 - v, p, by omega, hxs, gb_conn_rf⟩
    · obtain ⟨y, hyN, hyp, hy⟩ := gb_cnt_two (p := p) (P := gt_br n (fun q => nI (b q)) x) ⟨hp, eB p hp0, v, x, hv, hx, gb_conn_rf⟩ hp hcnt
      have hsame : ∀ q, gb_conn n (fun q => nI (b q)) x q → t q = b q := fun q hq => by
        have hqp : q ≠ p := fun z => by
          have := gb_b_eq hxN hb hq
          rw [z, hp0] at this
          omega
        exact (ht q (gb_conn_lt hxN hq)).trans (if_neg hqp)
      refine ⟨y, gt_br_tr (gb_conn_st gb_conn_rf hv hx ?_) (keep x hxN hsame y hy ((ht y hyN).trans (by rw [if_neg hyp]; exact eZ y hyN hy.2.1)))⟩
      show nI (t x) = nI (t p)
      rw [htx, hc, ht p hp, if_pos rfl]
  · intro x hx htx
    have hCx : ¬ (gq_cap n b p sd 4 x ∨ x = p) := fun z => htx ((hoff x hx).1 z)
    have htbx : t x = b x := (hoff x hx).2 hCx
    have hbx : b x ≠ 0 := fun z => htx (htbx.trans z)
    have hsame : ∀ q, gb_conn n (fun q => nI (b q)) x q → t q = b q := fun q hq => by
      refine (hoff q (gb_conn_lt hx hq)).2 (fun z => z.elim (fun z => hCx (Or.inl (gq_cap_tr z (gb_conn_sy hx hq)))) (fun z => hbx ?_))
      rw [← gb_b_eq hx hb hq, z]
      exact hp0
    obtain ⟨y, hyN, hy⟩ := gb_cnt_ex (hbr x hx hbx)
    refine pos x y hx (keep x hx hsame y hy ?_)
    by_cases hCy : gq_cap n b p sd 4 y ∨ y = p
    · exact (hoff y hyN).1 hCy
    · rw [(hoff y hyN).2 hCy]
      exact eZ y hyN hy.2.1
/-- the arrays that hold nothing between calls -/
def xR_X (D : va_G) (h : xa_H) (r : Nat) : Prop := ∃ (TR IN RW GR RG SG SR GO FA : Nat → Int32), h (r + 2) = some (.inl (D.1 100, 169, .inl TR)) ∧ h (r + 7) = some (.inl (D.1 102, 169, .inl IN)) ∧ h (r + 8) = some (.inl (D.1 100, 169, .inl RW)) ∧ h (r + 9) = some (.inl (D.1 100, 169, .inl GR)) ∧ h (r + 10) = some (.inl (D.1 100, 169, .inl RG)) ∧ h (r + 11) = some (.inl (D.1 102, 170, .inl SG)) ∧ h (r + 12) = some (.inl (D.1 102, 170, .inl SR)) ∧ h (r + 13) = some (.inl (D.1 102, 169, .inl GO)) ∧ h (r + 14) = some (.inl (D.1 102, 170, .inl FA))
def xR_A (D : va_G) (h : xa_H) (r n : Nat) (v : Nat → Nat) (B SD MV TB TW : Nat → Int32) : Prop := h r = some (xR_o r n v) ∧ h (r + 1) = some (.inl (D.1 100, 169, .inl B)) ∧ h (r + 3) = some (.inl (D.1 104, 169169, .inl SD)) ∧ h (r + 4) = some (.inl (D.1 100, 1000, .inl MV)) ∧ h (r + 5) = some (.inl (D.1 100, 1000, .inl TB)) ∧ h (r + 6) = some (.inl (D.1 100, 1000, .inl TW)) ∧ xR_X D h r
/-- what the arrays hold -/
def xR_I (n : Nat) (b : Nat → Nat) (m : Nat) (bd : Nat → Nat → Nat) (pt : Nat → Int32) (tb tw : Nat → Nat) (B SD MV TB TW : Nat → Int32) : Prop :=
  (∀ q, q < n * n → B q = nI (b q)) ∧ (∀ i, i ≤ m → ∀ q, q < n * n → SD (169 * i + q) = nI (bd i q)) ∧ (∀ i, i < m → MV i = pt (i + 1)) ∧ (∀ i, i < m → ∃ k, TB i = nI k ∧ tb (i + 1) = tb i + k) ∧ (∀ i, i < m → ∃ k, TW i = nI k ∧ tw (i + 1) = tw i + k)
/-- the reference stands for the game -/
def xR_S (D : va_G) (h : xa_H) (r n fs : Nat) (b : Nat → Nat) (m : Nat) (bd : Nat → Nat → Nat) (pt : Nat → Int32) (tb tw : Nat → Nat) (cd : Nat) : Prop :=
  ∃ (v : Nat → Nat) (B SD MV TB TW : Nat → Int32), xR_A D h r n v B SD MV TB TW ∧ (v 0 = cd ∧ v 3 = m ∧ v 4 = fs) ∧ xR_I n b m bd pt tb tw B SD MV TB TW
/-- what is known of the game besides -/
def xZ_I (n fs : Nat) (b : Nat → Nat) (m : Nat) (bd : Nat → Nat → Nat) (pt : Nat → Int32) (tb tw : Nat → Nat) : Prop :=
  ((2 ≤ n ∧ n ≤ 13) ∧ (fs = 1 ∨ fs = 2) ∧ m ≤ 1000) ∧ (∀ q, q < n * n → bd m q = b q) ∧ (∀ i, i ≤ m → ∀ q, q < n * n → bd i q ≤ 2) ∧ (∀ i, i ≤ m → gx_br n (bd i)) ∧ (pt 0 = -2 ∧ ∀ i, 1 ≤ i → i ≤ m → pt i = -1 ∨ ∃ p, p < n * n ∧ pt i = nI p) ∧ tb 0 = 0 ∧ tw 0 = 0
section RS
variable {D : va_G} {h h' : xa_H} {r n fs : Nat} {b : Nat → Nat} {m : Nat} {bd : Nat → Nat → Nat} {pt : Nat → Int32} {tb tw : Nat → Nat} {cd : Nat} {v : Nat → Nat} {B SD MV TB TW : Nat → Int32}
theorem xR_X.frame (hX : xR_X D h r) (hf : ∀ q, r + 2 ≤ q → q ≤ r + 14 → h' q = h q) : xR_X D h' r := by
  obtain ⟨TR, IN, RW, GR, RG, SG, SR, GO, FA, a2, a7, a8, a9, a10, a11, a12, a13, a14⟩ := hX
  refine ⟨TR, IN, RW, GR, RG, SG, SR, GO, FA, ?_, ?_, ?_, ?_, ?_, ?_, ?_, ?_, ?_⟩
  all_goals (rw [hf _ (by omega) (by omega)]; assumption)
theorem xR_A.scr (hA : xR_A D h r n v B SD MV TB TW) {v' : Nat → Nat} (h0 : h' r = some (xR_o r n v')) (hf : ∀ q, (q = r + 1 ∨ (r + 3 ≤ q ∧ q ≤ r + 6)) → h' q = h q) (hX : xR_X D h' r) : xR_A D h' r n v' B SD MV TB TW := by
  obtain ⟨a0, a1, a3, a4, a5, a6, -⟩ := hA
  refine ⟨h0, ?_, ?_, ?_, ?_, ?_, hX⟩
  all_goals (rw [hf _ (by omega)]; assumption)
theorem xR_A.o (hA : xR_A D h r n v B SD MV TB TW) (v' : Nat → Nat) : xR_A D (xa_u h r (xR_o r n v')) r n v' B SD MV TB TW :=
  hA.scr (xa_u_eq _ _ _) (fun q hq => xa_u_ne rfl (by omega)) (hA.2.2.2.2.2.2.frame (fun q h1 h2 => xa_u_ne rfl (by omega)))
theorem xR_A.frame (hA : xR_A D h r n v B SD MV TB TW) (hf : ∀ q, r ≤ q → q ≤ r + 14 → h' q = h q) : xR_A D h' r n v B SD MV TB TW :=
  hA.scr (by rw [hf r (by omega) (by omega)]; exact hA.1) (fun q hq => hf q (by omega) (by omega)) (hA.2.2.2.2.2.2.frame (fun q h1 h2 => hf q (by omega) (by omega)))
theorem xR_S.frame (hS : xR_S D h r n fs b m bd pt tb tw cd) (hf : ∀ q, r ≤ q → q ≤ r + 14 → h' q = h q) : xR_S D h' r n fs b m bd pt tb tw cd := by
  obtain ⟨v, B, SD, MV, TB, TW, hA, hv, hI⟩ := hS
  exact ⟨v, B, SD, MV, TB, TW, hA.frame hf, hv, hI⟩
theorem xR_S.code (hS : xR_S D h r n fs b m bd pt tb tw cd) : ∃ v : Nat → Nat, h r = some (xR_o r n v) ∧ v 0 = cd ∧ v 3 = m ∧ v 4 = fs ∧ ∀ c, xR_S D (xa_u h r (xR_o r n (xh_up v 0 c))) r n fs b m bd pt tb tw c := by
  obtain ⟨v, B, SD, MV, TB, TW, hA, hv, hI⟩ := hS
  exact ⟨v, hA.1, hv.1, hv.2.1, hv.2.2, fun c => ⟨xh_up v 0 c, B, SD, MV, TB, TW, hA.o _, ⟨xh_up_eq _ _ _, by rw [xh_up_ne _ _ (by omega)]; exact hv.2.1, by rw [xh_up_ne _ _ (by omega)]; exact hv.2.2⟩, hI⟩⟩
theorem xR_A.G (hA : xR_A D h r n v B SD MV TB TW) {IN RW : Nat → Int32} {e : Nat} : xR_A D (xG_h D h r n v IN RW e) r n (xh_up v 5 e) B SD MV TB TW := by
  refine hA.scr xG_0 (fun q hq => xG_n (by omega) (by omega) (by omega)) ?_
  obtain ⟨TR, IN', RW', GR, RG, SG, SR, GO, FA, a2, a7, a8, a9, a10, a11, a12, a13, a14⟩ := hA.2.2.2.2.2.2
  refine ⟨TR, IN, RW, GR, RG, SG, SR, GO, FA, ?_, xG_7, xG_8, ?_, ?_, ?_, ?_, ?_, ?_⟩
  all_goals (rw [xG_n (by omega) (by omega) (by omega)]; assumption)
theorem xR_A.At {p sd : Nat} (hA : xR_A D h r n v B SD MV TB TW) (hAt : gr_At D h h' r n v b p sd) : ∃ (v' t : Nat → Nat) (k ls : Nat) (TR : Nat → Int32), xR_A D h' r n v' B SD MV TB TW ∧ gq_T n b p sd t k ls ∧ (∀ q, q < n * n → TR q = nI (t q)) ∧ (∀ i, i ≠ 1 → i ≠ 2 → i ≠ 5 → v' i = v i) ∧ v' 1 = (if ls = sd then 0 else k) ∧ v' 2 = (if ls = sd then k else 0) ∧ h' (r + 2) = some (.inl (D.1 100, 169, .inl TR)) ∧ ∀ q, q < r ∨ r + 15 ≤ q → h' q = h q := by
  obtain ⟨v', t, k, ls, TR, IN, RW, GO, hT, ht, hv, h1, h2, g0, g2, g7, g8, g13, hf⟩ := hAt
  refine ⟨v', t, k, ls, TR, hA.scr g0 (fun q hq => hf q (by omega) (by omega) (by omega) (by omega) (by omega)) ?_, hT, ht, hv, h1, h2, g2, fun q hq => hf q (by omega) (by omega) (by omega) (by omega) (by omega)⟩
  obtain ⟨TR', IN', RW', GR, RG, SG, SR, GO', FA, a2, a7, a8, a9, a10, a11, a12, a13, a14⟩ := hA.2.2.2.2.2.2
  refine ⟨TR, IN, RW, GR, RG, SG, SR, GO, FA, g2, g7, g8, ?_, ?_, ?_, ?_, g13, ?_⟩
  all_goals (rw [hf _ (by omega) (by omega) (by omega) (by omega) (by omega)]; assumption)
theorem xZ_I.b2 (hZ : xZ_I n fs b m bd pt tb tw) : ∀ q, q < n * n → b q ≤ 2 := fun q hq => by
  rw [← hZ.2.1 q hq]; exact hZ.2.2.1 m (Nat.le_refl m) q hq
theorem xZ_I.br (hZ : xZ_I n fs b m bd pt tb tw) : gx_br n b := gx_br_same hZ.2.1 (hZ.2.2.2.1 m (Nat.le_refl m))
theorem xZ_I.S (hZ : xZ_I n fs b m bd pt tb tw) (hm : m < 1000) : xS_I n fs b m bd := ⟨hZ.1.1, hZ.1.2.1, hm, hZ.2.1, hZ.2.2.1⟩
end RS
/-- locals matched, the other way round -/
theorem xa_sl {l : Launch} {D : va_G} {H0 : Heap} {μ : xa_Mu} {R : Room} {Z : xa_Z} {k n : Nat} {h : xa_H} {sz pc : Nat} {ls ls' : List (Nat × Value)} {st : List Value} (kk : xa_X l D H0 μ R Z k n h sz pc ls' st) (hs : xa_sub ls ls') : xa_X l D H0 μ R Z k n h sz pc ls st := xa_ls hs kk
