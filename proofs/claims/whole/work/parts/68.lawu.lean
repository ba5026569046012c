/-! The class's contracts in one form, for the law. -/
abbrev xL_F (h h1 : xa_H) (sz o : Nat) : Prop := ∀ q, q < sz → (q < o ∨ o + 28 ≤ q) → h1 q = h q
section LU
variable {l : Launch} {D : va_G} {H0 : Heap} {h : xa_H} {sz : Nat} {o T n fs : Nat} {b : Nat → Nat} {m : Nat} {bd : Nat → Nat → Nat} {pt : Nat → Int32} {tb tw : Nat → Nat}
theorem xS_S.frame {h' : xa_H} (hS : xS_S D h o T n fs b m bd pt tb tw) (hT : o + 28 ≤ T) (hf : ∀ q, (o ≤ q ∧ q < o + 28) ∨ T ≤ q → h' q = h q) : xS_S D h' o T n fs b m bd pt tb tw := by
  obtain ⟨s1, s2, s3, s4, s5⟩ := hS
  refine ⟨by rw [hf o (by omega)]; exact s1, s2.frame (fun q hq => hf q (by omega)), s3.frame (hf _ (by omega)) (hf _ (by omega)), xh_S_frame s4 (fun a e ha hk => ?_), s5.frame (fun q h1 h2 => hf q (by omega))⟩
  rw [hf a (by unfold xh_K at hk; omega)]
  exact ha
theorem e_at {p : Nat} (hS : xS_S D h o T n fs b m bd pt tb tw) (hI : xS_I n fs b m bd) (hp : p < n * n) :
    xa_M l D H0 M_SB_at 7 110 0 0 [.ref o, .int (nI p)] h sz (fun v h' sz' => ∃ x, v = some (.int x) ∧ (x = nI (b p) ∧ xS_S D h' o T n fs b m bd pt tb tw ∧ xL_F h h' sz o ∧ sz ≤ sz')) :=
  xa_M_w (c_SB_at hS hI hp) (fun v h' sz' hq => by
    obtain ⟨e1, e2, e3⟩ := hq
    exact ⟨_, e1, rfl, by rw [e2]; exact hS, fun q _ _ => by rw [e2], by omega⟩)
theorem e_size (hS : xS_S D h o T n fs b m bd pt tb tw) :
    xa_M l D H0 M_SB_size 0 0 0 0 [.ref o] h sz (fun v h' sz' => ∃ x, v = some (.int x) ∧ (x = nI n ∧ xS_S D h' o T n fs b m bd pt tb tw ∧ xL_F h h' sz o ∧ sz ≤ sz')) :=
  xa_M_w (c_SB_size hS) (fun v h' sz' hq => by
    obtain ⟨e1, e2, e3⟩ := hq
    exact ⟨_, e1, rfl, by rw [e2]; exact hS, fun q _ _ => by rw [e2], by omega⟩)
theorem e_moves (hS : xS_S D h o T n fs b m bd pt tb tw) :
    xa_M l D H0 M_SB_moves 0 0 0 0 [.ref o] h sz (fun v h' sz' => ∃ x, v = some (.int x) ∧ (x = nI m ∧ xS_S D h' o T n fs b m bd pt tb tw ∧ xL_F h h' sz o ∧ sz ≤ sz')) :=
  xa_M_w (c_SB_moves hS) (fun v h' sz' hq => by
    obtain ⟨e1, e2, e3⟩ := hq
    exact ⟨_, e1, rfl, by rw [e2]; exact hS, fun q _ _ => by rw [e2], by omega⟩)
theorem e_turn (hS : xS_S D h o T n fs b m bd pt tb tw) (hI : xS_I n fs b m bd) :
    xa_M l D H0 M_SB_turn 1 20 0 0 [.ref o] h sz (fun v h' sz' => ∃ x, v = some (.int x) ∧ (x = nI (gx_turn fs m) ∧ xS_S D h' o T n fs b m bd pt tb tw ∧ xL_F h h' sz o ∧ sz ≤ sz')) :=
  xa_M_w (c_SB_turn hS hI) (fun v h' sz' hq => by
    obtain ⟨e1, e2, e3⟩ := hq
    exact ⟨_, e1, rfl, by rw [e2]; exact hS, fun q _ _ => by rw [e2], by omega⟩)
theorem e_move {i : Nat} (hS : xS_S D h o T n fs b m bd pt tb tw) (hI : xS_I n fs b m bd) (hi : i < m) :
    xa_M l D H0 M_SB_move 6 89 0 0 [.ref o, .int (nI i)] h sz (fun v h' sz' => ∃ x, v = some (.int x) ∧ (x = pt (i + 1) ∧ xS_S D h' o T n fs b m bd pt tb tw ∧ xL_F h h' sz o ∧ sz ≤ sz')) :=
  xa_M_w (c_SB_move hS hI hi) (fun v h' sz' hq => by
    obtain ⟨e1, e2, e3⟩ := hq
    exact ⟨_, e1, rfl, by rw [e2]; exact hS, fun q _ _ => by rw [e2], by omega⟩)
theorem e_taken {sd : Nat} (hS : xS_S D h o T n fs b m bd pt tb tw) (hsd : sd = 1 ∨ sd = 2) :
    xa_M l D H0 M_SB_taken 7 109 0 0 [.ref o, .int (nI sd)] h sz (fun v h' sz' => ∃ x, v = some (.int x) ∧ (x = nI (if sd = 1 then tb m else tw m) ∧ xS_S D h' o T n fs b m bd pt tb tw ∧ xL_F h h' sz o ∧ sz ≤ sz')) :=
  xa_M_w (c_SB_taken hS hsd) (fun v h' sz' hq => by
    obtain ⟨e1, e2, e3⟩ := hq
    exact ⟨_, e1, rfl, by rw [e2]; exact hS, fun q _ _ => by rw [e2], by omega⟩)
theorem e_strings {sd : Nat} (hS : xS_S D h o T n fs b m bd pt tb tw) (hsd : sd = 1 ∨ sd = 2) :
    xa_M l D H0 M_SB_strings 7 109 0 0 [.ref o, .int (nI sd)] h sz (fun v h' sz' => ∃ x, v = some (.int x) ∧ (x = nI (gb_cnt (fun p => b p = sd ∧ gx_lst n (fun q => nI (b q)) p) (n * n)) ∧ xS_S D h' o T n fs b m bd pt tb tw ∧ xL_F h h' sz o ∧ sz ≤ sz')) :=
  xa_M_w (c_SB_strings hS hsd) (fun v h' sz' hq => by
    obtain ⟨e1, e2, e3⟩ := hq
    exact ⟨_, e1, rfl, by rw [e2]; exact hS, fun q _ _ => by rw [e2], by omega⟩)
theorem e_ground {sd : Nat} (hS : xS_S D h o T n fs b m bd pt tb tw) (hsd : sd ≤ 2) :
    xa_M l D H0 M_SB_ground 7 109 0 0 [.ref o, .int (nI sd)] h sz (fun v h' sz' => ∃ x, v = some (.int x) ∧ (x = nI (gb_cnt (fun p => gx_own n b p = sd) (n * n)) ∧ xS_S D h' o T n fs b m bd pt tb tw ∧ xL_F h h' sz o ∧ sz ≤ sz')) :=
  xa_M_w (c_SB_ground hS hsd) (fun v h' sz' hq => by
    obtain ⟨e1, e2, e3⟩ := hq
    exact ⟨_, e1, rfl, by rw [e2]; exact hS, fun q _ _ => by rw [e2], by omega⟩)
theorem e_owner {p : Nat} (hS : xS_S D h o T n fs b m bd pt tb tw) (hI : xS_I n fs b m bd) (hp : p < n * n) :
    xa_M l D H0 M_SB_owner 7 110 0 0 [.ref o, .int (nI p)] h sz (fun v h' sz' => ∃ x, v = some (.int x) ∧ (x = nI (gx_own n b p) ∧ xS_S D h' o T n fs b m bd pt tb tw ∧ xL_F h h' sz o ∧ sz ≤ sz')) :=
  xa_M_w (c_SB_owner hS hI hp) (fun v h' sz' hq => by
    obtain ⟨e1, e2, e3⟩ := hq
    exact ⟨_, e1, rfl, by rw [e2]; exact hS, fun q _ _ => by rw [e2], by omega⟩)
theorem e_string {p w : Nat} (hS : xS_S D h o T n fs b m bd pt tb tw) (hI : xS_I n fs b m bd) (hp : p < n * n) (hw : w ≤ 3) :
    xa_M l D H0 M_SB_string 7 110 0 0 [.ref o, .int (nI p), .int (nI w)] h sz (fun v h' sz' => ∃ x, v = some (.int x) ∧ (gx_str n b p w x ∧ xS_S D h' o T n fs b m bd pt tb tw ∧ xL_F h h' sz o ∧ sz ≤ sz')) :=
  xa_M_w (c_SB_string hS hI hp hw) (fun v h' sz' hq => by
    obtain ⟨⟨x, e1, hx⟩, e2, e3⟩ := hq
    exact ⟨x, e1, hx, by rw [e2]; exact hS, fun q _ _ => by rw [e2], by omega⟩)
theorem e_why {p : Nat} (hS : xS_S D h o T n fs b m bd pt tb tw) (hI : xS_I n fs b m bd) (hT : o + 28 ≤ T) (hp : p < n * n) :
    xa_M l D H0 M_SB_why 7 135 0 0 [.ref o, .int (nI p)] h sz (fun v h' sz' => ∃ x, v = some (.int x) ∧ ((∃ j, x = nI j ∧ gx_why D h' o n fs b m bd pt p j) ∧ xS_S D h' o T n fs b m bd pt tb tw ∧ xL_F h h' sz o ∧ sz ≤ sz')) :=
  xa_M_w (c_SB_why hS hI hT hp) (fun v h' sz' hq => by
    obtain ⟨⟨j, e1, hw⟩, hS', hf, e3⟩ := hq
    exact ⟨nI j, e1, ⟨j, rfl, hw⟩, hS', fun q _ hq => hf q (by omega) (by omega), by omega⟩)
theorem e_allowed (hS : xS_S D h o T n fs b m bd pt tb tw) (hI : xS_I n fs b m bd) (hT : o + 28 ≤ T) :
    xa_M l D H0 M_SB_allowed 6 135 0 0 [.ref o] h sz (fun v h' sz' => ∃ x, v = some (.int x) ∧ (x = nI (gb_cnt (gx_ok n fs b m bd pt) (n * n)) ∧ xS_S D h' o T n fs b m bd pt tb tw ∧ xL_F h h' sz o ∧ sz ≤ sz')) :=
  xa_M_w (c_SB_allowed hS hI hT) (fun v h' sz' hq => by
    obtain ⟨e1, hS', hf, e3⟩ := hq
    exact ⟨_, e1, rfl, hS', fun q _ hq => hf q (by omega) (by omega), by omega⟩)
theorem e_ago {p : Nat} (hS : xS_S D h o T n fs b m bd pt tb tw) (hI : xS_I n fs b m bd) (hT : o + 28 ≤ T) (hp : p < n * n) :
    xa_M l D H0 M_SB_ago 7 114 0 0 [.ref o, .int (nI p)] h sz (fun v h' sz' => ∃ x, v = some (.int x) ∧ (((b p ≠ 0 ∧ x = -1) ∨ (b p = 0 ∧ ∃ (t : Nat → Nat) (k ls : Nat), gq_T n b p (gx_turn fs m) t k ls ∧ ((x = -1 ∧ ∀ j, j ≤ m → ¬ gx_same (n * n) (bd j) t) ∨ ∃ j, j ≤ m ∧ x = nI (m - j) ∧ gx_same (n * n) (bd j) t ∧ ∀ j', j < j' → j' ≤ m → ¬ gx_same (n * n) (bd j') t))) ∧ xS_S D h' o T n fs b m bd pt tb tw ∧ xL_F h h' sz o ∧ sz ≤ sz')) :=
  xa_M_w (c_SB_ago hS hI hT hp) (fun v h' sz' hq => by
    obtain ⟨hv, hS', hf, e3⟩ := hq
    have hF : xL_F h h' sz o := fun q _ hq => hf q (by omega) (by omega)
    rcases hv with ⟨h0, e1⟩ | ⟨h0, t, k, ls, hT, ⟨e1, hno⟩ | ⟨j, hj, e1, hs⟩⟩
    · exact ⟨_, e1, Or.inl ⟨h0, rfl⟩, hS', hF, by omega⟩
    · exact ⟨_, e1, Or.inr ⟨h0, t, k, ls, hT, Or.inl ⟨rfl, hno⟩⟩, hS', hF, by omega⟩
    · exact ⟨_, e1, Or.inr ⟨h0, t, k, ls, hT, Or.inr ⟨j, hj, rfl, hs⟩⟩, hS', hF, by omega⟩)
theorem e_safe {sd : Nat} (hS : xS_S D h o T n fs b m bd pt tb tw) (hT : o + 28 ≤ T) (hsd : sd = 1 ∨ sd = 2) :
    xa_M l D H0 M_SB_safe 7 116 0 0 [.ref o, .int (nI sd)] h sz (fun v h' sz' => ∃ x, v = some (.int x) ∧ (x = nI (gl_safe n (gl_k b sd)) ∧ xS_S D h' o T n fs b m bd pt tb tw ∧ xL_F h h' sz o ∧ sz ≤ sz')) :=
  xa_M_w (c_SB_safe hS hT hsd) (fun v h' sz' hq => by
    obtain ⟨e1, hS', hf, e3⟩ := hq
    exact ⟨_, e1, rfl, hS', fun q _ hq => hf q hq, by omega⟩)
theorem e_back (hS : xS_S D h o T n fs b (m + 1) bd pt tb tw) (hI : xS_I n fs b (m + 1) bd) (hT : o + 28 ≤ T ∧ T ≤ sz) :
    xa_M l D H0 M_SB_back 6 113 0 0 [.ref o] h sz (fun v h' sz' => ∃ x, v = some (.int x) ∧ (x = nI m ∧ xS_S D h' o T n fs (bd m) m bd pt tb tw ∧ xL_F h h' sz o ∧ sz ≤ sz')) :=
  xa_M_w (c_SB_back hS hI hT) (fun v h' sz' hq => by
    obtain ⟨e1, hS', hf, e3⟩ := hq
    exact ⟨_, e1, rfl, hS', hf, e3⟩)
theorem e_play {p : Nat} (hS : xS_S D h o T n fs b m bd pt tb tw) (hI : xS_I n fs b m bd) (hT : o + 28 ≤ T ∧ T ≤ sz) (hp : p < n * n) (hok : gx_ok n fs b m bd pt p) :
    xa_M l D H0 M_SB_play 7 135 2 13 [.ref o, .int (nI p)] h sz (fun v h' sz' => ∃ x, v = some (.int x) ∧ ((∃ (t : Nat → Nat) (k ls : Nat), gq_T n b p (gx_turn fs m) t k ls ∧ x = nI k ∧ xS_S D h' o T n fs t (m + 1) (xh_up bd (m + 1) t) (xh_up pt (m + 1) (nI p)) (xh_up tb (m + 1) (tb m + if ls = 1 then k else 0)) (xh_up tw (m + 1) (tw m + if ls = 2 then k else 0))) ∧ xL_F h h' sz o ∧ sz ≤ sz')) :=
  xa_M_w (c_SB_play hS hI hT hp hok) (fun v h' sz' hq => by
    obtain ⟨⟨t, k, ls, hT, e1, hS'⟩, hf, e3⟩ := hq
    exact ⟨_, e1, ⟨t, k, ls, hT, rfl, hS'⟩, hf, e3⟩)
theorem e_pass (hS : xS_S D h o T n fs b m bd pt tb tw) (hI : xS_I n fs b m bd) (hT : o + 28 ≤ T ∧ T ≤ sz) (hend : ¬ gx_end pt m) :
    xa_M l D H0 M_SB_pass 7 109 1 7 [.ref o] h sz (fun v h' sz' => ∃ x, x ≤ 1 ∧ v = some (.int (nI x)) ∧ (((x = 1 ∧ gx_end (xh_up pt (m + 1) (-1)) (m + 1)) ∨ (x = 0 ∧ ¬ gx_end (xh_up pt (m + 1) (-1)) (m + 1))) ∧ xS_S D h' o T n fs b (m + 1) (xh_up bd (m + 1) (bd m)) (xh_up pt (m + 1) (-1)) (xh_up tb (m + 1) (tb m)) (xh_up tw (m + 1) (tw m)) ∧ xL_F h h' sz o ∧ sz ≤ sz')) :=
  xa_M_w (c_SB_pass hS hI hT hend) (fun v h' sz' hq => by
    obtain ⟨hv, hS', hf, e3⟩ := hq
    rcases hv with ⟨e1, he⟩ | ⟨e1, he⟩
    · exact ⟨1, by omega, e1, Or.inl ⟨rfl, he⟩, hS', hf, e3⟩
    · exact ⟨0, by omega, e1, Or.inr ⟨rfl, he⟩, hS', hf, e3⟩)
theorem e_alive {p : Nat} (hS : xS_S D h o T n fs b m bd pt tb tw) (hI : xS_I n fs b m bd) (hT : o + 28 ≤ T) (hp : p < n * n) :
    xa_M l D H0 M_SB_alive 7 116 0 0 [.ref o, .int (nI p)] h sz (fun v h' sz' => ∃ x, x ≤ 1 ∧ v = some (.int (nI x)) ∧ (((x = 1 ∧ b p ≠ 0 ∧ gl_al n (gl_k b (b p)) p) ∨ (x = 0 ∧ ¬ (b p ≠ 0 ∧ gl_al n (gl_k b (b p)) p))) ∧ xS_S D h' o T n fs b m bd pt tb tw ∧ xL_F h h' sz o ∧ sz ≤ sz')) :=
  xa_M_w (c_SB_alive hS hI hT hp) (fun v h' sz' hq => by
    obtain ⟨hv, hS', hf, e3⟩ := hq
    rcases hv with ⟨e1, he⟩ | ⟨e1, he⟩
    · exact ⟨1, by omega, e1, Or.inl ⟨rfl, he⟩, hS', fun q _ hq => hf q hq, by omega⟩
    · exact ⟨0, by omega, e1, Or.inr ⟨rfl, he⟩, hS', fun q _ hq => hf q hq, by omega⟩)
theorem e_put {p k : Nat} (hS : xS_S D h o T n fs b 0 bd pt tb tw) (hI : xS_I n fs b 0 bd) (hT : o + 28 ≤ T ∧ T ≤ sz) (hp : p < n * n) (hk : k ≤ 2) :
    xa_M l D H0 M_SB_put 7 110 2 13 [.ref o, .int (nI p), .int (nI k)] h sz (fun v h' sz' => ∃ x, x ≤ 1 ∧ v = some (.int (nI x)) ∧ (((x = 1 ∧ gx_br n (fun q => if q = p then k else b q) ∧ xS_S D h' o T n fs (fun q => if q = p then k else b q) 0 (xh_up bd 0 (fun x => if x = p then k else bd 0 x)) (xh_up pt 0 (-2)) (xh_up tb 0 0) (xh_up tw 0 0)) ∨ (x = 0 ∧ ¬ gx_br n (fun q => if q = p then k else b q) ∧ xS_S D h' o T n fs b 0 bd pt tb tw)) ∧ xL_F h h' sz o ∧ sz ≤ sz')) :=
  xa_M_w (c_SB_put hS hI hT hp hk) (fun v h' sz' hq => by
    obtain ⟨hv, hf, e3⟩ := hq
    rcases hv with ⟨e1, he⟩ | ⟨e1, he⟩
    · exact ⟨1, by omega, e1, Or.inl ⟨rfl, he⟩, hf, e3⟩
    · exact ⟨0, by omega, e1, Or.inr ⟨rfl, he⟩, hf, e3⟩)
theorem e_first {sd : Nat} (hS : xS_S D h o T n fs b m bd pt tb tw) (hT : o + 28 ≤ T) (hm : m = 0) (hsd : sd = 1 ∨ sd = 2) :
    xa_M l D H0 M_SB_first 7 109 0 0 [.ref o, .int (nI sd)] h sz (fun v h' sz' => v = none ∧ (xS_S D h' o T n sd b m bd pt tb tw ∧ xL_F h h' sz o ∧ sz ≤ sz')) :=
  xa_M_w (c_SB_first hS hT hm hsd) (fun v h' sz' hq => by
    obtain ⟨e1, hS', hf, e3⟩ := hq
    exact ⟨e1, hS', fun q _ hq => hf q (by omega), by omega⟩)
/-- the game behind a move -/
theorem xZ_I.play {p k ls : Nat} {t : Nat → Nat} (hZ : xZ_I n fs b m bd pt tb tw) (hm : m < 1000) (hp : p < n * n) (hok : gx_ok n fs b m bd pt p) (hT : gq_T n b p (gx_turn fs m) t k ls) : xZ_I n fs t (m + 1) (xh_up bd (m + 1) t) (xh_up pt (m + 1) (nI p)) (xh_up tb (m + 1) (tb m + if ls = 1 then k else 0)) (xh_up tw (m + 1) (tw m + if ls = 2 then k else 0)) := by
  have hbr := gq_T_br hp hok.2.1 (gx_turn_or hZ.1.2.1) hZ.b2 hZ.br hT
  have hle := (gq_T_le hZ.b2 (gx_turn_or hZ.1.2.1) hT).1
  obtain ⟨⟨z1, z2, z3⟩, z4, z5, z6, ⟨z7, z8⟩, z9, z10⟩ := hZ
  refine ⟨⟨z1, z2, by omega⟩, fun q hq => by rw [xh_up_eq], fun i hi q hq => ?_, fun i hi => ?_, ⟨by rw [xh_up_ne _ _ (by omega)]; exact z7, fun i h1 h2 => ?_⟩, by rw [xh_up_ne _ _ (by omega)]; exact z9, by rw [xh_up_ne _ _ (by omega)]; exact z10⟩
  · by_cases he : i = m + 1
    · rw [he, xh_up_eq]; exact hle q hq
    · rw [xh_up_ne _ _ he]; exact z5 i (by omega) q hq
  · by_cases he : i = m + 1
    · rw [he, xh_up_eq]; exact hbr
    · rw [xh_up_ne _ _ he]; exact z6 i (by omega)
  · by_cases he : i = m + 1
    · rw [he, xh_up_eq]; exact Or.inr ⟨p, hp, rfl⟩
    · rw [xh_up_ne _ _ he]; exact z8 i h1 (by omega)
theorem xZ_I.pass (hZ : xZ_I n fs b m bd pt tb tw) (hm : m < 1000) : xZ_I n fs b (m + 1) (xh_up bd (m + 1) (bd m)) (xh_up pt (m + 1) (-1)) (xh_up tb (m + 1) (tb m)) (xh_up tw (m + 1) (tw m)) := by
  obtain ⟨⟨z1, z2, z3⟩, z4, z5, z6, ⟨z7, z8⟩, z9, z10⟩ := hZ
  refine ⟨⟨z1, z2, by omega⟩, fun q hq => by rw [xh_up_eq]; exact z4 q hq, fun i hi q hq => ?_, fun i hi => ?_, ⟨by rw [xh_up_ne _ _ (by omega)]; exact z7, fun i h1 h2 => ?_⟩, by rw [xh_up_ne _ _ (by omega)]; exact z9, by rw [xh_up_ne _ _ (by omega)]; exact z10⟩
  · by_cases he : i = m + 1
    · rw [he, xh_up_eq]; exact z5 m (by omega) q hq
    · rw [xh_up_ne _ _ he]; exact z5 i (by omega) q hq
  · by_cases he : i = m + 1
    · rw [he, xh_up_eq]; exact z6 m (by omega)
    · rw [xh_up_ne _ _ he]; exact z6 i (by omega)
  · by_cases he : i = m + 1
    · rw [he, xh_up_eq]; exact Or.inl rfl
    · rw [xh_up_ne _ _ he]; exact z8 i h1 (by omega)
theorem xZ_I.back (hZ : xZ_I n fs b (m + 1) bd pt tb tw) : xZ_I n fs (bd m) m bd pt tb tw := by
  obtain ⟨⟨z1, z2, z3⟩, z4, z5, z6, ⟨z7, z8⟩, z9, z10⟩ := hZ
  exact ⟨⟨z1, z2, by omega⟩, fun q hq => rfl, fun i hi => z5 i (by omega), fun i hi => z6 i (by omega), ⟨z7, fun i h1 h2 => z8 i h1 (by omega)⟩, z9, z10⟩
theorem xZ_I.put {p k : Nat} (hZ : xZ_I n fs b 0 bd pt tb tw) (hp : p < n * n) (hk : k ≤ 2) (hbr : gx_br n (fun q => if q = p then k else b q)) : xZ_I n fs (fun q => if q = p then k else b q) 0 (xh_up bd 0 (fun x => if x = p then k else bd 0 x)) (xh_up pt 0 (-2)) (xh_up tb 0 0) (xh_up tw 0 0) := by
  obtain ⟨⟨z1, z2, z3⟩, z4, z5, z6, ⟨z7, z8⟩, z9, z10⟩ := hZ
  have e0 : ∀ q, q < n * n → (if q = p then k else bd 0 q) = (if q = p then k else b q) := fun q hq => by rw [z4 q hq]
  refine ⟨⟨z1, z2, z3⟩, fun q hq => by rw [xh_up_eq]; exact e0 q hq, fun i hi q hq => ?_, fun i hi => ?_, ⟨xh_up_eq _ _ _, fun i h1 h2 => by omega⟩, xh_up_eq _ _ _, xh_up_eq _ _ _⟩
  · have hi0 : i = 0 := by omega
    subst hi0
    rw [xh_up_eq]
    show (if q = p then k else bd 0 q) ≤ 2
    split
    · exact hk
    · exact z5 0 (by omega) q hq
  · have hi0 : i = 0 := by omega
    subst hi0
    rw [xh_up_eq]
    exact gx_br_same (fun q hq => (e0 q hq).symm) hbr
theorem xZ_I.first {sd : Nat} (hZ : xZ_I n fs b m bd pt tb tw) (hsd : sd = 1 ∨ sd = 2) : xZ_I n sd b m bd pt tb tw := ⟨⟨hZ.1.1, hsd, hZ.1.2.2⟩, hZ.2⟩
theorem lg_cmp_self (x : Int64) : lg_cmp x x = 0 := by
  unfold lg_cmp
  simp
end LU
