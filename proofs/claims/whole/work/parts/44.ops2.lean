theorem and_not1 : ∀ s, s < 256 → ∀ x, x < 256 → nI s &&& ((nI s &&& nI x) ^^^ (-1)) = nI s - (nI s &&& nI x) := by decide +kernel
theorem op_clear {σ μ : St} {n : Nat} (h : RR σ μ n) (x : Int32) : (f_clear σ x).1 = (g_clear μ x).1 ∧ RR (f_clear σ x).2 (g_clear μ x).2 n := by
  unfold f_clear g_clear
  rw [show f_isBitSet x = f_isIn x 0 255 from rfl]
  by_cases c0 : f_isIn x 0 255 = 0
  · rw [if_pos c0, if_pos c0]; exact ⟨rfl, h⟩
  · rw [if_neg c0, if_neg c0]
    obtain ⟨j, hj, rfl⟩ := isIn_in (n := 255) (by decide) c0
    obtain ⟨e3, s, hs, es⟩ := h.2.2.1
    rw [h.1.rS]
    obtain ⟨m, hm, em⟩ := and_lt hs (nI j)
    rw [es, em]
    obtain ⟨r, e2⟩ := sim_clr (c := nI m) hm rfl 8 0 (by decide) h
    rw [es] at e2
    refine ⟨rfl, ?_⟩
    dsimp only
    generalize clrL (nI m) 8 0 σ = L at r ⊢
    generalize clrM (nI m) 8 0 μ = M at r e2 ⊢
    obtain ⟨hR, hI, hO, h5, h4⟩ := r
    have e4 : nI s &&& (nI m ^^^ (-1)) = nI s - nI m := by rw [← em]; exact and_not1 s hs j hj
    rw [hR.rS, e2, e4]
    have hle : m ≤ s := by
      have q : nI (s &&& j) = nI m := by rw [← em]; exact (nx_and s j).symm
      have q2 := (nI_eq (a := s &&& j) (b := m) (by have := Nat.and_le_left (n := s) (m := j); omega) (by omega)).mp q
      rw [← q2]; exact Nat.and_le_left
    exact ⟨hR.S _, hI.other (by decide) (by decide) (by decide) (by decide) (by decide) (by decide), ok_status hO (r := s - m) (by omega) (by rw [pk_sub hle]), h5, h4⟩
theorem op_advance {σ μ : St} {n : Nat} (h : RR σ μ n) (hn : n + 80000 < 2 ^ 30) (x : Int32) : (f_advance σ x).1 = (g_advance μ x).1 ∧ ∃ n', n' ≤ n + 80000 ∧ RR (f_advance σ x).2 (g_advance μ x).2 n' := by
  unfold f_advance g_advance
  rw [show f_isTickCount x = f_isIn x 0 20000 from rfl]
  by_cases c0 : f_isIn x 0 20000 = 0
  · rw [if_pos c0, if_pos c0]; exact ⟨rfl, n, Nat.le_add_right _ _, h⟩
  · rw [if_neg c0, if_neg c0]
    obtain ⟨j, hj, rfl⟩ := isIn_in (n := 20000) (by decide) c0
    rw [nI_clamp (by omega)]
    obtain ⟨n', a, b, e, r⟩ := sim_adv j 0 (by omega) h
    generalize advL j 0 σ = q at e r ⊢
    generalize advM j μ = M at r ⊢
    refine ⟨?_, n', by omega, r⟩
    dsimp only
    rw [e, r.2.2.1.1, h.2.2.1.1, pk_sub a]
    exact Int32.zero_add _
theorem op_next {σ μ : St} {n : Nat} (h : RR σ μ n) (hn : n + 80000 < 2 ^ 30) (x : Int32) : (f_next σ x).1 = (g_next μ x).1 ∧ ∃ n', n' ≤ n + 80000 ∧ RR (f_next σ x).2 (g_next μ x).2 n' := by
  unfold f_next g_next
  rw [show f_isTickCount x = f_isIn x 0 20000 from rfl]
  by_cases c0 : f_isIn x 0 20000 = 0
  · rw [if_pos c0, if_pos c0]; exact ⟨rfl, n, Nat.le_add_right _ _, h⟩
  · rw [if_neg c0, if_neg c0]
    obtain ⟨j, hj, rfl⟩ := isIn_in (n := 20000) (by decide) c0
    rw [nI_clamp (by omega)]
    obtain ⟨e, n', a, b, r⟩ := sim_nxt j 0 (by omega) h (B := μ 0 3) h.2.2.1.1
    rw [Nat.zero_add] at e r
    exact ⟨e, n', by omega, r⟩
theorem op_timer {σ μ : St} {n : Nat} (h : RR σ μ n) (t w : Int32) : f_timer σ t w = g_timer μ t w := by
  unfold f_timer g_timer
  rw [isTimer_isIn]
  by_cases c0 : f_isIn t 0 7 = 0
  · rw [if_pos c0, if_pos c0]
  · rw [if_neg c0, if_neg c0]
    obtain ⟨j, hj, rfl⟩ := isIn_in (n := 7) (by decide) c0
    rw [nI_clamp (by omega)]
    unfold f_Tread g_Tread
    rw [show σ (5 + j) 1 = μ 5 j from h.1.rT hj (k := 1) (by decide), show σ (5 + j) 0 = μ 4 j from h.1.rT hj (k := 0) (by decide), show σ (5 + j) 2 = μ 6 j from h.1.rT hj (k := 2) (by decide), show σ (5 + j) 4 = μ 8 j from h.1.rT hj (k := 4) (by decide), show σ (5 + j) 3 = μ 7 j from h.1.rT hj (k := 3) (by decide),
      show σ (5 + j) 5 = μ 9 (4 * j) from h.1.rO hj (c := 0) (by decide), show σ (5 + j) 6 = μ 9 (4 * j + 1) from h.1.rO hj (c := 1) (by decide), show σ (5 + j) 7 = μ 9 (4 * j + 2) from h.1.rO hj (c := 2) (by decide), show σ (5 + j) 8 = μ 9 (4 * j + 3) from h.1.rO hj (c := 3) (by decide)]
theorem op_gateOf {σ μ : St} {n : Nat} (h : RR σ μ n) (g w : Int32) : f_gateOf σ g w = g_gateOf μ g w := by
  unfold f_gateOf g_gateOf
  rw [isGate_isIn]
  by_cases c0 : f_isIn g 0 3 = 0
  · rw [if_pos c0, if_pos c0]
  · rw [if_neg c0, if_neg c0]
    obtain ⟨j, hj, rfl⟩ := isIn_in (n := 3) (by decide) c0
    rw [nI_clamp (by omega)]
    unfold f_Gread g_Gread
    rw [asks_eq h.1 hj, show σ (13 + j) 2 = μ 12 j from h.1.rG hj (k := 2) (by decide), show σ (13 + j) 0 = μ 10 j from h.1.rG hj (k := 0) (by decide), show σ (13 + j) 1 = μ 11 j from h.1.rG hj (k := 1) (by decide), show σ (13 + j) 3 = μ 14 j from h.1.rG' hj (k := 3) (by decide) (by decide), show σ (13 + j) 4 = μ 15 j from h.1.rG' hj (k := 4) (by decide) (by decide), show σ (13 + j) 5 = μ 16 j from h.1.rG' hj (k := 5) (by decide) (by decide)]
theorem sim_tn {σ μ : St} {n : Nat} (h : RR σ μ n) : ∀ (k t : Nat) (x : Int32), t + k ≤ 8 → tnL σ k t x = mnL μ k t x := by
  intro k
  induction k with
  | zero => intro t x _; rfl
  | succ k ih =>
    intro t x h8
    have ht : t < 8 := by omega
    rw [tnL, mnL]
    have e : stN σ t x = smN μ t x := by
      unfold stN smN
      rw [show σ (5 + t) 1 = μ 5 t from h.1.rT ht (k := 1) (by decide), show σ (5 + t) 2 = μ 6 t from h.1.rT ht (k := 2) (by decide), show σ (5 + t) 4 = μ 8 t from h.1.rT ht (k := 4) (by decide)]
    rw [e]
    exact ih (t + 1) _ (by omega)
theorem op_look {σ μ : St} {n : Nat} (h : RR σ μ n) (w : Int32) : f_look σ w = g_look μ w := by
  unfold f_look g_look
  rw [h.1.rS, h.1.rN, h.1.rC, sim_tn h 8 0 0 (by decide)]
