/-! pure rows about the reference's functions (nx_and, wb_of32: starting texts of the kit's BITS) -/
theorem nx_and (a b : Nat) : nI a &&& nI b = nI (a &&& b) := by
  apply Int32.toBitVec_inj.1
  show BitVec.ofNat 32 a &&& BitVec.ofNat 32 b = BitVec.ofNat 32 (a &&& b)
  apply BitVec.eq_of_getLsbD_eq
  intro i hi
  simp [hi]
theorem wb_of32 (x : Int32) : ∃ n, n < 2 ^ 32 ∧ x = nI n := ⟨x.toBitVec.toNat, x.toBitVec.isLt, Int32.toBitVec_inj.mp (by show _ = BitVec.ofNat 32 _; simp)⟩
theorem and_lt {s : Nat} (hs : s < 256) (k : Int32) : ∃ m, m < 256 ∧ nI s &&& k = nI m := by
  obtain ⟨q, -, rfl⟩ := wb_of32 k
  exact ⟨s &&& q, Nat.lt_of_le_of_lt Nat.and_le_left hs, nx_and s q⟩
theorem isIn_in {t : Int32} {n : Nat} (hn : n < 2 ^ 30) (h : ¬ f_isIn t 0 (nI n) = 0) : ∃ j : Nat, j < n + 1 ∧ t = nI j := by
  unfold f_isIn at h
  by_cases h1 : t < 0
  · rw [if_pos h1] at h; exact absurd rfl h
  · rw [if_neg h1] at h
    by_cases h2 : nI n < t
    · rw [if_pos h2] at h; exact absurd rfl h
    · refine in_of (by omega) h1 (fun h3 => h2 ?_)
      rw [Int32.le_iff_toInt_le, nI_toInt (by omega)] at h3
      rw [Int32.lt_iff_toInt_lt, nI_toInt (by omega)]
      omega
theorem lo8_all : ∀ m, m < 256 → (∀ i, i < 8 → nI m &&& bit1 (nI i) = 0) → m = 0 := by decide +kernel
theorem lb_hit0 : ∀ m, m < 256 → m ≠ 0 → ¬ nI m &&& bit1 (nI (lbN (nI m) 7 0)) = 0 := by decide +kernel
theorem sub_bit0 : ∀ s, s < 256 → ∀ t, t < 8 → ¬ nI s &&& bit1 (nI t) = 0 → 2 ^ t ≤ s ∧ nI s - bit1 (nI t) = nI (s - 2 ^ t) := by decide +kernel
theorem or_bit0 : ∀ s, s < 256 → ∀ t, t < 8 → (s ||| 2 ^ t) < 256 ∧ nI s ||| bit1 (nI t) = nI (s ||| 2 ^ t) := by decide +kernel
theorem ne0_of {m : Nat} (h : ¬ nI m = 0) : m ≠ 0 := fun e => h (by rw [e]; rfl)
def mOK (μ : St) (n : Nat) : Prop := μ 0 3 = nI n ∧ ∃ s : Nat, s < 256 ∧ μ 0 2 = nI s
theorem mOK_nn {μ : St} {n : Nat} (h : mOK μ n) (hn : n < 2 ^ 30) : nn μ = n := by unfold nn; rw [h.1]; exact nI_clamp (by omega)
/-- the least bit that the loop finds -/
theorem lb_last {μ : St} {n g : Nat} (h : mOK μ n) (hz : ¬ g_asks μ g = 0) (h7 : ∀ i, i < 7 → (μ 0 2 &&& μ 10 g) &&& bit1 (nI i) = 0) : ¬ (μ 0 2 &&& μ 10 g) &&& bit1 (nI 7) = 0 := by
  intro h8
  obtain ⟨-, s, hs, e⟩ := h
  unfold g_asks at hz
  rw [e] at hz h7 h8
  obtain ⟨m, hm, e2⟩ := and_lt hs (μ 10 g)
  rw [e2] at hz h7 h8
  have h0 : m = 0 := lo8_all m hm (fun i hi => by
    rcases Nat.lt_or_ge i 7 with q | q
    · exact h7 i q
    · rw [show i = 7 by omega]; exact h8)
  subst h0
  exact hz rfl
theorem lb_lastk {μ : St} {n g k : Nat} (h : mOK μ n) (hz : ¬ g_asks μ g = 0) (hk : k + 0 = 7) (h7 : ∀ i, i < k → (μ 0 2 &&& μ 10 g) &&& bit1 (nI i) = 0) : ¬ (μ 0 2 &&& μ 10 g) &&& bit1 (nI k) = 0 := by
  have e : k = 7 := hk
  subst e
  exact lb_last h hz h7
theorem lb_hit {μ : St} {n g : Nat} (h : mOK μ n) (hz : ¬ g_asks μ g = 0) : ¬ μ 0 2 &&& bit1 (nI (lbN (μ 0 2 &&& μ 10 g) 7 0)) = 0 := by
  obtain ⟨-, s, hs, e⟩ := h
  unfold g_asks at hz
  rw [e] at hz ⊢
  obtain ⟨m, hm, e2⟩ := and_lt hs (μ 10 g)
  rw [e2] at hz ⊢
  have hm0 : m ≠ 0 := by intro h; subst h; exact hz rfl
  have h1 := lb_hit0 m hm hm0
  intro h2
  apply h1
  generalize bit1 (nI (lbN (nI m) 7 0)) = B at h2 ⊢
  rw [← e2]
  obtain ⟨q, -, eq⟩ := wb_of32 (μ 10 g)
  obtain ⟨r, -, er⟩ := wb_of32 B
  rw [er] at h2 ⊢
  rw [eq, nx_and, nx_and, Nat.and_assoc, Nat.and_comm q r, ← Nat.and_assoc, ← nx_and, ← nx_and, h2]
  rw [show (0 : Int32) = nI 0 from rfl, nx_and]; simp
theorem ok_other {μ : St} {n i k : Nat} {v : Int32} (h : mOK μ n) (hi : i ≠ 0) : mOK (up2 μ i k v) n := by
  unfold mOK; rw [up2_n _ _ _ (Ne.symm hi)]; exact h
theorem ok_now {μ : St} {n : Nat} {v : Int32} (h : mOK μ n) : mOK (up2 μ 0 1 v) n := h
theorem ok_status {μ : St} {n r : Nat} {v : Int32} (h : mOK μ n) (hr : r < 256) (e : v = nI r) : mOK (up2 μ 0 2 v) n := ⟨h.1, r, hr, e⟩
theorem end_ok {μ : St} {n t : Nat} {r : Int32} (ht : t < 8) (h : mOK μ n) : mOK (g_end μ t r) n := by
  obtain ⟨h1, s, hs, e⟩ := h
  have h2 := or_bit0 s hs t ht
  exact ⟨h1, s ||| 2 ^ t, h2.1, by rw [← h2.2, ← e]; rfl⟩
theorem event_ok {μ : St} {n t : Nat} (ht : t < 8) (h : mOK μ n) : mOK (g_event μ t).2 n := by
  unfold g_event
  split
  · exact h
  · split
    · split
      · exact end_ok ht h
      · exact end_ok ht h
    · exact ok_other h (by decide)
theorem smT_ok {μ : St} {n t : Nat} {e : Int32} (ht : t < 8) (h : mOK μ n) : mOK (smT e t μ).2 n := by
  have h1 := event_ok ht h
  unfold smT
  split
  · split
    · exact h1
    · exact h1
  · split
    · exact h
    · split
      · exact h1
      · exact h1
theorem mkT_ok : ∀ (k t : Nat) (e : Int32) {μ : St} {n : Nat}, t + k ≤ 8 → mOK μ n → mOK (mkT k t e μ) n
  | 0, _, _, _, _, _, h => h
  | k + 1, t, _, _, _, h8, h => mkT_ok k (t + 1) _ (by omega) (smT_ok (by omega) h)
theorem serve_ok {μ : St} {n g : Nat} (h : mOK μ n) : ∃ n', n ≤ n' ∧ n' ≤ n + 1 ∧ mOK (g_serve μ g) n' := by
  by_cases hz : g_asks μ g = 0
  · refine ⟨n, Nat.le_refl n, Nat.le_succ n, ?_⟩
    unfold g_serve; rw [if_pos hz]
    exact ok_other h (by decide)
  · refine ⟨n + 1, Nat.le_succ n, Nat.le_refl _, ?_⟩
    have h1 := lb_hit h hz
    unfold g_serve; rw [if_neg hz]
    have h8 := lbN_lt (μ 0 2 &&& μ 10 g) 7 0 (by decide)
    generalize lbN (μ 0 2 &&& μ 10 g) 7 0 = t at h1 h8
    obtain ⟨e3, s, hs, e⟩ := h
    rw [e] at h1
    have h2 := sub_bit0 s hs t h8 h1
    refine ⟨?_, s - 2 ^ t, Nat.lt_of_le_of_lt (Nat.sub_le _ _) hs, ?_⟩
    · show μ 0 3 + 1 = nI (n + 1)
      rw [e3, nI_1]
    · show μ 0 2 - bit1 (nI t) = _
      rw [e, h2.2]
theorem dn_ok {μ : St} {n g : Nat} {d : Int32} (h : mOK μ n) : mOK (g_dn μ g d) n := by
  unfold g_dn
  dsimp only
  split
  · exact ok_other h (by decide)
  · exact ok_other (ok_other h (by decide)) (by decide)
theorem smG_ok {μ : St} {n g : Nat} (h : mOK μ n) : ∃ n', n ≤ n' ∧ n' ≤ n + 1 ∧ mOK (smG g μ) n' := by
  unfold smG
  split
  · split
    · exact ⟨n, Nat.le_refl n, Nat.le_succ n, dn_ok h⟩
    · exact serve_ok (dn_ok h)
  · split
    · exact ⟨n, Nat.le_refl n, Nat.le_succ n, dn_ok h⟩
    · exact serve_ok (dn_ok h)
theorem mkG_ok : ∀ (k g : Nat) {μ : St} {n : Nat}, mOK μ n → ∃ n', n ≤ n' ∧ n' ≤ n + k ∧ mOK (mkG k g μ) n'
  | 0, _, _, n, h => ⟨n, Nat.le_refl n, Nat.le_refl n, h⟩
  | k + 1, g, _, n, h => by
    obtain ⟨n1, a1, b1, h1⟩ := smG_ok (g := g) h
    obtain ⟨n2, a2, b2, h2⟩ := mkG_ok k (g + 1) h1
    exact ⟨n2, by omega, by omega, h2⟩
theorem smW_ok {μ : St} {n g : Nat} (h : mOK μ n) : mOK (smW g μ) n := by
  unfold smW
  split
  · split
    · exact h
    · exact ok_other h (by decide)
  · exact h
theorem mkW_ok : ∀ (k g : Nat) {μ : St} {n : Nat}, mOK μ n → mOK (mkW k g μ) n
  | 0, _, _, _, h => h
  | k + 1, g, _, _, h => mkW_ok k (g + 1) (smW_ok h)
theorem tick_ok0 {μ : St} {n : Nat} (h : mOK μ n) : mOK (mkT 8 0 0 (up2 μ 0 1 (μ 0 1 + 1))) n := mkT_ok 8 0 0 (by decide) (ok_now h)
theorem tick_ok {μ : St} {n : Nat} (h : mOK μ n) : ∃ n', n ≤ n' ∧ n' ≤ n + 4 ∧ mOK (g_tick μ) n' := by
  obtain ⟨n1, a1, b1, h1⟩ := mkG_ok 4 0 (tick_ok0 h)
  have h2 := mkW_ok 4 0 h1
  unfold g_tick
  exact ⟨n1, a1, b1, h2⟩
