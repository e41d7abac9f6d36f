theorem isIn_nI {j n : Nat} (hj : j < 2 ^ 31) (hn : n < 2 ^ 31) : f_isIn (nI j) 0 (nI n) = if j ≤ n then 1 else 0 := by
  unfold f_isIn
  rw [if_neg (nI_pos hj)]
  by_cases c : j ≤ n
  · rw [if_pos c, if_neg (fun q => by have := (nI_ltI hn hj).mp q; omega)]
  · rw [if_neg c, if_pos ((nI_ltI hn hj).mpr (by omega))]
theorem op_served {σ μ : St} {n : Nat} (h : RR σ μ n) (hn : n < 2 ^ 30) (i w : Int32) : f_Hread σ i w = g_served μ i w := by
  have hnn := mOK_nn h.2.2.1 hn
  obtain ⟨hR, -, hO, h5, h4⟩ := h
  unfold f_Hread g_served
  by_cases c0 : i < 0
  · rw [if_pos c0, if_pos ((isIn_per _ _ _).mpr (Or.inl c0))]
  · rw [if_neg c0]
    obtain ⟨j, hj, rfl⟩ := nI_of c0
    have e15 := isIn_nI hj (show 15 < 2 ^ 31 by decide)
    rw [h4, hO.1, hnn, nI_clamp hj]
    by_cases c1 : j < min n 16
    · rw [if_pos ((nI_ltI hj (by omega)).mpr c1), if_neg (show ¬ f_isIn (nI j) 0 15 = 0 from fun q => by
        have q2 : f_isIn (nI j) 0 (nI 15) = 0 := q
        rw [e15, if_pos (by omega)] at q2
        exact absurd q2 (by decide)), if_neg (show ¬ nI n ≤ nI j from fun q => by have := (nI_leI (by omega) hj).mp q; omega)]
      have ep : (rm16 (σ 1 5 + 16 - 1 - nI j)).toNatClampNeg = (n - 1 - j) % 16 := by
        rw [h5, show nI (n % 16) + 16 = nI (n % 16 + 16) from nI_add _ 16, show nI (n % 16 + 16) - 1 = nI (n % 16 + 15) from nI_pred (n % 16 + 15), pk_sub (by omega), rm16_nI (by omega), nI_clamp (by omega)]
        omega
      rw [ep]
      have hp : (n - 1 - j) % 16 < 16 := Nat.mod_lt _ (by decide)
      rcases sw_cases w 2 (by decide) with s | ⟨k, hk, rfl⟩
      · rw [if_pos ((isIn_per w 0 2).mpr (by
          rcases s with s | s
          · left; rw [Int32.lt_iff_toInt_lt]; exact s
          · right; rw [Int32.lt_iff_toInt_lt]; exact s))]
        simp only [sw_o _ _ s 0 (by decide) (by decide), sw_o _ _ s 1 (by decide) (by decide), sw_o _ _ s 2 (by decide) (by decide), ↓reduceIte]
      · have e2 : ¬ f_isIn (nI k) 0 2 = 0 := fun q => by
          have q2 : f_isIn (nI k) 0 (nI 2) = 0 := q
          rw [isIn_nI (by omega) (by decide), if_pos hk] at q2
          exact absurd q2 (by decide)
        rw [if_neg e2, nI_clamp (by omega)]
        have rd := hR.rR (i := k) (p := (n - 1 - j) % 16) (by omega) hp
        rcases (show k = 0 ∨ k = 1 ∨ k = 2 by omega) with rfl | rfl | rfl
        · simp only [sw_0_0, ↓reduceIte]; exact rd
        · simp only [sw_1_0, sw_1_1, ↓reduceIte]; exact rd
        · simp only [sw_2_0, sw_2_1, sw_2_2, ↓reduceIte]; exact rd
    · rw [if_neg (fun q => c1 ((nI_ltI hj (by omega)).mp q))]
      by_cases c2 : j ≤ 15
      · rw [if_neg (show ¬ f_isIn (nI j) 0 15 = 0 from fun q => by
          have q2 : f_isIn (nI j) 0 (nI 15) = 0 := q
          rw [e15, if_pos c2] at q2
          exact absurd q2 (by decide)), if_pos (show nI n ≤ nI j from (nI_leI (by omega) hj).mpr (by omega))]
      · rw [if_pos (show f_isIn (nI j) 0 15 = 0 from by
          show f_isIn (nI j) 0 (nI 15) = 0
          rw [e15, if_neg c2])]
def vcb (i k : Nat) : Bool := (i == 0 && (k == 3 || k == 4)) || (i == 1 && k == 3) || (decide (2 ≤ i) && decide (i < 5)) || (decide (5 ≤ i) && decide (i < 13) && decide (k < 9)) || (decide (13 ≤ i) && decide (k < 6))
def eqb (i k : Nat) : Bool := decide (s0 i k = m0 (ph i k).1 (ph i k).2)
theorem rl0_key : ∀ i, i < 17 → ∀ k, k < 16 → (!vcb i k || eqb i k) = true := by decide +kernel
theorem rl0 : Rl s0 m0 := by
  intro i k h
  have h2 : i < 17 ∧ k < 16 := by unfold vc at h; omega
  have h3 : vcb i k = true := by
    unfold vc at h
    unfold vcb
    simp only [Bool.or_eq_true, Bool.and_eq_true, beq_iff_eq, decide_eq_true_eq]
    omega
  have h4 := rl0_key i h2.1 k h2.2
  rw [h3] at h4
  exact of_decide_eq_true h4
theorem rr0 : RR s0 m0 0 := by
  refine ⟨rl0, ⟨fun t ht => ?_, fun g hg => ?_⟩, ⟨rfl, 0, by decide, rfl⟩, rfl, rfl⟩
  · have k1 : ∀ t, t < 8 → m0 5 t = nI 1 ∧ m0 4 t = nI 1 ∧ m0 7 t = 0 ∧ m0 8 t = 0 := by decide +kernel
    obtain ⟨a, b, c, d⟩ := k1 t ht
    exact ⟨⟨1, by decide, by decide, a⟩, ⟨1, by decide, by decide, b⟩, Or.inl c, Or.inl d⟩
  · have k2 : ∀ g, g < 4 → m0 12 g = nI 0 ∧ m0 11 g = nI 1 := by decide +kernel
    obtain ⟨a, b⟩ := k2 g hg
    exact ⟨⟨0, by decide, a⟩, ⟨1, by decide, b⟩⟩
