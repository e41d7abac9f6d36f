/-! THE CALLS, SIDE BY SIDE -/
theorem lt_succ (a c : Int32) (n : Int) (ha : a.toInt = n + 1) (hc : c.toInt = n) (t : Int32) : a ≤ t ↔ c < t := by
  rw [Int32.le_iff_toInt_le, Int32.lt_iff_toInt_lt, ha, hc]; omega
theorem isTimer_isIn (t : Int32) : f_isTimer t = f_isIn t 0 7 := by
  unfold f_isTimer f_isIn
  have h := lt_succ 8 7 7 (by decide) (by decide) t
  by_cases c : t < 0
  · rw [if_pos c, if_pos c]
  · rw [if_neg c, if_neg c]
    by_cases c2 : 8 ≤ t
    · rw [if_pos c2, if_pos (h.mp c2)]
    · rw [if_neg c2, if_neg (fun q => c2 (h.mpr q))]
theorem isGate_isIn (t : Int32) : f_isGate t = f_isIn t 0 3 := by
  unfold f_isGate f_isIn
  have h := lt_succ 4 3 3 (by decide) (by decide) t
  by_cases c : t < 0
  · rw [if_pos c, if_pos c]
  · rw [if_neg c, if_neg c]
    by_cases c2 : 4 ≤ t
    · rw [if_pos c2, if_pos (h.mp c2)]
    · rw [if_neg c2, if_neg (fun q => c2 (h.mpr q))]
theorem i_tri (x c : Int32) : x < c ∨ x = c ∨ c < x := by
  rw [Int32.lt_iff_toInt_lt, Int32.lt_iff_toInt_lt, ← Int32.toInt_inj]; omega
theorem i_nlt {x c : Int32} (h : c < x) : ¬ x < c := by
  rw [Int32.lt_iff_toInt_lt] at *; omega
theorem src0 (src : Int32) : f_isSource 0 src = f_isIn src 0 0 := by
  unfold f_isSource f_isIn
  rcases i_tri src 0 with c | c | c
  · have c1 : ¬ src = 0 := fun e => by subst e; revert c; decide
    rw [if_neg c1, if_pos c]
    split
    · rw [if_pos (by decide)]
    · rfl
  · subst c; decide
  · have c1 : ¬ src = 0 := fun e => by subst e; revert c; decide
    rw [if_neg c1, if_neg (i_nlt c), if_pos c]
    split
    · rw [if_pos (by decide)]
    · rfl
theorem src1 (t src : Int32) (ht : ¬ t ≤ 0) : f_isSource t src = f_isIn src 0 1 := by
  unfold f_isSource f_isIn
  rw [if_neg ht]
  rcases i_tri src 0 with c | c | c
  · have c1 : ¬ src = 0 := fun e => by subst e; revert c; decide
    have c2 : ¬ src = 1 := fun e => by subst e; revert c; decide
    rw [if_neg c1, if_neg c2, if_pos c]
  · subst c; decide
  · have c1 : ¬ src = 0 := fun e => by subst e; revert c; decide
    rw [if_neg c1, if_neg (i_nlt c)]
    rcases i_tri src 1 with d | d | d
    · rw [Int32.lt_iff_toInt_lt] at c d
      have e0 : (0 : Int32).toInt = 0 := by decide
      have e1 : (1 : Int32).toInt = 1 := by decide
      omega
    · subst d; decide
    · have c2 : ¬ src = 1 := fun e => by subst e; revert d; decide
      rw [if_neg c2, if_pos d]
theorem rng {x lo hi : Int32} {a z : Nat} (e1 : lo.toInt = a) (e2 : hi.toInt = z) (h1 : ¬ x < lo) (h2 : x ≤ hi) (hz : z < 2 ^ 30) : ∃ q : Nat, a ≤ q ∧ q ≤ z ∧ x = nI q := by
  rw [Int32.lt_iff_toInt_lt] at h1
  rw [Int32.le_iff_toInt_le] at h2
  refine ⟨x.toInt.toNat, by omega, by omega, ?_⟩
  apply Int32.toInt_inj.mp
  rw [nI_toInt (by omega)]
  omega
theorem isIn_per (x lo hi : Int32) : f_isIn x lo hi = 0 ↔ x < lo ∨ hi < x := by
  unfold f_isIn
  by_cases c : x < lo
  · rw [if_pos c]; exact ⟨fun _ => Or.inl c, fun _ => rfl⟩
  · rw [if_neg c]
    by_cases c2 : hi < x
    · rw [if_pos c2]; exact ⟨fun _ => Or.inr c2, fun _ => rfl⟩
    · rw [if_neg c2]; exact ⟨fun q => absurd q (by decide), fun q => absurd q (fun z => z.elim c c2)⟩
theorem i_le {x c : Int32} : x ≤ c ↔ ¬ c < x := by
  rw [Int32.le_iff_toInt_le, Int32.lt_iff_toInt_lt]; omega
theorem bI_01 (x : Bool) : bI x = 0 ∨ bI x = 1 := by cases x <;> decide
theorem put_RR {σ μ : St} {n t q : Nat} (h : RR σ μ n) (ht : t < 8) (src per : Int32) (x : Bool) (h1 : 1 ≤ q) (h2 : q ≤ 65535) (e : per = nI q) : RR (up2 (up2 (up2 (up2 (up2 σ (5 + t) 2 src) (5 + t) 0 per) (5 + t) 1 per) (5 + t) 3 (bI x)) (5 + t) 4 0) (g_put μ t src per x) n := by
  obtain ⟨hR, hI, hO, h5, h4⟩ := h
  have r1 : ∀ (τ : St) (k : Nat) (v : Int32), up2 τ (5 + t) k v 1 = τ 1 := fun τ k v => up2_n τ k v (by omega)
  unfold g_put
  refine ⟨((((hR.T ht (k := 2) (by decide) src).T ht (k := 0) (by decide) per).T ht (k := 1) (by decide) per).T ht (k := 3) (by decide) (bI x)).T ht (k := 4) (by decide) 0, ?_, ?_, ?_, ?_⟩
  · exact ((((hI.other (by decide) (by decide) (by decide) (by decide) (by decide) (by decide)).t4 h1 h2 e).t5 h1 h2 e).t7 (bI_01 x)).t8 (Or.inl rfl)
  · exact ok_other (ok_other (ok_other (ok_other (ok_other hO (by decide)) (by decide)) (by decide)) (by decide)) (by decide)
  · rw [r1, r1, r1, r1, r1]; exact h5
  · rw [r1, r1, r1, r1, r1]; exact h4
theorem op_set {σ μ : St} {n : Nat} (h : RR σ μ n) (t src per : Int32) (x : Bool) : (f_set σ t src per x).1 = (g_set μ t src per x).1 ∧ RR (f_set σ t src per x).2 (g_set μ t src per x).2 n := by
  unfold f_set g_set
  rw [isTimer_isIn]
  by_cases c0 : f_isIn t 0 7 = 0
  · rw [if_pos c0, if_pos c0]; exact ⟨rfl, h⟩
  · rw [if_neg c0, if_neg c0]
    obtain ⟨j, hj, rfl⟩ := isIn_in (n := 7) (by decide) c0
    have hcl : (nI j).toNatClampNeg = j := nI_clamp (by omega)
    rw [hcl]
    have key : ∀ (y : Int32), ((if y = 0 then ((0 : Int32), σ) else if per < 1 then (0, σ) else if per ≤ 65535 then (1, up2 (up2 (up2 (up2 (up2 σ (5 + j) 2 src) (5 + j) 0 per) (5 + j) 1 per) (5 + j) 3 (bI x)) (5 + j) 4 0) else (0, σ)) : Int32 × St).1 = (if y = 0 then ((0 : Int32), μ) else if f_isIn per 1 65535 = 0 then (0, μ) else (1, g_put μ j src per x) : Int32 × St).1 ∧ RR (if y = 0 then ((0 : Int32), σ) else if per < 1 then (0, σ) else if per ≤ 65535 then (1, up2 (up2 (up2 (up2 (up2 σ (5 + j) 2 src) (5 + j) 0 per) (5 + j) 1 per) (5 + j) 3 (bI x)) (5 + j) 4 0) else (0, σ) : Int32 × St).2 (if y = 0 then ((0 : Int32), μ) else if f_isIn per 1 65535 = 0 then (0, μ) else (1, g_put μ j src per x) : Int32 × St).2 n := by
      intro y
      by_cases c1 : y = 0
      · rw [if_pos c1, if_pos c1]; exact ⟨rfl, h⟩
      · rw [if_neg c1, if_neg c1]
        by_cases c2 : per < 1
        · rw [if_pos c2, if_pos ((isIn_per _ _ _).mpr (Or.inl c2))]; exact ⟨rfl, h⟩
        · rw [if_neg c2]
          by_cases c3 : per ≤ 65535
          · rw [if_pos c3, if_neg (fun q => ((isIn_per _ _ _).mp q).elim c2 (i_le.mp c3))]
            obtain ⟨q, q1, q2, e⟩ := rng (a := 1) (z := 65535) (by decide) (by decide) c2 c3 (by decide)
            exact ⟨rfl, put_RR h hj src per x q1 q2 e⟩
          · rw [if_neg c3, if_pos ((isIn_per _ _ _).mpr (Or.inr (Decidable.of_not_not (fun q => c3 (i_le.mpr q)))))]
            exact ⟨rfl, h⟩
    by_cases cz : nI j = 0
    · rw [if_pos cz, cz, src0]
      exact key _
    · rw [if_neg cz, src1 (nI j) src (fun q => cz (by
        have h0 : ¬ nI j < 0 := nI_pos (by omega)
        rcases i_tri (nI j) 0 with a | a | a
        · exact absurd a h0
        · exact a
        · exact absurd a (i_le.mp q)))]
      exact key _
theorem op_turn {σ μ : St} {n : Nat} (h : RR σ μ n) (t : Int32) (x : Bool) : (f_turn σ t x).1 = (g_turn μ t x).1 ∧ RR (f_turn σ t x).2 (g_turn μ t x).2 n := by
  unfold f_turn g_turn
  rw [isTimer_isIn]
  by_cases c0 : f_isIn t 0 7 = 0
  · rw [if_pos c0, if_pos c0]; exact ⟨rfl, h⟩
  · rw [if_neg c0, if_neg c0]
    obtain ⟨j, hj, rfl⟩ := isIn_in (n := 7) (by decide) c0
    have hcl : (nI j).toNatClampNeg = j := nI_clamp (by omega)
    rw [hcl, show σ (5 + j) 4 = μ 8 j from h.1.rT hj (k := 4) (by decide)]
    by_cases c1 : μ 8 j = bI x
    · rw [if_pos c1, if_pos c1]; exact ⟨rfl, h⟩
    · rw [if_neg c1, if_neg c1]
      obtain ⟨hR, hI, hO, h5, h4⟩ := h
      refine ⟨rfl, hR.T hj (k := 4) (by decide) _, hI.t8 (bI_01 x), ok_other hO (by decide), ?_, ?_⟩
      · dsimp only; rw [up2_n _ _ _ (by omega)]; exact h5
      · dsimp only; rw [up2_n _ _ _ (by omega)]; exact h4
theorem op_gate {σ μ : St} {n : Nat} (h : RR σ μ n) (g mask delay : Int32) : (f_gate σ g mask delay).1 = (g_gate μ g mask delay).1 ∧ RR (f_gate σ g mask delay).2 (g_gate μ g mask delay).2 n := by
  unfold f_gate g_gate
  rw [isGate_isIn, show f_isBitSet mask = f_isIn mask 0 255 from rfl]
  by_cases c0 : f_isIn g 0 3 = 0
  · rw [if_pos c0, if_pos c0]; exact ⟨rfl, h⟩
  · rw [if_neg c0, if_neg c0]
    obtain ⟨j, hj, rfl⟩ := isIn_in (n := 3) (by decide) c0
    have hcl : (nI j).toNatClampNeg = j := nI_clamp (by omega)
    rw [hcl]
    by_cases c1 : f_isIn mask 0 255 = 0
    · rw [if_pos c1, if_pos c1]; exact ⟨rfl, h⟩
    · rw [if_neg c1, if_neg c1]
      by_cases c2 : delay < 1
      · rw [if_pos c2, if_pos ((isIn_per _ _ _).mpr (Or.inl c2))]; exact ⟨rfl, h⟩
      · rw [if_neg c2]
        by_cases c3 : delay ≤ 1000
        · rw [if_pos c3, if_neg (fun q => ((isIn_per _ _ _).mp q).elim c2 (i_le.mp c3))]
          obtain ⟨q, q1, q2, e⟩ := rng (a := 1) (z := 1000) (by decide) (by decide) c2 c3 (by decide)
          obtain ⟨hR, hI, hO, h5, h4⟩ := h
          refine ⟨rfl, (hR.G hj (k := 0) (by decide) mask).G hj (k := 1) (by decide) delay, (hI.other (by decide) (by decide) (by decide) (by decide) (by decide) (by decide)).g11 q2 e, ok_other (ok_other hO (by decide)) (by decide), ?_, ?_⟩
          · dsimp only; rw [up2_n _ _ _ (by omega), up2_n _ _ _ (by omega)]; exact h5
          · dsimp only; rw [up2_n _ _ _ (by omega), up2_n _ _ _ (by omega)]; exact h4
        · rw [if_neg c3, if_pos ((isIn_per _ _ _).mpr (Or.inr (Decidable.of_not_not (fun q => c3 (i_le.mpr q)))))]
          exact ⟨rfl, h⟩
theorem sim_clr {c : Int32} {m : Nat} (hm : m < 256) (ec : c = nI m) : ∀ (k t : Nat) {σ μ : St} {n : Nat}, t + k ≤ 8 → RR σ μ n → RR (clrL c k t σ) (clrM c k t μ) n ∧ clrM c k t μ 0 2 = μ 0 2 := by
  subst ec
  intro k
  induction k with
  | zero => intro t σ μ n _ h; exact ⟨h, rfl⟩
  | succ k ih =>
    intro t σ μ n h8 h
    have ht : t < 8 := by omega
    rw [clrL, clrM, sh_bit0 m hm t ht]
    have e8 : σ (5 + t) 8 = μ 9 (4 * t + 3) := h.1.rO ht (c := 3) (by decide)
    by_cases cb : nI m &&& bit1 (nI t) = 0
    · rw [if_pos cb, if_pos cb, Int32.add_zero, up2_same rfl]
      exact ih (t + 1) (by omega) h
    · rw [if_neg cb, if_neg cb, e8]
      obtain ⟨hR, hI, hO, h5, h4⟩ := h
      refine ih (t + 1) (σ := up2 σ (5 + t) 8 (μ 9 (4 * t + 3) + 1)) (μ := up2 μ 9 (4 * t + 3) (μ 9 (4 * t + 3) + 1)) (by omega) ⟨hR.O ht (c := 3) (by decide) _, hI.other (by decide) (by decide) (by decide) (by decide) (by decide) (by decide), ok_other hO (by decide), ?_, ?_⟩
      · rw [up2_n _ _ _ (by omega)]; exact h5
      · rw [up2_n _ _ _ (by omega)]; exact h4
