/-! pure rows about the functions of the class -/
theorem in_of {t : Int32} {n : Nat} (hn : n < 2 ^ 31) (h1 : ¬ t < 0) (h2 : ¬ nI n ≤ t) : ∃ j : Nat, j < n ∧ t = nI j := by
  rcases pk_ix t hn with h3 | h3 | h3
  · exact absurd h3 h1
  · exact absurd h3 h2
  · exact h3
theorem isTimer_in {t : Int32} (h : ¬ f_isTimer t = 0) : ∃ j : Nat, j < 8 ∧ t = nI j := by
  unfold f_isTimer at h
  by_cases h1 : t < 0
  · rw [if_pos h1] at h; exact absurd rfl h
  · rw [if_neg h1] at h
    by_cases h2 : 8 ≤ t
    · rw [if_pos h2] at h; exact absurd rfl h
    · exact in_of (by decide) h1 h2
theorem isGate_in {t : Int32} (h : ¬ f_isGate t = 0) : ∃ j : Nat, j < 4 ∧ t = nI j := by
  unfold f_isGate at h
  by_cases h1 : t < 0
  · rw [if_pos h1] at h; exact absurd rfl h
  · rw [if_neg h1] at h
    by_cases h2 : 4 ≤ t
    · rw [if_pos h2] at h; exact absurd rfl h
    · exact in_of (by decide) h1 h2
theorem isTick_in {t : Int32} (h : ¬ f_isTickCount t = 0) : ∃ j : Nat, j < 20001 ∧ t = nI j := by
  unfold f_isTickCount at h
  by_cases h1 : t < 0
  · rw [if_pos h1] at h; exact absurd rfl h
  · rw [if_neg h1] at h
    by_cases h2 : 20000 < t
    · rw [if_pos h2] at h; exact absurd rfl h
    · refine in_of (by decide) h1 (fun h3 => h2 ?_)
      have h4 : nI 20001 ≤ t := h3
      rw [Int32.le_iff_toInt_le, nI_toInt (by decide)] at h4
      rw [Int32.lt_iff_toInt_lt]
      have h5 : (20000 : Int32).toInt = 20000 := by decide
      omega
theorem sw_cases (x : Int32) (n : Nat) (hn : n < 2 ^ 30) : (x.toInt < 0 ∨ (n : Int) < x.toInt) ∨ ∃ k : Nat, k ≤ n ∧ x = nI k := by
  by_cases h1 : x.toInt < 0
  · exact Or.inl (Or.inl h1)
  · by_cases h2 : (n : Int) < x.toInt
    · exact Or.inl (Or.inr h2)
    · refine Or.inr ⟨x.toInt.toNat, by omega, ?_⟩
      apply Int32.toInt_inj.mp
      rw [nI_toInt (by omega)]
      omega
theorem sw_o (x : Int32) (n : Int) (h : x.toInt < 0 ∨ n < x.toInt) (k : Int32) (h1 : 0 ≤ k.toInt) (h2 : k.toInt ≤ n) : (x = k) = False := eq_false (fun e => by subst e; omega)
theorem lbN_lt (b : Int32) : ∀ n t : Nat, t + n ≤ 7 → lbN b n t < 8
  | 0, _, _ => by simp [lbN]
  | n + 1, t, h => by
    unfold lbN
    by_cases c : b &&& bit1 (nI t) = 0
    · rw [if_pos c]; exact lbN_lt b n (t + 1) (by omega)
    · rw [if_neg c]; omega
def xInv (σ : St) : Prop := (∃ p : Nat, p < 16 ∧ σ 1 5 = nI p) ∧ ∃ f : Nat, f ≤ 16 ∧ σ 1 4 = nI f
theorem xInv_of {σ τ : St} (h : τ 1 = σ 1) (hi : xInv σ) : xInv τ := by unfold xInv at *; rw [h]; exact hi
theorem xInv_in {σ : St} (h : xInv σ) : vp_in (σ 1 5) 16 := by
  obtain ⟨⟨p, hp, e⟩, -⟩ := h
  rw [e]; exact vp_in_nI hp (by decide)
theorem rm16_nI {n : Nat} (h : n < 2 ^ 31) : rm16 (nI n) = nI (n % 16) := by
  unfold rm16
  exact pk_rem h (by decide : 0 < 16) (by decide)
theorem xInv_at {σ : St} (h : xInv σ) {i : Int32} (h1 : ¬ i < 0) (h2' : i < σ 1 4) : vp_in (rm16 (σ 1 5 + 16 - 1 - i)) 16 := by
  have h2 : ¬ σ 1 4 ≤ i := fun q => by
    rw [Int32.le_iff_toInt_le] at q
    rw [Int32.lt_iff_toInt_lt] at h2'
    omega
  obtain ⟨⟨p, hp, e⟩, f, hf, ef⟩ := h
  rw [ef] at h2
  obtain ⟨j, hj, rfl⟩ := in_of (by omega) h1 h2
  rw [e, show nI p + 16 = nI (p + 16) from nI_add p 16, show nI (p + 16) - 1 = nI (p + 15) from nI_pred (p + 15), pk_sub (by omega), rm16_nI (by omega)]
  exact vp_in_nI (Nat.mod_lt _ (by decide)) (by decide)
theorem sw_0_0 : (nI 0 = 0) = True := eq_true (by decide)
theorem sw_1_0 : (nI 1 = 0) = False := eq_false (by decide)
theorem sw_1_1 : (nI 1 = 1) = True := eq_true (by decide)
theorem sw_2_0 : (nI 2 = 0) = False := eq_false (by decide)
theorem sw_2_1 : (nI 2 = 1) = False := eq_false (by decide)
theorem sw_2_2 : (nI 2 = 2) = True := eq_true (by decide)
theorem sw_3_0 : (nI 3 = 0) = False := eq_false (by decide)
theorem sw_3_1 : (nI 3 = 1) = False := eq_false (by decide)
theorem sw_3_2 : (nI 3 = 2) = False := eq_false (by decide)
theorem sw_3_3 : (nI 3 = 3) = True := eq_true (by decide)
theorem sw_4_0 : (nI 4 = 0) = False := eq_false (by decide)
theorem sw_4_1 : (nI 4 = 1) = False := eq_false (by decide)
theorem sw_4_2 : (nI 4 = 2) = False := eq_false (by decide)
theorem sw_4_3 : (nI 4 = 3) = False := eq_false (by decide)
theorem sw_4_4 : (nI 4 = 4) = True := eq_true (by decide)
theorem sw_5_0 : (nI 5 = 0) = False := eq_false (by decide)
theorem sw_5_1 : (nI 5 = 1) = False := eq_false (by decide)
theorem sw_5_2 : (nI 5 = 2) = False := eq_false (by decide)
theorem sw_5_3 : (nI 5 = 3) = False := eq_false (by decide)
theorem sw_5_4 : (nI 5 = 4) = False := eq_false (by decide)
theorem sw_5_5 : (nI 5 = 5) = True := eq_true (by decide)
theorem sw_6_0 : (nI 6 = 0) = False := eq_false (by decide)
theorem sw_6_1 : (nI 6 = 1) = False := eq_false (by decide)
theorem sw_6_2 : (nI 6 = 2) = False := eq_false (by decide)
theorem sw_6_3 : (nI 6 = 3) = False := eq_false (by decide)
theorem sw_6_4 : (nI 6 = 4) = False := eq_false (by decide)
theorem sw_6_5 : (nI 6 = 5) = False := eq_false (by decide)
theorem sw_6_6 : (nI 6 = 6) = True := eq_true (by decide)
theorem sw_7_0 : (nI 7 = 0) = False := eq_false (by decide)
theorem sw_7_1 : (nI 7 = 1) = False := eq_false (by decide)
theorem sw_7_2 : (nI 7 = 2) = False := eq_false (by decide)
theorem sw_7_3 : (nI 7 = 3) = False := eq_false (by decide)
theorem sw_7_4 : (nI 7 = 4) = False := eq_false (by decide)
theorem sw_7_5 : (nI 7 = 5) = False := eq_false (by decide)
theorem sw_7_6 : (nI 7 = 6) = False := eq_false (by decide)
theorem sw_7_7 : (nI 7 = 7) = True := eq_true (by decide)
theorem sw_8_0 : (nI 8 = 0) = False := eq_false (by decide)
theorem sw_8_1 : (nI 8 = 1) = False := eq_false (by decide)
theorem sw_8_2 : (nI 8 = 2) = False := eq_false (by decide)
theorem sw_8_3 : (nI 8 = 3) = False := eq_false (by decide)
theorem sw_8_4 : (nI 8 = 4) = False := eq_false (by decide)
theorem sw_8_5 : (nI 8 = 5) = False := eq_false (by decide)
theorem sw_8_6 : (nI 8 = 6) = False := eq_false (by decide)
theorem sw_8_7 : (nI 8 = 7) = False := eq_false (by decide)
theorem sw_8_8 : (nI 8 = 8) = True := eq_true (by decide)
theorem sw_9_0 : (nI 9 = 0) = False := eq_false (by decide)
theorem sw_9_1 : (nI 9 = 1) = False := eq_false (by decide)
theorem sw_9_2 : (nI 9 = 2) = False := eq_false (by decide)
theorem sw_9_3 : (nI 9 = 3) = False := eq_false (by decide)
theorem sw_9_4 : (nI 9 = 4) = False := eq_false (by decide)
theorem sw_9_5 : (nI 9 = 5) = False := eq_false (by decide)
theorem sw_9_6 : (nI 9 = 6) = False := eq_false (by decide)
theorem sw_9_7 : (nI 9 = 7) = False := eq_false (by decide)
theorem sw_9_8 : (nI 9 = 8) = False := eq_false (by decide)
theorem sw_9_9 : (nI 9 = 9) = True := eq_true (by decide)
theorem bI_n (b : Bool) : narrow .boolean (.int (bI b)) = .int (bI b) := by cases b <;> rfl
theorem bI_f (b : Bool) : fits .boolean (.int (bI b)) = true := by cases b <;> rfl
theorem xInv_up {σ : St} {i k : Nat} {v : Int32} (h : i ≠ 1) (hi : xInv σ) : xInv (up2 σ i k v) := xInv_of (up2_n _ _ _ (Ne.symm h)) hi
theorem countDown_inv {σ : St} {i : Nat} (h : i ≠ 1) (hI : xInv σ) : xInv (f_countDown σ i).2 := by
  unfold f_countDown
  split
  · exact hI
  · split
    · split
      · exact xInv_up h (xInv_up h hI)
      · exact xInv_up h (xInv_up h (xInv_up h hI))
    · exact xInv_up h hI
theorem raise_inv {σ : St} {t : Nat} (hI : xInv σ) : xInv (f_raise σ t) := by
  unfold f_raise
  split
  · exact xInv_up (by decide) hI
  · exact xInv_up (by decide) (xInv_up (by omega) hI)
theorem stT_inv {σ : St} {t : Nat} {e : Int32} (hI : xInv σ) : xInv (stT e t σ).2 := by
  have h := countDown_inv (i := 5 + t) (by omega) hI
  unfold stT
  split
  · split
    · exact h
    · exact raise_inv h
  · split
    · exact hI
    · split
      · exact h
      · exact raise_inv h
theorem tkT_inv : ∀ (n t : Nat) (e : Int32) {σ : St}, xInv σ → xInv (tkT n t e σ)
  | 0, _, _, _, h => h
  | n + 1, t, e, _, h => tkT_inv n (t + 1) _ (stT_inv h)
theorem waitEnds_inv {σ : St} {g : Nat} (hI : xInv σ) : xInv (f_waitEnds σ (13 + g)).2 := by
  unfold f_waitEnds
  split
  · exact hI
  · exact xInv_up (by omega) hI
theorem add_inv {σ : St} {b sv tm : Int32} (hI : xInv σ) : xInv (f_add σ b sv tm) := by
  obtain ⟨⟨p, hp, e⟩, f, hf, ef⟩ := hI
  have e5 : rm16 (σ 1 5 + 1) = nI ((p + 1) % 16) := by rw [e, nI_1, rm16_nI (by omega)]
  unfold f_add f_arr
  by_cases c : 16 ≤ σ 1 4
  · rw [if_pos c]
    exact ⟨⟨(p + 1) % 16, Nat.mod_lt _ (by decide), e5⟩, f, hf, ef⟩
  · rw [if_neg c]
    refine ⟨⟨(p + 1) % 16, Nat.mod_lt _ (by decide), e5⟩, f + 1, ?_, ?_⟩
    · rw [ef] at c
      rcases Nat.lt_or_ge f 16 with q | q
      · omega
      · exact absurd (nI_le (a := 16) q (by omega)) c
    · show σ 1 4 + 1 = nI (f + 1)
      rw [ef, nI_1]
theorem serve_inv {σ : St} {g : Nat} (hI : xInv σ) : xInv (f_serve σ g).2 := by
  unfold f_serve
  split
  · exact xInv_up (by omega) hI
  · exact add_inv (xInv_up (by omega) (xInv_up (by omega) (xInv_up (by omega) (xInv_up (by decide) hI))))
theorem stG_inv (g : Nat) (sv : Int32) {σ : St} (hI : xInv σ) : xInv (stG g sv σ).2 := by
  have h := waitEnds_inv (g := g) hI
  unfold stG
  split
  · exact h
  · split
    · exact serve_inv h
    · exact serve_inv h
theorem tkG_inv : ∀ (n g : Nat) (sv : Int32) {σ : St}, xInv σ → xInv (tkG n g sv σ).2
  | 0, _, _, _, h => h
  | n + 1, g, sv, _, h => tkG_inv n (g + 1) _ (stG_inv g sv h)
theorem stW_inv {σ : St} {g : Nat} (hI : xInv σ) : xInv (stW g σ) := by
  unfold stW
  split
  · split
    · exact hI
    · exact xInv_up (by omega) hI
  · exact hI
theorem wkG_inv : ∀ (n g : Nat) {σ : St}, xInv σ → xInv (wkG n g σ)
  | 0, _, _, h => h
  | n + 1, g, _, h => wkG_inv n (g + 1) (stW_inv h)
theorem tick_inv0 {σ : St} (hI : xInv σ) : xInv (tkT 8 0 0 (up2 σ 0 4 (σ 0 4 + 1))) := tkT_inv 8 0 0 (xInv_up (by decide) hI)
theorem tick_inv {σ : St} (hI : xInv σ) : xInv (f_tick σ).2 := by
  have h := wkG_inv 4 0 (tkG_inv 4 0 0 (tick_inv0 hI))
  simp only [f_tick]
  exact h
theorem advL_inv : ∀ (n : Nat) (sv : Int32) {σ : St}, xInv σ → xInv (advL n sv σ).2
  | 0, _, _, h => h
  | n + 1, _, _, h => advL_inv n _ (tick_inv h)
theorem nxtL_inv (N : Int32) : ∀ (n i : Nat) {σ : St}, xInv σ → xInv (nxtL N n i σ).2 := by
  intro n
  induction n with
  | zero => intro i σ h; exact h
  | succ n ih =>
    intro i σ h
    have h1 := tick_inv h
    unfold nxtL
    generalize f_tick σ = q at h1 ⊢
    by_cases c : q.1 ≤ 0
    · rw [if_pos c]; exact ih (i + 1) h1
    · rw [if_neg c]; exact h1
