theorem dn_rd13 (μ : St) (g : Nat) (d : Int32) : g_dn μ g d 13 g = d := by
  unfold g_dn
  split
  · rw [up2_ss]
  · rw [up2_n _ _ _ (by decide), up2_ss]
/-- a gate's wait, and what it serves -/
theorem sim_G {σ μ : St} {n g : Nat} (h : RR σ μ n) (hg : g < 4) (hn : n < 2 ^ 30) (sv : Int32) : ∃ n', n ≤ n' ∧ n' ≤ n + 1 ∧ (stG g sv σ).1 = sv + nI (n' - n) ∧ RR (stG g sv σ).2 (smG g μ) n' := by
  have e2 : σ (13 + g) 2 = μ 12 g := h.1.rG hg (k := 2) (by decide)
  obtain ⟨⟨w, hw, ew⟩, -⟩ := h.2.1.2 g hg
  obtain ⟨hR, hI, hO, h5, h4⟩ := id h
  have rd : ∀ d : Int32, up2 μ 13 g d 12 g = nI w := fun d => ew
  have hz : sv + nI (n - n) = sv := by rw [Nat.sub_self]; exact Int32.add_zero sv
  by_cases c0 : w = 0
  · subst c0
    have f1 : f_waitEnds σ (13 + g) = (0, σ) := by unfold f_waitEnds; rw [if_pos (by rw [e2, ew]; rfl)]
    have g0 : g_dn μ g 0 = up2 μ 13 g 0 := by unfold g_dn; dsimp only; rw [if_pos (by rw [rd]; decide)]
    have g1 : smG g μ = up2 μ 13 g 0 := by
      unfold smG
      rw [if_neg (by rw [ew]; decide), if_pos (dn_rd13 μ g 0), g0]
    refine ⟨n, Nat.le_refl n, Nat.le_succ n, ?_, ?_⟩
    · unfold stG
      rw [f1, if_pos rfl, hz]
    · unfold stG
      rw [f1, if_pos rfl, g1]
      exact ⟨hR.skipM g 0, hI.other (by decide) (by decide) (by decide) (by decide) (by decide) (by decide), ok_other hO (by decide), h5, h4⟩
  · have hdec : μ 12 g - 1 = nI (w - 1) := by rw [ew, show (1 : Int32) = nI 1 from rfl, pk_sub (by omega)]
    have hne : ¬ σ (13 + g) 2 = 0 := by rw [e2, ew]; exact nI_ne0 (by omega) (by omega)
    have gd : ∀ d : Int32, g_dn μ g d = up2 (up2 μ 13 g d) 12 g (μ 12 g - 1) := fun d => by
      unfold g_dn; dsimp only
      rw [if_neg (by rw [rd]; exact nI_nle (by omega) (by omega))]
      rfl
    have R1 : ∀ d : Int32, RR (up2 σ (13 + g) 2 (σ (13 + g) 2 - 1)) (g_dn μ g d) n := fun d => by
      rw [gd, e2]
      refine ⟨(hR.skipM g d).G hg (k := 2) (by decide) _, (hI.other (by decide) (by decide) (by decide) (by decide) (by decide) (by decide)).g12 (d := w - 1) (by omega) hdec, ok_other (ok_other hO (by decide)) (by decide), ?_, ?_⟩
      · rw [up2_n _ _ _ (by omega)]; exact h5
      · rw [up2_n _ _ _ (by omega)]; exact h4
    have rs : up2 σ (13 + g) 2 (σ (13 + g) 2 - 1) (13 + g) 2 = nI (w - 1) := by rw [up2_ss, e2, hdec]
    by_cases c1 : w = 1
    · subst c1
      have f1 : f_waitEnds σ (13 + g) = (1, up2 σ (13 + g) 2 (σ (13 + g) 2 - 1)) := by
        unfold f_waitEnds
        rw [if_neg hne, rs, if_pos (show nI (1 - 1) = 0 from rfl)]
      have g1 : smG g μ = g_serve (g_dn μ g 1) g := by
        unfold smG
        rw [if_pos (by rw [ew]; rfl), if_neg (by rw [dn_rd13]; decide)]
      obtain ⟨n', hr, hc⟩ := sim_serve (R1 1) hg hn
      unfold stG
      rw [f1, g1]
      rw [if_neg (show ¬ (1 : Int32) = 0 by decide)]
      dsimp only
      generalize f_serve (up2 σ (13 + g) 2 (σ (13 + g) 2 - 1)) g = q at hr hc ⊢
      rcases hc with ⟨a, rfl⟩ | ⟨a, rfl⟩
      · rw [if_pos a]
        exact ⟨n', Nat.le_refl _, Nat.le_succ _, hz.symm, hr⟩
      · rw [if_neg (by rw [a]; decide)]
        refine ⟨n + 1, Nat.le_succ _, Nat.le_refl _, ?_, hr⟩
        dsimp only
        rw [Nat.add_sub_cancel_left]; rfl
    · have f1 : f_waitEnds σ (13 + g) = (0, up2 σ (13 + g) 2 (σ (13 + g) 2 - 1)) := by
        unfold f_waitEnds
        rw [if_neg hne, rs, if_neg (nI_ne0 (by omega) (by omega))]
      have g1 : smG g μ = g_dn μ g 0 := by
        unfold smG
        rw [if_neg (by rw [ew]; exact fun q => c1 ((nI_eq (a := w) (b := 1) (by omega) (by decide)).mp q)), if_pos (dn_rd13 μ g 0)]
      refine ⟨n, Nat.le_refl n, Nat.le_succ n, ?_, ?_⟩
      · unfold stG
        rw [f1, if_pos rfl, hz]
      · unfold stG
        rw [f1, if_pos rfl, g1]
        exact R1 0
theorem sim_kG : ∀ (k g : Nat) (sv : Int32) {σ μ : St} {n : Nat}, g + k ≤ 4 → n + k < 2 ^ 30 → RR σ μ n → ∃ n', n ≤ n' ∧ n' ≤ n + k ∧ (tkG k g sv σ).1 = sv + nI (n' - n) ∧ RR (tkG k g sv σ).2 (mkG k g μ) n' := by
  intro k
  induction k with
  | zero =>
    intro g sv σ μ n _ _ h
    refine ⟨n, Nat.le_refl n, Nat.le_refl n, ?_, h⟩
    show sv = _
    rw [Nat.sub_self]; exact (Int32.add_zero sv).symm
  | succ k ih =>
    intro g sv σ μ n h4 hn h
    obtain ⟨n1, a1, b1, e1, r1⟩ := sim_G h (show g < 4 by omega) (by omega) sv
    obtain ⟨n2, a2, b2, e2, r2⟩ := ih (g + 1) (stG g sv σ).1 (by omega) (by omega) r1
    rw [tkG, mkG]
    refine ⟨n2, by omega, by omega, ?_, r2⟩
    rw [e2, e1, Int32.add_assoc, nI_add, show n1 - n + (n2 - n1) = n2 - n by omega]
theorem sim_W {σ μ : St} {n g : Nat} (h : RR σ μ n) (hg : g < 4) : RR (stW g σ) (smW g μ) n := by
  have ha := asks_eq h.1 hg
  obtain ⟨-, d, hd, ed⟩ := h.2.1.2 g hg
  obtain ⟨hR, hI, hO, h5, h4⟩ := id h
  have e2 : σ (13 + g) 2 = μ 12 g := hR.rG hg (k := 2) (by decide)
  have e1 : σ (13 + g) 1 = μ 11 g := hR.rG hg (k := 1) (by decide)
  unfold stW smW
  rw [e2, ha, e1]
  by_cases c : μ 12 g = 0
  · rw [if_pos c, if_pos c]
    by_cases c2 : g_asks μ g = 0
    · rw [if_pos c2, if_pos c2]; exact h
    · rw [if_neg c2, if_neg c2]
      refine ⟨hR.G hg (k := 2) (by decide) _, hI.g12 hd ed, ok_other hO (by decide), ?_, ?_⟩
      · rw [up2_n _ _ _ (by omega)]; exact h5
      · rw [up2_n _ _ _ (by omega)]; exact h4
  · rw [if_neg c, if_neg c]; exact h
theorem sim_kW : ∀ (k g : Nat) {σ μ : St} {n : Nat}, g + k ≤ 4 → RR σ μ n → RR (wkG k g σ) (mkW k g μ) n := by
  intro k
  induction k with
  | zero => intro g σ μ n _ h; exact h
  | succ k ih =>
    intro g σ μ n h4 h
    rw [wkG, mkW]
    exact ih (g + 1) (by omega) (sim_W h (by omega))
theorem sim_tick {σ μ : St} {n : Nat} (h : RR σ μ n) (hn : n + 4 < 2 ^ 30) : ∃ n', n ≤ n' ∧ n' ≤ n + 4 ∧ (f_tick σ).1 = nI (n' - n) ∧ RR (f_tick σ).2 (g_tick μ) n' := by
  obtain ⟨hR, hI, hO, h5, h4⟩ := id h
  have r0 : RR (up2 σ 0 4 (σ 0 4 + 1)) (up2 μ 0 1 (μ 0 1 + 1)) n := by
    refine ⟨?_, hI.other (by decide) (by decide) (by decide) (by decide) (by decide) (by decide), ok_now hO, h5, h4⟩
    rw [hR.rN]; exact hR.N _
  have r1 := sim_kT 8 0 0 (by decide) r0
  obtain ⟨n', a, b, e, r2⟩ := sim_kG 4 0 0 (by decide) hn r1
  have r3 := sim_kW 4 0 (by decide) r2
  refine ⟨n', a, b, ?_, ?_⟩
  · unfold f_tick
    dsimp only
    rw [e]; exact Int32.zero_add _
  · unfold f_tick g_tick
    dsimp only
    exact r3
theorem sim_adv : ∀ (k : Nat) (sv : Int32) {σ μ : St} {n : Nat}, n + 4 * k < 2 ^ 30 → RR σ μ n → ∃ n', n ≤ n' ∧ n' ≤ n + 4 * k ∧ (advL k sv σ).1 = sv + nI (n' - n) ∧ RR (advL k sv σ).2 (advM k μ) n' := by
  intro k
  induction k with
  | zero =>
    intro sv σ μ n _ h
    refine ⟨n, Nat.le_refl n, Nat.le_refl n, ?_, h⟩
    show sv = _
    rw [Nat.sub_self]; exact (Int32.add_zero sv).symm
  | succ k ih =>
    intro sv σ μ n hn h
    obtain ⟨n1, a1, b1, e1, r1⟩ := sim_tick h (by omega)
    obtain ⟨n2, a2, b2, e2, r2⟩ := ih (sv + (f_tick σ).1) (by omega) r1
    rw [advL, advM]
    refine ⟨n2, by omega, by omega, ?_, r2⟩
    rw [e2, e1, Int32.add_assoc, nI_add, show n1 - n + (n2 - n1) = n2 - n by omega]
theorem sim_nxt {B : Int32} : ∀ (k i : Nat) {σ μ : St} {n : Nat}, n + 4 * k < 2 ^ 30 → RR σ μ n → B = nI n → (nxtL (nI (i + k)) k i σ).1 = (nxtM B k i μ).1 ∧ ∃ n', n ≤ n' ∧ n' ≤ n + 4 * k ∧ RR (nxtL (nI (i + k)) k i σ).2 (nxtM B k i μ).2 n' := by
  intro k
  induction k with
  | zero =>
    intro i σ μ n _ h _
    exact ⟨rfl, n, Nat.le_refl n, Nat.le_refl n, h⟩
  | succ k ih =>
    intro i σ μ n hn h hB
    obtain ⟨n1, a1, b1, e1, r1⟩ := sim_tick h (by omega)
    have c0 : μ 0 3 = B := by rw [h.2.2.1.1, hB]
    rw [nxtL, nxtM, if_pos c0, show i + (k + 1) = i + 1 + k by omega]
    generalize f_tick σ = q at e1 r1 ⊢
    generalize g_tick μ = μ1 at r1 ⊢
    by_cases c1 : n1 = n
    · subst c1
      rw [if_pos (by rw [e1, Nat.sub_self]; decide)]
      obtain ⟨q1, n2, q2, q3, q4⟩ := ih (i + 1) (by omega) r1 hB
      exact ⟨q1, n2, q2, by omega, q4⟩
    · rw [if_neg (by rw [e1]; exact nI_nle (by omega) (by omega))]
      have c2 : ¬ μ1 0 3 = B := by
        rw [r1.2.2.1.1, hB]
        exact fun z => c1 ((nI_eq (by omega) (by omega)).mp z)
      have e3 : nxtM B k (i + 1) μ1 = (nI (i + 1), μ1) := by
        cases k with
        | zero => rfl
        | succ k => rw [nxtM, if_neg c2]
      rw [e3]
      exact ⟨nI_1 i, n1, a1, by omega, r1⟩
