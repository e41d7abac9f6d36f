/-! THE TICK, SIDE BY SIDE -/
theorem sh_bit0 : ∀ s, s < 256 → ∀ t, t < 8 → (nI s >>> (nI t &&& 31)) &&& 1 = if nI s &&& bit1 (nI t) = 0 then 0 else 1 := by decide +kernel
theorem and_not0 : ∀ s, s < 256 → ∀ t, t < 8 → ¬ nI s &&& bit1 (nI t) = 0 → nI s &&& (bit1 (nI t) ^^^ (-1)) = nI s - bit1 (nI t) := by decide +kernel
theorem countDown_r1 {σ : St} {i : Nat} (h : i ≠ 1) : (f_countDown σ i).2 1 = σ 1 := by
  have e : ∀ (τ : St) (k : Nat) (v : Int32), up2 τ i k v 1 = τ 1 := fun τ k v => up2_n τ k v (Ne.symm h)
  unfold f_countDown
  split
  · rfl
  · split
    · split
      · dsimp only; rw [e, e]
      · dsimp only; rw [e, e, e]
    · dsimp only; rw [e]
theorem raise_r1 {σ : St} {t : Nat} : f_raise σ t 1 = σ 1 := by
  unfold f_raise
  split
  · rw [up2_n _ _ _ (by decide)]
  · rw [up2_n _ _ _ (by decide), up2_n _ _ _ (by omega)]
theorem raise_rl {B N : St} {t s : Nat} (ht : t < 8) (hs : s < 256) (r : Rl B N) (e2 : N 0 2 = nI s) : Rl (f_raise B t) (up2 (up2 N 9 (4 * t + 1) (N 9 (4 * t + 1) + (N 0 2 >>> (nI t &&& 31) &&& 1))) 0 2 (N 0 2 ||| bit1 (nI t))) := by
  have eS := r.rS
  have eO : B (5 + t) 6 = N 9 (4 * t + 1) := r.rO ht (c := 1) (by decide)
  have hsh := sh_bit0 s hs t ht
  unfold f_raise
  by_cases c : nI s &&& bit1 (nI t) = 0
  · rw [if_pos (by rw [eS, e2]; exact c), e2, hsh, if_pos c, Int32.add_zero, up2_same rfl, eS, e2]
    exact r.S _
  · rw [if_neg (by rw [eS, e2]; exact c), e2, hsh, if_neg c]
    have e1 : up2 B (5 + t) 6 (B (5 + t) 6 + 1) 0 3 = nI s := by rw [up2_n _ _ _ (by omega), eS, e2]
    rw [e1, eO]
    exact (r.O ht (c := 1) (by decide) _).S _
/-- the reference's end of a timer, count and runs in the class's order -/
def endN (μ : St) (t : Nat) (r : Int32) : St := up2 (up2 (up2 μ 5 t (μ 4 t)) 9 (4 * t) (μ 9 (4 * t) + 1)) 8 t r
theorem end_eq (μ : St) (t : Nat) (r : Int32) : g_end μ t r = up2 (up2 (endN μ t r) 9 (4 * t + 1) (endN μ t r 9 (4 * t + 1) + (endN μ t r 0 2 >>> (nI t &&& 31) &&& 1))) 0 2 (endN μ t r 0 2 ||| bit1 (nI t)) := by
  have eK : up2 (up2 (up2 (up2 μ 5 t (μ 5 t - 1)) 5 t (μ 4 t)) 8 t r) 9 (4 * t) (μ 9 (4 * t) + 1) = endN μ t r := by
    unfold endN
    rw [up2_up2, up2_comm _ _ _ (show 8 ≠ 9 by decide)]
  rw [← eK]
  rfl
theorem end_MI {μ : St} {t : Nat} {r : Int32} (h : MI μ) (ht : t < 8) (hr : r = 0 ∨ r = 1) : MI (g_end μ t r) := by
  obtain ⟨-, ⟨q, hq1, hq2, eq⟩, -, -⟩ := h.1 t ht
  rw [end_eq]
  unfold endN
  exact ((((h.t5 hq1 hq2 eq).other (by decide) (by decide) (by decide) (by decide) (by decide) (by decide)).t8 hr).other (by decide) (by decide) (by decide) (by decide) (by decide) (by decide)).other (by decide) (by decide) (by decide) (by decide) (by decide) (by decide)
theorem sim_ev {σ μ : St} {n t : Nat} (h : RR σ μ n) (ht : t < 8) : (g_event μ t).1 = (f_countDown σ (5 + t)).1 ∧ ((f_countDown σ (5 + t)).1 = 0 → RR (f_countDown σ (5 + t)).2 (g_event μ t).2 n) ∧ (¬ (f_countDown σ (5 + t)).1 = 0 → RR (f_raise (f_countDown σ (5 + t)).2 t) (g_event μ t).2 n) := by
  have hM := event_ok ht h.2.2.1
  have hr1 := countDown_r1 (σ := σ) (i := 5 + t) (by omega)
  have hr2 := raise_r1 (σ := (f_countDown σ (5 + t)).2) (t := t)
  obtain ⟨hR, hI, hO, h5, h4⟩ := h
  have e8 : σ (5 + t) 4 = μ 8 t := hR.rT ht (k := 4) (by decide)
  have e5 : σ (5 + t) 1 = μ 5 t := hR.rT ht (k := 1) (by decide)
  have e4 : σ (5 + t) 0 = μ 4 t := hR.rT ht (k := 0) (by decide)
  have e7 : σ (5 + t) 3 = μ 7 t := hR.rT ht (k := 3) (by decide)
  by_cases c1 : μ 8 t = 0
  · have f1 : f_countDown σ (5 + t) = (0, σ) := by unfold f_countDown; rw [if_pos (by rw [e8]; exact c1)]
    have g1 : g_event μ t = (0, μ) := by unfold g_event; rw [if_pos c1]
    rw [f1, g1]
    exact ⟨rfl, fun _ => ⟨hR, hI, hO, h5, h4⟩, fun q => absurd rfl q⟩
  · obtain ⟨⟨c, hc1, hc2, ec⟩, ⟨q, hq1, hq2, eq⟩, i7, i8⟩ := hI.1 t ht
    have hv : μ 5 t - 1 = nI (c - 1) := by rw [ec, show (1 : Int32) = nI 1 from rfl, pk_sub hc1]
    have hrd : up2 μ 5 t (μ 5 t - 1) 5 t = nI (c - 1) := by rw [up2_ss, hv]
    by_cases c2 : c ≤ 1
    · have c3 : c = 1 := by omega
      subst c3
      have hle : up2 μ 5 t (μ 5 t - 1) 5 t ≤ 0 := by rw [hrd]; decide
      have eA : up2 σ (5 + t) 1 (σ (5 + t) 0) (5 + t) 5 = μ 9 (4 * t) := by
        rw [up2_sn _ _ _ (by decide)]; exact hR.rO ht (c := 0) (by decide)
      have r1 : Rl (up2 σ (5 + t) 1 (σ (5 + t) 0)) (up2 μ 5 t (μ 4 t)) := by rw [e4]; exact hR.T ht (k := 1) (by decide) (μ 4 t)
      have r2 : Rl (up2 (up2 σ (5 + t) 1 (σ (5 + t) 0)) (5 + t) 5 (up2 σ (5 + t) 1 (σ (5 + t) 0) (5 + t) 5 + 1)) (up2 (up2 μ 5 t (μ 4 t)) 9 (4 * t) (μ 9 (4 * t) + 1)) := by
        rw [eA]; exact r1.O ht (c := 0) (by decide) _
      have e3 : up2 (up2 σ (5 + t) 1 (σ (5 + t) 0)) (5 + t) 5 (up2 σ (5 + t) 1 (σ (5 + t) 0) (5 + t) 5 + 1) (5 + t) 3 = μ 7 t := by
        rw [up2_sn _ _ _ (by decide), up2_sn _ _ _ (by decide), e7]
      obtain ⟨s, hs, es⟩ := hO.2
      have hf : f_countDown σ (5 + t) = if μ 7 t = 0 then (1, up2 (up2 σ (5 + t) 1 (σ (5 + t) 0)) (5 + t) 5 (up2 σ (5 + t) 1 (σ (5 + t) 0) (5 + t) 5 + 1)) else (1, up2 (up2 (up2 σ (5 + t) 1 (σ (5 + t) 0)) (5 + t) 5 (up2 σ (5 + t) 1 (σ (5 + t) 0) (5 + t) 5 + 1)) (5 + t) 4 0) := by
        unfold f_countDown
        rw [if_neg (by rw [e8]; exact c1), if_pos (by rw [e5, ec]; decide), e3]
      have hg : g_event μ t = if μ 7 t = 0 then (1, g_end μ t 1) else (1, g_end μ t 0) := by
        unfold g_event
        rw [if_neg c1, if_pos hle]
        rfl
      generalize up2 (up2 σ (5 + t) 1 (σ (5 + t) 0)) (5 + t) 5 (up2 σ (5 + t) 1 (σ (5 + t) 0) (5 + t) 5 + 1) = A2 at r2 hf
      by_cases c7 : μ 7 t = 0
      · rw [if_pos c7] at hf hg
        rw [hf] at hr1 hr2 ⊢
        rw [hg] at hM ⊢
        refine ⟨rfl, fun q => absurd q (show ¬ (1 : Int32) = 0 by decide), fun _ => ⟨?_, end_MI hI ht (Or.inr rfl), hM, ?_, ?_⟩⟩
        · dsimp only
          rw [end_eq]
          refine raise_rl ht hs ?_ es
          unfold endN
          rw [up2_same (show up2 (up2 μ 5 t (μ 4 t)) 9 (4 * t) (μ 9 (4 * t) + 1) 8 t = 1 from i8.resolve_left c1)]
          exact r2
        · rw [hr2]; dsimp only at hr1 ⊢; rw [hr1]; exact h5
        · rw [hr2]; dsimp only at hr1 ⊢; rw [hr1]; exact h4
      · rw [if_neg c7] at hf hg
        rw [hf] at hr1 hr2 ⊢
        rw [hg] at hM ⊢
        refine ⟨rfl, fun q => absurd q (show ¬ (1 : Int32) = 0 by decide), fun _ => ⟨?_, end_MI hI ht (Or.inl rfl), hM, ?_, ?_⟩⟩
        · dsimp only
          rw [end_eq]
          refine raise_rl ht hs ?_ es
          unfold endN
          exact r2.T ht (k := 4) (by decide) 0
        · rw [hr2]; dsimp only at hr1 ⊢; rw [hr1]; exact h5
        · rw [hr2]; dsimp only at hr1 ⊢; rw [hr1]; exact h4
    · have f1 : f_countDown σ (5 + t) = (0, up2 σ (5 + t) 1 (σ (5 + t) 1 - 1)) := by
        unfold f_countDown
        rw [if_neg (by rw [e8]; exact c1), if_neg (by rw [e5, ec]; exact nI_ge (a := 1) (b := c) (by omega) (by omega))]
      have g1 : g_event μ t = (0, up2 μ 5 t (μ 5 t - 1)) := by
        unfold g_event
        rw [if_neg c1, if_neg (by rw [hrd]; exact nI_nle (by omega) (by omega))]
      rw [f1, g1]
      refine ⟨rfl, fun _ => ⟨?_, hI.t5 (q := c - 1) (by omega) (by omega) hv, ok_other hO (by decide), ?_, ?_⟩, fun q => absurd rfl q⟩
      · rw [e5]; exact hR.T ht (k := 1) (by decide) _
      · show up2 σ (5 + t) 1 _ 1 5 = _
        rw [up2_n _ _ _ (by omega)]; exact h5
      · show up2 σ (5 + t) 1 _ 1 4 = _
        rw [up2_n _ _ _ (by omega)]; exact h4
theorem sim_T {σ μ : St} {n t : Nat} (h : RR σ μ n) (ht : t < 8) (e : Int32) : (stT e t σ).1 = (smT e t μ).1 ∧ RR (stT e t σ).2 (smT e t μ).2 n := by
  obtain ⟨a, b, c⟩ := sim_ev h ht
  have e6 : σ (5 + t) 2 = μ 6 t := h.1.rT ht (k := 2) (by decide)
  unfold stT smT
  rw [e6, a]
  by_cases c0 : μ 6 t = 0
  · rw [if_pos c0, if_pos c0]
    by_cases c1 : (f_countDown σ (5 + t)).1 = 0
    · rw [if_pos c1, if_pos c1]; exact ⟨rfl, b c1⟩
    · rw [if_neg c1, if_neg c1]; exact ⟨rfl, c c1⟩
  · rw [if_neg c0, if_neg c0]
    by_cases c2 : e = 0
    · rw [if_pos c2, if_pos c2]; exact ⟨rfl, h⟩
    · rw [if_neg c2, if_neg c2]
      by_cases c1 : (f_countDown σ (5 + t)).1 = 0
      · rw [if_pos c1, if_pos c1]; exact ⟨rfl, b c1⟩
      · rw [if_neg c1, if_neg c1]; exact ⟨rfl, c c1⟩
theorem sim_kT : ∀ (k t : Nat) (e : Int32) {σ μ : St} {n : Nat}, t + k ≤ 8 → RR σ μ n → RR (tkT k t e σ) (mkT k t e μ) n := by
  intro k
  induction k with
  | zero => intro t e σ μ n _ h; exact h
  | succ k ih =>
    intro t e σ μ n h8 h
    obtain ⟨a, b⟩ := sim_T h (show t < 8 by omega) e
    rw [tkT, mkT, a]
    exact ih (t + 1) _ (by omega) b
theorem asks_eq {σ μ : St} {g : Nat} (h : Rl σ μ) (hg : g < 4) : f_asks σ (13 + g) (σ 0 3) = g_asks μ g := by
  unfold f_asks g_asks
  rw [h.rS, h.rG hg (k := 0) (by decide)]
theorem sim_serve {σ μ : St} {n g : Nat} (h : RR σ μ n) (hg : g < 4) (hn : n < 2 ^ 30) : ∃ n', RR (f_serve σ g).2 (g_serve μ g) n' ∧ (((f_serve σ g).1 = 0 ∧ n' = n) ∨ ((f_serve σ g).1 = 1 ∧ n' = n + 1)) := by
  have hnn := mOK_nn h.2.2.1 hn
  have ha := asks_eq h.1 hg
  by_cases c : g_asks μ g = 0
  · obtain ⟨hR, hI, hO, h5, h4⟩ := h
    have f1 : f_serve σ g = (0, up2 σ (13 + g) 4 (σ (13 + g) 4 + 1)) := by unfold f_serve; rw [if_pos (by rw [ha]; exact c)]
    have g1 : g_serve μ g = up2 μ 15 g (μ 15 g + 1) := by unfold g_serve; rw [if_pos c]
    have e4 : σ (13 + g) 4 = μ 15 g := hR.rG' hg (k := 4) (by decide) (by decide)
    refine ⟨n, ?_, Or.inl ⟨by rw [f1], rfl⟩⟩
    rw [f1, g1]
    refine ⟨?_, hI.other (by decide) (by decide) (by decide) (by decide) (by decide) (by decide), ok_other hO (by decide), ?_, ?_⟩
    · rw [e4]; exact hR.G' hg (k := 4) (by decide) (by decide) _
    · show up2 σ (13 + g) 4 _ 1 5 = _
      rw [up2_n _ _ _ (by omega)]; exact h5
    · show up2 σ (13 + g) 4 _ 1 4 = _
      rw [up2_n _ _ _ (by omega)]; exact h4
  · have hit := lb_hit h.2.2.1 c
    obtain ⟨hR, hI, hO, h5, h4⟩ := h
    have f1 : f_serve σ g = (1, (f_serve σ g).2) := by unfold f_serve; rw [if_neg (by rw [ha]; exact c)]
    refine ⟨n + 1, ?_, Or.inr ⟨by rw [f1], rfl⟩⟩
    have eb : σ 0 3 &&& σ (13 + g) 0 = μ 0 2 &&& μ 10 g := by rw [hR.rS, hR.rG hg (k := 0) (by decide)]
    have h8 := lbN_lt (μ 0 2 &&& μ 10 g) 7 0 (by decide)
    unfold f_serve g_serve
    rw [if_neg (by rw [ha]; exact c), if_neg c, eb, hnn]
    generalize lbN (μ 0 2 &&& μ 10 g) 7 0 = t at hit h8
    obtain ⟨e3, s, hs, es⟩ := hO
    rw [es] at hit
    have hsub := sub_bit0 s hs t h8 hit
    have hst : σ 0 3 &&& (bit1 (nI t) ^^^ (-1)) = μ 0 2 - bit1 (nI t) := by rw [hR.rS, es]; exact and_not0 s hs t h8 hit
    dsimp only
    rw [hst]
    have r1 := hR.S (μ 0 2 - bit1 (nI t))
    have q5 : up2 σ 0 3 (μ 0 2 - bit1 (nI t)) 1 = σ 1 := rfl
    have m1 : mOK (up2 μ 0 2 (μ 0 2 - bit1 (nI t))) n := ⟨e3, s - 2 ^ t, Nat.lt_of_le_of_lt (Nat.sub_le _ _) hs, by rw [es, ← hsub.2]; rfl⟩
    have i1 : MI (up2 μ 0 2 (μ 0 2 - bit1 (nI t))) := hI.other (by decide) (by decide) (by decide) (by decide) (by decide) (by decide)
    have w1 : up2 μ 0 2 (μ 0 2 - bit1 (nI t)) 0 1 = μ 0 1 := rfl
    generalize up2 σ 0 3 (μ 0 2 - bit1 (nI t)) = σ1 at r1 q5 ⊢
    generalize up2 μ 0 2 (μ 0 2 - bit1 (nI t)) = μ1 at r1 m1 i1 w1 ⊢
    have e7 : σ1 (5 + t) 7 = μ1 9 (4 * t + 2) := r1.rO h8 (c := 2) (by decide)
    rw [e7]
    have r2 := r1.O h8 (c := 2) (by decide) (μ1 9 (4 * t + 2) + 1)
    have p5 : up2 σ1 (5 + t) 7 (μ1 9 (4 * t + 2) + 1) 1 = σ 1 := by rw [up2_n _ _ _ (by omega)]; exact q5
    have m2 : mOK (up2 μ1 9 (4 * t + 2) (μ1 9 (4 * t + 2) + 1)) n := ok_other m1 (by decide)
    have i2 : MI (up2 μ1 9 (4 * t + 2) (μ1 9 (4 * t + 2) + 1)) := i1.other (by decide) (by decide) (by decide) (by decide) (by decide) (by decide)
    have w2 : up2 μ1 9 (4 * t + 2) (μ1 9 (4 * t + 2) + 1) 0 1 = μ 0 1 := w1
    change Rl (up2 σ1 (5 + t) 7 _) _ at r2
    generalize up2 σ1 (5 + t) 7 (μ1 9 (4 * t + 2) + 1) = σ2 at r2 p5 ⊢
    generalize up2 μ1 9 (4 * t + 2) (μ1 9 (4 * t + 2) + 1) = μ2 at r2 m2 i2 w2 ⊢
    have eg3 : σ2 (13 + g) 3 = μ2 14 g := r2.rG' hg (k := 3) (by decide) (by decide)
    rw [eg3]
    have r3 := r2.G' hg (k := 3) (by decide) (by decide) (μ2 14 g + 1)
    change Rl (up2 σ2 (13 + g) 3 _) (up2 μ2 14 g _) at r3
    have p6 : up2 σ2 (13 + g) 3 (μ2 14 g + 1) 1 = σ 1 := by rw [up2_n _ _ _ (by omega)]; exact p5
    have m3 : mOK (up2 μ2 14 g (μ2 14 g + 1)) n := ok_other m2 (by decide)
    have i3 : MI (up2 μ2 14 g (μ2 14 g + 1)) := i2.other (by decide) (by decide) (by decide) (by decide) (by decide) (by decide)
    have w3 : up2 μ2 14 g (μ2 14 g + 1) 0 1 = μ 0 1 := w2
    generalize up2 σ2 (13 + g) 3 (μ2 14 g + 1) = σ3 at r3 p6 ⊢
    generalize up2 μ2 14 g (μ2 14 g + 1) = μ3 at r3 m3 i3 w3 ⊢
    have en : σ3 0 4 = μ3 0 1 := r3.rN
    rw [en]
    have r4 := r3.G' hg (k := 5) (by decide) (by decide) (μ3 0 1)
    change Rl (up2 σ3 (13 + g) 5 _) (up2 μ3 16 g _) at r4
    have p7 : up2 σ3 (13 + g) 5 (μ3 0 1) 1 = σ 1 := by rw [up2_n _ _ _ (by omega)]; exact p6
    have m4 : mOK (up2 μ3 16 g (μ3 0 1)) n := ok_other m3 (by decide)
    have i4 : MI (up2 μ3 16 g (μ3 0 1)) := i3.other (by decide) (by decide) (by decide) (by decide) (by decide) (by decide)
    generalize up2 σ3 (13 + g) 5 (μ3 0 1) = σ4 at r4 p7 ⊢
    generalize up2 μ3 16 g (μ3 0 1) = μ4 at r4 m4 i4 ⊢
    have en4 : σ4 0 4 = μ4 0 1 := r4.rN
    have k5 : σ4 1 5 = nI (n % 16) := by rw [p7]; exact h5
    have k4 : σ4 1 4 = nI (min n 16) := by rw [p7]; exact h4
    have k3 : σ4 1 3 = μ4 0 3 := r4.rC
    have hp : n % 16 < 16 := Nat.mod_lt _ (by decide)
    have kc : (σ4 1 5).toNatClampNeg = n % 16 := by rw [k5]; exact nI_clamp (by omega)
    have ra := r4.R (i := 0) (p := n % 16) (by decide) hp (nI t)
    have rb := ra.R (i := 1) (p := n % 16) (by decide) hp (nI g)
    have rc := rb.R (i := 2) (p := n % 16) (by decide) hp (μ4 0 1)
    have rr : Rl (f_arr σ4 (nI t) (nI g) (μ4 0 1)) (up2 (up2 (up2 μ4 17 (3 * (n % 16)) (nI t)) 17 (3 * (n % 16) + 1) (nI g)) 17 (3 * (n % 16) + 2) (μ4 0 1)) := by
      unfold f_arr
      rw [kc]
      exact rc.skipX (by decide) _
    have hrow : ∀ (x : Int32), rm16 (nI (n % 16) + 1) = nI ((n + 1) % 16) := fun _ => by
      rw [nI_1, rm16_nI (by omega)]
      congr 1
      omega
    have mm : mOK (up2 (up2 (up2 (up2 μ4 17 (3 * (n % 16)) (nI t)) 17 (3 * (n % 16) + 1) (nI g)) 17 (3 * (n % 16) + 2) (μ4 0 1)) 0 3 (μ4 0 3 + 1)) (n + 1) := ⟨by show μ4 0 3 + 1 = nI (n + 1); rw [m4.1, nI_1], m4.2⟩
    have ii : MI (up2 (up2 (up2 (up2 μ4 17 (3 * (n % 16)) (nI t)) 17 (3 * (n % 16) + 1) (nI g)) 17 (3 * (n % 16) + 2) (μ4 0 1)) 0 3 (μ4 0 3 + 1)) := (((i4.other (by decide) (by decide) (by decide) (by decide) (by decide) (by decide)).other (by decide) (by decide) (by decide) (by decide) (by decide) (by decide)).other (by decide) (by decide) (by decide) (by decide) (by decide) (by decide)).other (by decide) (by decide) (by decide) (by decide) (by decide) (by decide)
    rw [en4]
    unfold f_add
    by_cases cf : 16 ≤ σ4 1 4
    · rw [if_pos cf, k3]
      refine ⟨rr.C _, ii, mm, ?_, ?_⟩
      · show rm16 (σ4 1 5 + 1) = _
        rw [k5]; exact hrow 0
      · show σ4 1 4 = _
        rw [k4] at cf ⊢
        have : 16 ≤ min n 16 := by
          rcases Nat.lt_or_ge (min n 16) 16 with q | q
          · exact absurd cf (nI_ge (a := min n 16) (b := 16) q (by decide))
          · exact q
        congr 1
        omega
    · rw [if_neg cf, k3]
      refine ⟨(rr.skipX (by decide) _).C _, ii, mm, ?_, ?_⟩
      · show rm16 (σ4 1 5 + 1) = _
        rw [k5]; exact hrow 0
      · show σ4 1 4 + 1 = _
        rw [k4] at cf ⊢
        have : min n 16 < 16 := by
          rcases Nat.lt_or_ge (min n 16) 16 with q | q
          · exact q
          · exact absurd (nI_le (a := 16) (b := min n 16) q (by omega)) cf
        rw [nI_1]
        congr 1
        omega
