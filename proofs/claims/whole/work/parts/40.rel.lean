/-! THE RELATION: which cell of the class's state is which of the reference's -/
theorem up2_rd (σ : St) (i k : Nat) (v : Int32) (i' k' : Nat) : up2 σ i k v i' k' = if i' = i ∧ k' = k then v else σ i' k' := by
  unfold up2 upd
  by_cases h : i' = i
  · subst h
    by_cases h2 : k' = k
    · simp [h2]
    · simp [h2]
  · simp [h]
theorem up2_up2 (σ : St) (i k : Nat) (u v : Int32) : up2 (up2 σ i k u) i k v = up2 σ i k v := by
  funext i' k'
  simp only [up2_rd]
  split <;> rfl
theorem up2_same {σ : St} {i k : Nat} {v : Int32} (h : σ i k = v) : up2 σ i k v = σ := by
  funext i' k'
  rw [up2_rd]
  split
  · next e => rw [e.1, e.2, h]
  · rfl
theorem up2_comm (σ : St) {i k i' k' : Nat} (u v : Int32) (h : i ≠ i') : up2 (up2 σ i k u) i' k' v = up2 (up2 σ i' k' v) i k u := by
  funext a c
  simp only [up2_rd]
  by_cases e1 : a = i ∧ c = k
  · rw [if_pos e1, if_pos e1, if_neg (fun e2 => h (e1.1.symm.trans e2.1))]
  · rw [if_neg e1, if_neg e1]
def ph (i k : Nat) : Nat × Nat := if i = 0 then (0, if k = 3 then 2 else 1) else if i = 1 then (0, 3) else if i < 5 then (17, 3 * k + (i - 2)) else if i < 13 then (if k < 5 then (4 + k, i - 5) else (9, 4 * (i - 5) + (k - 5))) else (if k < 3 then 10 + k else 11 + k, i - 13)
def vc (i k : Nat) : Prop := (i = 0 ∧ (k = 3 ∨ k = 4)) ∨ (i = 1 ∧ k = 3) ∨ (2 ≤ i ∧ i < 5 ∧ k < 16) ∨ (5 ≤ i ∧ i < 13 ∧ k < 9) ∨ (13 ≤ i ∧ i < 17 ∧ k < 6)
theorem ph_S : ph 0 3 = (0, 2) := rfl
theorem ph_N : ph 0 4 = (0, 1) := rfl
theorem ph_C : ph 1 3 = (0, 3) := rfl
theorem ph_R {i p : Nat} (hi : i < 3) : ph (2 + i) p = (17, 3 * p + i) := by
  unfold ph
  rw [if_neg (by omega), if_neg (by omega), if_pos (by omega), Nat.add_sub_cancel_left]
theorem ph_T {t k : Nat} (ht : t < 8) (hk : k < 5) : ph (5 + t) k = (4 + k, t) := by
  unfold ph
  rw [if_neg (by omega), if_neg (by omega), if_neg (by omega), if_pos (by omega), if_pos hk, Nat.add_sub_cancel_left]
theorem ph_O {t c : Nat} (ht : t < 8) : ph (5 + t) (5 + c) = (9, 4 * t + c) := by
  unfold ph
  rw [if_neg (by omega), if_neg (by omega), if_neg (by omega), if_pos (by omega), if_neg (by omega), Nat.add_sub_cancel_left, Nat.add_sub_cancel_left]
theorem ph_G {g k : Nat} (hk : k < 3) : ph (13 + g) k = (10 + k, g) := by
  unfold ph
  rw [if_neg (by omega), if_neg (by omega), if_neg (by omega), if_neg (by omega), if_pos hk, Nat.add_sub_cancel_left]
theorem ph_G' {g k : Nat} (hk : ¬ k < 3) : ph (13 + g) k = (11 + k, g) := by
  unfold ph
  rw [if_neg (by omega), if_neg (by omega), if_neg (by omega), if_neg (by omega), if_neg hk, Nat.add_sub_cancel_left]
/-- the cells one by one -/
theorem vc_cases {P : Nat → Nat → Prop} (h1 : P 0 3) (h2 : P 0 4) (h3 : P 1 3) (h4 : ∀ i p, i < 3 → p < 16 → P (2 + i) p) (h5 : ∀ t k, t < 8 → k < 5 → P (5 + t) k) (h6 : ∀ t c, t < 8 → c < 4 → P (5 + t) (5 + c)) (h7 : ∀ g k, g < 4 → k < 3 → P (13 + g) k) (h8 : ∀ g k, g < 4 → ¬ k < 3 → k < 6 → P (13 + g) k) : ∀ i k, vc i k → P i k := by
  intro i k h
  rcases h with ⟨rfl, rfl | rfl⟩ | ⟨rfl, rfl⟩ | ⟨a, b, c⟩ | ⟨a, b, c⟩ | ⟨a, b, c⟩
  · exact h1
  · exact h2
  · exact h3
  · obtain ⟨j, rfl⟩ : ∃ j, i = 2 + j := ⟨i - 2, by omega⟩
    exact h4 j k (by omega) c
  · obtain ⟨j, rfl⟩ : ∃ j, i = 5 + j := ⟨i - 5, by omega⟩
    by_cases q : k < 5
    · exact h5 j k (by omega) q
    · obtain ⟨m, rfl⟩ : ∃ m, k = 5 + m := ⟨k - 5, by omega⟩
      exact h6 j m (by omega) (by omega)
  · obtain ⟨j, rfl⟩ : ∃ j, i = 13 + j := ⟨i - 13, by omega⟩
    by_cases q : k < 3
    · exact h7 j k (by omega) q
    · exact h8 j k (by omega) q c
theorem ph_inj {i k i' k' : Nat} (h : vc i k) (h' : vc i' k') (e : ph i k = ph i' k') : i = i' ∧ k = k' := by
  unfold vc at h h'
  unfold ph at e
  repeat' split at e
  all_goals (simp only [Prod.mk.injEq] at e; omega)
theorem ph_13 {i k : Nat} (h : vc i k) : (ph i k).1 ≠ 13 := by
  unfold vc at h
  unfold ph
  repeat' split
  all_goals (simp only; omega)
def Rl (σ μ : St) : Prop := ∀ i k, vc i k → σ i k = μ (ph i k).1 (ph i k).2
theorem Rl.up {σ μ : St} (h : Rl σ μ) {i k : Nat} (hv : vc i k) {a c : Nat} (e : ph i k = (a, c)) (v : Int32) : Rl (up2 σ i k v) (up2 μ a c v) := by
  intro i' k' hv'
  rw [up2_rd, up2_rd]
  by_cases q : i' = i ∧ k' = k
  · rw [if_pos q, if_pos]
    rw [q.1, q.2, e]; exact ⟨rfl, rfl⟩
  · rw [if_neg q, if_neg]
    · exact h i' k' hv'
    · intro e2
      exact q (ph_inj hv' hv (by rw [e]; exact Prod.ext e2.1 e2.2))
theorem Rl.rd {σ μ : St} (h : Rl σ μ) {i k : Nat} (hv : vc i k) {a c : Nat} (e : ph i k = (a, c)) : σ i k = μ a c := by
  have := h i k hv
  rw [e] at this; exact this
theorem vc_S : vc 0 3 := Or.inl ⟨rfl, Or.inl rfl⟩
theorem vc_N : vc 0 4 := Or.inl ⟨rfl, Or.inr rfl⟩
theorem vc_C : vc 1 3 := Or.inr (Or.inl ⟨rfl, rfl⟩)
theorem vc_R {i p : Nat} (hi : i < 3) (hp : p < 16) : vc (2 + i) p := by unfold vc; omega
theorem vc_T {t k : Nat} (ht : t < 8) (hk : k < 9) : vc (5 + t) k := by unfold vc; omega
theorem vc_G {g k : Nat} (hg : g < 4) (hk : k < 6) : vc (13 + g) k := by unfold vc; omega
theorem Rl.skipM {σ μ : St} (h : Rl σ μ) (g : Nat) (v : Int32) : Rl σ (up2 μ 13 g v) := by
  intro i k hv
  rw [up2_rd, if_neg (fun e => ph_13 hv e.1)]
  exact h i k hv
theorem Rl.skipX {σ μ : St} (h : Rl σ μ) {k : Nat} (hk : k ≠ 3) (v : Int32) : Rl (up2 σ 1 k v) μ := by
  intro i' k' hv
  rw [up2_rd, if_neg]
  · exact h i' k' hv
  · rintro ⟨rfl, rfl⟩
    unfold vc at hv
    omega
section RLS
variable {σ μ : St} (h : Rl σ μ)
theorem Rl.S (v : Int32) (h : Rl σ μ) : Rl (up2 σ 0 3 v) (up2 μ 0 2 v) := h.up vc_S ph_S v
theorem Rl.N (v : Int32) (h : Rl σ μ) : Rl (up2 σ 0 4 v) (up2 μ 0 1 v) := h.up vc_N ph_N v
theorem Rl.C (v : Int32) (h : Rl σ μ) : Rl (up2 σ 1 3 v) (up2 μ 0 3 v) := h.up vc_C ph_C v
theorem Rl.R {i p : Nat} (hi : i < 3) (hp : p < 16) (v : Int32) (h : Rl σ μ) : Rl (up2 σ (2 + i) p v) (up2 μ 17 (3 * p + i) v) := h.up (vc_R hi hp) (ph_R hi) v
theorem Rl.T {t k : Nat} (ht : t < 8) (hk : k < 5) (v : Int32) (h : Rl σ μ) : Rl (up2 σ (5 + t) k v) (up2 μ (4 + k) t v) := h.up (vc_T ht (by omega)) (ph_T ht hk) v
theorem Rl.O {t c : Nat} (ht : t < 8) (hc : c < 4) (v : Int32) (h : Rl σ μ) : Rl (up2 σ (5 + t) (5 + c) v) (up2 μ 9 (4 * t + c) v) := h.up (vc_T ht (by omega)) (ph_O ht) v
theorem Rl.G {g k : Nat} (hg : g < 4) (hk : k < 3) (v : Int32) (h : Rl σ μ) : Rl (up2 σ (13 + g) k v) (up2 μ (10 + k) g v) := h.up (vc_G hg (by omega)) (ph_G hk) v
theorem Rl.G' {g k : Nat} (hg : g < 4) (hk : ¬ k < 3) (hk2 : k < 6) (v : Int32) (h : Rl σ μ) : Rl (up2 σ (13 + g) k v) (up2 μ (11 + k) g v) := h.up (vc_G hg (by omega)) (ph_G' hk) v
theorem Rl.rS (h : Rl σ μ) : σ 0 3 = μ 0 2 := h.rd vc_S ph_S
theorem Rl.rN (h : Rl σ μ) : σ 0 4 = μ 0 1 := h.rd vc_N ph_N
theorem Rl.rC (h : Rl σ μ) : σ 1 3 = μ 0 3 := h.rd vc_C ph_C
theorem Rl.rR {i p : Nat} (hi : i < 3) (hp : p < 16) (h : Rl σ μ) : σ (2 + i) p = μ 17 (3 * p + i) := h.rd (vc_R hi hp) (ph_R hi)
theorem Rl.rT {t k : Nat} (ht : t < 8) (hk : k < 5) (h : Rl σ μ) : σ (5 + t) k = μ (4 + k) t := h.rd (vc_T ht (by omega)) (ph_T ht hk)
theorem Rl.rO {t c : Nat} (ht : t < 8) (hc : c < 4) (h : Rl σ μ) : σ (5 + t) (5 + c) = μ 9 (4 * t + c) := h.rd (vc_T ht (by omega)) (ph_O ht)
theorem Rl.rG {g k : Nat} (hg : g < 4) (hk : k < 3) (h : Rl σ μ) : σ (13 + g) k = μ (10 + k) g := h.rd (vc_G hg (by omega)) (ph_G hk)
theorem Rl.rG' {g k : Nat} (hg : g < 4) (hk : ¬ k < 3) (hk2 : k < 6) (h : Rl σ μ) : σ (13 + g) k = μ (11 + k) g := h.rd (vc_G hg (by omega)) (ph_G' hk)
end RLS
def TI (μ : St) (t : Nat) : Prop := (∃ c : Nat, 1 ≤ c ∧ c ≤ 65535 ∧ μ 5 t = nI c) ∧ (∃ q : Nat, 1 ≤ q ∧ q ≤ 65535 ∧ μ 4 t = nI q) ∧ (μ 7 t = 0 ∨ μ 7 t = 1) ∧ (μ 8 t = 0 ∨ μ 8 t = 1)
def GI (μ : St) (g : Nat) : Prop := (∃ w : Nat, w ≤ 1000 ∧ μ 12 g = nI w) ∧ (∃ d : Nat, d ≤ 1000 ∧ μ 11 g = nI d)
def MI (μ : St) : Prop := (∀ t, t < 8 → TI μ t) ∧ ∀ g, g < 4 → GI μ g
theorem MI.other {μ : St} (h : MI μ) {r c : Nat} {v : Int32} (h4 : r ≠ 4) (h5 : r ≠ 5) (h7 : r ≠ 7) (h8 : r ≠ 8) (h11 : r ≠ 11) (h12 : r ≠ 12) : MI (up2 μ r c v) := by
  unfold MI TI GI at *
  simp only [up2_n μ c v (Ne.symm h4), up2_n μ c v (Ne.symm h5), up2_n μ c v (Ne.symm h7), up2_n μ c v (Ne.symm h8), up2_n μ c v (Ne.symm h11), up2_n μ c v (Ne.symm h12)]
  exact h
theorem MI.t4 {μ : St} (h : MI μ) {t q : Nat} (h1 : 1 ≤ q) (h2 : q ≤ 65535) {v : Int32} (e : v = nI q) : MI (up2 μ 4 t v) := by
  refine ⟨fun t' ht' => ?_, fun g hg => h.2 g hg⟩
  obtain ⟨a, b, c, d⟩ := h.1 t' ht'
  refine ⟨a, ?_, c, d⟩
  rw [up2_rd]
  split
  · exact ⟨q, h1, h2, e⟩
  · exact b
theorem MI.t5 {μ : St} (h : MI μ) {t q : Nat} (h1 : 1 ≤ q) (h2 : q ≤ 65535) {v : Int32} (e : v = nI q) : MI (up2 μ 5 t v) := by
  refine ⟨fun t' ht' => ?_, fun g hg => h.2 g hg⟩
  obtain ⟨a, b, c, d⟩ := h.1 t' ht'
  refine ⟨?_, b, c, d⟩
  rw [up2_rd]
  split
  · exact ⟨q, h1, h2, e⟩
  · exact a
theorem MI.t7 {μ : St} (h : MI μ) {t : Nat} {v : Int32} (e : v = 0 ∨ v = 1) : MI (up2 μ 7 t v) := by
  refine ⟨fun t' ht' => ?_, fun g hg => h.2 g hg⟩
  obtain ⟨a, b, c, d⟩ := h.1 t' ht'
  refine ⟨a, b, ?_, d⟩
  rw [up2_rd]
  split
  · exact e
  · exact c
theorem MI.t8 {μ : St} (h : MI μ) {t : Nat} {v : Int32} (e : v = 0 ∨ v = 1) : MI (up2 μ 8 t v) := by
  refine ⟨fun t' ht' => ?_, fun g hg => h.2 g hg⟩
  obtain ⟨a, b, c, d⟩ := h.1 t' ht'
  refine ⟨a, b, c, ?_⟩
  rw [up2_rd]
  split
  · exact e
  · exact d
theorem MI.g11 {μ : St} (h : MI μ) {g d : Nat} (h1 : d ≤ 1000) {v : Int32} (e : v = nI d) : MI (up2 μ 11 g v) := by
  refine ⟨fun t ht => h.1 t ht, fun g' hg' => ?_⟩
  obtain ⟨a, b⟩ := h.2 g' hg'
  refine ⟨a, ?_⟩
  rw [up2_rd]
  split
  · exact ⟨d, h1, e⟩
  · exact b
theorem MI.g12 {μ : St} (h : MI μ) {g d : Nat} (h1 : d ≤ 1000) {v : Int32} (e : v = nI d) : MI (up2 μ 12 g v) := by
  refine ⟨fun t ht => h.1 t ht, fun g' hg' => ?_⟩
  obtain ⟨a, b⟩ := h.2 g' hg'
  refine ⟨?_, b⟩
  rw [up2_rd]
  split
  · exact ⟨d, h1, e⟩
  · exact a
/-- all that ties the two -/
def RR (σ μ : St) (n : Nat) : Prop := Rl σ μ ∧ MI μ ∧ mOK μ n ∧ σ 1 5 = nI (n % 16) ∧ σ 1 4 = nI (min n 16)
theorem RR.inv {σ μ : St} {n : Nat} (h : RR σ μ n) : xInv σ := ⟨⟨n % 16, Nat.mod_lt _ (by decide), h.2.2.2.1⟩, min n 16, Nat.min_le_right _ _, h.2.2.2.2⟩
