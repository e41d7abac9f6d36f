/-! what the constructors make -/
def z0 : St := fun _ _ => 0
def wT1 (h : Nat) (σ : St) : va_W := [(h, .inr (2, cTf σ 0))]
def wG1 (h : Nat) (σ : St) : va_W := [(h, .inr (3, cGf σ 0))]
theorem wT1_put {h : Nat} {σ : St} {k : Nat} (hk : k < 9) (v : Int32) : (wT1 h σ).set 0 (h, .inr (2, (cTf σ 0).set k (.int v))) = wT1 h (up2 σ 0 k v) := by
  rw [cTf_set σ 0 hk v]; rfl
theorem wG1_put {h : Nat} {σ : St} {k : Nat} (hk : k < 6) (v : Int32) : (wG1 h σ).set 0 (h, .inr (3, (cGf σ 0).set k (.int v))) = wG1 h (up2 σ 0 k v) := by
  rw [cGf_set σ 0 hk v]; rfl
def tI (σ : St) : St := up2 (up2 (up2 (up2 (up2 (up2 (up2 (up2 (up2 σ 0 0 1) 0 1 1) 0 2 0) 0 3 0) 0 4 0) 0 5 0) 0 6 0) 0 7 0) 0 8 0
def gI (σ : St) : St := up2 (up2 (up2 (up2 (up2 (up2 σ 0 0 0) 0 1 1) 0 2 0) 0 3 0) 0 4 0) 0 5 (-1)
def s0 : St := fun i k => if 5 ≤ i ∧ i < 13 then (if k = 0 ∨ k = 1 then 1 else 0) else if 13 ≤ i ∧ i < 17 then (if k = 1 then 1 else if k = 5 then -1 else 0) else 0
theorem kI_eq {D : va_G} {tys : List (ClassId × FieldType)} {s : State} (hK : va_K D classes tys s) (i j : Nat) {c1 c2 : ClassId} (hi : tys[i]? = some (c1, .int)) (hj : tys[j]? = some (c2, .int)) : c1 = c2 :=
  Option.some.inj ((hK.2 i _ hi).2.symm.trans (hK.2 j _ hj).2)
def wH1 (h q2 q3 q4 : Nat) (kI : ClassId) : va_W := [(h, .inr (1, [.ref q2, .ref q3, .ref q4, .int 0, .int 0, .int 0])), (q2, .inl (kI, 16, .inl (fun _ => 0))), (q3, .inl (kI, 16, .inl (fun _ => 0))), (q4, .inl (kI, 16, .inl (fun _ => 0)))]
def pH (D : va_G) (h : Nat) (A : Nat → Prop) (t : State) : Prop := ∃ (q2 q3 q4 : Nat) (kI : ClassId), va_P D classes (wH1 h q2 q3 q4 kI) t.heap ∧ va_K D classes [(kI, .int)] t ∧ va_D A (wH1 h q2 q3 q4 kI)
def aOf (l : List Nat) : Nat → Nat := fun i => l.getD i 0
def cOf (k0 k1 k2 : ClassId) : Nat → ClassId := fun i => match i with
  | 0 => k0
  | 1 => k1
  | _ => k2
def pX (D : va_G) (h : Nat) (A : Nat → Prop) (t : State) : Prop := ∃ (a : Nat → Nat) (ca : Nat → ClassId), a 0 = h ∧ va_P D classes (wX a ca s0) t.heap ∧ va_K D classes (tX ca) t ∧ va_D A (wX a ca s0)
theorem vp_cell_congr (cA : ClassId) {n : Nat} {f g : Nat → Option Nat} (h : ∀ j, j < n → f j = g j) : vp_cell cA (n, .inr (.inr (.inr (.inr f)))) = vp_cell cA (n, .inr (.inr (.inr (.inr g)))) := by
  rw [vp_cell_q, vp_cell_q]
  unfold arrV
  congr 1
  apply Array.ext
  · simp
  · intro i h1 h2
    simp at h1
    simp [h i h1]
theorem P_arr {D : va_G} {ws : va_W} {H : Heap} (hP : va_P D classes ws H) (k : Nat) {q n : Nat} {cA : ClassId} {f : Nat → Option Nat} (g : Nat → Option Nat) (he : ws[k]? = some (q, .inl (cA, n, .inr (.inr (.inr (.inr f)))))) (h : ∀ j, j < n → f j = g j) : va_P D classes (ws.set k (q, .inl (cA, n, .inr (.inr (.inr (.inr g)))))) H := by
  intro i x hx
  by_cases e : k = i
  · subst e
    rw [List.getElem?_set_self (List.getElem?_eq_some_iff.mp he).1] at hx
    cases hx
    have h1 := hP k _ he
    show H[q]? = some (vp_cell cA _)
    rw [← vp_cell_congr cA h]
    exact h1
  · rw [List.getElem?_set_ne e] at hx
    exact hP i x hx
