/-! THE REFERENCE'S WORLD. State: 0 the object (0 thrown, 1 now, 2 status, 3 served); rows 4 .. 17 its arrays (4 period, 5 count, 6 source, 7 once, 8 runs, 9 often, 10 mask, 11 delay, 12 waits, 13 done, 14 servedBy, 15 idle, 16 latest, 17 row) -/
def cMf (b : Nat → Nat) (μ : St) : List Value := [.int (μ 0 0), .int (μ 0 1), .int (μ 0 2), .int (μ 0 3), .ref (b 4), .ref (b 5), .ref (b 6), .ref (b 7), .ref (b 8), .ref (b 9), .ref (b 10), .ref (b 11), .ref (b 12), .ref (b 13), .ref (b 14), .ref (b 15), .ref (b 16), .ref (b 17)]
def wM (b : Nat → Nat) (cb : Nat → ClassId) (μ : St) : va_W := [(b 0, .inr (4, cMf b μ)), (b 4, .inl (cb 0, 8, .inl (μ 4))), (b 5, .inl (cb 0, 8, .inl (μ 5))), (b 6, .inl (cb 0, 8, .inl (μ 6))), (b 7, .inl (cb 1, 8, .inl (μ 7))), (b 8, .inl (cb 1, 8, .inl (μ 8))), (b 9, .inl (cb 0, 32, .inl (μ 9))), (b 10, .inl (cb 0, 4, .inl (μ 10))), (b 11, .inl (cb 0, 4, .inl (μ 11))), (b 12, .inl (cb 0, 4, .inl (μ 12))), (b 13, .inl (cb 1, 4, .inl (μ 13))), (b 14, .inl (cb 0, 4, .inl (μ 14))), (b 15, .inl (cb 0, 4, .inl (μ 15))), (b 16, .inl (cb 0, 4, .inl (μ 16))), (b 17, .inl (cb 0, 48, .inl (μ 17)))]
def tM (cb : Nat → ClassId) : List (ClassId × FieldType) := [(cb 0, .int), (cb 1, .boolean)]
theorem wM_M {b : Nat → Nat} {cb : Nat → ClassId} {μ : St} : (wM b cb μ)[0]? = some (b 0, .inr (4, cMf b μ)) := rfl
theorem wM_4 {b : Nat → Nat} {cb : Nat → ClassId} {μ : St} : (wM b cb μ)[1]? = some (b 4, .inl (cb 0, 8, .inl (μ 4))) := rfl
theorem wM_p4 {b : Nat → Nat} {cb : Nat → ClassId} {μ : St} (j : Nat) (v : Int32) : (wM b cb μ).set 1 (b 4, .inl (cb 0, 8, .inl (upd (μ 4) j v))) = wM b cb (up2 μ 4 j v) := rfl
theorem wM_5 {b : Nat → Nat} {cb : Nat → ClassId} {μ : St} : (wM b cb μ)[2]? = some (b 5, .inl (cb 0, 8, .inl (μ 5))) := rfl
theorem wM_p5 {b : Nat → Nat} {cb : Nat → ClassId} {μ : St} (j : Nat) (v : Int32) : (wM b cb μ).set 2 (b 5, .inl (cb 0, 8, .inl (upd (μ 5) j v))) = wM b cb (up2 μ 5 j v) := rfl
theorem wM_6 {b : Nat → Nat} {cb : Nat → ClassId} {μ : St} : (wM b cb μ)[3]? = some (b 6, .inl (cb 0, 8, .inl (μ 6))) := rfl
theorem wM_p6 {b : Nat → Nat} {cb : Nat → ClassId} {μ : St} (j : Nat) (v : Int32) : (wM b cb μ).set 3 (b 6, .inl (cb 0, 8, .inl (upd (μ 6) j v))) = wM b cb (up2 μ 6 j v) := rfl
theorem wM_7 {b : Nat → Nat} {cb : Nat → ClassId} {μ : St} : (wM b cb μ)[4]? = some (b 7, .inl (cb 1, 8, .inl (μ 7))) := rfl
theorem wM_p7 {b : Nat → Nat} {cb : Nat → ClassId} {μ : St} (j : Nat) (v : Int32) : (wM b cb μ).set 4 (b 7, .inl (cb 1, 8, .inl (upd (μ 7) j v))) = wM b cb (up2 μ 7 j v) := rfl
theorem wM_8 {b : Nat → Nat} {cb : Nat → ClassId} {μ : St} : (wM b cb μ)[5]? = some (b 8, .inl (cb 1, 8, .inl (μ 8))) := rfl
theorem wM_p8 {b : Nat → Nat} {cb : Nat → ClassId} {μ : St} (j : Nat) (v : Int32) : (wM b cb μ).set 5 (b 8, .inl (cb 1, 8, .inl (upd (μ 8) j v))) = wM b cb (up2 μ 8 j v) := rfl
theorem wM_9 {b : Nat → Nat} {cb : Nat → ClassId} {μ : St} : (wM b cb μ)[6]? = some (b 9, .inl (cb 0, 32, .inl (μ 9))) := rfl
theorem wM_p9 {b : Nat → Nat} {cb : Nat → ClassId} {μ : St} (j : Nat) (v : Int32) : (wM b cb μ).set 6 (b 9, .inl (cb 0, 32, .inl (upd (μ 9) j v))) = wM b cb (up2 μ 9 j v) := rfl
theorem wM_10 {b : Nat → Nat} {cb : Nat → ClassId} {μ : St} : (wM b cb μ)[7]? = some (b 10, .inl (cb 0, 4, .inl (μ 10))) := rfl
theorem wM_p10 {b : Nat → Nat} {cb : Nat → ClassId} {μ : St} (j : Nat) (v : Int32) : (wM b cb μ).set 7 (b 10, .inl (cb 0, 4, .inl (upd (μ 10) j v))) = wM b cb (up2 μ 10 j v) := rfl
theorem wM_11 {b : Nat → Nat} {cb : Nat → ClassId} {μ : St} : (wM b cb μ)[8]? = some (b 11, .inl (cb 0, 4, .inl (μ 11))) := rfl
theorem wM_p11 {b : Nat → Nat} {cb : Nat → ClassId} {μ : St} (j : Nat) (v : Int32) : (wM b cb μ).set 8 (b 11, .inl (cb 0, 4, .inl (upd (μ 11) j v))) = wM b cb (up2 μ 11 j v) := rfl
theorem wM_12 {b : Nat → Nat} {cb : Nat → ClassId} {μ : St} : (wM b cb μ)[9]? = some (b 12, .inl (cb 0, 4, .inl (μ 12))) := rfl
theorem wM_p12 {b : Nat → Nat} {cb : Nat → ClassId} {μ : St} (j : Nat) (v : Int32) : (wM b cb μ).set 9 (b 12, .inl (cb 0, 4, .inl (upd (μ 12) j v))) = wM b cb (up2 μ 12 j v) := rfl
theorem wM_13 {b : Nat → Nat} {cb : Nat → ClassId} {μ : St} : (wM b cb μ)[10]? = some (b 13, .inl (cb 1, 4, .inl (μ 13))) := rfl
theorem wM_p13 {b : Nat → Nat} {cb : Nat → ClassId} {μ : St} (j : Nat) (v : Int32) : (wM b cb μ).set 10 (b 13, .inl (cb 1, 4, .inl (upd (μ 13) j v))) = wM b cb (up2 μ 13 j v) := rfl
theorem wM_14 {b : Nat → Nat} {cb : Nat → ClassId} {μ : St} : (wM b cb μ)[11]? = some (b 14, .inl (cb 0, 4, .inl (μ 14))) := rfl
theorem wM_p14 {b : Nat → Nat} {cb : Nat → ClassId} {μ : St} (j : Nat) (v : Int32) : (wM b cb μ).set 11 (b 14, .inl (cb 0, 4, .inl (upd (μ 14) j v))) = wM b cb (up2 μ 14 j v) := rfl
theorem wM_15 {b : Nat → Nat} {cb : Nat → ClassId} {μ : St} : (wM b cb μ)[12]? = some (b 15, .inl (cb 0, 4, .inl (μ 15))) := rfl
theorem wM_p15 {b : Nat → Nat} {cb : Nat → ClassId} {μ : St} (j : Nat) (v : Int32) : (wM b cb μ).set 12 (b 15, .inl (cb 0, 4, .inl (upd (μ 15) j v))) = wM b cb (up2 μ 15 j v) := rfl
theorem wM_16 {b : Nat → Nat} {cb : Nat → ClassId} {μ : St} : (wM b cb μ)[13]? = some (b 16, .inl (cb 0, 4, .inl (μ 16))) := rfl
theorem wM_p16 {b : Nat → Nat} {cb : Nat → ClassId} {μ : St} (j : Nat) (v : Int32) : (wM b cb μ).set 13 (b 16, .inl (cb 0, 4, .inl (upd (μ 16) j v))) = wM b cb (up2 μ 16 j v) := rfl
theorem wM_17 {b : Nat → Nat} {cb : Nat → ClassId} {μ : St} : (wM b cb μ)[14]? = some (b 17, .inl (cb 0, 48, .inl (μ 17))) := rfl
theorem wM_p17 {b : Nat → Nat} {cb : Nat → ClassId} {μ : St} (j : Nat) (v : Int32) : (wM b cb μ).set 14 (b 17, .inl (cb 0, 48, .inl (upd (μ 17) j v))) = wM b cb (up2 μ 17 j v) := rfl
theorem wM_putM0 {b : Nat → Nat} {cb : Nat → ClassId} {μ : St} (v : Int32) : (wM b cb μ).set 0 (b 0, .inr (4, (cMf b μ).set 0 (.int v))) = wM b cb (up2 μ 0 0 v) := rfl
theorem wM_putM1 {b : Nat → Nat} {cb : Nat → ClassId} {μ : St} (v : Int32) : (wM b cb μ).set 0 (b 0, .inr (4, (cMf b μ).set 1 (.int v))) = wM b cb (up2 μ 0 1 v) := rfl
theorem wM_putM2 {b : Nat → Nat} {cb : Nat → ClassId} {μ : St} (v : Int32) : (wM b cb μ).set 0 (b 0, .inr (4, (cMf b μ).set 2 (.int v))) = wM b cb (up2 μ 0 2 v) := rfl
theorem wM_putM3 {b : Nat → Nat} {cb : Nat → ClassId} {μ : St} (v : Int32) : (wM b cb μ).set 0 (b 0, .inr (4, (cMf b μ).set 3 (.int v))) = wM b cb (up2 μ 0 3 v) := rfl
section WML
variable {p : Program} {l : Launch} {e : Env} {R : Room} {s : State} {m : MethodId} {args : Array Value} {below : List Frame} {meth : Method} {c : Code} {H : Heap} {locs : List Loc} {cells slots : Nat} {Q : State → Prop} {cc : ByteArray} {pc : Nat} {ls : Array Slot} {rest : List Value} {D : va_G} {b : Nat → Nat} {cb : Nat → ClassId} {μ : St} {A : Nat → Prop} {H0 : Heap}
theorem m_ild (hx : p.tables.exec = Jvm.exec) (hb : c.code = cc) (hK : va_K D classes (tM cb) s) (hP : va_P D classes (wM b cb μ) H) {k q0 n : Nat} (ha : (wM b cb μ)[q0]? = some (b k, .inl (cb 0, n, .inl (μ k)))) (j : Nat) (hj : j < n) (hn : n ≤ 48) {v : Int32} (hv : v = nI j) (hdg : decode cc pc = .ok (.iaload, 1))
    (kk : W p l e R s m args below meth c H locs cells slots Q (F0 m (pc + 1) ls (.int (μ k j) :: rest))) : W p l e R s m args below meth c H locs cells slots Q (F0 m pc ls (.int v :: .ref (b k) :: rest)) := by
  subst hv
  refine va_iald hx hb hK hP q0 0 ha rfl (vp_in_nI hj (by omega)) hdg ?_
  rw [nI_clamp (by omega)]
  exact kk
theorem m_zld (hx : p.tables.exec = Jvm.exec) (hb : c.code = cc) (hK : va_K D classes (tM cb) s) (hP : va_P D classes (wM b cb μ) H) {k q0 n : Nat} (ha : (wM b cb μ)[q0]? = some (b k, .inl (cb 1, n, .inl (μ k)))) (j : Nat) (hj : j < n) (hn : n ≤ 48) {v : Int32} (hv : v = nI j) (hdg : decode cc pc = .ok (.baload, 1))
    (kk : W p l e R s m args below meth c H locs cells slots Q (F0 m (pc + 1) ls (.int (μ k j) :: rest))) : W p l e R s m args below meth c H locs cells slots Q (F0 m pc ls (.int v :: .ref (b k) :: rest)) := by
  subst hv
  refine va_zald hx hb hK hP q0 1 ha rfl (vp_in_nI hj (by omega)) hdg ?_
  rw [nI_clamp (by omega)]
  exact kk
theorem m_ist (hx : p.tables.exec = Jvm.exec) (hb : c.code = cc) (hK : va_K D classes (tM cb) s) (hP : va_P D classes (wM b cb μ) H) (hD : va_D A (wM b cb μ)) (hS : va_S A H0 H locs) {k q0 n : Nat} (ha : (wM b cb μ)[q0]? = some (b k, .inl (cb 0, n, .inl (μ k)))) (hst : ∀ (j : Nat) (v : Int32), (wM b cb μ).set q0 (b k, .inl (cb 0, n, .inl (upd (μ k) j v))) = wM b cb (up2 μ k j v)) (j : Nat) (hj : j < n) (hn : n ≤ 48) {v x : Int32} (hv : v = nI j) (hdg : decode cc pc = .ok (.iastore, 1))
    (kk : ∀ (H1 : Heap) (locs1 : List Loc), va_P D classes (wM b cb (up2 μ k j x)) H1 → va_D A (wM b cb (up2 μ k j x)) → va_S A H0 H1 locs1 → W p l e R s m args below meth c H1 locs1 cells slots Q (F0 m (pc + 1) ls rest)) : W p l e R s m args below meth c H locs cells slots Q (F0 m pc ls (.int x :: .int v :: .ref (b k) :: rest)) := by
  subst hv
  refine va_iast hx hb hK hP hD hS q0 0 ha rfl (vp_in_nI hj (by omega)) hdg (fun H1 locs1 h1 h2 h3 => ?_)
  rw [nI_clamp (by omega), hst] at h1 h2
  exact kk H1 locs1 h1 h2 h3
theorem m_zst (hx : p.tables.exec = Jvm.exec) (hb : c.code = cc) (hK : va_K D classes (tM cb) s) (hP : va_P D classes (wM b cb μ) H) (hD : va_D A (wM b cb μ)) (hS : va_S A H0 H locs) {k q0 n : Nat} (ha : (wM b cb μ)[q0]? = some (b k, .inl (cb 1, n, .inl (μ k)))) (hst : ∀ (j : Nat) (v : Int32), (wM b cb μ).set q0 (b k, .inl (cb 1, n, .inl (upd (μ k) j v))) = wM b cb (up2 μ k j v)) (j : Nat) (hj : j < n) (hn : n ≤ 48) {v x : Int32} (hx2 : vp_nar .boolean x = x) (hv : v = nI j) (hdg : decode cc pc = .ok (.bastore, 1))
    (kk : ∀ (H1 : Heap) (locs1 : List Loc), va_P D classes (wM b cb (up2 μ k j x)) H1 → va_D A (wM b cb (up2 μ k j x)) → va_S A H0 H1 locs1 → W p l e R s m args below meth c H1 locs1 cells slots Q (F0 m (pc + 1) ls rest)) : W p l e R s m args below meth c H locs cells slots Q (F0 m pc ls (.int x :: .int v :: .ref (b k) :: rest)) := by
  subst hv
  refine va_zast hx hb hK hP hD hS q0 1 ha rfl (vp_in_nI hj (by omega)) hdg (fun H1 locs1 h1 h2 h3 => ?_)
  rw [nI_clamp (by omega), hx2, hst] at h1 h2
  exact kk H1 locs1 h1 h2 h3
end WML
theorem bI_v (x : Bool) : vp_nar .boolean (bI x) = bI x := by cases x <;> rfl
theorem m_ix (j c : Nat) : (4 : Int32) * nI j + nI c = nI (4 * j + c) := by rw [show (4 : Int32) = nI 4 from rfl, pk_mul, nI_add]
theorem m_ix0 (j : Nat) : (4 : Int32) * nI j = nI (4 * j) := by rw [show (4 : Int32) = nI 4 from rfl, pk_mul]
theorem m_at {S : Int32} {n : Nat} (h : S = nI n) (hn : n < 2 ^ 31) : (3 : Int32) * (S - S / 16 * 16) = nI (3 * (n % 16)) := by
  subst h
  have e : nI n - nI n / 16 * 16 = nI (n % 16) := rm16_nI hn
  rw [e, show (3 : Int32) = nI 3 from rfl, pk_mul]
theorem m_at2 {S : Int32} {n j k : Nat} (h : S = nI n) (hn : n < 2 ^ 31) (hj : j < n) : (3 : Int32) * (S - 1 - nI j - (S - 1 - nI j) / 16 * 16) + nI k = nI (3 * ((n - 1 - j) % 16) + k) := by
  subst h
  have e0 : nI n - 1 - nI j = nI (n - 1 - j) := by
    rw [show (1 : Int32) = nI 1 from rfl, pk_sub (by omega), pk_sub (by omega)]
  have e : nI (n - 1 - j) - nI (n - 1 - j) / 16 * 16 = nI ((n - 1 - j) % 16) := rm16_nI (by omega)
  rw [e0, e, show (3 : Int32) = nI 3 from rfl, pk_mul, nI_add]
