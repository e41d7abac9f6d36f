/-! THE CLASS'S WORLD. State: 0 the object (3 status, 4 now), 1 history (3 total, 4 filled, 5 place), 2 bits, 3 servers, 4 times, 5 + t timer t (0 period, 1 count, 2 source, 3 once, 4 runs, 5 ended, 6 missed, 7 served, 8 cleared), 13 + g gate g (0 mask, 1 delay, 2 toWait, 3 bitsServed, 4 timesIdle, 5 latest). a: addresses, ca: classes of the arrays (0 int[], 1 Timer[], 2 Gate[]) -/
def cXf (a : Nat → Nat) (σ : St) : List Value := [.ref (a 17), .ref (a 18), .ref (a 1), .int (σ 0 3), .int (σ 0 4)]
def cHf (a : Nat → Nat) (σ : St) : List Value := [.ref (a 2), .ref (a 3), .ref (a 4), .int (σ 1 3), .int (σ 1 4), .int (σ 1 5)]
def cTf (σ : St) (i : Nat) : List Value := [.int (σ i 0), .int (σ i 1), .int (σ i 2), .int (σ i 3), .int (σ i 4), .int (σ i 5), .int (σ i 6), .int (σ i 7), .int (σ i 8)]
def cGf (σ : St) (i : Nat) : List Value := [.int (σ i 0), .int (σ i 1), .int (σ i 2), .int (σ i 3), .int (σ i 4), .int (σ i 5)]
def wX (a : Nat → Nat) (ca : Nat → ClassId) (σ : St) : va_W := [(a 0, .inr (0, cXf a σ)), (a 1, .inr (1, cHf a σ)), (a 2, .inl (ca 0, 16, .inl (σ 2))), (a 3, .inl (ca 0, 16, .inl (σ 3))), (a 4, .inl (ca 0, 16, .inl (σ 4))),
  (a 5, .inr (2, cTf σ 5)), (a 6, .inr (2, cTf σ 6)), (a 7, .inr (2, cTf σ 7)), (a 8, .inr (2, cTf σ 8)), (a 9, .inr (2, cTf σ 9)), (a 10, .inr (2, cTf σ 10)), (a 11, .inr (2, cTf σ 11)), (a 12, .inr (2, cTf σ 12)),
  (a 13, .inr (3, cGf σ 13)), (a 14, .inr (3, cGf σ 14)), (a 15, .inr (3, cGf σ 15)), (a 16, .inr (3, cGf σ 16)),
  (a 17, .inl (ca 1, 8, .inr (.inr (.inr (.inr (fun i => some (a (5 + i)))))))), (a 18, .inl (ca 2, 4, .inr (.inr (.inr (.inr (fun i => some (a (13 + i))))))))]
def tX (ca : Nat → ClassId) : List (ClassId × FieldType) := [(ca 0, .int), (ca 1, .object R_T), (ca 2, .object R_G)]
theorem wX_X {a : Nat → Nat} {ca : Nat → ClassId} {σ : St} : (wX a ca σ)[0]? = some (a 0, .inr (0, cXf a σ)) := rfl
theorem wX_H {a : Nat → Nat} {ca : Nat → ClassId} {σ : St} : (wX a ca σ)[1]? = some (a 1, .inr (1, cHf a σ)) := rfl
theorem wX_T {a : Nat → Nat} {ca : Nat → ClassId} {σ : St} {j : Nat} (hj : j < 8) : (wX a ca σ)[5 + j]? = some (a (5 + j), .inr (2, cTf σ (5 + j))) := by
  match j, hj with
  | 0, _ => rfl
  | 1, _ => rfl
  | 2, _ => rfl
  | 3, _ => rfl
  | 4, _ => rfl
  | 5, _ => rfl
  | 6, _ => rfl
  | 7, _ => rfl
  | j + 8, h => exact absurd h (by omega)
theorem wX_G {a : Nat → Nat} {ca : Nat → ClassId} {σ : St} {j : Nat} (hj : j < 4) : (wX a ca σ)[13 + j]? = some (a (13 + j), .inr (3, cGf σ (13 + j))) := by
  match j, hj with
  | 0, _ => rfl
  | 1, _ => rfl
  | 2, _ => rfl
  | 3, _ => rfl
  | j + 4, h => exact absurd h (by omega)
theorem cTf_set (σ : St) (i : Nat) {k : Nat} (hk : k < 9) (v : Int32) : (cTf σ i).set k (.int v) = cTf (up2 σ i k v) i := by
  match k, hk with
  | 0, _ => simp [cTf, up2, upd]
  | 1, _ => simp [cTf, up2, upd]
  | 2, _ => simp [cTf, up2, upd]
  | 3, _ => simp [cTf, up2, upd]
  | 4, _ => simp [cTf, up2, upd]
  | 5, _ => simp [cTf, up2, upd]
  | 6, _ => simp [cTf, up2, upd]
  | 7, _ => simp [cTf, up2, upd]
  | 8, _ => simp [cTf, up2, upd]
  | k + 9, h => exact absurd h (by omega)
theorem cGf_set (σ : St) (i : Nat) {k : Nat} (hk : k < 6) (v : Int32) : (cGf σ i).set k (.int v) = cGf (up2 σ i k v) i := by
  match k, hk with
  | 0, _ => simp [cGf, up2, upd]
  | 1, _ => simp [cGf, up2, upd]
  | 2, _ => simp [cGf, up2, upd]
  | 3, _ => simp [cGf, up2, upd]
  | 4, _ => simp [cGf, up2, upd]
  | 5, _ => simp [cGf, up2, upd]
  | k + 6, h => exact absurd h (by omega)
theorem cXf_n {a : Nat → Nat} {σ : St} {i k : Nat} {v : Int32} (h : i ≠ 0) : cXf a (up2 σ i k v) = cXf a σ := by simp [cXf, up2, Ne.symm h]
theorem cHf_n {a : Nat → Nat} {σ : St} {i k : Nat} {v : Int32} (h : i ≠ 1) : cHf a (up2 σ i k v) = cHf a σ := by simp [cHf, up2, Ne.symm h]
theorem cTf_n {σ : St} {i j k : Nat} {v : Int32} (h : i ≠ j) : cTf (up2 σ i k v) j = cTf σ j := by simp [cTf, up2, Ne.symm h]
theorem cGf_n {σ : St} {i j k : Nat} {v : Int32} (h : i ≠ j) : cGf (up2 σ i k v) j = cGf σ j := by simp [cGf, up2, Ne.symm h]
theorem wX_putT {a : Nat → Nat} {ca : Nat → ClassId} {σ : St} {j k : Nat} (hj : j < 8) (hk : k < 9) (v : Int32) : (wX a ca σ).set (5 + j) (a (5 + j), .inr (2, (cTf σ (5 + j)).set k (.int v))) = wX a ca (up2 σ (5 + j) k v) := by
  rw [cTf_set σ (5 + j) hk v]
  unfold wX
  rw [cXf_n (by omega), cHf_n (by omega), cGf_n (by omega), cGf_n (by omega), cGf_n (by omega), cGf_n (by omega), up2_n _ _ _ (show 2 ≠ 5 + j by omega), up2_n _ _ _ (show 3 ≠ 5 + j by omega), up2_n _ _ _ (show 4 ≠ 5 + j by omega)]
  match j, hj with
  | 0, _ => simp [cTf_n]
  | 1, _ => simp [cTf_n]
  | 2, _ => simp [cTf_n]
  | 3, _ => simp [cTf_n]
  | 4, _ => simp [cTf_n]
  | 5, _ => simp [cTf_n]
  | 6, _ => simp [cTf_n]
  | 7, _ => simp [cTf_n]
  | j + 8, h => exact absurd h (by omega)
theorem wX_putG {a : Nat → Nat} {ca : Nat → ClassId} {σ : St} {j k : Nat} (hj : j < 4) (hk : k < 6) (v : Int32) : (wX a ca σ).set (13 + j) (a (13 + j), .inr (3, (cGf σ (13 + j)).set k (.int v))) = wX a ca (up2 σ (13 + j) k v) := by
  rw [cGf_set σ (13 + j) hk v]
  unfold wX
  rw [cXf_n (by omega), cHf_n (by omega), cTf_n (by omega), cTf_n (by omega), cTf_n (by omega), cTf_n (by omega), cTf_n (by omega), cTf_n (by omega), cTf_n (by omega), cTf_n (by omega), up2_n _ _ _ (show 2 ≠ 13 + j by omega), up2_n _ _ _ (show 3 ≠ 13 + j by omega), up2_n _ _ _ (show 4 ≠ 13 + j by omega)]
  match j, hj with
  | 0, _ => simp [cGf_n]
  | 1, _ => simp [cGf_n]
  | 2, _ => simp [cGf_n]
  | 3, _ => simp [cGf_n]
  | j + 4, h => exact absurd h (by omega)
theorem wX_putX3 {a : Nat → Nat} {ca : Nat → ClassId} {σ : St} (v : Int32) : (wX a ca σ).set 0 (a 0, .inr (0, (cXf a σ).set 3 (.int v))) = wX a ca (up2 σ 0 3 v) := rfl
theorem wX_putX4 {a : Nat → Nat} {ca : Nat → ClassId} {σ : St} (v : Int32) : (wX a ca σ).set 0 (a 0, .inr (0, (cXf a σ).set 4 (.int v))) = wX a ca (up2 σ 0 4 v) := rfl
theorem wX_putH3 {a : Nat → Nat} {ca : Nat → ClassId} {σ : St} (v : Int32) : (wX a ca σ).set 1 (a 1, .inr (1, (cHf a σ).set 3 (.int v))) = wX a ca (up2 σ 1 3 v) := rfl
theorem wX_putH4 {a : Nat → Nat} {ca : Nat → ClassId} {σ : St} (v : Int32) : (wX a ca σ).set 1 (a 1, .inr (1, (cHf a σ).set 4 (.int v))) = wX a ca (up2 σ 1 4 v) := rfl
theorem wX_putH5 {a : Nat → Nat} {ca : Nat → ClassId} {σ : St} (v : Int32) : (wX a ca σ).set 1 (a 1, .inr (1, (cHf a σ).set 5 (.int v))) = wX a ca (up2 σ 1 5 v) := rfl
theorem wX_putA2 {a : Nat → Nat} {ca : Nat → ClassId} {σ : St} (k : Nat) (v : Int32) : (wX a ca σ).set 2 (a 2, .inl (ca 0, 16, .inl (upd (σ 2) k v))) = wX a ca (up2 σ 2 k v) := rfl
theorem wX_putA3 {a : Nat → Nat} {ca : Nat → ClassId} {σ : St} (k : Nat) (v : Int32) : (wX a ca σ).set 3 (a 3, .inl (ca 0, 16, .inl (upd (σ 3) k v))) = wX a ca (up2 σ 3 k v) := rfl
theorem wX_putA4 {a : Nat → Nat} {ca : Nat → ClassId} {σ : St} (k : Nat) (v : Int32) : (wX a ca σ).set 4 (a 4, .inl (ca 0, 16, .inl (upd (σ 4) k v))) = wX a ca (up2 σ 4 k v) := rfl
section WXL
variable {p : Program} {l : Launch} {e : Env} {R : Room} {s : State} {m : MethodId} {args : Array Value} {below : List Frame} {meth : Method} {c : Code} {H : Heap} {locs : List Loc} {cells slots : Nat} {Q : State → Prop} {cc : ByteArray} {pc : Nat} {ls : Array Slot} {rest : List Value} {D : va_G} {a : Nat → Nat} {ca : Nat → ClassId} {σ : St}
theorem x_aldT (hx : p.tables.exec = Jvm.exec) (hb : c.code = cc) (hK : va_K D classes (tX ca) s) (hP : va_P D classes (wX a ca σ) H) (j : Nat) (hj : j < 8) (hdg : decode cc pc = .ok (.aaload, 1))
    (kk : W p l e R s m args below meth c H locs cells slots Q (F0 m (pc + 1) ls (.ref (a (5 + j)) :: rest))) : W p l e R s m args below meth c H locs cells slots Q (F0 m pc ls (.int (nI j) :: .ref (a 17) :: rest)) := by
  refine va_aldq (C := R_T) (n := 8) (f := fun i => some (a (5 + i))) hx hb hK hP 17 1 rfl rfl (vp_in_nI hj (by decide)) hdg ?_
  rw [nI_clamp (Nat.lt_trans hj (by decide))]
  exact kk
theorem x_aldG (hx : p.tables.exec = Jvm.exec) (hb : c.code = cc) (hK : va_K D classes (tX ca) s) (hP : va_P D classes (wX a ca σ) H) (j : Nat) (hj : j < 4) (hdg : decode cc pc = .ok (.aaload, 1))
    (kk : W p l e R s m args below meth c H locs cells slots Q (F0 m (pc + 1) ls (.ref (a (13 + j)) :: rest))) : W p l e R s m args below meth c H locs cells slots Q (F0 m pc ls (.int (nI j) :: .ref (a 18) :: rest)) := by
  refine va_aldq (C := R_G) (n := 4) (f := fun i => some (a (13 + i))) hx hb hK hP 18 2 rfl rfl (vp_in_nI hj (by decide)) hdg ?_
  rw [nI_clamp (Nat.lt_trans hj (by decide))]
  exact kk
end WXL
