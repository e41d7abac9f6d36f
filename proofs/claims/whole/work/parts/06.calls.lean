/-! CALLS over contracts KI, KV -/
abbrev CalleeOk (y : MethodName) (b : ByteArray) (mx : Nat) (ret : Option FieldType) (n : Nat) : Prop :=
  Cond.code y b mx ret ∈ BIG ∧ Cond.initialized y.cls ∈ BIG ∧ y.cls ≠ "java/lang/invoke/MethodHandle" ∧ y.cls ≠ "java/lang/invoke/VarHandle" ∧ (parseMethodDescriptor y.desc).map (fun d => d.parameters.length) = some n
abbrev InstOk (y : MethodName) : Prop := Cond.instanceMethod y ∈ BIG ∧ Cond.selects y.cls y y ∈ BIG
abbrev RoomOk (rm R : Room) (mx : Nat) : Prop := rm.cells = 0 ∧ rm.slots = 0 ∧ rm.frames + 1 ≤ R.frames ∧ 8 + (mx + 11) + rm.locals ≤ R.locals
theorem k_free {D : va_G} {A : Nat → Prop} {w : va_W} {H0 H : Heap} {locs : List Loc} (hD : va_D A w) (hS : va_S A H0 H locs) (hA : ∀ q : Nat, H0.size ≤ q → A q) : ∀ q, va_A w H.size q → A q := fun q h => by
  rcases h with ⟨k, e, h⟩ | h
  · exact hD.2 k _ h
  · exact hA q (Nat.le_trans hS.1 h)
section KC
variable {p : Program} {l : Launch} {e : Env} {R : Room} {s : State} {m : MethodId} {args : Array Value} {below : List Frame} {meth : Method} {c : Code} {H : Heap} {locs : List Loc} {cells slots : Nat} {Q : State → Prop}
  {D : va_G} {tys : List (ClassId × FieldType)} {wf : St → va_W} {rm : Room} {y : MethodName} {b cc : ByteArray} {mx nL n index pc : Nat} {ret : FieldType} {As rest st : List Value} {σ τ0 : St} {r0 : Int32} {A : Nat → Prop} {own : String} {ls : Array Slot} {ad ci N : Nat} {fs : List Value} {T : u_T} {host : String}
/-- what a contract asks at its start, out of the caller's world -/
theorem k_pre (hK : va_K D classes tys s) (hN : xN s) (hP : va_P D classes (wf σ) H) (hD : va_D A (wf σ)) (av : List Value) : ∀ U : State, U.heap = H → s.WarmedH U.vm → va_Pc av (xPre D tys (wf σ) H.size) av.toArray U :=
  fun U hU hW => ⟨rfl, by rw [hU], by rw [hU]; exact hP, va_K.moved hW.alike hK, hD.weaken (fun _ _ _ _ => trivial), hN.warm hW⟩
theorem k_cS (hx : p.tables.exec = Jvm.exec) (hb : c.code = cc) (hml : c.maxLocals = nL) (hown : s.vm.findClass own = some m.cls) (hG : ∀ w ∈ BIG, w.before args s = true) (hK : va_K D classes tys s) (hN : xN s) (hA : ∀ q : Nat, s.heap.size ≤ q → A q)
    (hP : va_P D classes (wf σ) H) (hD : va_D A (wf σ)) (hS : va_S A s.heap H locs) (hM : KI l D tys wf rm y b mx ret As σ r0 τ0) (ok : CalleeOk y b mx (some ret) n) (hst1 : Cond.static y ∈ BIG) (hlink : Cond.methodLink own index y ∈ BIG) (hrm : RoomOk rm R mx)
    (hn : As.length = n) (hlz : ls.size = nL) (hst : st = As.reverse ++ rest) (hroom : (rest.map fun v => v.category).sum ≤ 8) (hfit : cells ≤ R.cells ∧ slots ≤ R.slots) (hdg : decode cc pc = .ok (.invokestatic index, 3))
    (kk : ∀ (H1 : Heap) (locs1 : List Loc), va_P D classes (wf τ0) H1 → va_D A (wf τ0) → va_S A s.heap H1 locs1 → W p l e R s m args below meth c H1 locs1 cells slots Q (F0 m (pc + 3) ls (.int r0 :: rest))) :
    W p l e R s m args below meth c H locs cells slots Q (F0 m pc ls st) := by
  have hFc := k_free (D := D) hD hS hA
  refine va_calli (va_runS (As := As) (rest := rest) (Ts := BIG) ⟨hx, hb, hml, hown, hG⟩ (hM H.size) ⟨callB_of n hG (good_of ok.1) rfl hrm.1 hrm.2.1 (hG _ ok.2.1) (hG _ hlink) ⟨ok.2.2.1, ok.2.2.2.1, ok.2.2.2.2⟩ ⟨hrm.2.2.1, hrm.2.2.2⟩, hG _ hst1⟩ ⟨xPre_blind, k_pre hK hN hP hD As⟩ rfl hn hlz hst (lv_room hroom) hdg ⟨hfit.1, hfit.2⟩) hS (fun q _ h => hFc q h) hFc (fun r u t H1 locs1 ht hvm hw hB hz1 hk1 hS1 => ?_)
  obtain ⟨e1, e2⟩ := hw
  subst e1; subst e2
  obtain ⟨hP1, hK1, hD1⟩ := hB
  rw [ht] at hP1
  exact kk H1 locs1 hP1 (hD1.weaken (fun k q _ h => hFc _ h)) hS1
theorem k_cV (hx : p.tables.exec = Jvm.exec) (hb : c.code = cc) (hml : c.maxLocals = nL) (hown : s.vm.findClass own = some m.cls) (hG : ∀ w ∈ BIG, w.before args s = true) (hK : va_K D classes tys s) (hN : xN s) (hA : ∀ q : Nat, s.heap.size ≤ q → A q)
    (hP : va_P D classes (wf σ) H) (hD : va_D A (wf σ)) (hS : va_S A s.heap H locs) (hM : KI l D tys wf rm y b mx ret (.ref ad :: As) σ r0 τ0) (ok : CalleeOk y b mx (some ret) n) (io : InstOk y) (hlink : Cond.methodLink own index y ∈ BIG) (hrm : RoomOk rm R mx)
    (q0 : Nat) (he : (wf σ)[q0]? = some (ad, .inr (ci, fs))) (hc : classes[ci]? = some (y.cls, T, N)) (hn : As.length = n) (hlz : ls.size = nL) (hst : st = As.reverse ++ .ref ad :: rest) (hroom : (rest.map fun v => v.category).sum ≤ 8) (hfit : cells ≤ R.cells ∧ slots ≤ R.slots) (hdg : decode cc pc = .ok (.invokevirtual index, 3))
    (kk : ∀ (H1 : Heap) (locs1 : List Loc), va_P D classes (wf τ0) H1 → va_D A (wf τ0) → va_S A s.heap H1 locs1 → W p l e R s m args below meth c H1 locs1 cells slots Q (F0 m (pc + 3) ls (.int r0 :: rest))) :
    W p l e R s m args below meth c H locs cells slots Q (F0 m pc ls st) := by
  have hFc := k_free (D := D) hD hS hA
  refine va_calli (va_runV (As := As) (rest := rest) (Ts := BIG) (C := y.cls) ⟨hx, hb, hml, hown, hG⟩ (hM H.size) ⟨callB_of n hG (good_of ok.1) rfl hrm.1 hrm.2.1 (hG _ ok.2.1) (hG _ hlink) ⟨ok.2.2.1, ok.2.2.2.1, ok.2.2.2.2⟩ ⟨hrm.2.2.1, hrm.2.2.2⟩, hG _ io.1, hG _ io.2⟩ ⟨xPre_blind, va_recv hK hP hc he, k_pre hK hN hP hD (.ref ad :: As)⟩ rfl hn hlz hst (lv_room hroom) hdg ⟨hfit.1, hfit.2⟩) hS (fun q _ h => hFc q h) hFc (fun r u t H1 locs1 ht hvm hw hB hz1 hk1 hS1 => ?_)
  obtain ⟨e1, e2⟩ := hw
  subst e1; subst e2
  obtain ⟨hP1, hK1, hD1⟩ := hB
  rw [ht] at hP1
  exact kk H1 locs1 hP1 (hD1.weaken (fun k q _ h => hFc _ h)) hS1
theorem k_cVv (hx : p.tables.exec = Jvm.exec) (hb : c.code = cc) (hml : c.maxLocals = nL) (hown : s.vm.findClass own = some m.cls) (hG : ∀ w ∈ BIG, w.before args s = true) (hK : va_K D classes tys s) (hN : xN s) (hA : ∀ q : Nat, s.heap.size ≤ q → A q)
    (hP : va_P D classes (wf σ) H) (hD : va_D A (wf σ)) (hS : va_S A s.heap H locs) (hM : KV l D tys wf rm y b mx (.ref ad :: As) σ τ0) (ok : CalleeOk y b mx none n) (io : InstOk y) (hlink : Cond.methodLink own index y ∈ BIG) (hrm : RoomOk rm R mx)
    (q0 : Nat) (he : (wf σ)[q0]? = some (ad, .inr (ci, fs))) (hc : classes[ci]? = some (y.cls, T, N)) (hn : As.length = n) (hlz : ls.size = nL) (hst : st = As.reverse ++ .ref ad :: rest) (hroom : (rest.map fun v => v.category).sum ≤ 8) (hfit : cells ≤ R.cells ∧ slots ≤ R.slots) (hdg : decode cc pc = .ok (.invokevirtual index, 3))
    (kk : ∀ (H1 : Heap) (locs1 : List Loc), va_P D classes (wf τ0) H1 → va_D A (wf τ0) → va_S A s.heap H1 locs1 → W p l e R s m args below meth c H1 locs1 cells slots Q (F0 m (pc + 3) ls rest)) :
    W p l e R s m args below meth c H locs cells slots Q (F0 m pc ls st) := by
  have hFc := k_free (D := D) hD hS hA
  refine va_callv (va_runV (As := As) (rest := rest) (Ts := BIG) (C := y.cls) ⟨hx, hb, hml, hown, hG⟩ (hM H.size) ⟨callB_of n hG (good_of ok.1) rfl hrm.1 hrm.2.1 (hG _ ok.2.1) (hG _ hlink) ⟨ok.2.2.1, ok.2.2.2.1, ok.2.2.2.2⟩ ⟨hrm.2.2.1, hrm.2.2.2⟩, hG _ io.1, hG _ io.2⟩ ⟨xPre_blind, va_recv hK hP hc he, k_pre hK hN hP hD (.ref ad :: As)⟩ rfl hn hlz hst (lv_room hroom) hdg ⟨hfit.1, hfit.2⟩) hS (fun q _ h => hFc q h) hFc (fun u t H1 locs1 ht hvm hw hB hz1 hk1 hS1 => ?_)
  subst hw
  obtain ⟨hP1, hK1, hD1⟩ := hB
  rw [ht] at hP1
  exact kk H1 locs1 hP1 (hD1.weaken (fun k q _ h => hFc _ h)) hS1
theorem k_cN (hx : p.tables.exec = Jvm.exec) (hb : c.code = cc) (hml : c.maxLocals = nL) (hown : s.vm.findClass own = some m.cls) (hG : ∀ w ∈ BIG, w.before args s = true) (hK : va_K D classes tys s) (hN : xN s) (hA : ∀ q : Nat, s.heap.size ≤ q → A q)
    (hP : va_P D classes (wf σ) H) (hD : va_D A (wf σ)) (hS : va_S A s.heap H locs) (hM : KI l D tys wf rm y b mx ret (.ref ad :: As) σ r0 τ0) (ok : CalleeOk y b mx (some ret) n) (io : InstOk y) (hlink : Cond.methodLinkNest own index y host ∈ NESTS) (hrm : RoomOk rm R mx)
    (q0 : Nat) (he : (wf σ)[q0]? = some (ad, .inr (ci, fs))) (hc : classes[ci]? = some (y.cls, T, N)) (hn : As.length = n) (hlz : ls.size = nL) (hst : st = As.reverse ++ .ref ad :: rest) (hroom : (rest.map fun v => v.category).sum ≤ 8) (hfit : cells ≤ R.cells ∧ slots ≤ R.slots) (hdg : decode cc pc = .ok (.invokevirtual index, 3))
    (kk : ∀ (H1 : Heap) (locs1 : List Loc), va_P D classes (wf τ0) H1 → va_D A (wf τ0) → va_S A s.heap H1 locs1 → W p l e R s m args below meth c H1 locs1 cells slots Q (F0 m (pc + 3) ls (.int r0 :: rest))) :
    W p l e R s m args below meth c H locs cells slots Q (F0 m pc ls st) := by
  have hFc := k_free (D := D) hD hS hA
  refine va_calli (va_runVN (As := As) (rest := rest) (Ts := BIG) (C := y.cls) ⟨hx, hb, hml, hown, hG⟩ (hM H.size) ⟨va_cnB n hG (good_of ok.1) rfl hrm.1 hrm.2.1 (hN _ hlink) (hG _ ok.2.1) ⟨ok.2.2.1, ok.2.2.2.1, ok.2.2.2.2⟩ ⟨hrm.2.2.1, hrm.2.2.2⟩, hG _ io.1, hG _ io.2⟩ ⟨xPre_blind, va_recv hK hP hc he, k_pre hK hN hP hD (.ref ad :: As)⟩ rfl hn hlz hst (lv_room hroom) hdg ⟨hfit.1, hfit.2⟩) hS (fun q _ h => hFc q h) hFc (fun r u t H1 locs1 ht hvm hw hB hz1 hk1 hS1 => ?_)
  obtain ⟨e1, e2⟩ := hw
  subst e1; subst e2
  obtain ⟨hP1, hK1, hD1⟩ := hB
  rw [ht] at hP1
  exact kk H1 locs1 hP1 (hD1.weaken (fun k q _ h => hFc _ h)) hS1
theorem k_cNv (hx : p.tables.exec = Jvm.exec) (hb : c.code = cc) (hml : c.maxLocals = nL) (hown : s.vm.findClass own = some m.cls) (hG : ∀ w ∈ BIG, w.before args s = true) (hK : va_K D classes tys s) (hN : xN s) (hA : ∀ q : Nat, s.heap.size ≤ q → A q)
    (hP : va_P D classes (wf σ) H) (hD : va_D A (wf σ)) (hS : va_S A s.heap H locs) (hM : KV l D tys wf rm y b mx (.ref ad :: As) σ τ0) (ok : CalleeOk y b mx none n) (io : InstOk y) (hlink : Cond.methodLinkNest own index y host ∈ NESTS) (hrm : RoomOk rm R mx)
    (q0 : Nat) (he : (wf σ)[q0]? = some (ad, .inr (ci, fs))) (hc : classes[ci]? = some (y.cls, T, N)) (hn : As.length = n) (hlz : ls.size = nL) (hst : st = As.reverse ++ .ref ad :: rest) (hroom : (rest.map fun v => v.category).sum ≤ 8) (hfit : cells ≤ R.cells ∧ slots ≤ R.slots) (hdg : decode cc pc = .ok (.invokevirtual index, 3))
    (kk : ∀ (H1 : Heap) (locs1 : List Loc), va_P D classes (wf τ0) H1 → va_D A (wf τ0) → va_S A s.heap H1 locs1 → W p l e R s m args below meth c H1 locs1 cells slots Q (F0 m (pc + 3) ls rest)) :
    W p l e R s m args below meth c H locs cells slots Q (F0 m pc ls st) := by
  have hFc := k_free (D := D) hD hS hA
  refine va_callv (va_runVN (As := As) (rest := rest) (Ts := BIG) (C := y.cls) ⟨hx, hb, hml, hown, hG⟩ (hM H.size) ⟨va_cnB n hG (good_of ok.1) rfl hrm.1 hrm.2.1 (hN _ hlink) (hG _ ok.2.1) ⟨ok.2.2.1, ok.2.2.2.1, ok.2.2.2.2⟩ ⟨hrm.2.2.1, hrm.2.2.2⟩, hG _ io.1, hG _ io.2⟩ ⟨xPre_blind, va_recv hK hP hc he, k_pre hK hN hP hD (.ref ad :: As)⟩ rfl hn hlz hst (lv_room hroom) hdg ⟨hfit.1, hfit.2⟩) hS (fun q _ h => hFc q h) hFc (fun u t H1 locs1 ht hvm hw hB hz1 hk1 hS1 => ?_)
  subst hw
  obtain ⟨hP1, hK1, hD1⟩ := hB
  rw [ht] at hP1
  exact kk H1 locs1 hP1 (hD1.weaken (fun k q _ h => hFc _ h)) hS1
end KC
