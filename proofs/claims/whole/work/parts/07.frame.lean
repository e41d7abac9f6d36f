/-! THE FRAME: a call over the last part of a world -/
theorem fr_r {w wc : va_W} {k : Nat} {q : Nat × va_E} (hk : wc[k]? = some q) : (w ++ wc)[w.length + k]? = some q := by
  rw [List.getElem?_append_right (Nat.le_add_right _ _), Nat.add_sub_cancel_left]; exact hk
theorem fr_l {w wc : va_W} {k : Nat} {q : Nat × va_E} (hk : w[k]? = some q) : (w ++ wc)[k]? = some q := by
  rw [List.getElem?_append_left (List.getElem?_eq_some_iff.mp hk).1]; exact hk
theorem va_P_right {D : va_G} {cl : List vw_C} {w wc : va_W} {H : Heap} (hP : va_P D cl (w ++ wc) H) : va_P D cl wc H := fun k q hk => hP (w.length + k) q (fr_r hk)
theorem va_P_left {D : va_G} {cl : List vw_C} {w wc : va_W} {H : Heap} (hP : va_P D cl (w ++ wc) H) : va_P D cl w H := fun k q hk => hP k q (fr_l hk)
theorem va_D_right {A : Nat → Prop} {w wc : va_W} (hD : va_D A (w ++ wc)) : va_D A wc := ⟨fun i j p q hi hj e => by have h := hD.1 (w.length + i) (w.length + j) p q (fr_r hi) (fr_r hj) e; omega, fun k q hk => hD.2 (w.length + k) q (fr_r hk)⟩
theorem va_D_left {A : Nat → Prop} {w wc : va_W} (hD : va_D A (w ++ wc)) : va_D A w := ⟨fun i j p q hi hj e => hD.1 i j p q (fr_l hi) (fr_l hj) e, fun k q hk => hD.2 k q (fr_l hk)⟩
theorem k_swapP {D : va_G} {cl : List vw_C} {w1 w2 : va_W} {H : Heap} (h : va_P D cl (w1 ++ w2) H) : va_P D cl (w2 ++ w1) H := va_P.swap (a := []) (b := w1) (c := w2) h
theorem k_swapD {A : Nat → Prop} {w1 w2 : va_W} (h : va_D A (w1 ++ w2)) : va_D A (w2 ++ w1) := va_D.swap (a := []) (b := w1) (c := w2) h
theorem k_joinL {A0 : Nat → Prop} {D : va_G} {cl : List vw_C} {w wc w1 : va_W} {H H1 : Heap} (hP : va_P D cl (w ++ wc) H) (hD : va_D A0 (w ++ wc)) (hk : ∀ q : Nat, q < H.size → ¬ va_A wc H.size q → H1[q]? = H[q]?) (hF : ∀ q, va_A wc H.size q → A0 q) (hP1 : va_P D cl w1 H1) (hD1 : va_D (va_A wc H.size) w1) : va_P D cl (w ++ w1) H1 ∧ va_D A0 (w ++ w1) := by
  have apart : ∀ (k : Nat) (q : Nat × va_E), w[k]? = some q → q.1 < H.size ∧ ¬ va_A wc H.size q.1 := by
    intro k q hq
    have hl := (hP k q (fr_l hq)).lt
    refine ⟨hl, fun h => ?_⟩
    rcases h with ⟨k2, e, h⟩ | h
    · have hij := hD.1 k (w.length + k2) q (q.1, e) (fr_l hq) (fr_r h) rfl
      have := (List.getElem?_eq_some_iff.mp hq).1
      omega
    · omega
  refine ⟨va_P.app (fun k q hq => ?_) hP1, va_D.app (va_D_left hD) (hD1.weaken (fun k q _ h => hF q.1 h)) (fun i j x y hx hy hxy => ?_)⟩
  · obtain ⟨g1, g2⟩ := apart k q hq
    exact (hP k q (fr_l hq)).kept (hk q.1 g1 g2)
  · exact (apart i x hx).2 (by rw [hxy]; exact hD1.2 j y hy)
theorem k_freeR {A : Nat → Prop} {w wc : va_W} {H0 H : Heap} {locs : List Loc} (hD : va_D A (w ++ wc)) (hS : va_S A H0 H locs) (hA : ∀ q : Nat, H0.size ≤ q → A q) : ∀ q, va_A wc H.size q → A q := fun q h => by
  rcases h with ⟨k, e, h⟩ | h
  · exact hD.2 _ _ (fr_r h)
  · exact hA q (Nat.le_trans hS.1 h)
section KF
variable {p : Program} {l : Launch} {e : Env} {R : Room} {s : State} {m : MethodId} {args : Array Value} {below : List Frame} {meth : Method} {c : Code} {H : Heap} {locs : List Loc} {cells slots : Nat} {Q : State → Prop}
  {D : va_G} {tys : List (ClassId × FieldType)} {wf : St → va_W} {w : va_W} {rm : Room} {y : MethodName} {b cc : ByteArray} {mx nL n index pc : Nat} {ret : FieldType} {As rest st : List Value} {σ τ0 : St} {r0 : Int32} {A : Nat → Prop} {own : String} {ls : Array Slot} {ad ci N : Nat} {fs : List Value} {T : u_T} {host : String}
/-- the law's calls -/
theorem k_fV (hx : p.tables.exec = Jvm.exec) (hb : c.code = cc) (hml : c.maxLocals = nL) (hown : s.vm.findClass own = some m.cls) (hG : ∀ w ∈ BIG, w.before args s = true) (hK : va_K D classes tys s) (hN : xN s) (hA : ∀ q : Nat, s.heap.size ≤ q → A q)
    (hP : va_P D classes (w ++ wf σ) H) (hD : va_D A (w ++ wf σ)) (hS : va_S A s.heap H locs) (hM : KI l D tys wf rm y b mx ret (.ref ad :: As) σ r0 τ0) (ok : CalleeOk y b mx (some ret) n) (io : InstOk y) (hlink : Cond.methodLink own index y ∈ BIG) (hrm : RoomOk rm R mx)
    (q0 : Nat) (he : (wf σ)[q0]? = some (ad, .inr (ci, fs))) (hc : classes[ci]? = some (y.cls, T, N)) (hn : As.length = n) (hlz : ls.size = nL) (hst : st = As.reverse ++ .ref ad :: rest) (hroom : (rest.map fun v => v.category).sum ≤ 8) (hfit : cells ≤ R.cells ∧ slots ≤ R.slots) (hdg : decode cc pc = .ok (.invokevirtual index, 3))
    (kk : ∀ (H1 : Heap) (locs1 : List Loc), va_P D classes (w ++ wf τ0) H1 → va_D A (w ++ wf τ0) → va_S A s.heap H1 locs1 → W p l e R s m args below meth c H1 locs1 cells slots Q (F0 m (pc + 3) ls (.int r0 :: rest))) :
    W p l e R s m args below meth c H locs cells slots Q (F0 m pc ls st) := by
  have hFc := k_freeR hD hS hA
  refine va_calli (va_runV (As := As) (rest := rest) (Ts := BIG) (C := y.cls) ⟨hx, hb, hml, hown, hG⟩ (hM H.size) ⟨callB_of n hG (good_of ok.1) rfl hrm.1 hrm.2.1 (hG _ ok.2.1) (hG _ hlink) ⟨ok.2.2.1, ok.2.2.2.1, ok.2.2.2.2⟩ ⟨hrm.2.2.1, hrm.2.2.2⟩, hG _ io.1, hG _ io.2⟩ ⟨xPre_blind, va_recv hK (va_P_right hP) hc he, k_pre hK hN (va_P_right hP) (va_D_right hD) (.ref ad :: As)⟩ rfl hn hlz hst (lv_room hroom) hdg ⟨hfit.1, hfit.2⟩) hS (fun q _ h => hFc q h) hFc (fun r u t H1 locs1 ht hvm hw hB hz1 hk1 hS1 => ?_)
  obtain ⟨e1, e2⟩ := hw
  subst e1; subst e2
  obtain ⟨hP1, hK1, hD1⟩ := hB
  rw [ht] at hP1
  obtain ⟨hP2, hD2⟩ := k_joinL hP hD hk1 hFc hP1 hD1
  exact kk H1 locs1 hP2 hD2 hS1
/-- a nest mate's constructor, over the last part of a world -/
theorem k_fIN (hx : p.tables.exec = Jvm.exec) (hb : c.code = cc) (hml : c.maxLocals = nL) (hown : s.vm.findClass own = some m.cls) (hG : ∀ w ∈ BIG, w.before args s = true) (hK : va_K D classes tys s) (hN : xN s) (hA : ∀ q : Nat, s.heap.size ≤ q → A q)
    (hP : va_P D classes (w ++ wf σ) H) (hD : va_D A (w ++ wf σ)) (hS : va_S A s.heap H locs) (hM : KV l D tys wf rm y b mx (.ref ad :: As) σ τ0) (ok : CalleeOk y b mx none n) (hy1 : y.name = "<init>") (hin : Cond.instanceMethod y ∈ BIG) (hlink : Cond.methodLinkNest own index y host ∈ NESTS) (hrm : RoomOk rm R mx)
    (hn : As.length = n) (hlz : ls.size = nL) (hst : st = As.reverse ++ .ref ad :: rest) (hroom : (rest.map fun v => v.category).sum ≤ 8) (hfit : cells ≤ R.cells ∧ slots ≤ R.slots) (hdg : decode cc pc = .ok (.invokespecial index, 3))
    (kk : ∀ (H1 : Heap) (locs1 : List Loc), va_P D classes (w ++ wf τ0) H1 → va_D A (w ++ wf τ0) → va_S A s.heap H1 locs1 → W p l e R s m args below meth c H1 locs1 cells slots Q (F0 m (pc + 3) ls rest)) :
    W p l e R s m args below meth c H locs cells slots Q (F0 m pc ls st) := by
  have hFc := k_freeR hD hS hA
  refine va_callv (va_runIN (As := As) (rest := rest) (Ts := BIG) ⟨hx, hb, hml, hown, hG⟩ (hM H.size) ⟨va_cnB n hG (good_of ok.1) rfl hrm.1 hrm.2.1 (hN _ hlink) (hG _ ok.2.1) ⟨ok.2.2.1, ok.2.2.2.1, ok.2.2.2.2⟩ ⟨hrm.2.2.1, hrm.2.2.2⟩, hy1, hG _ hin⟩ ⟨xPre_blind, k_pre hK hN (va_P_right hP) (va_D_right hD) (.ref ad :: As)⟩ rfl hn hlz hst (lv_room hroom) hdg ⟨hfit.1, hfit.2⟩) hS (fun q _ h => hFc q h) hFc (fun u t H1 locs1 ht hvm hw hB hz1 hk1 hS1 => ?_)
  subst hw
  obtain ⟨hP1, hK1, hD1⟩ := hB
  rw [ht] at hP1
  obtain ⟨hP2, hD2⟩ := k_joinL hP hD hk1 hFc hP1 hD1
  exact kk H1 locs1 hP2 hD2 hS1
end KF
