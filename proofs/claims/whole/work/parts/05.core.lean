/-! CORE: contracts over a world that is a function of a state; one list of words for all methods -/
abbrev St : Type := Nat → Nat → Int32
def up2 (σ : St) (i k : Nat) (v : Int32) : St := fun j => if j = i then upd (σ i) k v else σ j
theorem up2_ss (σ : St) (i k : Nat) (v : Int32) : up2 σ i k v i k = v := by simp [up2, upd]
theorem up2_sn (σ : St) (i : Nat) {k k2 : Nat} (v : Int32) (h : k2 ≠ k) : up2 σ i k v i k2 = σ i k2 := by simp [up2, upd, h]
theorem up2_n (σ : St) {i j : Nat} (k : Nat) (v : Int32) (h : j ≠ i) : up2 σ i k v j = σ j := by simp [up2, h]
theorem up2_s (σ : St) (i k : Nat) (v : Int32) : up2 σ i k v i = upd (σ i) k v := by simp [up2]
theorem good_of {w : Cond} (h : w ∈ BIG) : GoodIn BIG (w :: BIG) := fun v hv => by
  have hv' : v ∈ BIG := by
    rcases List.mem_cons.mp hv with e | e
    · rw [e]; exact h
    · exact e
  exact ⟨hv', good_of_word (BIG_good hv')⟩
def xN (U : State) : Prop := ∀ w ∈ NESTS, va_Nw w U
theorem isNest_cases {w : Cond} (h : isNest w = true) : (∃ a i b n d h, w = .fieldLinkNest a i b n d h) ∨ (∃ a i x h, w = .methodLinkNest a i x h) ∨ ∃ C, w = .arrayOver (.object C) := by
  unfold isNest at h
  split at h
  · exact Or.inl ⟨_, _, _, _, _, _, rfl⟩
  · exact Or.inr (Or.inl ⟨_, _, _, _, rfl⟩)
  · exact Or.inr (Or.inr ⟨_, rfl⟩)
  · exact absurd h (by decide)
theorem xN.warm {s U : State} (hW : s.WarmedH U.vm) (h : xN s) : xN U := fun w hw => by
  have h2 := h w hw
  rcases isNest_cases (NESTS_ok w hw) with ⟨a, i, b, n, d, k, rfl⟩ | ⟨a, i, x, k, rfl⟩ | ⟨C, rfl⟩
  · exact va_Nw.warmF hW h2
  · exact va_Nw.warmM hW h2
  · exact va_AO.moved hW.alike h2
theorem xN.same {u U : State} (e : u.vm = U.vm) (h : xN u) : xN U := fun w hw => by
  have h2 := h w hw
  rcases isNest_cases (NESTS_ok w hw) with ⟨a, i, b, n, d, k, rfl⟩ | ⟨a, i, x, k, rfl⟩ | ⟨C, rfl⟩
  · exact va_Nw.same rfl e h2
  · exact va_Nw.same rfl e h2
  · exact va_AO.moved (by rw [e]; exact Vm.Alike.refl U.vm) h2
theorem xN.use {s : State} (h : xN s) {w : Cond} (hw : w ∈ NESTS) {A : Array Value} : w.before A s = true := by
  have h2 := h w hw
  rcases isNest_cases (NESTS_ok w hw) with ⟨a, i, b, n, d, k, rfl⟩ | ⟨a, i, x, k, rfl⟩ | ⟨C, rfl⟩
  · exact va_Nw.use rfl h2
  · exact va_Nw.use rfl h2
  · exact va_AO.use h2
def xPre (D : va_G) (tys : List (ClassId × FieldType)) (w : va_W) (sz : Nat) (U : State) : Prop :=
  U.heap.size = sz ∧ va_P D classes w U.heap ∧ va_K D classes tys U ∧ va_D (fun _ => True) w ∧ xN U
def xPost (D : va_G) (tys : List (ClassId × FieldType)) (A : Nat → Prop) (wf : St → va_W) (τ : St) (t : State) : Prop :=
  va_P D classes (wf τ) t.heap ∧ va_K D classes tys t ∧ va_D A (wf τ)
theorem xPre_blind {D : va_G} {tys : List (ClassId × FieldType)} {w : va_W} {sz : Nat} {av : List Value} : FrameBlind (va_Pc av (xPre D tys w sz)) := fun a U g mk q => by
  obtain ⟨q0, q1, qP, qK, qD, qN⟩ := q
  exact ⟨q0, q1, qP, va_K.moved (u := U) (U := U.calling g mk a) (Vm.Alike.refl U.vm) qK, qD, xN.same (u := U) (U := U.calling g mk a) rfl qN⟩
/-- a method that answers an int (or a boolean): from the world wf σ it answers r0 and leaves the world wf τ0 -/
def KI (l : Launch) (D : va_G) (tys : List (ClassId × FieldType)) (wf : St → va_W) (rm : Room) (y : MethodName) (b : ByteArray) (mx : Nat) (ret : FieldType) (av : List Value) (σ : St) (r0 : Int32) (τ0 : St) : Prop :=
  ∀ sz : Nat, Met l y (.code y b mx (some ret) :: BIG) rm (va_Pc av (xPre D tys (wf σ) sz)) (va_Qi (fun (r : Int32) (τ : St) => r = r0 ∧ τ = τ0) (xPost D tys (va_A (wf σ) sz) wf) (va_A (wf σ) sz)) 0 0 (va_A (wf σ) sz)
/-- a method that answers nothing -/
def KV (l : Launch) (D : va_G) (tys : List (ClassId × FieldType)) (wf : St → va_W) (rm : Room) (y : MethodName) (b : ByteArray) (mx : Nat) (av : List Value) (σ : St) (τ0 : St) : Prop :=
  ∀ sz : Nat, Met l y (.code y b mx none :: BIG) rm (va_Pc av (xPre D tys (wf σ) sz)) (va_Qv (fun (τ : St) => τ = τ0) (xPost D tys (va_A (wf σ) sz) wf) (va_A (wf σ) sz)) 0 0 (va_A (wf σ) sz)
set_option maxHeartbeats 4000000 in
theorem KI.of {l : Launch} {D : va_G} {tys : List (ClassId × FieldType)} {wf : St → va_W} {rm : Room} {y : MethodName} {b : ByteArray} {mx : Nat} {ret : FieldType} {av : List Value} {σ : St} {r0 : Int32} {τ0 : St}
    (hy : plainName y.cls = true) (hav : (lg_sl av).length ≤ mx)
    (body : ∀ (p : Program) (e : Env) (s : State) (m : MethodId) (args : Array Value) (below : List Frame) (meth : Method) (c : Code) (A : Nat → Prop) (Q : State → Prop) (ls : Array Slot),
      p.tables.exec = Jvm.exec → c.code = b → c.maxLocals = mx → s.vm.findClass y.cls = some m.cls → (∀ w ∈ BIG, w.before args s = true) → va_K D classes tys s → xN s → (∀ q : Nat, s.heap.size ≤ q → A q) →
      va_P D classes (wf σ) s.heap → va_D A (wf σ) → va_S A s.heap s.heap [] → lv_has ls mx (lv_args 0 av) →
      (∀ (H : Heap) (locs : List Loc) (ls : Array Slot) (pc : Nat) (v : Int32) (τ : St), va_P D classes (wf τ) H → va_D A (wf τ) → va_S A s.heap H locs → narrow ret (.int v) = .int v → decode b pc = .ok (.ireturn, 1) → v = r0 → τ = τ0 → W p l e rm s m args below meth c H locs 0 0 Q (F0 m pc ls [.int v])) →
      W p l e rm s m args below meth c s.heap [] 0 0 Q (F0 m 0 ls [])) :
    KI l D tys wf rm y b mx ret av σ r0 τ0 := by
  intro sz
  refine Met.ofW (cc := b) (maxL := mx) (ret := some ret) hy rfl ?_
  intro p e s m args below meth c s₁ B hml hv
  obtain ⟨rfl, hsz, hP, hK, hD0, hN⟩ := hv
  have hts := atoms_spec (ws := .code y b mx (some ret) :: BIG) B.pre
  have hown : s.vm.findClass y.cls = some m.cls := findClass_of_methodNamed B.named
  have hlocks := B.notSynchronized
  subst hsz
  have hD := hD0.self (sz := s.heap.size)
  have hl := lv_entry av (n := mx) hav
  rw [lg_entry_eq]
  refine body p e s m _ below meth c (va_A (wf σ) s.heap.size) _ _ B.exec B.bytes hml hown (fun w h => hts w (List.mem_cons_of_mem _ h)) hK hN (fun q h => Or.inr h) hP hD va_S.rf hl ?_
  intro H locs ls pc v τ hP hD hS hn hd e1 e2
  exact W.zret B.exec B.bytes B.returns hn (fun t ht hW => ⟨⟨v, τ, rfl, ⟨e1, e2⟩, by rw [ht]; exact hP, va_K.moved hW.alike hK, hD⟩, hS.F ht⟩) hS.2.2 hd
set_option maxHeartbeats 4000000 in
theorem KV.of {l : Launch} {D : va_G} {tys : List (ClassId × FieldType)} {wf : St → va_W} {rm : Room} {y : MethodName} {b : ByteArray} {mx : Nat} {av : List Value} {σ : St} {τ0 : St}
    (hy : plainName y.cls = true) (hav : (lg_sl av).length ≤ mx)
    (body : ∀ (p : Program) (e : Env) (s : State) (m : MethodId) (args : Array Value) (below : List Frame) (meth : Method) (c : Code) (A : Nat → Prop) (Q : State → Prop) (ls : Array Slot),
      p.tables.exec = Jvm.exec → c.code = b → c.maxLocals = mx → s.vm.findClass y.cls = some m.cls → (∀ w ∈ BIG, w.before args s = true) → va_K D classes tys s → xN s → (∀ q : Nat, s.heap.size ≤ q → A q) →
      va_P D classes (wf σ) s.heap → va_D A (wf σ) → va_S A s.heap s.heap [] → lv_has ls mx (lv_args 0 av) →
      (∀ (H : Heap) (locs : List Loc) (ls : Array Slot) (pc : Nat) (τ : St), va_P D classes (wf τ) H → va_D A (wf τ) → va_S A s.heap H locs → decode b pc = .ok (.return_, 1) → τ = τ0 → W p l e rm s m args below meth c H locs 0 0 Q (F0 m pc ls [])) →
      W p l e rm s m args below meth c s.heap [] 0 0 Q (F0 m 0 ls [])) :
    KV l D tys wf rm y b mx av σ τ0 := by
  intro sz
  refine Met.ofW (cc := b) (maxL := mx) (ret := none) hy rfl ?_
  intro p e s m args below meth c s₁ B hml hv
  obtain ⟨rfl, hsz, hP, hK, hD0, hN⟩ := hv
  have hts := atoms_spec (ws := .code y b mx none :: BIG) B.pre
  have hown : s.vm.findClass y.cls = some m.cls := findClass_of_methodNamed B.named
  have hlocks := B.notSynchronized
  subst hsz
  have hD := hD0.self (sz := s.heap.size)
  have hl := lv_entry av (n := mx) hav
  rw [lg_entry_eq]
  refine body p e s m _ below meth c (va_A (wf σ) s.heap.size) _ _ B.exec B.bytes hml hown (fun w h => hts w (List.mem_cons_of_mem _ h)) hK hN (fun q h => Or.inr h) hP hD va_S.rf hl ?_
  intro H locs ls pc τ hP hD hS hd e2
  exact W.vret B.exec B.bytes B.returns (fun t ht hW => ⟨⟨τ, rfl, e2, by rw [ht]; exact hP, va_K.moved hW.alike hK, hD⟩, hS.F ht⟩) hS.2.2 hd
