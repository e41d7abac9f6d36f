/-! CONSTRUCTORS that make cells -/
def KB (l : Launch) (D : va_G) (tys : List (ClassId × FieldType)) (w0 : va_W) (rm : Room) (y : MethodName) (b : ByteArray) (mx : Nat) (av : List Value) (mc ms : Nat) (Post : (Nat → Prop) → State → Prop) : Prop :=
  ∀ sz : Nat, Met l y (.code y b mx none :: BIG) rm (va_Pc av (xPre D tys w0 sz)) (va_Qv (fun _ : Unit => True) (fun _ t => Post (va_A w0 sz) t) (va_A w0 sz)) mc ms (va_A w0 sz)
set_option maxHeartbeats 4000000 in
theorem KB.of {l : Launch} {D : va_G} {tys : List (ClassId × FieldType)} {w0 : va_W} {rm : Room} {y : MethodName} {b : ByteArray} {mx : Nat} {av : List Value} {mc ms : Nat} {Post : (Nat → Prop) → State → Prop}
    (hy : plainName y.cls = true) (hav : (lg_sl av).length ≤ mx) (hname : y.name = "<init>")
    (body : ∀ (p : Program) (e : Env) (s : State) (m : MethodId) (args : Array Value) (below : List Frame) (meth : Method) (c : Code) (A : Nat → Prop) (Q : State → Prop) (ls : Array Slot),
      p.tables.exec = Jvm.exec → c.code = b → c.maxLocals = mx → s.vm.findClass y.cls = some m.cls → (∀ w ∈ BIG, w.before args s = true) → va_K D classes tys s → xN s → (∀ q : Nat, s.heap.size ≤ q → A q) → meth.name = "<init>" →
      va_P D classes w0 s.heap → va_D A w0 → va_S A s.heap s.heap [] → lv_has ls mx (lv_args 0 av) →
      (∀ (H : Heap) (locs : List Loc) (ls : Array Slot) (pc : Nat), (∀ t : State, t.heap = H → s.vm.Alike t.vm → Post A t) → va_S A s.heap H locs → decode b pc = .ok (.return_, 1) → W p l e rm s m args below meth c H locs mc ms Q (F0 m pc ls [])) →
      W p l e rm s m args below meth c s.heap [] 0 0 Q (F0 m 0 ls [])) :
    KB l D tys w0 rm y b mx av mc ms Post := by
  intro sz
  refine Met.ofW (cc := b) (maxL := mx) (ret := none) hy rfl ?_
  intro p e s m args below meth c s₁ B hml hv
  obtain ⟨rfl, hsz, hP, hK, hD0, hN⟩ := hv
  have hts := atoms_spec (ws := .code y b mx none :: BIG) B.pre
  have hown : s.vm.findClass y.cls = some m.cls := findClass_of_methodNamed B.named
  have hin : meth.name = "<init>" := (name_of_methodNamed B.named B.method).1.trans hname
  have hlocks := B.notSynchronized
  subst hsz
  have hD := hD0.self (sz := s.heap.size)
  have hl := lv_entry av (n := mx) hav
  rw [lg_entry_eq]
  refine body p e s m _ below meth c (va_A w0 s.heap.size) _ _ B.exec B.bytes hml hown (fun w h => hts w (List.mem_cons_of_mem _ h)) hK hN (fun q h => Or.inr h) hin hP hD va_S.rf hl ?_
  intro H locs ls pc hpost hS hd
  exact W.vret B.exec B.bytes B.returns (fun t ht hW => ⟨⟨(), rfl, trivial, hpost t ht hW.alike⟩, hS.F ht⟩) hS.2.2 hd
section KBC
variable {p : Program} {l : Launch} {e : Env} {R : Room} {s : State} {m : MethodId} {args : Array Value} {below : List Frame} {meth : Method} {c : Code} {H : Heap} {locs : List Loc} {cells slots mc ms : Nat} {Q : State → Prop}
  {D : va_G} {tys : List (ClassId × FieldType)} {w w0 : va_W} {rm : Room} {y : MethodName} {b cc : ByteArray} {mx nL n index pc : Nat} {As rest st : List Value} {A : Nat → Prop} {own : String} {ls : Array Slot} {ad : Nat} {host : String} {Post : (Nat → Prop) → State → Prop}
theorem k_pre0 (hK : va_K D classes tys s) (hN : xN s) (hP : va_P D classes w0 H) (hD : va_D A w0) (av : List Value) : ∀ U : State, U.heap = H → s.WarmedH U.vm → va_Pc av (xPre D tys w0 H.size) av.toArray U :=
  fun U hU hW => ⟨rfl, by rw [hU], by rw [hU]; exact hP, va_K.moved hW.alike hK, hD.weaken (fun _ _ _ _ => trivial), hN.warm hW⟩
/-- a nest mate's -/
theorem k_bIN (hx : p.tables.exec = Jvm.exec) (hb : c.code = cc) (hml : c.maxLocals = nL) (hown : s.vm.findClass own = some m.cls) (hG : ∀ w ∈ BIG, w.before args s = true) (hK : va_K D classes tys s) (hN : xN s) (hA : ∀ q : Nat, s.heap.size ≤ q → A q)
    (hP : va_P D classes (w ++ w0) H) (hD : va_D A (w ++ w0)) (hS : va_S A s.heap H locs) (hM : KB l D tys w0 rm y b mx (.ref ad :: As) mc ms Post) (ok : CalleeOk y b mx none n) (hy1 : y.name = "<init>") (hin : Cond.instanceMethod y ∈ BIG) (hlink : Cond.methodLinkNest own index y host ∈ NESTS) (hrm : rm.cells = mc ∧ rm.slots = ms ∧ rm.frames + 1 ≤ R.frames ∧ 8 + (mx + 11) + rm.locals ≤ R.locals)
    (hn : As.length = n) (hlz : ls.size = nL) (hst : st = As.reverse ++ .ref ad :: rest) (hroom : (rest.map fun v => v.category).sum ≤ 8) (hfit : cells + mc ≤ R.cells ∧ slots + ms ≤ R.slots) (hdg : decode cc pc = .ok (.invokespecial index, 3))
    (kk : ∀ (H1 : Heap) (locs1 : List Loc) (t : State), t.heap = H1 → s.vm.Alike t.vm → Post (va_A w0 H.size) t → (∀ w1, va_P D classes w1 H1 → va_D (va_A w0 H.size) w1 → va_P D classes (w ++ w1) H1 ∧ va_D A (w ++ w1)) → va_S A s.heap H1 locs1 → W p l e R s m args below meth c H1 locs1 (cells + mc) (slots + ms) Q (F0 m (pc + 3) ls rest)) :
    W p l e R s m args below meth c H locs cells slots Q (F0 m pc ls st) := by
  have hFc := k_freeR hD hS hA
  refine va_callv (va_runIN (As := As) (rest := rest) (Ts := BIG) ⟨hx, hb, hml, hown, hG⟩ (hM H.size) ⟨va_cnB n hG (good_of ok.1) rfl hrm.1 hrm.2.1 (hN _ hlink) (hG _ ok.2.1) ⟨ok.2.2.1, ok.2.2.2.1, ok.2.2.2.2⟩ ⟨hrm.2.2.1, hrm.2.2.2⟩, hy1, hG _ hin⟩ ⟨xPre_blind, k_pre0 hK hN (va_P_right hP) (va_D_right hD) (.ref ad :: As)⟩ rfl hn hlz hst (lv_room hroom) hdg hfit) hS (fun q _ h => hFc q h) hFc (fun u t H1 locs1 ht hvm hw hB hz1 hk1 hS1 => ?_)
  exact kk H1 locs1 t ht hvm hB (fun w1 hP1 hD1 => k_joinL hP hD hk1 hFc hP1 hD1) hS1
/-- the law's -/
theorem k_bI (hx : p.tables.exec = Jvm.exec) (hb : c.code = cc) (hml : c.maxLocals = nL) (hown : s.vm.findClass own = some m.cls) (hG : ∀ w ∈ BIG, w.before args s = true) (hK : va_K D classes tys s) (hN : xN s) (hA : ∀ q : Nat, s.heap.size ≤ q → A q)
    (hP : va_P D classes (w ++ w0) H) (hD : va_D A (w ++ w0)) (hS : va_S A s.heap H locs) (hM : KB l D tys w0 rm y b mx (.ref ad :: As) mc ms Post) (ok : CalleeOk y b mx none n) (hy1 : y.name = "<init>") (hin : Cond.instanceMethod y ∈ BIG) (hlink : Cond.methodLink own index y ∈ BIG) (hrm : rm.cells = mc ∧ rm.slots = ms ∧ rm.frames + 1 ≤ R.frames ∧ 8 + (mx + 11) + rm.locals ≤ R.locals)
    (hn : As.length = n) (hlz : ls.size = nL) (hst : st = As.reverse ++ .ref ad :: rest) (hroom : (rest.map fun v => v.category).sum ≤ 8) (hfit : cells + mc ≤ R.cells ∧ slots + ms ≤ R.slots) (hdg : decode cc pc = .ok (.invokespecial index, 3))
    (kk : ∀ (H1 : Heap) (locs1 : List Loc) (t : State), t.heap = H1 → s.vm.Alike t.vm → Post (va_A w0 H.size) t → (∀ w1, va_P D classes w1 H1 → va_D (va_A w0 H.size) w1 → va_P D classes (w ++ w1) H1 ∧ va_D A (w ++ w1)) → va_S A s.heap H1 locs1 → W p l e R s m args below meth c H1 locs1 (cells + mc) (slots + ms) Q (F0 m (pc + 3) ls rest)) :
    W p l e R s m args below meth c H locs cells slots Q (F0 m pc ls st) := by
  have hFc := k_freeR hD hS hA
  refine va_callv (va_runI (As := As) (rest := rest) (Ts := BIG) ⟨hx, hb, hml, hown, hG⟩ (hM H.size) ⟨callB_of n hG (good_of ok.1) rfl hrm.1 hrm.2.1 (hG _ ok.2.1) (hG _ hlink) ⟨ok.2.2.1, ok.2.2.2.1, ok.2.2.2.2⟩ ⟨hrm.2.2.1, hrm.2.2.2⟩, hy1, hG _ hin⟩ ⟨xPre_blind, k_pre0 hK hN (va_P_right hP) (va_D_right hD) (.ref ad :: As)⟩ rfl hn hlz hst (lv_room hroom) hdg hfit) hS (fun q _ h => hFc q h) hFc (fun u t H1 locs1 ht hvm hw hB hz1 hk1 hS1 => ?_)
  exact kk H1 locs1 t ht hvm hB (fun w1 hP1 hD1 => k_joinL hP hD hk1 hFc hP1 hD1) hS1
end KBC
