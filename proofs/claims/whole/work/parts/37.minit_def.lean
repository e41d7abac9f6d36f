/-! what the reference's constructor makes -/
def u8 (f : Nat → Int32) : Nat → Int32 := upd (upd (upd (upd (upd (upd (upd (upd f 0 1) 1 1) 2 1) 3 1) 4 1) 5 1) 6 1) 7 1
def m0 : St := fun i => if i = 4 then u8 (fun _ => 0) else if i = 5 then u8 (fun _ => 0) else if i = 11 then upd (upd (upd (upd (fun _ => 0) 0 1) 1 1) 2 1) 3 1 else if i = 16 then upd (upd (upd (upd (fun _ => 0) 0 (-1)) 1 (-1)) 2 (-1)) 3 (-1) else fun _ => 0
def cMo (k0 k1 : ClassId) : Nat → ClassId := fun i => match i with
  | 0 => k0
  | _ => k1
theorem kB_eq {D : va_G} {tys : List (ClassId × FieldType)} {s : State} (hK : va_K D classes tys s) (i j : Nat) {c1 c2 : ClassId} (hi : tys[i]? = some (c1, .boolean)) (hj : tys[j]? = some (c2, .boolean)) : c1 = c2 :=
  Option.some.inj ((hK.2 i _ hi).2.symm.trans (hK.2 j _ hj).2)
def pM (D : va_G) (h : Nat) (A : Nat → Prop) (t : State) : Prop := ∃ (b : Nat → Nat) (cb : Nat → ClassId), b 0 = h ∧ va_P D classes (wM b cb m0) t.heap ∧ va_K D classes (tM cb) t ∧ va_D A (wM b cb m0)
