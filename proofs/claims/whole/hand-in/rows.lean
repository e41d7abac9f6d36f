section
-- PART A of the skeleton (a starting text of the kit), then names
-- ===== PART A: goes FIRST, ahead of the names: the tables' words, and 'selects' of the private methods out of them =====
/-- a private method of a class that the tables say can be made, by its rows of tables_1 -/
def lw_okq (q : MethodName × Nat) : Prop := (q.1.cls ≠ "java/lang/invoke/MethodHandle" ∧ q.1.cls ≠ "java/lang/invoke/VarHandle") ∧ Cond.instantiable q.1.cls q.2 ∈ tables_1 ∧ Cond.privateMethod q.1 ∈ tables_1 ∧ Cond.instanceMethod q.1 ∈ tables_1
theorem lw_p0 : lw_okq (⟨"TimerGates", "tick", "()I"⟩, 5) := ⟨⟨by decide +kernel, by decide +kernel⟩, List.mem_of_getElem? (i := 7) (by decide +kernel), List.mem_of_getElem? (i := 169) (by decide +kernel), List.mem_of_getElem? (i := 170) (by decide +kernel)⟩
theorem lw_p1 : lw_okq (⟨"TimerGates", "tickTimers", "()V"⟩, 5) := ⟨⟨by decide +kernel, by decide +kernel⟩, List.mem_of_getElem? (i := 7) (by decide +kernel), List.mem_of_getElem? (i := 173) (by decide +kernel), List.mem_of_getElem? (i := 174) (by decide +kernel)⟩
theorem lw_p2 : lw_okq (⟨"TimerGates$Timer", "countDown", "()Z"⟩, 9) := ⟨⟨by decide +kernel, by decide +kernel⟩, List.mem_of_getElem? (i := 45) (by decide +kernel), List.mem_of_getElem? (i := 177) (by decide +kernel), List.mem_of_getElem? (i := 178) (by decide +kernel)⟩
theorem lw_p3 : lw_okq (⟨"TimerGates", "raise", "(I)V"⟩, 5) := ⟨⟨by decide +kernel, by decide +kernel⟩, List.mem_of_getElem? (i := 7) (by decide +kernel), List.mem_of_getElem? (i := 181) (by decide +kernel), List.mem_of_getElem? (i := 182) (by decide +kernel)⟩
theorem lw_p4 : lw_okq (⟨"TimerGates", "tickGates", "()I"⟩, 5) := ⟨⟨by decide +kernel, by decide +kernel⟩, List.mem_of_getElem? (i := 7) (by decide +kernel), List.mem_of_getElem? (i := 185) (by decide +kernel), List.mem_of_getElem? (i := 186) (by decide +kernel)⟩
theorem lw_p5 : lw_okq (⟨"TimerGates$Gate", "waitEnds", "()Z"⟩, 6) := ⟨⟨by decide +kernel, by decide +kernel⟩, List.mem_of_getElem? (i := 86) (by decide +kernel), List.mem_of_getElem? (i := 189) (by decide +kernel), List.mem_of_getElem? (i := 190) (by decide +kernel)⟩
theorem lw_p6 : lw_okq (⟨"TimerGates", "serve", "(I)Z"⟩, 5) := ⟨⟨by decide +kernel, by decide +kernel⟩, List.mem_of_getElem? (i := 7) (by decide +kernel), List.mem_of_getElem? (i := 193) (by decide +kernel), List.mem_of_getElem? (i := 194) (by decide +kernel)⟩
theorem lw_p7 : lw_okq (⟨"TimerGates$Gate", "asks", "(I)Z"⟩, 6) := ⟨⟨by decide +kernel, by decide +kernel⟩, List.mem_of_getElem? (i := 86) (by decide +kernel), List.mem_of_getElem? (i := 197) (by decide +kernel), List.mem_of_getElem? (i := 198) (by decide +kernel)⟩
theorem lw_p8 : lw_okq (⟨"TimerGates$History", "add", "(III)V"⟩, 6) := ⟨⟨by decide +kernel, by decide +kernel⟩, List.mem_of_getElem? (i := 19) (by decide +kernel), List.mem_of_getElem? (i := 204) (by decide +kernel), List.mem_of_getElem? (i := 205) (by decide +kernel)⟩
theorem lw_p9 : lw_okq (⟨"TimerGates", "wakeGates", "()V"⟩, 5) := ⟨⟨by decide +kernel, by decide +kernel⟩, List.mem_of_getElem? (i := 7) (by decide +kernel), List.mem_of_getElem? (i := 208) (by decide +kernel), List.mem_of_getElem? (i := 209) (by decide +kernel)⟩
theorem lw_p10 : lw_okq (⟨"TimerGates$Timer", "read", "(I)I"⟩, 9) := ⟨⟨by decide +kernel, by decide +kernel⟩, List.mem_of_getElem? (i := 45) (by decide +kernel), List.mem_of_getElem? (i := 220) (by decide +kernel), List.mem_of_getElem? (i := 221) (by decide +kernel)⟩
theorem lw_p11 : lw_okq (⟨"TimerGates$Gate", "read", "(II)I"⟩, 6) := ⟨⟨by decide +kernel, by decide +kernel⟩, List.mem_of_getElem? (i := 86) (by decide +kernel), List.mem_of_getElem? (i := 228) (by decide +kernel), List.mem_of_getElem? (i := 229) (by decide +kernel)⟩
theorem lw_p12 : lw_okq (⟨"TimerGates", "ticksToNextEnd", "()I"⟩, 5) := ⟨⟨by decide +kernel, by decide +kernel⟩, List.mem_of_getElem? (i := 7) (by decide +kernel), List.mem_of_getElem? (i := 237) (by decide +kernel), List.mem_of_getElem? (i := 238) (by decide +kernel)⟩
theorem lw_p13 : lw_okq (⟨"TimerGates$History", "read", "(II)I"⟩, 6) := ⟨⟨by decide +kernel, by decide +kernel⟩, List.mem_of_getElem? (i := 19) (by decide +kernel), List.mem_of_getElem? (i := 245) (by decide +kernel), List.mem_of_getElem? (i := 246) (by decide +kernel)⟩
theorem lw_p14 : lw_okq (⟨"TimerGatesModel", "tick", "()V"⟩, 18) := ⟨⟨by decide +kernel, by decide +kernel⟩, List.mem_of_getElem? (i := 249) (by decide +kernel), List.mem_of_getElem? (i := 334) (by decide +kernel), List.mem_of_getElem? (i := 335) (by decide +kernel)⟩
theorem lw_p15 : lw_okq (⟨"TimerGatesModel", "event", "(I)Z"⟩, 18) := ⟨⟨by decide +kernel, by decide +kernel⟩, List.mem_of_getElem? (i := 249) (by decide +kernel), List.mem_of_getElem? (i := 338) (by decide +kernel), List.mem_of_getElem? (i := 339) (by decide +kernel)⟩
def lw_privs_1 : List (MethodName × Nat) := [(⟨"TimerGates", "tick", "()I"⟩, 5), (⟨"TimerGates", "tickTimers", "()V"⟩, 5), (⟨"TimerGates$Timer", "countDown", "()Z"⟩, 9), (⟨"TimerGates", "raise", "(I)V"⟩, 5), (⟨"TimerGates", "tickGates", "()I"⟩, 5), (⟨"TimerGates$Gate", "waitEnds", "()Z"⟩, 6), (⟨"TimerGates", "serve", "(I)Z"⟩, 5), (⟨"TimerGates$Gate", "asks", "(I)Z"⟩, 6), (⟨"TimerGates$History", "add", "(III)V"⟩, 6), (⟨"TimerGates", "wakeGates", "()V"⟩, 5), (⟨"TimerGates$Timer", "read", "(I)I"⟩, 9), (⟨"TimerGates$Gate", "read", "(II)I"⟩, 6), (⟨"TimerGates", "ticksToNextEnd", "()I"⟩, 5), (⟨"TimerGates$History", "read", "(II)I"⟩, 6), (⟨"TimerGatesModel", "tick", "()V"⟩, 18), (⟨"TimerGatesModel", "event", "(I)Z"⟩, 18)]
theorem lw_r1 : ∀ q ∈ lw_privs_1, lw_okq q := List.forall_mem_cons.mpr ⟨lw_p0, List.forall_mem_cons.mpr ⟨lw_p1, List.forall_mem_cons.mpr ⟨lw_p2, List.forall_mem_cons.mpr ⟨lw_p3, List.forall_mem_cons.mpr ⟨lw_p4, List.forall_mem_cons.mpr ⟨lw_p5, List.forall_mem_cons.mpr ⟨lw_p6, List.forall_mem_cons.mpr ⟨lw_p7, List.forall_mem_cons.mpr ⟨lw_p8, List.forall_mem_cons.mpr ⟨lw_p9, List.forall_mem_cons.mpr ⟨lw_p10, List.forall_mem_cons.mpr ⟨lw_p11, List.forall_mem_cons.mpr ⟨lw_p12, List.forall_mem_cons.mpr ⟨lw_p13, List.forall_mem_cons.mpr ⟨lw_p14, List.forall_mem_cons.mpr ⟨lw_p15, fun _ h => absurd h List.not_mem_nil⟩⟩⟩⟩⟩⟩⟩⟩⟩⟩⟩⟩⟩⟩⟩⟩
theorem lw_p16 : lw_okq (⟨"TimerGatesModel", "serve", "(I)V"⟩, 18) := ⟨⟨by decide +kernel, by decide +kernel⟩, List.mem_of_getElem? (i := 249) (by decide +kernel), List.mem_of_getElem? (i := 342) (by decide +kernel), List.mem_of_getElem? (i := 343) (by decide +kernel)⟩
theorem lw_p17 : lw_okq (⟨"TimerGatesModel", "asks", "(I)Z"⟩, 18) := ⟨⟨by decide +kernel, by decide +kernel⟩, List.mem_of_getElem? (i := 249) (by decide +kernel), List.mem_of_getElem? (i := 346) (by decide +kernel), List.mem_of_getElem? (i := 347) (by decide +kernel)⟩
def lw_privs_2 : List (MethodName × Nat) := [(⟨"TimerGatesModel", "serve", "(I)V"⟩, 18), (⟨"TimerGatesModel", "asks", "(I)Z"⟩, 18)]
theorem lw_r2 : ∀ q ∈ lw_privs_2, lw_okq q := List.forall_mem_cons.mpr ⟨lw_p16, List.forall_mem_cons.mpr ⟨lw_p17, fun _ h => absurd h List.not_mem_nil⟩⟩
def lw_privs : List (MethodName × Nat) := lw_privs_1 ++ (lw_privs_2)
def lw_tbl : List Cond := k2_sels lw_privs ++ tables_1
theorem lw_privs_ok : ∀ q ∈ lw_privs, lw_okq q := by
  show ∀ q ∈ lw_privs_1 ++ (lw_privs_2), lw_okq q
  exact List.forall_mem_append.mpr ⟨lw_r1, lw_r2⟩

def BIG : List Cond := lw_tbl.filter goodWord
def isNest (w : Cond) : Bool := match w with
  | .fieldLinkNest _ _ _ _ _ _ => true
  | .methodLinkNest _ _ _ _ => true
  | .arrayOver (.object _) => true
  | _ => false
def NESTS : List Cond := lw_tbl.filter isNest
theorem big_at {w : Cond} (i : Nat) (h : lw_tbl[i]? = some w) (hg : goodWord w = true) : w ∈ BIG := List.mem_filter.mpr ⟨List.mem_of_getElem? h, hg⟩
theorem nest_at {w : Cond} (i : Nat) (h : lw_tbl[i]? = some w) (hg : isNest w = true) : w ∈ NESTS := List.mem_filter.mpr ⟨List.mem_of_getElem? h, hg⟩
theorem BIG_in {w : Cond} (h : w ∈ BIG) : w ∈ lw_tbl := (List.mem_filter.mp h).1
theorem BIG_good {w : Cond} (h : w ∈ BIG) : goodWord w = true := (List.mem_filter.mp h).2
theorem NESTS_in {w : Cond} (h : w ∈ NESTS) : w ∈ lw_tbl := (List.mem_filter.mp h).1
theorem NESTS_ok : ∀ w ∈ NESTS, isNest w = true := fun _ h => (List.mem_filter.mp h).2
def R_G : String := "TimerGates$Gate"
def F_G : u_T := fun k => match k with
  | 0 => ("TimerGates$Gate", "mask", "I", false)
  | 1 => ("TimerGates$Gate", "delay", "I", false)
  | 2 => ("TimerGates$Gate", "toWait", "I", false)
  | 3 => ("TimerGates$Gate", "bitsServed", "I", false)
  | 4 => ("TimerGates$Gate", "timesIdle", "I", false)
  | _ => ("TimerGates$Gate", "latest", "I", false)
def ft_G : Nat → FieldType := fun k => match k with
  | 0 => .int
  | 1 => .int
  | 2 => .int
  | 3 => .int
  | 4 => .int
  | _ => .int
theorem n_G : ∀ a, a < 6 → ∀ b, b < 6 → a ≠ b → (F_G a).2.1 ≠ (F_G b).2.1 := by decide +kernel
theorem ft_G_ok : ∀ k, k < 6 → parseFieldDescriptor (F_G k).2.2.1 = some (ft_G k) := by decide +kernel
theorem i_G : ∀ w ∈ u_ws R_G F_G 6, w ∈ BIG := by decide +kernel
theorem inst_G : Cond.instantiable R_G 6 ∈ BIG := big_at 104 (by decide +kernel) (by decide +kernel)
theorem ini_G : Cond.initialized R_G ∈ BIG := big_at 22 (by decide +kernel) (by decide +kernel)
def R_H : String := "TimerGates$History"
def F_H : u_T := fun k => match k with
  | 0 => ("TimerGates$History", "bits", "[I", true)
  | 1 => ("TimerGates$History", "servers", "[I", true)
  | 2 => ("TimerGates$History", "times", "[I", true)
  | 3 => ("TimerGates$History", "total", "I", false)
  | 4 => ("TimerGates$History", "filled", "I", false)
  | _ => ("TimerGates$History", "place", "I", false)
def ft_H : Nat → FieldType := fun k => match k with
  | 0 => .array (.int)
  | 1 => .array (.int)
  | 2 => .array (.int)
  | 3 => .int
  | 4 => .int
  | _ => .int
theorem n_H : ∀ a, a < 6 → ∀ b, b < 6 → a ≠ b → (F_H a).2.1 ≠ (F_H b).2.1 := by decide +kernel
theorem ft_H_ok : ∀ k, k < 6 → parseFieldDescriptor (F_H k).2.2.1 = some (ft_H k) := by decide +kernel
theorem i_H : ∀ w ∈ u_ws R_H F_H 6, w ∈ BIG := by decide +kernel
theorem inst_H : Cond.instantiable R_H 6 ∈ BIG := big_at 37 (by decide +kernel) (by decide +kernel)
theorem ini_H : Cond.initialized R_H ∈ BIG := big_at 20 (by decide +kernel) (by decide +kernel)
def R_T : String := "TimerGates$Timer"
def F_T : u_T := fun k => match k with
  | 0 => ("TimerGates$Timer", "period", "I", false)
  | 1 => ("TimerGates$Timer", "count", "I", false)
  | 2 => ("TimerGates$Timer", "source", "I", false)
  | 3 => ("TimerGates$Timer", "once", "Z", false)
  | 4 => ("TimerGates$Timer", "runs", "Z", false)
  | 5 => ("TimerGates$Timer", "timesEnded", "I", false)
  | 6 => ("TimerGates$Timer", "timesMissed", "I", false)
  | 7 => ("TimerGates$Timer", "timesServed", "I", false)
  | _ => ("TimerGates$Timer", "timesCleared", "I", false)
def ft_T : Nat → FieldType := fun k => match k with
  | 0 => .int
  | 1 => .int
  | 2 => .int
  | 3 => .boolean
  | 4 => .boolean
  | 5 => .int
  | 6 => .int
  | 7 => .int
  | _ => .int
theorem n_T : ∀ a, a < 9 → ∀ b, b < 9 → a ≠ b → (F_T a).2.1 ≠ (F_T b).2.1 := by decide +kernel
theorem ft_T_ok : ∀ k, k < 9 → parseFieldDescriptor (F_T k).2.2.1 = some (ft_T k) := by decide +kernel
theorem i_T : ∀ w ∈ u_ws R_T F_T 9, w ∈ BIG := by decide +kernel
theorem inst_T : Cond.instantiable R_T 9 ∈ BIG := big_at 63 (by decide +kernel) (by decide +kernel)
theorem ini_T : Cond.initialized R_T ∈ BIG := big_at 21 (by decide +kernel) (by decide +kernel)
def R_X : String := "TimerGates"
def F_X : u_T := fun k => match k with
  | 0 => ("TimerGates", "timers", "[LTimerGates$Timer;", true)
  | 1 => ("TimerGates", "gates", "[LTimerGates$Gate;", true)
  | 2 => ("TimerGates", "history", "LTimerGates$History;", true)
  | 3 => ("TimerGates", "status", "I", false)
  | _ => ("TimerGates", "now", "I", false)
def ft_X : Nat → FieldType := fun k => match k with
  | 0 => .array (.object "TimerGates$Timer")
  | 1 => .array (.object "TimerGates$Gate")
  | 2 => .object "TimerGates$History"
  | 3 => .int
  | _ => .int
theorem n_X : ∀ a, a < 5 → ∀ b, b < 5 → a ≠ b → (F_X a).2.1 ≠ (F_X b).2.1 := by decide +kernel
theorem ft_X_ok : ∀ k, k < 5 → parseFieldDescriptor (F_X k).2.2.1 = some (ft_X k) := by decide +kernel
theorem i_X : ∀ w ∈ u_ws R_X F_X 5, w ∈ BIG := by decide +kernel
theorem inst_X : Cond.instantiable R_X 5 ∈ BIG := big_at 25 (by decide +kernel) (by decide +kernel)
theorem ini_X : Cond.initialized R_X ∈ BIG := big_at 19 (by decide +kernel) (by decide +kernel)
def R_M : String := "TimerGatesModel"
def F_M : u_T := fun k => match k with
  | 0 => ("TimerGatesModel", "thrown", "I", false)
  | 1 => ("TimerGatesModel", "now", "I", false)
  | 2 => ("TimerGatesModel", "status", "I", false)
  | 3 => ("TimerGatesModel", "served", "I", false)
  | 4 => ("TimerGatesModel", "period", "[I", true)
  | 5 => ("TimerGatesModel", "count", "[I", true)
  | 6 => ("TimerGatesModel", "source", "[I", true)
  | 7 => ("TimerGatesModel", "once", "[Z", true)
  | 8 => ("TimerGatesModel", "runs", "[Z", true)
  | 9 => ("TimerGatesModel", "often", "[I", true)
  | 10 => ("TimerGatesModel", "mask", "[I", true)
  | 11 => ("TimerGatesModel", "delay", "[I", true)
  | 12 => ("TimerGatesModel", "waits", "[I", true)
  | 13 => ("TimerGatesModel", "done", "[Z", true)
  | 14 => ("TimerGatesModel", "servedBy", "[I", true)
  | 15 => ("TimerGatesModel", "idle", "[I", true)
  | 16 => ("TimerGatesModel", "latest", "[I", true)
  | _ => ("TimerGatesModel", "row", "[I", true)
def ft_M : Nat → FieldType := fun k => match k with
  | 0 => .int
  | 1 => .int
  | 2 => .int
  | 3 => .int
  | 4 => .array (.int)
  | 5 => .array (.int)
  | 6 => .array (.int)
  | 7 => .array (.boolean)
  | 8 => .array (.boolean)
  | 9 => .array (.int)
  | 10 => .array (.int)
  | 11 => .array (.int)
  | 12 => .array (.int)
  | 13 => .array (.boolean)
  | 14 => .array (.int)
  | 15 => .array (.int)
  | 16 => .array (.int)
  | _ => .array (.int)
theorem n_M : ∀ a, a < 18 → ∀ b, b < 18 → a ≠ b → (F_M a).2.1 ≠ (F_M b).2.1 := by decide +kernel
theorem ft_M_ok : ∀ k, k < 18 → parseFieldDescriptor (F_M k).2.2.1 = some (ft_M k) := by decide +kernel
theorem i_M : ∀ w ∈ u_ws R_M F_M 18, w ∈ BIG := by decide +kernel
theorem inst_M : Cond.instantiable R_M 18 ∈ BIG := big_at 267 (by decide +kernel) (by decide +kernel)
theorem ini_M : Cond.initialized R_M ∈ BIG := big_at 23 (by decide +kernel) (by decide +kernel)
abbrev classes : List vw_C := [(R_X, F_X, 5), (R_H, F_H, 6), (R_T, F_T, 9), (R_G, F_G, 6), (R_M, F_M, 18)]
def R_law : String := "TimerGatesLaw"
theorem over_T : Cond.arrayOver (.object R_T) ∈ NESTS := nest_at 33 (by decide +kernel) (by decide +kernel)
theorem over_G : Cond.arrayOver (.object R_G) ∈ NESTS := nest_at 35 (by decide +kernel) (by decide +kernel)
theorem arr_int : Cond.arrayClass .int ∈ BIG := big_at 62 (by decide +kernel) (by decide +kernel)
theorem arr_boolean : Cond.arrayClass .boolean ∈ BIG := big_at 326 (by decide +kernel) (by decide +kernel)
abbrev b_Xinit : ByteArray := prog_1_method_1_code
def y_Xinit : MethodName := ⟨R_X, "<init>", "()V"⟩
abbrev rm_Xinit : Room := { frames := 2, cells := 18, slots := 162, locals := 40 }
theorem ok_Xinit : Cond.code y_Xinit b_Xinit 2 none ∈ BIG ∧ Cond.initialized y_Xinit.cls ∈ BIG ∧ y_Xinit.cls ≠ "java/lang/invoke/MethodHandle" ∧ y_Xinit.cls ≠ "java/lang/invoke/VarHandle" ∧ (parseMethodDescriptor y_Xinit.desc).map (fun d => d.parameters.length) = some 0 := ⟨big_at 28 (by decide +kernel) (by decide +kernel), ini_X, by decide +kernel, by decide +kernel, by decide +kernel⟩
theorem oi_Xinit : Cond.instanceMethod y_Xinit ∈ BIG := big_at 27 (by decide +kernel) (by decide +kernel)
abbrev b_set : ByteArray := prog_1_method_2_code
def y_set : MethodName := ⟨R_X, "set", "(IIIZ)Z"⟩
abbrev rm_set : Room := { frames := 1, cells := 0, slots := 0, locals := 21 }
theorem ok_set : Cond.code y_set b_set 6 (some .boolean) ∈ BIG ∧ Cond.initialized y_set.cls ∈ BIG ∧ y_set.cls ≠ "java/lang/invoke/MethodHandle" ∧ y_set.cls ≠ "java/lang/invoke/VarHandle" ∧ (parseMethodDescriptor y_set.desc).map (fun d => d.parameters.length) = some 4 := ⟨big_at 153 (by decide +kernel) (by decide +kernel), ini_X, by decide +kernel, by decide +kernel, by decide +kernel⟩
theorem io_set : Cond.instanceMethod y_set ∈ BIG ∧ Cond.selects y_set.cls y_set y_set ∈ BIG := ⟨big_at 151 (by decide +kernel) (by decide +kernel), big_at 152 (by decide +kernel) (by decide +kernel)⟩
abbrev b_turn : ByteArray := prog_1_method_3_code
def y_turn : MethodName := ⟨R_X, "turn", "(IZ)Z"⟩
abbrev rm_turn : Room := { frames := 1, cells := 0, slots := 0, locals := 20 }
theorem ok_turn : Cond.code y_turn b_turn 3 (some .boolean) ∈ BIG ∧ Cond.initialized y_turn.cls ∈ BIG ∧ y_turn.cls ≠ "java/lang/invoke/MethodHandle" ∧ y_turn.cls ≠ "java/lang/invoke/VarHandle" ∧ (parseMethodDescriptor y_turn.desc).map (fun d => d.parameters.length) = some 2 := ⟨big_at 164 (by decide +kernel) (by decide +kernel), ini_X, by decide +kernel, by decide +kernel, by decide +kernel⟩
theorem io_turn : Cond.instanceMethod y_turn ∈ BIG ∧ Cond.selects y_turn.cls y_turn y_turn ∈ BIG := ⟨big_at 162 (by decide +kernel) (by decide +kernel), big_at 163 (by decide +kernel) (by decide +kernel)⟩
abbrev b_gate : ByteArray := prog_1_method_4_code
def y_gate : MethodName := ⟨R_X, "gate", "(III)Z"⟩
abbrev rm_gate : Room := { frames := 1, cells := 0, slots := 0, locals := 20 }
theorem ok_gate : Cond.code y_gate b_gate 4 (some .boolean) ∈ BIG ∧ Cond.initialized y_gate.cls ∈ BIG ∧ y_gate.cls ≠ "java/lang/invoke/MethodHandle" ∧ y_gate.cls ≠ "java/lang/invoke/VarHandle" ∧ (parseMethodDescriptor y_gate.desc).map (fun d => d.parameters.length) = some 3 := ⟨big_at 168 (by decide +kernel) (by decide +kernel), ini_X, by decide +kernel, by decide +kernel, by decide +kernel⟩
theorem io_gate : Cond.instanceMethod y_gate ∈ BIG ∧ Cond.selects y_gate.cls y_gate y_gate ∈ BIG := ⟨big_at 166 (by decide +kernel) (by decide +kernel), big_at 167 (by decide +kernel) (by decide +kernel)⟩
abbrev b_clear : ByteArray := prog_1_method_5_code
def y_clear : MethodName := ⟨R_X, "clear", "(I)I"⟩
abbrev rm_clear : Room := { frames := 1, cells := 0, slots := 0, locals := 20 }
theorem ok_clear : Cond.code y_clear b_clear 4 (some .int) ∈ BIG ∧ Cond.initialized y_clear.cls ∈ BIG ∧ y_clear.cls ≠ "java/lang/invoke/MethodHandle" ∧ y_clear.cls ≠ "java/lang/invoke/VarHandle" ∧ (parseMethodDescriptor y_clear.desc).map (fun d => d.parameters.length) = some 1 := ⟨big_at 178 (by decide +kernel) (by decide +kernel), ini_X, by decide +kernel, by decide +kernel, by decide +kernel⟩
theorem io_clear : Cond.instanceMethod y_clear ∈ BIG ∧ Cond.selects y_clear.cls y_clear y_clear ∈ BIG := ⟨big_at 176 (by decide +kernel) (by decide +kernel), big_at 177 (by decide +kernel) (by decide +kernel)⟩
abbrev b_advance : ByteArray := prog_1_method_6_code
def y_advance : MethodName := ⟨R_X, "advance", "(I)I"⟩
abbrev rm_advance : Room := { frames := 4, cells := 0, slots := 0, locals := 89 }
theorem ok_advance : Cond.code y_advance b_advance 4 (some .int) ∈ BIG ∧ Cond.initialized y_advance.cls ∈ BIG ∧ y_advance.cls ≠ "java/lang/invoke/MethodHandle" ∧ y_advance.cls ≠ "java/lang/invoke/VarHandle" ∧ (parseMethodDescriptor y_advance.desc).map (fun d => d.parameters.length) = some 1 := ⟨big_at 182 (by decide +kernel) (by decide +kernel), ini_X, by decide +kernel, by decide +kernel, by decide +kernel⟩
theorem io_advance : Cond.instanceMethod y_advance ∈ BIG ∧ Cond.selects y_advance.cls y_advance y_advance ∈ BIG := ⟨big_at 180 (by decide +kernel) (by decide +kernel), big_at 181 (by decide +kernel) (by decide +kernel)⟩
abbrev b_next : ByteArray := prog_1_method_7_code
def y_next : MethodName := ⟨R_X, "next", "(I)I"⟩
abbrev rm_next : Room := { frames := 4, cells := 0, slots := 0, locals := 89 }
theorem ok_next : Cond.code y_next b_next 3 (some .int) ∈ BIG ∧ Cond.initialized y_next.cls ∈ BIG ∧ y_next.cls ≠ "java/lang/invoke/MethodHandle" ∧ y_next.cls ≠ "java/lang/invoke/VarHandle" ∧ (parseMethodDescriptor y_next.desc).map (fun d => d.parameters.length) = some 1 := ⟨big_at 232 (by decide +kernel) (by decide +kernel), ini_X, by decide +kernel, by decide +kernel, by decide +kernel⟩
theorem io_next : Cond.instanceMethod y_next ∈ BIG ∧ Cond.selects y_next.cls y_next y_next ∈ BIG := ⟨big_at 230 (by decide +kernel) (by decide +kernel), big_at 231 (by decide +kernel) (by decide +kernel)⟩
abbrev b_timer : ByteArray := prog_1_method_8_code
def y_timer : MethodName := ⟨R_X, "timer", "(II)I"⟩
abbrev rm_timer : Room := { frames := 1, cells := 0, slots := 0, locals := 21 }
theorem ok_timer : Cond.code y_timer b_timer 3 (some .int) ∈ BIG ∧ Cond.initialized y_timer.cls ∈ BIG ∧ y_timer.cls ≠ "java/lang/invoke/MethodHandle" ∧ y_timer.cls ≠ "java/lang/invoke/VarHandle" ∧ (parseMethodDescriptor y_timer.desc).map (fun d => d.parameters.length) = some 2 := ⟨big_at 236 (by decide +kernel) (by decide +kernel), ini_X, by decide +kernel, by decide +kernel, by decide +kernel⟩
theorem io_timer : Cond.instanceMethod y_timer ∈ BIG ∧ Cond.selects y_timer.cls y_timer y_timer ∈ BIG := ⟨big_at 234 (by decide +kernel) (by decide +kernel), big_at 235 (by decide +kernel) (by decide +kernel)⟩
abbrev b_gateOf : ByteArray := prog_1_method_9_code
def y_gateOf : MethodName := ⟨R_X, "gateOf", "(II)I"⟩
abbrev rm_gateOf : Room := { frames := 2, cells := 0, slots := 0, locals := 43 }
theorem ok_gateOf : Cond.code y_gateOf b_gateOf 3 (some .int) ∈ BIG ∧ Cond.initialized y_gateOf.cls ∈ BIG ∧ y_gateOf.cls ≠ "java/lang/invoke/MethodHandle" ∧ y_gateOf.cls ≠ "java/lang/invoke/VarHandle" ∧ (parseMethodDescriptor y_gateOf.desc).map (fun d => d.parameters.length) = some 2 := ⟨big_at 244 (by decide +kernel) (by decide +kernel), ini_X, by decide +kernel, by decide +kernel, by decide +kernel⟩
theorem io_gateOf : Cond.instanceMethod y_gateOf ∈ BIG ∧ Cond.selects y_gateOf.cls y_gateOf y_gateOf ∈ BIG := ⟨big_at 242 (by decide +kernel) (by decide +kernel), big_at 243 (by decide +kernel) (by decide +kernel)⟩
abbrev b_look : ByteArray := prog_1_method_10_code
def y_look : MethodName := ⟨R_X, "look", "(I)I"⟩
abbrev rm_look : Room := { frames := 1, cells := 0, slots := 0, locals := 24 }
theorem ok_look : Cond.code y_look b_look 2 (some .int) ∈ BIG ∧ Cond.initialized y_look.cls ∈ BIG ∧ y_look.cls ≠ "java/lang/invoke/MethodHandle" ∧ y_look.cls ≠ "java/lang/invoke/VarHandle" ∧ (parseMethodDescriptor y_look.desc).map (fun d => d.parameters.length) = some 1 := ⟨big_at 253 (by decide +kernel) (by decide +kernel), ini_X, by decide +kernel, by decide +kernel, by decide +kernel⟩
theorem io_look : Cond.instanceMethod y_look ∈ BIG ∧ Cond.selects y_look.cls y_look y_look ∈ BIG := ⟨big_at 251 (by decide +kernel) (by decide +kernel), big_at 252 (by decide +kernel) (by decide +kernel)⟩
abbrev b_served : ByteArray := prog_1_method_11_code
def y_served : MethodName := ⟨R_X, "served", "(II)I"⟩
abbrev rm_served : Room := { frames := 1, cells := 0, slots := 0, locals := 23 }
theorem ok_served : Cond.code y_served b_served 3 (some .int) ∈ BIG ∧ Cond.initialized y_served.cls ∈ BIG ∧ y_served.cls ≠ "java/lang/invoke/MethodHandle" ∧ y_served.cls ≠ "java/lang/invoke/VarHandle" ∧ (parseMethodDescriptor y_served.desc).map (fun d => d.parameters.length) = some 2 := ⟨big_at 261 (by decide +kernel) (by decide +kernel), ini_X, by decide +kernel, by decide +kernel, by decide +kernel⟩
theorem io_served : Cond.instanceMethod y_served ∈ BIG ∧ Cond.selects y_served.cls y_served y_served ∈ BIG := ⟨big_at 259 (by decide +kernel) (by decide +kernel), big_at 260 (by decide +kernel) (by decide +kernel)⟩
abbrev b_isTimer : ByteArray := prog_1_method_12_code
def y_isTimer : MethodName := ⟨R_X, "isTimer", "(I)Z"⟩
abbrev rm_isTimer : Room := { frames := 0, cells := 0, slots := 0, locals := 0 }
theorem ok_isTimer : Cond.code y_isTimer b_isTimer 1 (some .boolean) ∈ BIG ∧ Cond.initialized y_isTimer.cls ∈ BIG ∧ y_isTimer.cls ≠ "java/lang/invoke/MethodHandle" ∧ y_isTimer.cls ≠ "java/lang/invoke/VarHandle" ∧ (parseMethodDescriptor y_isTimer.desc).map (fun d => d.parameters.length) = some 1 := ⟨big_at 156 (by decide +kernel) (by decide +kernel), ini_X, by decide +kernel, by decide +kernel, by decide +kernel⟩
theorem so_isTimer : Cond.static y_isTimer ∈ BIG := big_at 155 (by decide +kernel) (by decide +kernel)
abbrev b_isGate : ByteArray := prog_1_method_13_code
def y_isGate : MethodName := ⟨R_X, "isGate", "(I)Z"⟩
abbrev rm_isGate : Room := { frames := 0, cells := 0, slots := 0, locals := 0 }
theorem ok_isGate : Cond.code y_isGate b_isGate 1 (some .boolean) ∈ BIG ∧ Cond.initialized y_isGate.cls ∈ BIG ∧ y_isGate.cls ≠ "java/lang/invoke/MethodHandle" ∧ y_isGate.cls ≠ "java/lang/invoke/VarHandle" ∧ (parseMethodDescriptor y_isGate.desc).map (fun d => d.parameters.length) = some 1 := ⟨big_at 171 (by decide +kernel) (by decide +kernel), ini_X, by decide +kernel, by decide +kernel, by decide +kernel⟩
theorem so_isGate : Cond.static y_isGate ∈ BIG := big_at 170 (by decide +kernel) (by decide +kernel)
abbrev b_isSource : ByteArray := prog_1_method_14_code
def y_isSource : MethodName := ⟨R_X, "isSource", "(II)Z"⟩
abbrev rm_isSource : Room := { frames := 0, cells := 0, slots := 0, locals := 0 }
theorem ok_isSource : Cond.code y_isSource b_isSource 2 (some .boolean) ∈ BIG ∧ Cond.initialized y_isSource.cls ∈ BIG ∧ y_isSource.cls ≠ "java/lang/invoke/MethodHandle" ∧ y_isSource.cls ≠ "java/lang/invoke/VarHandle" ∧ (parseMethodDescriptor y_isSource.desc).map (fun d => d.parameters.length) = some 2 := ⟨big_at 159 (by decide +kernel) (by decide +kernel), ini_X, by decide +kernel, by decide +kernel, by decide +kernel⟩
theorem so_isSource : Cond.static y_isSource ∈ BIG := big_at 158 (by decide +kernel) (by decide +kernel)
abbrev b_isBitSet : ByteArray := prog_1_method_15_code
def y_isBitSet : MethodName := ⟨R_X, "isBitSet", "(I)Z"⟩
abbrev rm_isBitSet : Room := { frames := 0, cells := 0, slots := 0, locals := 0 }
theorem ok_isBitSet : Cond.code y_isBitSet b_isBitSet 1 (some .boolean) ∈ BIG ∧ Cond.initialized y_isBitSet.cls ∈ BIG ∧ y_isBitSet.cls ≠ "java/lang/invoke/MethodHandle" ∧ y_isBitSet.cls ≠ "java/lang/invoke/VarHandle" ∧ (parseMethodDescriptor y_isBitSet.desc).map (fun d => d.parameters.length) = some 1 := ⟨big_at 174 (by decide +kernel) (by decide +kernel), ini_X, by decide +kernel, by decide +kernel, by decide +kernel⟩
theorem so_isBitSet : Cond.static y_isBitSet ∈ BIG := big_at 173 (by decide +kernel) (by decide +kernel)
abbrev b_isTickCount : ByteArray := prog_1_method_16_code
def y_isTickCount : MethodName := ⟨R_X, "isTickCount", "(I)Z"⟩
abbrev rm_isTickCount : Room := { frames := 0, cells := 0, slots := 0, locals := 0 }
theorem ok_isTickCount : Cond.code y_isTickCount b_isTickCount 1 (some .boolean) ∈ BIG ∧ Cond.initialized y_isTickCount.cls ∈ BIG ∧ y_isTickCount.cls ≠ "java/lang/invoke/MethodHandle" ∧ y_isTickCount.cls ≠ "java/lang/invoke/VarHandle" ∧ (parseMethodDescriptor y_isTickCount.desc).map (fun d => d.parameters.length) = some 1 := ⟨big_at 185 (by decide +kernel) (by decide +kernel), ini_X, by decide +kernel, by decide +kernel, by decide +kernel⟩
theorem so_isTickCount : Cond.static y_isTickCount ∈ BIG := big_at 184 (by decide +kernel) (by decide +kernel)
abbrev b_tick : ByteArray := prog_1_method_17_code
def y_tick : MethodName := ⟨R_X, "tick", "()I"⟩
abbrev rm_tick : Room := { frames := 3, cells := 0, slots := 0, locals := 68 }
theorem ok_tick : Cond.code y_tick b_tick 2 (some .int) ∈ BIG ∧ Cond.initialized y_tick.cls ∈ BIG ∧ y_tick.cls ≠ "java/lang/invoke/MethodHandle" ∧ y_tick.cls ≠ "java/lang/invoke/VarHandle" ∧ (parseMethodDescriptor y_tick.desc).map (fun d => d.parameters.length) = some 0 := ⟨big_at 189 (by decide +kernel) (by decide +kernel), ini_X, by decide +kernel, by decide +kernel, by decide +kernel⟩
theorem io_tick : Cond.instanceMethod y_tick ∈ BIG ∧ Cond.selects y_tick.cls y_tick y_tick ∈ BIG := ⟨big_at 188 (by decide +kernel) (by decide +kernel), big_at 0 (by decide +kernel) (by decide +kernel)⟩
abbrev b_tickTimers : ByteArray := prog_1_method_18_code
def y_tickTimers : MethodName := ⟨R_X, "tickTimers", "()V"⟩
abbrev rm_tickTimers : Room := { frames := 1, cells := 0, slots := 0, locals := 22 }
theorem ok_tickTimers : Cond.code y_tickTimers b_tickTimers 5 none ∈ BIG ∧ Cond.initialized y_tickTimers.cls ∈ BIG ∧ y_tickTimers.cls ≠ "java/lang/invoke/MethodHandle" ∧ y_tickTimers.cls ≠ "java/lang/invoke/VarHandle" ∧ (parseMethodDescriptor y_tickTimers.desc).map (fun d => d.parameters.length) = some 0 := ⟨big_at 193 (by decide +kernel) (by decide +kernel), ini_X, by decide +kernel, by decide +kernel, by decide +kernel⟩
theorem io_tickTimers : Cond.instanceMethod y_tickTimers ∈ BIG ∧ Cond.selects y_tickTimers.cls y_tickTimers y_tickTimers ∈ BIG := ⟨big_at 192 (by decide +kernel) (by decide +kernel), big_at 1 (by decide +kernel) (by decide +kernel)⟩
abbrev b_raise : ByteArray := prog_1_method_19_code
def y_raise : MethodName := ⟨R_X, "raise", "(I)V"⟩
abbrev rm_raise : Room := { frames := 0, cells := 0, slots := 0, locals := 0 }
theorem ok_raise : Cond.code y_raise b_raise 3 none ∈ BIG ∧ Cond.initialized y_raise.cls ∈ BIG ∧ y_raise.cls ≠ "java/lang/invoke/MethodHandle" ∧ y_raise.cls ≠ "java/lang/invoke/VarHandle" ∧ (parseMethodDescriptor y_raise.desc).map (fun d => d.parameters.length) = some 1 := ⟨big_at 201 (by decide +kernel) (by decide +kernel), ini_X, by decide +kernel, by decide +kernel, by decide +kernel⟩
theorem io_raise : Cond.instanceMethod y_raise ∈ BIG ∧ Cond.selects y_raise.cls y_raise y_raise ∈ BIG := ⟨big_at 200 (by decide +kernel) (by decide +kernel), big_at 3 (by decide +kernel) (by decide +kernel)⟩
abbrev b_tickGates : ByteArray := prog_1_method_20_code
def y_tickGates : MethodName := ⟨R_X, "tickGates", "()I"⟩
abbrev rm_tickGates : Room := { frames := 2, cells := 0, slots := 0, locals := 46 }
theorem ok_tickGates : Cond.code y_tickGates b_tickGates 3 (some .int) ∈ BIG ∧ Cond.initialized y_tickGates.cls ∈ BIG ∧ y_tickGates.cls ≠ "java/lang/invoke/MethodHandle" ∧ y_tickGates.cls ≠ "java/lang/invoke/VarHandle" ∧ (parseMethodDescriptor y_tickGates.desc).map (fun d => d.parameters.length) = some 0 := ⟨big_at 205 (by decide +kernel) (by decide +kernel), ini_X, by decide +kernel, by decide +kernel, by decide +kernel⟩
theorem io_tickGates : Cond.instanceMethod y_tickGates ∈ BIG ∧ Cond.selects y_tickGates.cls y_tickGates y_tickGates ∈ BIG := ⟨big_at 204 (by decide +kernel) (by decide +kernel), big_at 4 (by decide +kernel) (by decide +kernel)⟩
abbrev b_serve : ByteArray := prog_1_method_21_code
def y_serve : MethodName := ⟨R_X, "serve", "(I)Z"⟩
abbrev rm_serve : Room := { frames := 1, cells := 0, slots := 0, locals := 23 }
theorem ok_serve : Cond.code y_serve b_serve 4 (some .boolean) ∈ BIG ∧ Cond.initialized y_serve.cls ∈ BIG ∧ y_serve.cls ≠ "java/lang/invoke/MethodHandle" ∧ y_serve.cls ≠ "java/lang/invoke/VarHandle" ∧ (parseMethodDescriptor y_serve.desc).map (fun d => d.parameters.length) = some 1 := ⟨big_at 213 (by decide +kernel) (by decide +kernel), ini_X, by decide +kernel, by decide +kernel, by decide +kernel⟩
theorem io_serve : Cond.instanceMethod y_serve ∈ BIG ∧ Cond.selects y_serve.cls y_serve y_serve ∈ BIG := ⟨big_at 212 (by decide +kernel) (by decide +kernel), big_at 6 (by decide +kernel) (by decide +kernel)⟩
abbrev b_leastBit : ByteArray := prog_1_method_22_code
def y_leastBit : MethodName := ⟨R_X, "leastBit", "(I)I"⟩
abbrev rm_leastBit : Room := { frames := 0, cells := 0, slots := 0, locals := 0 }
theorem ok_leastBit : Cond.code y_leastBit b_leastBit 2 (some .int) ∈ BIG ∧ Cond.initialized y_leastBit.cls ∈ BIG ∧ y_leastBit.cls ≠ "java/lang/invoke/MethodHandle" ∧ y_leastBit.cls ≠ "java/lang/invoke/VarHandle" ∧ (parseMethodDescriptor y_leastBit.desc).map (fun d => d.parameters.length) = some 1 := ⟨big_at 220 (by decide +kernel) (by decide +kernel), ini_X, by decide +kernel, by decide +kernel, by decide +kernel⟩
theorem so_leastBit : Cond.static y_leastBit ∈ BIG := big_at 219 (by decide +kernel) (by decide +kernel)
abbrev b_wakeGates : ByteArray := prog_1_method_23_code
def y_wakeGates : MethodName := ⟨R_X, "wakeGates", "()V"⟩
abbrev rm_wakeGates : Room := { frames := 1, cells := 0, slots := 0, locals := 21 }
theorem ok_wakeGates : Cond.code y_wakeGates b_wakeGates 3 none ∈ BIG ∧ Cond.initialized y_wakeGates.cls ∈ BIG ∧ y_wakeGates.cls ≠ "java/lang/invoke/MethodHandle" ∧ y_wakeGates.cls ≠ "java/lang/invoke/VarHandle" ∧ (parseMethodDescriptor y_wakeGates.desc).map (fun d => d.parameters.length) = some 0 := ⟨big_at 228 (by decide +kernel) (by decide +kernel), ini_X, by decide +kernel, by decide +kernel, by decide +kernel⟩
theorem io_wakeGates : Cond.instanceMethod y_wakeGates ∈ BIG ∧ Cond.selects y_wakeGates.cls y_wakeGates y_wakeGates ∈ BIG := ⟨big_at 227 (by decide +kernel) (by decide +kernel), big_at 9 (by decide +kernel) (by decide +kernel)⟩
abbrev b_ticksToNextEnd : ByteArray := prog_1_method_24_code
def y_ticksToNextEnd : MethodName := ⟨R_X, "ticksToNextEnd", "()I"⟩
abbrev rm_ticksToNextEnd : Room := { frames := 0, cells := 0, slots := 0, locals := 0 }
theorem ok_ticksToNextEnd : Cond.code y_ticksToNextEnd b_ticksToNextEnd 5 (some .int) ∈ BIG ∧ Cond.initialized y_ticksToNextEnd.cls ∈ BIG ∧ y_ticksToNextEnd.cls ≠ "java/lang/invoke/MethodHandle" ∧ y_ticksToNextEnd.cls ≠ "java/lang/invoke/VarHandle" ∧ (parseMethodDescriptor y_ticksToNextEnd.desc).map (fun d => d.parameters.length) = some 0 := ⟨big_at 257 (by decide +kernel) (by decide +kernel), ini_X, by decide +kernel, by decide +kernel, by decide +kernel⟩
theorem io_ticksToNextEnd : Cond.instanceMethod y_ticksToNextEnd ∈ BIG ∧ Cond.selects y_ticksToNextEnd.cls y_ticksToNextEnd y_ticksToNextEnd ∈ BIG := ⟨big_at 256 (by decide +kernel) (by decide +kernel), big_at 12 (by decide +kernel) (by decide +kernel)⟩
abbrev b_Minit : ByteArray := prog_6_method_1_code
def y_Minit : MethodName := ⟨R_M, "<init>", "()V"⟩
abbrev rm_Minit : Room := { frames := 1, cells := 14, slots := 148, locals := 20 }
theorem ok_Minit : Cond.code y_Minit b_Minit 1 none ∈ BIG ∧ Cond.initialized y_Minit.cls ∈ BIG ∧ y_Minit.cls ≠ "java/lang/invoke/MethodHandle" ∧ y_Minit.cls ≠ "java/lang/invoke/VarHandle" ∧ (parseMethodDescriptor y_Minit.desc).map (fun d => d.parameters.length) = some 0 := ⟨big_at 270 (by decide +kernel) (by decide +kernel), ini_M, by decide +kernel, by decide +kernel, by decide +kernel⟩
theorem oi_Minit : Cond.instanceMethod y_Minit ∈ BIG := big_at 269 (by decide +kernel) (by decide +kernel)
abbrev b_m_isIn : ByteArray := prog_6_method_3_code
def y_m_isIn : MethodName := ⟨R_M, "isIn", "(III)Z"⟩
abbrev rm_m_isIn : Room := { frames := 0, cells := 0, slots := 0, locals := 0 }
theorem ok_m_isIn : Cond.code y_m_isIn b_m_isIn 3 (some .boolean) ∈ BIG ∧ Cond.initialized y_m_isIn.cls ∈ BIG ∧ y_m_isIn.cls ≠ "java/lang/invoke/MethodHandle" ∧ y_m_isIn.cls ≠ "java/lang/invoke/VarHandle" ∧ (parseMethodDescriptor y_m_isIn.desc).map (fun d => d.parameters.length) = some 3 := ⟨big_at 333 (by decide +kernel) (by decide +kernel), ini_M, by decide +kernel, by decide +kernel, by decide +kernel⟩
theorem so_m_isIn : Cond.static y_m_isIn ∈ BIG := big_at 332 (by decide +kernel) (by decide +kernel)
abbrev b_m_set : ByteArray := prog_6_method_4_code
def y_m_set : MethodName := ⟨R_M, "set", "(IIIZ)Z"⟩
abbrev rm_m_set : Room := { frames := 1, cells := 0, slots := 0, locals := 22 }
theorem ok_m_set : Cond.code y_m_set b_m_set 5 (some .boolean) ∈ BIG ∧ Cond.initialized y_m_set.cls ∈ BIG ∧ y_m_set.cls ≠ "java/lang/invoke/MethodHandle" ∧ y_m_set.cls ≠ "java/lang/invoke/VarHandle" ∧ (parseMethodDescriptor y_m_set.desc).map (fun d => d.parameters.length) = some 4 := ⟨big_at 330 (by decide +kernel) (by decide +kernel), ini_M, by decide +kernel, by decide +kernel, by decide +kernel⟩
theorem io_m_set : Cond.instanceMethod y_m_set ∈ BIG ∧ Cond.selects y_m_set.cls y_m_set y_m_set ∈ BIG := ⟨big_at 328 (by decide +kernel) (by decide +kernel), big_at 329 (by decide +kernel) (by decide +kernel)⟩
abbrev b_m_turn : ByteArray := prog_6_method_5_code
def y_m_turn : MethodName := ⟨R_M, "turn", "(IZ)Z"⟩
abbrev rm_m_turn : Room := { frames := 1, cells := 0, slots := 0, locals := 22 }
theorem ok_m_turn : Cond.code y_m_turn b_m_turn 3 (some .boolean) ∈ BIG ∧ Cond.initialized y_m_turn.cls ∈ BIG ∧ y_m_turn.cls ≠ "java/lang/invoke/MethodHandle" ∧ y_m_turn.cls ≠ "java/lang/invoke/VarHandle" ∧ (parseMethodDescriptor y_m_turn.desc).map (fun d => d.parameters.length) = some 2 := ⟨big_at 338 (by decide +kernel) (by decide +kernel), ini_M, by decide +kernel, by decide +kernel, by decide +kernel⟩
theorem io_m_turn : Cond.instanceMethod y_m_turn ∈ BIG ∧ Cond.selects y_m_turn.cls y_m_turn y_m_turn ∈ BIG := ⟨big_at 336 (by decide +kernel) (by decide +kernel), big_at 337 (by decide +kernel) (by decide +kernel)⟩
abbrev b_m_gate : ByteArray := prog_6_method_6_code
def y_m_gate : MethodName := ⟨R_M, "gate", "(III)Z"⟩
abbrev rm_m_gate : Room := { frames := 1, cells := 0, slots := 0, locals := 22 }
theorem ok_m_gate : Cond.code y_m_gate b_m_gate 4 (some .boolean) ∈ BIG ∧ Cond.initialized y_m_gate.cls ∈ BIG ∧ y_m_gate.cls ≠ "java/lang/invoke/MethodHandle" ∧ y_m_gate.cls ≠ "java/lang/invoke/VarHandle" ∧ (parseMethodDescriptor y_m_gate.desc).map (fun d => d.parameters.length) = some 3 := ⟨big_at 342 (by decide +kernel) (by decide +kernel), ini_M, by decide +kernel, by decide +kernel, by decide +kernel⟩
theorem io_m_gate : Cond.instanceMethod y_m_gate ∈ BIG ∧ Cond.selects y_m_gate.cls y_m_gate y_m_gate ∈ BIG := ⟨big_at 340 (by decide +kernel) (by decide +kernel), big_at 341 (by decide +kernel) (by decide +kernel)⟩
abbrev b_m_clear : ByteArray := prog_6_method_7_code
def y_m_clear : MethodName := ⟨R_M, "clear", "(I)I"⟩
abbrev rm_m_clear : Room := { frames := 1, cells := 0, slots := 0, locals := 22 }
theorem ok_m_clear : Cond.code y_m_clear b_m_clear 4 (some .int) ∈ BIG ∧ Cond.initialized y_m_clear.cls ∈ BIG ∧ y_m_clear.cls ≠ "java/lang/invoke/MethodHandle" ∧ y_m_clear.cls ≠ "java/lang/invoke/VarHandle" ∧ (parseMethodDescriptor y_m_clear.desc).map (fun d => d.parameters.length) = some 1 := ⟨big_at 346 (by decide +kernel) (by decide +kernel), ini_M, by decide +kernel, by decide +kernel, by decide +kernel⟩
theorem io_m_clear : Cond.instanceMethod y_m_clear ∈ BIG ∧ Cond.selects y_m_clear.cls y_m_clear y_m_clear ∈ BIG := ⟨big_at 344 (by decide +kernel) (by decide +kernel), big_at 345 (by decide +kernel) (by decide +kernel)⟩
abbrev b_m_event : ByteArray := prog_6_method_8_code
def y_m_event : MethodName := ⟨R_M, "event", "(I)Z"⟩
abbrev rm_m_event : Room := { frames := 0, cells := 0, slots := 0, locals := 0 }
theorem ok_m_event : Cond.code y_m_event b_m_event 2 (some .boolean) ∈ BIG ∧ Cond.initialized y_m_event.cls ∈ BIG ∧ y_m_event.cls ≠ "java/lang/invoke/MethodHandle" ∧ y_m_event.cls ≠ "java/lang/invoke/VarHandle" ∧ (parseMethodDescriptor y_m_event.desc).map (fun d => d.parameters.length) = some 1 := ⟨big_at 358 (by decide +kernel) (by decide +kernel), ini_M, by decide +kernel, by decide +kernel, by decide +kernel⟩
theorem io_m_event : Cond.instanceMethod y_m_event ∈ BIG ∧ Cond.selects y_m_event.cls y_m_event y_m_event ∈ BIG := ⟨big_at 357 (by decide +kernel) (by decide +kernel), big_at 15 (by decide +kernel) (by decide +kernel)⟩
abbrev b_m_asks : ByteArray := prog_6_method_9_code
def y_m_asks : MethodName := ⟨R_M, "asks", "(I)Z"⟩
abbrev rm_m_asks : Room := { frames := 0, cells := 0, slots := 0, locals := 0 }
theorem ok_m_asks : Cond.code y_m_asks b_m_asks 2 (some .boolean) ∈ BIG ∧ Cond.initialized y_m_asks.cls ∈ BIG ∧ y_m_asks.cls ≠ "java/lang/invoke/MethodHandle" ∧ y_m_asks.cls ≠ "java/lang/invoke/VarHandle" ∧ (parseMethodDescriptor y_m_asks.desc).map (fun d => d.parameters.length) = some 1 := ⟨big_at 366 (by decide +kernel) (by decide +kernel), ini_M, by decide +kernel, by decide +kernel, by decide +kernel⟩
theorem io_m_asks : Cond.instanceMethod y_m_asks ∈ BIG ∧ Cond.selects y_m_asks.cls y_m_asks y_m_asks ∈ BIG := ⟨big_at 365 (by decide +kernel) (by decide +kernel), big_at 17 (by decide +kernel) (by decide +kernel)⟩
abbrev b_m_serve : ByteArray := prog_6_method_10_code
def y_m_serve : MethodName := ⟨R_M, "serve", "(I)V"⟩
abbrev rm_m_serve : Room := { frames := 1, cells := 0, slots := 0, locals := 21 }
theorem ok_m_serve : Cond.code y_m_serve b_m_serve 4 none ∈ BIG ∧ Cond.initialized y_m_serve.cls ∈ BIG ∧ y_m_serve.cls ≠ "java/lang/invoke/MethodHandle" ∧ y_m_serve.cls ≠ "java/lang/invoke/VarHandle" ∧ (parseMethodDescriptor y_m_serve.desc).map (fun d => d.parameters.length) = some 1 := ⟨big_at 362 (by decide +kernel) (by decide +kernel), ini_M, by decide +kernel, by decide +kernel, by decide +kernel⟩
theorem io_m_serve : Cond.instanceMethod y_m_serve ∈ BIG ∧ Cond.selects y_m_serve.cls y_m_serve y_m_serve ∈ BIG := ⟨big_at 361 (by decide +kernel) (by decide +kernel), big_at 16 (by decide +kernel) (by decide +kernel)⟩
abbrev b_m_tick : ByteArray := prog_6_method_11_code
def y_m_tick : MethodName := ⟨R_M, "tick", "()V"⟩
abbrev rm_m_tick : Room := { frames := 2, cells := 0, slots := 0, locals := 44 }
theorem ok_m_tick : Cond.code y_m_tick b_m_tick 3 none ∈ BIG ∧ Cond.initialized y_m_tick.cls ∈ BIG ∧ y_m_tick.cls ≠ "java/lang/invoke/MethodHandle" ∧ y_m_tick.cls ≠ "java/lang/invoke/VarHandle" ∧ (parseMethodDescriptor y_m_tick.desc).map (fun d => d.parameters.length) = some 0 := ⟨big_at 354 (by decide +kernel) (by decide +kernel), ini_M, by decide +kernel, by decide +kernel, by decide +kernel⟩
theorem io_m_tick : Cond.instanceMethod y_m_tick ∈ BIG ∧ Cond.selects y_m_tick.cls y_m_tick y_m_tick ∈ BIG := ⟨big_at 353 (by decide +kernel) (by decide +kernel), big_at 14 (by decide +kernel) (by decide +kernel)⟩
abbrev b_m_advance : ByteArray := prog_6_method_12_code
def y_m_advance : MethodName := ⟨R_M, "advance", "(I)I"⟩
abbrev rm_m_advance : Room := { frames := 3, cells := 0, slots := 0, locals := 66 }
theorem ok_m_advance : Cond.code y_m_advance b_m_advance 4 (some .int) ∈ BIG ∧ Cond.initialized y_m_advance.cls ∈ BIG ∧ y_m_advance.cls ≠ "java/lang/invoke/MethodHandle" ∧ y_m_advance.cls ≠ "java/lang/invoke/VarHandle" ∧ (parseMethodDescriptor y_m_advance.desc).map (fun d => d.parameters.length) = some 1 := ⟨big_at 350 (by decide +kernel) (by decide +kernel), ini_M, by decide +kernel, by decide +kernel, by decide +kernel⟩
theorem io_m_advance : Cond.instanceMethod y_m_advance ∈ BIG ∧ Cond.selects y_m_advance.cls y_m_advance y_m_advance ∈ BIG := ⟨big_at 348 (by decide +kernel) (by decide +kernel), big_at 349 (by decide +kernel) (by decide +kernel)⟩
abbrev b_m_next : ByteArray := prog_6_method_13_code
def y_m_next : MethodName := ⟨R_M, "next", "(I)I"⟩
abbrev rm_m_next : Room := { frames := 3, cells := 0, slots := 0, locals := 66 }
theorem ok_m_next : Cond.code y_m_next b_m_next 4 (some .int) ∈ BIG ∧ Cond.initialized y_m_next.cls ∈ BIG ∧ y_m_next.cls ≠ "java/lang/invoke/MethodHandle" ∧ y_m_next.cls ≠ "java/lang/invoke/VarHandle" ∧ (parseMethodDescriptor y_m_next.desc).map (fun d => d.parameters.length) = some 1 := ⟨big_at 370 (by decide +kernel) (by decide +kernel), ini_M, by decide +kernel, by decide +kernel, by decide +kernel⟩
theorem io_m_next : Cond.instanceMethod y_m_next ∈ BIG ∧ Cond.selects y_m_next.cls y_m_next y_m_next ∈ BIG := ⟨big_at 368 (by decide +kernel) (by decide +kernel), big_at 369 (by decide +kernel) (by decide +kernel)⟩
abbrev b_m_timer : ByteArray := prog_6_method_14_code
def y_m_timer : MethodName := ⟨R_M, "timer", "(II)I"⟩
abbrev rm_m_timer : Room := { frames := 1, cells := 0, slots := 0, locals := 22 }
theorem ok_m_timer : Cond.code y_m_timer b_m_timer 3 (some .int) ∈ BIG ∧ Cond.initialized y_m_timer.cls ∈ BIG ∧ y_m_timer.cls ≠ "java/lang/invoke/MethodHandle" ∧ y_m_timer.cls ≠ "java/lang/invoke/VarHandle" ∧ (parseMethodDescriptor y_m_timer.desc).map (fun d => d.parameters.length) = some 2 := ⟨big_at 374 (by decide +kernel) (by decide +kernel), ini_M, by decide +kernel, by decide +kernel, by decide +kernel⟩
theorem io_m_timer : Cond.instanceMethod y_m_timer ∈ BIG ∧ Cond.selects y_m_timer.cls y_m_timer y_m_timer ∈ BIG := ⟨big_at 372 (by decide +kernel) (by decide +kernel), big_at 373 (by decide +kernel) (by decide +kernel)⟩
abbrev b_m_gateOf : ByteArray := prog_6_method_15_code
def y_m_gateOf : MethodName := ⟨R_M, "gateOf", "(II)I"⟩
abbrev rm_m_gateOf : Room := { frames := 1, cells := 0, slots := 0, locals := 22 }
theorem ok_m_gateOf : Cond.code y_m_gateOf b_m_gateOf 3 (some .int) ∈ BIG ∧ Cond.initialized y_m_gateOf.cls ∈ BIG ∧ y_m_gateOf.cls ≠ "java/lang/invoke/MethodHandle" ∧ y_m_gateOf.cls ≠ "java/lang/invoke/VarHandle" ∧ (parseMethodDescriptor y_m_gateOf.desc).map (fun d => d.parameters.length) = some 2 := ⟨big_at 378 (by decide +kernel) (by decide +kernel), ini_M, by decide +kernel, by decide +kernel, by decide +kernel⟩
theorem io_m_gateOf : Cond.instanceMethod y_m_gateOf ∈ BIG ∧ Cond.selects y_m_gateOf.cls y_m_gateOf y_m_gateOf ∈ BIG := ⟨big_at 376 (by decide +kernel) (by decide +kernel), big_at 377 (by decide +kernel) (by decide +kernel)⟩
abbrev b_m_look : ByteArray := prog_6_method_16_code
def y_m_look : MethodName := ⟨R_M, "look", "(I)I"⟩
abbrev rm_m_look : Room := { frames := 0, cells := 0, slots := 0, locals := 0 }
theorem ok_m_look : Cond.code y_m_look b_m_look 4 (some .int) ∈ BIG ∧ Cond.initialized y_m_look.cls ∈ BIG ∧ y_m_look.cls ≠ "java/lang/invoke/MethodHandle" ∧ y_m_look.cls ≠ "java/lang/invoke/VarHandle" ∧ (parseMethodDescriptor y_m_look.desc).map (fun d => d.parameters.length) = some 1 := ⟨big_at 382 (by decide +kernel) (by decide +kernel), ini_M, by decide +kernel, by decide +kernel, by decide +kernel⟩
theorem io_m_look : Cond.instanceMethod y_m_look ∈ BIG ∧ Cond.selects y_m_look.cls y_m_look y_m_look ∈ BIG := ⟨big_at 380 (by decide +kernel) (by decide +kernel), big_at 381 (by decide +kernel) (by decide +kernel)⟩
abbrev b_m_served : ByteArray := prog_6_method_17_code
def y_m_served : MethodName := ⟨R_M, "served", "(II)I"⟩
abbrev rm_m_served : Room := { frames := 1, cells := 0, slots := 0, locals := 22 }
theorem ok_m_served : Cond.code y_m_served b_m_served 3 (some .int) ∈ BIG ∧ Cond.initialized y_m_served.cls ∈ BIG ∧ y_m_served.cls ≠ "java/lang/invoke/MethodHandle" ∧ y_m_served.cls ≠ "java/lang/invoke/VarHandle" ∧ (parseMethodDescriptor y_m_served.desc).map (fun d => d.parameters.length) = some 2 := ⟨big_at 386 (by decide +kernel) (by decide +kernel), ini_M, by decide +kernel, by decide +kernel, by decide +kernel⟩
theorem io_m_served : Cond.instanceMethod y_m_served ∈ BIG ∧ Cond.selects y_m_served.cls y_m_served y_m_served ∈ BIG := ⟨big_at 384 (by decide +kernel) (by decide +kernel), big_at 385 (by decide +kernel) (by decide +kernel)⟩
abbrev b_Ginit : ByteArray := prog_2_method_1_code
def y_Ginit : MethodName := ⟨R_G, "<init>", "()V"⟩
abbrev rm_Ginit : Room := { frames := 1, cells := 0, slots := 0, locals := 20 }
theorem ok_Ginit : Cond.code y_Ginit b_Ginit 1 none ∈ BIG ∧ Cond.initialized y_Ginit.cls ∈ BIG ∧ y_Ginit.cls ≠ "java/lang/invoke/MethodHandle" ∧ y_Ginit.cls ≠ "java/lang/invoke/VarHandle" ∧ (parseMethodDescriptor y_Ginit.desc).map (fun d => d.parameters.length) = some 0 := ⟨big_at 107 (by decide +kernel) (by decide +kernel), ini_G, by decide +kernel, by decide +kernel, by decide +kernel⟩
theorem oi_Ginit : Cond.instanceMethod y_Ginit ∈ BIG := big_at 106 (by decide +kernel) (by decide +kernel)
abbrev b_asks : ByteArray := prog_2_method_2_code
def y_asks : MethodName := ⟨R_G, "asks", "(I)Z"⟩
abbrev rm_asks : Room := { frames := 0, cells := 0, slots := 0, locals := 0 }
theorem ok_asks : Cond.code y_asks b_asks 2 (some .boolean) ∈ BIG ∧ Cond.initialized y_asks.cls ∈ BIG ∧ y_asks.cls ≠ "java/lang/invoke/MethodHandle" ∧ y_asks.cls ≠ "java/lang/invoke/VarHandle" ∧ (parseMethodDescriptor y_asks.desc).map (fun d => d.parameters.length) = some 1 := ⟨big_at 217 (by decide +kernel) (by decide +kernel), ini_G, by decide +kernel, by decide +kernel, by decide +kernel⟩
theorem io_asks : Cond.instanceMethod y_asks ∈ BIG ∧ Cond.selects y_asks.cls y_asks y_asks ∈ BIG := ⟨big_at 216 (by decide +kernel) (by decide +kernel), big_at 7 (by decide +kernel) (by decide +kernel)⟩
abbrev b_waitEnds : ByteArray := prog_2_method_3_code
def y_waitEnds : MethodName := ⟨R_G, "waitEnds", "()Z"⟩
abbrev rm_waitEnds : Room := { frames := 0, cells := 0, slots := 0, locals := 0 }
theorem ok_waitEnds : Cond.code y_waitEnds b_waitEnds 1 (some .boolean) ∈ BIG ∧ Cond.initialized y_waitEnds.cls ∈ BIG ∧ y_waitEnds.cls ≠ "java/lang/invoke/MethodHandle" ∧ y_waitEnds.cls ≠ "java/lang/invoke/VarHandle" ∧ (parseMethodDescriptor y_waitEnds.desc).map (fun d => d.parameters.length) = some 0 := ⟨big_at 209 (by decide +kernel) (by decide +kernel), ini_G, by decide +kernel, by decide +kernel, by decide +kernel⟩
theorem io_waitEnds : Cond.instanceMethod y_waitEnds ∈ BIG ∧ Cond.selects y_waitEnds.cls y_waitEnds y_waitEnds ∈ BIG := ⟨big_at 208 (by decide +kernel) (by decide +kernel), big_at 5 (by decide +kernel) (by decide +kernel)⟩
abbrev b_Gread : ByteArray := prog_2_method_4_code
def y_Gread : MethodName := ⟨R_G, "read", "(II)I"⟩
abbrev rm_Gread : Room := { frames := 1, cells := 0, slots := 0, locals := 21 }
theorem ok_Gread : Cond.code y_Gread b_Gread 3 (some .int) ∈ BIG ∧ Cond.initialized y_Gread.cls ∈ BIG ∧ y_Gread.cls ≠ "java/lang/invoke/MethodHandle" ∧ y_Gread.cls ≠ "java/lang/invoke/VarHandle" ∧ (parseMethodDescriptor y_Gread.desc).map (fun d => d.parameters.length) = some 2 := ⟨big_at 248 (by decide +kernel) (by decide +kernel), ini_G, by decide +kernel, by decide +kernel, by decide +kernel⟩
theorem io_Gread : Cond.instanceMethod y_Gread ∈ BIG ∧ Cond.selects y_Gread.cls y_Gread y_Gread ∈ BIG := ⟨big_at 247 (by decide +kernel) (by decide +kernel), big_at 11 (by decide +kernel) (by decide +kernel)⟩
abbrev b_Hinit : ByteArray := prog_3_method_1_code
def y_Hinit : MethodName := ⟨R_H, "<init>", "()V"⟩
abbrev rm_Hinit : Room := { frames := 1, cells := 3, slots := 48, locals := 20 }
theorem ok_Hinit : Cond.code y_Hinit b_Hinit 1 none ∈ BIG ∧ Cond.initialized y_Hinit.cls ∈ BIG ∧ y_Hinit.cls ≠ "java/lang/invoke/MethodHandle" ∧ y_Hinit.cls ≠ "java/lang/invoke/VarHandle" ∧ (parseMethodDescriptor y_Hinit.desc).map (fun d => d.parameters.length) = some 0 := ⟨big_at 40 (by decide +kernel) (by decide +kernel), ini_H, by decide +kernel, by decide +kernel, by decide +kernel⟩
theorem oi_Hinit : Cond.instanceMethod y_Hinit ∈ BIG := big_at 39 (by decide +kernel) (by decide +kernel)
abbrev b_add : ByteArray := prog_3_method_2_code
def y_add : MethodName := ⟨R_H, "add", "(III)V"⟩
abbrev rm_add : Room := { frames := 0, cells := 0, slots := 0, locals := 0 }
theorem ok_add : Cond.code y_add b_add 4 none ∈ BIG ∧ Cond.initialized y_add.cls ∈ BIG ∧ y_add.cls ≠ "java/lang/invoke/MethodHandle" ∧ y_add.cls ≠ "java/lang/invoke/VarHandle" ∧ (parseMethodDescriptor y_add.desc).map (fun d => d.parameters.length) = some 3 := ⟨big_at 224 (by decide +kernel) (by decide +kernel), ini_H, by decide +kernel, by decide +kernel, by decide +kernel⟩
theorem io_add : Cond.instanceMethod y_add ∈ BIG ∧ Cond.selects y_add.cls y_add y_add ∈ BIG := ⟨big_at 223 (by decide +kernel) (by decide +kernel), big_at 8 (by decide +kernel) (by decide +kernel)⟩
abbrev b_Hread : ByteArray := prog_3_method_3_code
def y_Hread : MethodName := ⟨R_H, "read", "(II)I"⟩
abbrev rm_Hread : Room := { frames := 0, cells := 0, slots := 0, locals := 0 }
theorem ok_Hread : Cond.code y_Hread b_Hread 4 (some .int) ∈ BIG ∧ Cond.initialized y_Hread.cls ∈ BIG ∧ y_Hread.cls ≠ "java/lang/invoke/MethodHandle" ∧ y_Hread.cls ≠ "java/lang/invoke/VarHandle" ∧ (parseMethodDescriptor y_Hread.desc).map (fun d => d.parameters.length) = some 2 := ⟨big_at 265 (by decide +kernel) (by decide +kernel), ini_H, by decide +kernel, by decide +kernel, by decide +kernel⟩
theorem io_Hread : Cond.instanceMethod y_Hread ∈ BIG ∧ Cond.selects y_Hread.cls y_Hread y_Hread ∈ BIG := ⟨big_at 264 (by decide +kernel) (by decide +kernel), big_at 13 (by decide +kernel) (by decide +kernel)⟩
abbrev b_Tinit : ByteArray := prog_4_method_1_code
def y_Tinit : MethodName := ⟨R_T, "<init>", "()V"⟩
abbrev rm_Tinit : Room := { frames := 1, cells := 0, slots := 0, locals := 20 }
theorem ok_Tinit : Cond.code y_Tinit b_Tinit 1 none ∈ BIG ∧ Cond.initialized y_Tinit.cls ∈ BIG ∧ y_Tinit.cls ≠ "java/lang/invoke/MethodHandle" ∧ y_Tinit.cls ≠ "java/lang/invoke/VarHandle" ∧ (parseMethodDescriptor y_Tinit.desc).map (fun d => d.parameters.length) = some 0 := ⟨big_at 66 (by decide +kernel) (by decide +kernel), ini_T, by decide +kernel, by decide +kernel, by decide +kernel⟩
theorem oi_Tinit : Cond.instanceMethod y_Tinit ∈ BIG := big_at 65 (by decide +kernel) (by decide +kernel)
abbrev b_countDown : ByteArray := prog_4_method_2_code
def y_countDown : MethodName := ⟨R_T, "countDown", "()Z"⟩
abbrev rm_countDown : Room := { frames := 0, cells := 0, slots := 0, locals := 0 }
theorem ok_countDown : Cond.code y_countDown b_countDown 1 (some .boolean) ∈ BIG ∧ Cond.initialized y_countDown.cls ∈ BIG ∧ y_countDown.cls ≠ "java/lang/invoke/MethodHandle" ∧ y_countDown.cls ≠ "java/lang/invoke/VarHandle" ∧ (parseMethodDescriptor y_countDown.desc).map (fun d => d.parameters.length) = some 0 := ⟨big_at 197 (by decide +kernel) (by decide +kernel), ini_T, by decide +kernel, by decide +kernel, by decide +kernel⟩
theorem io_countDown : Cond.instanceMethod y_countDown ∈ BIG ∧ Cond.selects y_countDown.cls y_countDown y_countDown ∈ BIG := ⟨big_at 196 (by decide +kernel) (by decide +kernel), big_at 2 (by decide +kernel) (by decide +kernel)⟩
abbrev b_Tread : ByteArray := prog_4_method_3_code
def y_Tread : MethodName := ⟨R_T, "read", "(I)I"⟩
abbrev rm_Tread : Room := { frames := 0, cells := 0, slots := 0, locals := 0 }
theorem ok_Tread : Cond.code y_Tread b_Tread 2 (some .int) ∈ BIG ∧ Cond.initialized y_Tread.cls ∈ BIG ∧ y_Tread.cls ≠ "java/lang/invoke/MethodHandle" ∧ y_Tread.cls ≠ "java/lang/invoke/VarHandle" ∧ (parseMethodDescriptor y_Tread.desc).map (fun d => d.parameters.length) = some 1 := ⟨big_at 240 (by decide +kernel) (by decide +kernel), ini_T, by decide +kernel, by decide +kernel, by decide +kernel⟩
theorem io_Tread : Cond.instanceMethod y_Tread ∈ BIG ∧ Cond.selects y_Tread.cls y_Tread y_Tread ∈ BIG := ⟨big_at 239 (by decide +kernel) (by decide +kernel), big_at 10 (by decide +kernel) (by decide +kernel)⟩
theorem objI : Cond.instanceMethod objectInit ∈ BIG := big_at 30 (by decide +kernel) (by decide +kernel)
theorem objC : Cond.code objectInit ⟨#[0xb1]⟩ 1 none ∈ BIG := big_at 31 (by decide +kernel) (by decide +kernel)
theorem L_law_7 : Cond.classLink R_law 7 R_X ∈ BIG := big_at 24 (by decide +kernel) (by decide +kernel)
theorem L_law_9 : Cond.methodLink R_law 9 y_Xinit ∈ BIG := big_at 26 (by decide +kernel) (by decide +kernel)
theorem L_X_1 : Cond.methodLink R_X 1 objectInit ∈ BIG := big_at 29 (by decide +kernel) (by decide +kernel)
theorem L_X_9 : Cond.classLink R_X 9 R_T ∈ BIG := big_at 32 (by decide +kernel) (by decide +kernel)
theorem L_X_15 : Cond.classLink R_X 15 R_G ∈ BIG := big_at 34 (by decide +kernel) (by decide +kernel)
theorem L_X_21 : Cond.classLink R_X 21 R_H ∈ BIG := big_at 36 (by decide +kernel) (by decide +kernel)
theorem L_X_23 : Cond.methodLinkNest R_X 23 y_Hinit "TimerGates" ∈ NESTS := nest_at 38 (by decide +kernel) (by decide +kernel)
theorem L_H_3 : Cond.methodLink R_H 3 objectInit ∈ BIG := big_at 41 (by decide +kernel) (by decide +kernel)
theorem L_H_11 : Cond.fieldLink R_H 11 "TimerGates$History" "bits" "[I" ∈ BIG := big_at 42 (by decide +kernel) (by decide +kernel)
theorem L_H_15 : Cond.fieldLink R_H 15 "TimerGates$History" "servers" "[I" ∈ BIG := big_at 43 (by decide +kernel) (by decide +kernel)
theorem L_H_18 : Cond.fieldLink R_H 18 "TimerGates$History" "times" "[I" ∈ BIG := big_at 44 (by decide +kernel) (by decide +kernel)
theorem L_H_21 : Cond.fieldLink R_H 21 "TimerGates$History" "total" "I" ∈ BIG := big_at 45 (by decide +kernel) (by decide +kernel)
theorem L_X_91 : Cond.fieldLinkNest R_X 91 "TimerGates$History" "total" "I" "TimerGates" ∈ NESTS := nest_at 46 (by decide +kernel) (by decide +kernel)
theorem L_H_25 : Cond.fieldLink R_H 25 "TimerGates$History" "filled" "I" ∈ BIG := big_at 47 (by decide +kernel) (by decide +kernel)
theorem L_H_28 : Cond.fieldLink R_H 28 "TimerGates$History" "place" "I" ∈ BIG := big_at 48 (by decide +kernel) (by decide +kernel)
theorem L_X_35 : Cond.methodLinkNest R_X 35 y_Tinit "TimerGates" ∈ NESTS := nest_at 64 (by decide +kernel) (by decide +kernel)
theorem L_T_3 : Cond.methodLink R_T 3 objectInit ∈ BIG := big_at 67 (by decide +kernel) (by decide +kernel)
theorem L_T_9 : Cond.fieldLink R_T 9 "TimerGates$Timer" "period" "I" ∈ BIG := big_at 68 (by decide +kernel) (by decide +kernel)
theorem L_X_49 : Cond.fieldLinkNest R_X 49 "TimerGates$Timer" "period" "I" "TimerGates" ∈ NESTS := nest_at 69 (by decide +kernel) (by decide +kernel)
theorem L_T_15 : Cond.fieldLink R_T 15 "TimerGates$Timer" "count" "I" ∈ BIG := big_at 70 (by decide +kernel) (by decide +kernel)
theorem L_X_52 : Cond.fieldLinkNest R_X 52 "TimerGates$Timer" "count" "I" "TimerGates" ∈ NESTS := nest_at 71 (by decide +kernel) (by decide +kernel)
theorem L_T_18 : Cond.fieldLink R_T 18 "TimerGates$Timer" "source" "I" ∈ BIG := big_at 72 (by decide +kernel) (by decide +kernel)
theorem L_X_46 : Cond.fieldLinkNest R_X 46 "TimerGates$Timer" "source" "I" "TimerGates" ∈ NESTS := nest_at 73 (by decide +kernel) (by decide +kernel)
theorem L_T_21 : Cond.fieldLink R_T 21 "TimerGates$Timer" "once" "Z" ∈ BIG := big_at 74 (by decide +kernel) (by decide +kernel)
theorem L_X_55 : Cond.fieldLinkNest R_X 55 "TimerGates$Timer" "once" "Z" "TimerGates" ∈ NESTS := nest_at 75 (by decide +kernel) (by decide +kernel)
theorem L_T_25 : Cond.fieldLink R_T 25 "TimerGates$Timer" "runs" "Z" ∈ BIG := big_at 76 (by decide +kernel) (by decide +kernel)
theorem L_X_59 : Cond.fieldLinkNest R_X 59 "TimerGates$Timer" "runs" "Z" "TimerGates" ∈ NESTS := nest_at 77 (by decide +kernel) (by decide +kernel)
theorem L_T_28 : Cond.fieldLink R_T 28 "TimerGates$Timer" "timesEnded" "I" ∈ BIG := big_at 78 (by decide +kernel) (by decide +kernel)
theorem L_T_31 : Cond.fieldLink R_T 31 "TimerGates$Timer" "timesMissed" "I" ∈ BIG := big_at 79 (by decide +kernel) (by decide +kernel)
theorem L_X_115 : Cond.fieldLinkNest R_X 115 "TimerGates$Timer" "timesMissed" "I" "TimerGates" ∈ NESTS := nest_at 80 (by decide +kernel) (by decide +kernel)
theorem L_T_34 : Cond.fieldLink R_T 34 "TimerGates$Timer" "timesServed" "I" ∈ BIG := big_at 81 (by decide +kernel) (by decide +kernel)
theorem L_X_133 : Cond.fieldLinkNest R_X 133 "TimerGates$Timer" "timesServed" "I" "TimerGates" ∈ NESTS := nest_at 82 (by decide +kernel) (by decide +kernel)
theorem L_T_37 : Cond.fieldLink R_T 37 "TimerGates$Timer" "timesCleared" "I" ∈ BIG := big_at 83 (by decide +kernel) (by decide +kernel)
theorem L_X_74 : Cond.fieldLinkNest R_X 74 "TimerGates$Timer" "timesCleared" "I" "TimerGates" ∈ NESTS := nest_at 84 (by decide +kernel) (by decide +kernel)
theorem L_X_36 : Cond.methodLinkNest R_X 36 y_Ginit "TimerGates" ∈ NESTS := nest_at 105 (by decide +kernel) (by decide +kernel)
theorem L_G_3 : Cond.methodLink R_G 3 objectInit ∈ BIG := big_at 108 (by decide +kernel) (by decide +kernel)
theorem L_G_9 : Cond.fieldLink R_G 9 "TimerGates$Gate" "mask" "I" ∈ BIG := big_at 109 (by decide +kernel) (by decide +kernel)
theorem L_X_68 : Cond.fieldLinkNest R_X 68 "TimerGates$Gate" "mask" "I" "TimerGates" ∈ NESTS := nest_at 110 (by decide +kernel) (by decide +kernel)
theorem L_G_15 : Cond.fieldLink R_G 15 "TimerGates$Gate" "delay" "I" ∈ BIG := big_at 111 (by decide +kernel) (by decide +kernel)
theorem L_X_71 : Cond.fieldLinkNest R_X 71 "TimerGates$Gate" "delay" "I" "TimerGates" ∈ NESTS := nest_at 112 (by decide +kernel) (by decide +kernel)
theorem L_G_18 : Cond.fieldLink R_G 18 "TimerGates$Gate" "toWait" "I" ∈ BIG := big_at 113 (by decide +kernel) (by decide +kernel)
theorem L_X_146 : Cond.fieldLinkNest R_X 146 "TimerGates$Gate" "toWait" "I" "TimerGates" ∈ NESTS := nest_at 114 (by decide +kernel) (by decide +kernel)
theorem L_G_21 : Cond.fieldLink R_G 21 "TimerGates$Gate" "bitsServed" "I" ∈ BIG := big_at 115 (by decide +kernel) (by decide +kernel)
theorem L_X_136 : Cond.fieldLinkNest R_X 136 "TimerGates$Gate" "bitsServed" "I" "TimerGates" ∈ NESTS := nest_at 116 (by decide +kernel) (by decide +kernel)
theorem L_G_24 : Cond.fieldLink R_G 24 "TimerGates$Gate" "timesIdle" "I" ∈ BIG := big_at 117 (by decide +kernel) (by decide +kernel)
theorem L_X_127 : Cond.fieldLinkNest R_X 127 "TimerGates$Gate" "timesIdle" "I" "TimerGates" ∈ NESTS := nest_at 118 (by decide +kernel) (by decide +kernel)
theorem L_G_27 : Cond.fieldLink R_G 27 "TimerGates$Gate" "latest" "I" ∈ BIG := big_at 119 (by decide +kernel) (by decide +kernel)
theorem L_X_139 : Cond.fieldLinkNest R_X 139 "TimerGates$Gate" "latest" "I" "TimerGates" ∈ NESTS := nest_at 120 (by decide +kernel) (by decide +kernel)
theorem L_X_11 : Cond.fieldLink R_X 11 "TimerGates" "timers" "[LTimerGates$Timer;" ∈ BIG := big_at 134 (by decide +kernel) (by decide +kernel)
theorem L_X_17 : Cond.fieldLink R_X 17 "TimerGates" "gates" "[LTimerGates$Gate;" ∈ BIG := big_at 135 (by decide +kernel) (by decide +kernel)
theorem L_X_24 : Cond.fieldLink R_X 24 "TimerGates" "history" "LTimerGates$History;" ∈ BIG := big_at 136 (by decide +kernel) (by decide +kernel)
theorem L_X_28 : Cond.fieldLink R_X 28 "TimerGates" "status" "I" ∈ BIG := big_at 137 (by decide +kernel) (by decide +kernel)
theorem L_X_32 : Cond.fieldLink R_X 32 "TimerGates" "now" "I" ∈ BIG := big_at 138 (by decide +kernel) (by decide +kernel)
theorem L_law_13 : Cond.methodLink R_law 13 y_set ∈ BIG := big_at 150 (by decide +kernel) (by decide +kernel)
theorem L_X_37 : Cond.methodLink R_X 37 y_isTimer ∈ BIG := big_at 154 (by decide +kernel) (by decide +kernel)
theorem L_X_41 : Cond.methodLink R_X 41 y_isSource ∈ BIG := big_at 157 (by decide +kernel) (by decide +kernel)
theorem L_X_45 : Cond.constant R_X 45 (65535 : Int32) ∈ BIG := big_at 160 (by decide +kernel) (by decide +kernel)
theorem L_law_18 : Cond.methodLink R_law 18 y_turn ∈ BIG := big_at 161 (by decide +kernel) (by decide +kernel)
theorem L_law_23 : Cond.methodLink R_law 23 y_gate ∈ BIG := big_at 165 (by decide +kernel) (by decide +kernel)
theorem L_X_62 : Cond.methodLink R_X 62 y_isGate ∈ BIG := big_at 169 (by decide +kernel) (by decide +kernel)
theorem L_X_65 : Cond.methodLink R_X 65 y_isBitSet ∈ BIG := big_at 172 (by decide +kernel) (by decide +kernel)
theorem L_law_28 : Cond.methodLink R_law 28 y_clear ∈ BIG := big_at 175 (by decide +kernel) (by decide +kernel)
theorem L_law_33 : Cond.methodLink R_law 33 y_advance ∈ BIG := big_at 179 (by decide +kernel) (by decide +kernel)
theorem L_X_77 : Cond.methodLink R_X 77 y_isTickCount ∈ BIG := big_at 183 (by decide +kernel) (by decide +kernel)
theorem L_X_80 : Cond.methodLink R_X 80 y_tick ∈ BIG := big_at 186 (by decide +kernel) (by decide +kernel)
theorem L_X_98 : Cond.methodLink R_X 98 y_tickTimers ∈ BIG := big_at 190 (by decide +kernel) (by decide +kernel)
theorem L_X_107 : Cond.methodLinkNest R_X 107 y_countDown "TimerGates" ∈ NESTS := nest_at 194 (by decide +kernel) (by decide +kernel)
theorem L_X_111 : Cond.methodLink R_X 111 y_raise ∈ BIG := big_at 198 (by decide +kernel) (by decide +kernel)
theorem L_X_101 : Cond.methodLink R_X 101 y_tickGates ∈ BIG := big_at 202 (by decide +kernel) (by decide +kernel)
theorem L_X_118 : Cond.methodLinkNest R_X 118 y_waitEnds "TimerGates" ∈ NESTS := nest_at 206 (by decide +kernel) (by decide +kernel)
theorem L_X_121 : Cond.methodLink R_X 121 y_serve ∈ BIG := big_at 210 (by decide +kernel) (by decide +kernel)
theorem L_X_124 : Cond.methodLinkNest R_X 124 y_asks "TimerGates" ∈ NESTS := nest_at 214 (by decide +kernel) (by decide +kernel)
theorem L_X_130 : Cond.methodLink R_X 130 y_leastBit ∈ BIG := big_at 218 (by decide +kernel) (by decide +kernel)
theorem L_X_142 : Cond.methodLinkNest R_X 142 y_add "TimerGates" ∈ NESTS := nest_at 221 (by decide +kernel) (by decide +kernel)
theorem L_X_104 : Cond.methodLink R_X 104 y_wakeGates ∈ BIG := big_at 225 (by decide +kernel) (by decide +kernel)
theorem L_law_37 : Cond.methodLink R_law 37 y_next ∈ BIG := big_at 229 (by decide +kernel) (by decide +kernel)
theorem L_law_41 : Cond.methodLink R_law 41 y_timer ∈ BIG := big_at 233 (by decide +kernel) (by decide +kernel)
theorem L_X_84 : Cond.methodLinkNest R_X 84 y_Tread "TimerGates" ∈ NESTS := nest_at 237 (by decide +kernel) (by decide +kernel)
theorem L_law_46 : Cond.methodLink R_law 46 y_gateOf ∈ BIG := big_at 241 (by decide +kernel) (by decide +kernel)
theorem L_X_88 : Cond.methodLinkNest R_X 88 y_Gread "TimerGates" ∈ NESTS := nest_at 245 (by decide +kernel) (by decide +kernel)
theorem L_G_30 : Cond.methodLink R_G 30 y_asks ∈ BIG := big_at 249 (by decide +kernel) (by decide +kernel)
theorem L_law_50 : Cond.methodLink R_law 50 y_look ∈ BIG := big_at 250 (by decide +kernel) (by decide +kernel)
theorem L_X_94 : Cond.methodLink R_X 94 y_ticksToNextEnd ∈ BIG := big_at 254 (by decide +kernel) (by decide +kernel)
theorem L_law_54 : Cond.methodLink R_law 54 y_served ∈ BIG := big_at 258 (by decide +kernel) (by decide +kernel)
theorem L_X_97 : Cond.methodLinkNest R_X 97 y_Hread "TimerGates" ∈ NESTS := nest_at 262 (by decide +kernel) (by decide +kernel)
theorem L_law_10 : Cond.classLink R_law 10 R_M ∈ BIG := big_at 266 (by decide +kernel) (by decide +kernel)
theorem L_law_12 : Cond.methodLink R_law 12 y_Minit ∈ BIG := big_at 268 (by decide +kernel) (by decide +kernel)
theorem L_M_1 : Cond.methodLink R_M 1 objectInit ∈ BIG := big_at 271 (by decide +kernel) (by decide +kernel)
theorem L_M_69 : Cond.fieldLink R_M 69 "TimerGatesModel" "now" "I" ∈ BIG := big_at 272 (by decide +kernel) (by decide +kernel)
theorem L_M_62 : Cond.fieldLink R_M 62 "TimerGatesModel" "status" "I" ∈ BIG := big_at 273 (by decide +kernel) (by decide +kernel)
theorem L_M_72 : Cond.fieldLink R_M 72 "TimerGatesModel" "served" "I" ∈ BIG := big_at 274 (by decide +kernel) (by decide +kernel)
theorem L_M_7 : Cond.fieldLink R_M 7 "TimerGatesModel" "period" "[I" ∈ BIG := big_at 275 (by decide +kernel) (by decide +kernel)
theorem L_M_13 : Cond.fieldLink R_M 13 "TimerGatesModel" "count" "[I" ∈ BIG := big_at 276 (by decide +kernel) (by decide +kernel)
theorem L_M_16 : Cond.fieldLink R_M 16 "TimerGatesModel" "source" "[I" ∈ BIG := big_at 277 (by decide +kernel) (by decide +kernel)
theorem L_M_19 : Cond.fieldLink R_M 19 "TimerGatesModel" "once" "[Z" ∈ BIG := big_at 278 (by decide +kernel) (by decide +kernel)
theorem L_M_23 : Cond.fieldLink R_M 23 "TimerGatesModel" "runs" "[Z" ∈ BIG := big_at 279 (by decide +kernel) (by decide +kernel)
theorem L_M_26 : Cond.fieldLink R_M 26 "TimerGatesModel" "often" "[I" ∈ BIG := big_at 280 (by decide +kernel) (by decide +kernel)
theorem L_M_29 : Cond.fieldLink R_M 29 "TimerGatesModel" "mask" "[I" ∈ BIG := big_at 281 (by decide +kernel) (by decide +kernel)
theorem L_M_32 : Cond.fieldLink R_M 32 "TimerGatesModel" "delay" "[I" ∈ BIG := big_at 282 (by decide +kernel) (by decide +kernel)
theorem L_M_35 : Cond.fieldLink R_M 35 "TimerGatesModel" "waits" "[I" ∈ BIG := big_at 283 (by decide +kernel) (by decide +kernel)
theorem L_M_38 : Cond.fieldLink R_M 38 "TimerGatesModel" "done" "[Z" ∈ BIG := big_at 284 (by decide +kernel) (by decide +kernel)
theorem L_M_41 : Cond.fieldLink R_M 41 "TimerGatesModel" "servedBy" "[I" ∈ BIG := big_at 285 (by decide +kernel) (by decide +kernel)
theorem L_M_44 : Cond.fieldLink R_M 44 "TimerGatesModel" "idle" "[I" ∈ BIG := big_at 286 (by decide +kernel) (by decide +kernel)
theorem L_M_47 : Cond.fieldLink R_M 47 "TimerGatesModel" "latest" "[I" ∈ BIG := big_at 287 (by decide +kernel) (by decide +kernel)
theorem L_M_50 : Cond.fieldLink R_M 50 "TimerGatesModel" "row" "[I" ∈ BIG := big_at 288 (by decide +kernel) (by decide +kernel)
theorem L_law_17 : Cond.methodLink R_law 17 y_m_set ∈ BIG := big_at 327 (by decide +kernel) (by decide +kernel)
theorem L_M_57 : Cond.methodLink R_M 57 y_m_isIn ∈ BIG := big_at 331 (by decide +kernel) (by decide +kernel)
theorem L_M_61 : Cond.constant R_M 61 (65535 : Int32) ∈ BIG := big_at 334 (by decide +kernel) (by decide +kernel)
theorem L_law_22 : Cond.methodLink R_law 22 y_m_turn ∈ BIG := big_at 335 (by decide +kernel) (by decide +kernel)
theorem L_law_27 : Cond.methodLink R_law 27 y_m_gate ∈ BIG := big_at 339 (by decide +kernel) (by decide +kernel)
theorem L_law_32 : Cond.methodLink R_law 32 y_m_clear ∈ BIG := big_at 343 (by decide +kernel) (by decide +kernel)
theorem L_law_36 : Cond.methodLink R_law 36 y_m_advance ∈ BIG := big_at 347 (by decide +kernel) (by decide +kernel)
theorem L_M_82 : Cond.methodLink R_M 82 y_m_tick ∈ BIG := big_at 351 (by decide +kernel) (by decide +kernel)
theorem L_M_75 : Cond.methodLink R_M 75 y_m_event ∈ BIG := big_at 355 (by decide +kernel) (by decide +kernel)
theorem L_M_78 : Cond.methodLink R_M 78 y_m_serve ∈ BIG := big_at 359 (by decide +kernel) (by decide +kernel)
theorem L_M_65 : Cond.methodLink R_M 65 y_m_asks ∈ BIG := big_at 363 (by decide +kernel) (by decide +kernel)
theorem L_law_40 : Cond.methodLink R_law 40 y_m_next ∈ BIG := big_at 367 (by decide +kernel) (by decide +kernel)
theorem L_law_45 : Cond.methodLink R_law 45 y_m_timer ∈ BIG := big_at 371 (by decide +kernel) (by decide +kernel)
theorem L_law_49 : Cond.methodLink R_law 49 y_m_gateOf ∈ BIG := big_at 375 (by decide +kernel) (by decide +kernel)
theorem L_law_53 : Cond.methodLink R_law 53 y_m_look ∈ BIG := big_at 379 (by decide +kernel) (by decide +kernel)
theorem L_law_57 : Cond.methodLink R_law 57 y_m_served ∈ BIG := big_at 383 (by decide +kernel) (by decide +kernel)
end
section
theorem d_Xinit_0 : decode b_Xinit 0 = .ok (.aload_n 0, 1) := by decide +kernel
theorem d_Xinit_1 : decode b_Xinit 1 = .ok (.invokespecial 1, 3) := by decide +kernel
theorem d_Xinit_4 : decode b_Xinit 4 = .ok (.aload_n 0, 1) := by decide +kernel
theorem d_Xinit_5 : decode b_Xinit 5 = .ok (.bipush 8, 2) := by decide +kernel
theorem d_Xinit_7 : decode b_Xinit 7 = .ok (.anewarray 9, 3) := by decide +kernel
theorem d_Xinit_10 : decode b_Xinit 10 = .ok (.putfield 11, 3) := by decide +kernel
theorem d_Xinit_13 : decode b_Xinit 13 = .ok (.aload_n 0, 1) := by decide +kernel
theorem d_Xinit_14 : decode b_Xinit 14 = .ok (.iconst 4, 1) := by decide +kernel
theorem d_Xinit_15 : decode b_Xinit 15 = .ok (.anewarray 15, 3) := by decide +kernel
theorem d_Xinit_18 : decode b_Xinit 18 = .ok (.putfield 17, 3) := by decide +kernel
theorem d_Xinit_21 : decode b_Xinit 21 = .ok (.aload_n 0, 1) := by decide +kernel
theorem d_Xinit_22 : decode b_Xinit 22 = .ok (.new 21, 3) := by decide +kernel
theorem d_Xinit_25 : decode b_Xinit 25 = .ok (.dup, 1) := by decide +kernel
theorem d_Xinit_26 : decode b_Xinit 26 = .ok (.invokespecial 23, 3) := by decide +kernel
theorem d_Xinit_29 : decode b_Xinit 29 = .ok (.putfield 24, 3) := by decide +kernel
theorem d_Xinit_32 : decode b_Xinit 32 = .ok (.aload_n 0, 1) := by decide +kernel
theorem d_Xinit_33 : decode b_Xinit 33 = .ok (.iconst 0, 1) := by decide +kernel
theorem d_Xinit_34 : decode b_Xinit 34 = .ok (.putfield 28, 3) := by decide +kernel
theorem d_Xinit_37 : decode b_Xinit 37 = .ok (.aload_n 0, 1) := by decide +kernel
theorem d_Xinit_38 : decode b_Xinit 38 = .ok (.iconst 0, 1) := by decide +kernel
theorem d_Xinit_39 : decode b_Xinit 39 = .ok (.putfield 32, 3) := by decide +kernel
theorem d_Xinit_42 : decode b_Xinit 42 = .ok (.iconst 0, 1) := by decide +kernel
theorem d_Xinit_43 : decode b_Xinit 43 = .ok (.istore_n 1, 1) := by decide +kernel
theorem d_Xinit_44 : decode b_Xinit 44 = .ok (.iload_n 1, 1) := by decide +kernel
theorem d_Xinit_45 : decode b_Xinit 45 = .ok (.bipush 8, 2) := by decide +kernel
theorem d_Xinit_47 : decode b_Xinit 47 = .ok (.if_icmp .ge 22, 3) := by decide +kernel
theorem d_Xinit_50 : decode b_Xinit 50 = .ok (.aload_n 0, 1) := by decide +kernel
theorem d_Xinit_51 : decode b_Xinit 51 = .ok (.getfield 11, 3) := by decide +kernel
theorem d_Xinit_54 : decode b_Xinit 54 = .ok (.iload_n 1, 1) := by decide +kernel
theorem d_Xinit_55 : decode b_Xinit 55 = .ok (.new 9, 3) := by decide +kernel
theorem d_Xinit_58 : decode b_Xinit 58 = .ok (.dup, 1) := by decide +kernel
theorem d_Xinit_59 : decode b_Xinit 59 = .ok (.invokespecial 35, 3) := by decide +kernel
theorem d_Xinit_62 : decode b_Xinit 62 = .ok (.aastore, 1) := by decide +kernel
theorem d_Xinit_63 : decode b_Xinit 63 = .ok (.iinc 1 1, 3) := by decide +kernel
theorem d_Xinit_66 : decode b_Xinit 66 = .ok (.goto (-22), 3) := by decide +kernel
theorem d_Xinit_69 : decode b_Xinit 69 = .ok (.iconst 0, 1) := by decide +kernel
theorem d_Xinit_70 : decode b_Xinit 70 = .ok (.istore_n 1, 1) := by decide +kernel
theorem d_Xinit_71 : decode b_Xinit 71 = .ok (.iload_n 1, 1) := by decide +kernel
theorem d_Xinit_72 : decode b_Xinit 72 = .ok (.iconst 4, 1) := by decide +kernel
theorem d_Xinit_73 : decode b_Xinit 73 = .ok (.if_icmp .ge 22, 3) := by decide +kernel
theorem d_Xinit_76 : decode b_Xinit 76 = .ok (.aload_n 0, 1) := by decide +kernel
theorem d_Xinit_77 : decode b_Xinit 77 = .ok (.getfield 17, 3) := by decide +kernel
theorem d_Xinit_80 : decode b_Xinit 80 = .ok (.iload_n 1, 1) := by decide +kernel
theorem d_Xinit_81 : decode b_Xinit 81 = .ok (.new 15, 3) := by decide +kernel
theorem d_Xinit_84 : decode b_Xinit 84 = .ok (.dup, 1) := by decide +kernel
theorem d_Xinit_85 : decode b_Xinit 85 = .ok (.invokespecial 36, 3) := by decide +kernel
theorem d_Xinit_88 : decode b_Xinit 88 = .ok (.aastore, 1) := by decide +kernel
theorem d_Xinit_89 : decode b_Xinit 89 = .ok (.iinc 1 1, 3) := by decide +kernel
theorem d_Xinit_92 : decode b_Xinit 92 = .ok (.goto (-21), 3) := by decide +kernel
theorem d_Xinit_95 : decode b_Xinit 95 = .ok (.return_, 1) := by decide +kernel
theorem d_set_0 : decode b_set 0 = .ok (.iload_n 1, 1) := by decide +kernel
theorem d_set_1 : decode b_set 1 = .ok (.invokestatic 37, 3) := by decide +kernel
theorem d_set_4 : decode b_set 4 = .ok (.ifCond .eq 22, 3) := by decide +kernel
theorem d_set_7 : decode b_set 7 = .ok (.iload_n 1, 1) := by decide +kernel
theorem d_set_8 : decode b_set 8 = .ok (.iload_n 2, 1) := by decide +kernel
theorem d_set_9 : decode b_set 9 = .ok (.invokestatic 41, 3) := by decide +kernel
theorem d_set_12 : decode b_set 12 = .ok (.ifCond .eq 14, 3) := by decide +kernel
theorem d_set_15 : decode b_set 15 = .ok (.iload_n 3, 1) := by decide +kernel
theorem d_set_16 : decode b_set 16 = .ok (.iconst 1, 1) := by decide +kernel
theorem d_set_17 : decode b_set 17 = .ok (.if_icmp .lt 9, 3) := by decide +kernel
theorem d_set_20 : decode b_set 20 = .ok (.iload_n 3, 1) := by decide +kernel
theorem d_set_21 : decode b_set 21 = .ok (.ldc 45, 2) := by decide +kernel
theorem d_set_23 : decode b_set 23 = .ok (.if_icmp .le 5, 3) := by decide +kernel
theorem d_set_26 : decode b_set 26 = .ok (.iconst 0, 1) := by decide +kernel
theorem d_set_27 : decode b_set 27 = .ok (.ireturn, 1) := by decide +kernel
theorem d_set_28 : decode b_set 28 = .ok (.aload_n 0, 1) := by decide +kernel
theorem d_set_29 : decode b_set 29 = .ok (.getfield 11, 3) := by decide +kernel
theorem d_set_32 : decode b_set 32 = .ok (.iload_n 1, 1) := by decide +kernel
theorem d_set_33 : decode b_set 33 = .ok (.aaload, 1) := by decide +kernel
theorem d_set_34 : decode b_set 34 = .ok (.astore 5, 2) := by decide +kernel
theorem d_set_36 : decode b_set 36 = .ok (.aload 5, 2) := by decide +kernel
theorem d_set_38 : decode b_set 38 = .ok (.iload_n 2, 1) := by decide +kernel
theorem d_set_39 : decode b_set 39 = .ok (.putfield 46, 3) := by decide +kernel
theorem d_set_42 : decode b_set 42 = .ok (.aload 5, 2) := by decide +kernel
theorem d_set_44 : decode b_set 44 = .ok (.iload_n 3, 1) := by decide +kernel
theorem d_set_45 : decode b_set 45 = .ok (.putfield 49, 3) := by decide +kernel
theorem d_set_48 : decode b_set 48 = .ok (.aload 5, 2) := by decide +kernel
theorem d_set_50 : decode b_set 50 = .ok (.iload_n 3, 1) := by decide +kernel
theorem d_set_51 : decode b_set 51 = .ok (.putfield 52, 3) := by decide +kernel
theorem d_set_54 : decode b_set 54 = .ok (.aload 5, 2) := by decide +kernel
theorem d_set_56 : decode b_set 56 = .ok (.iload 4, 2) := by decide +kernel
theorem d_set_58 : decode b_set 58 = .ok (.putfield 55, 3) := by decide +kernel
theorem d_set_61 : decode b_set 61 = .ok (.aload 5, 2) := by decide +kernel
theorem d_set_63 : decode b_set 63 = .ok (.iconst 0, 1) := by decide +kernel
theorem d_set_64 : decode b_set 64 = .ok (.putfield 59, 3) := by decide +kernel
theorem d_set_67 : decode b_set 67 = .ok (.iconst 1, 1) := by decide +kernel
theorem d_set_68 : decode b_set 68 = .ok (.ireturn, 1) := by decide +kernel
theorem d_turn_0 : decode b_turn 0 = .ok (.iload_n 1, 1) := by decide +kernel
theorem d_turn_1 : decode b_turn 1 = .ok (.invokestatic 37, 3) := by decide +kernel
theorem d_turn_4 : decode b_turn 4 = .ok (.ifCond .eq 16, 3) := by decide +kernel
theorem d_turn_7 : decode b_turn 7 = .ok (.aload_n 0, 1) := by decide +kernel
theorem d_turn_8 : decode b_turn 8 = .ok (.getfield 11, 3) := by decide +kernel
theorem d_turn_11 : decode b_turn 11 = .ok (.iload_n 1, 1) := by decide +kernel
theorem d_turn_12 : decode b_turn 12 = .ok (.aaload, 1) := by decide +kernel
theorem d_turn_13 : decode b_turn 13 = .ok (.getfield 59, 3) := by decide +kernel
theorem d_turn_16 : decode b_turn 16 = .ok (.iload_n 2, 1) := by decide +kernel
theorem d_turn_17 : decode b_turn 17 = .ok (.if_icmp .ne 5, 3) := by decide +kernel
theorem d_turn_20 : decode b_turn 20 = .ok (.iconst 0, 1) := by decide +kernel
theorem d_turn_21 : decode b_turn 21 = .ok (.ireturn, 1) := by decide +kernel
theorem d_turn_22 : decode b_turn 22 = .ok (.aload_n 0, 1) := by decide +kernel
theorem d_turn_23 : decode b_turn 23 = .ok (.getfield 11, 3) := by decide +kernel
theorem d_turn_26 : decode b_turn 26 = .ok (.iload_n 1, 1) := by decide +kernel
theorem d_turn_27 : decode b_turn 27 = .ok (.aaload, 1) := by decide +kernel
theorem d_turn_28 : decode b_turn 28 = .ok (.iload_n 2, 1) := by decide +kernel
theorem d_turn_29 : decode b_turn 29 = .ok (.putfield 59, 3) := by decide +kernel
theorem d_turn_32 : decode b_turn 32 = .ok (.iconst 1, 1) := by decide +kernel
theorem d_turn_33 : decode b_turn 33 = .ok (.ireturn, 1) := by decide +kernel
theorem d_gate_0 : decode b_gate 0 = .ok (.iload_n 1, 1) := by decide +kernel
theorem d_gate_1 : decode b_gate 1 = .ok (.invokestatic 62, 3) := by decide +kernel
theorem d_gate_4 : decode b_gate 4 = .ok (.ifCond .eq 22, 3) := by decide +kernel
theorem d_gate_7 : decode b_gate 7 = .ok (.iload_n 2, 1) := by decide +kernel
theorem d_gate_8 : decode b_gate 8 = .ok (.invokestatic 65, 3) := by decide +kernel
theorem d_gate_11 : decode b_gate 11 = .ok (.ifCond .eq 15, 3) := by decide +kernel
theorem d_gate_14 : decode b_gate 14 = .ok (.iload_n 3, 1) := by decide +kernel
theorem d_gate_15 : decode b_gate 15 = .ok (.iconst 1, 1) := by decide +kernel
theorem d_gate_16 : decode b_gate 16 = .ok (.if_icmp .lt 10, 3) := by decide +kernel
theorem d_gate_19 : decode b_gate 19 = .ok (.iload_n 3, 1) := by decide +kernel
theorem d_gate_20 : decode b_gate 20 = .ok (.sipush 1000, 3) := by decide +kernel
theorem d_gate_23 : decode b_gate 23 = .ok (.if_icmp .le 5, 3) := by decide +kernel
theorem d_gate_26 : decode b_gate 26 = .ok (.iconst 0, 1) := by decide +kernel
theorem d_gate_27 : decode b_gate 27 = .ok (.ireturn, 1) := by decide +kernel
theorem d_gate_28 : decode b_gate 28 = .ok (.aload_n 0, 1) := by decide +kernel
theorem d_gate_29 : decode b_gate 29 = .ok (.getfield 17, 3) := by decide +kernel
theorem d_gate_32 : decode b_gate 32 = .ok (.iload_n 1, 1) := by decide +kernel
theorem d_gate_33 : decode b_gate 33 = .ok (.aaload, 1) := by decide +kernel
theorem d_gate_34 : decode b_gate 34 = .ok (.iload_n 2, 1) := by decide +kernel
theorem d_gate_35 : decode b_gate 35 = .ok (.putfield 68, 3) := by decide +kernel
theorem d_gate_38 : decode b_gate 38 = .ok (.aload_n 0, 1) := by decide +kernel
theorem d_gate_39 : decode b_gate 39 = .ok (.getfield 17, 3) := by decide +kernel
theorem d_gate_42 : decode b_gate 42 = .ok (.iload_n 1, 1) := by decide +kernel
theorem d_gate_43 : decode b_gate 43 = .ok (.aaload, 1) := by decide +kernel
theorem d_gate_44 : decode b_gate 44 = .ok (.iload_n 3, 1) := by decide +kernel
theorem d_gate_45 : decode b_gate 45 = .ok (.putfield 71, 3) := by decide +kernel
theorem d_gate_48 : decode b_gate 48 = .ok (.iconst 1, 1) := by decide +kernel
theorem d_gate_49 : decode b_gate 49 = .ok (.ireturn, 1) := by decide +kernel
theorem d_clear_0 : decode b_clear 0 = .ok (.iload_n 1, 1) := by decide +kernel
theorem d_clear_1 : decode b_clear 1 = .ok (.invokestatic 65, 3) := by decide +kernel
theorem d_clear_4 : decode b_clear 4 = .ok (.ifCond .ne 5, 3) := by decide +kernel
theorem d_clear_7 : decode b_clear 7 = .ok (.iconst (-1), 1) := by decide +kernel
theorem d_clear_8 : decode b_clear 8 = .ok (.ireturn, 1) := by decide +kernel
theorem d_clear_9 : decode b_clear 9 = .ok (.aload_n 0, 1) := by decide +kernel
theorem d_clear_10 : decode b_clear 10 = .ok (.getfield 28, 3) := by decide +kernel
theorem d_clear_13 : decode b_clear 13 = .ok (.iload_n 1, 1) := by decide +kernel
theorem d_clear_14 : decode b_clear 14 = .ok (.iand, 1) := by decide +kernel
theorem d_clear_15 : decode b_clear 15 = .ok (.istore_n 2, 1) := by decide +kernel
theorem d_clear_16 : decode b_clear 16 = .ok (.iconst 0, 1) := by decide +kernel
theorem d_clear_17 : decode b_clear 17 = .ok (.istore_n 3, 1) := by decide +kernel
theorem d_clear_18 : decode b_clear 18 = .ok (.iload_n 3, 1) := by decide +kernel
theorem d_clear_19 : decode b_clear 19 = .ok (.bipush 8, 2) := by decide +kernel
theorem d_clear_21 : decode b_clear 21 = .ok (.if_icmp .ge 32, 3) := by decide +kernel
theorem d_clear_24 : decode b_clear 24 = .ok (.iload_n 2, 1) := by decide +kernel
theorem d_clear_25 : decode b_clear 25 = .ok (.iconst 1, 1) := by decide +kernel
theorem d_clear_26 : decode b_clear 26 = .ok (.iload_n 3, 1) := by decide +kernel
theorem d_clear_27 : decode b_clear 27 = .ok (.ishl, 1) := by decide +kernel
theorem d_clear_28 : decode b_clear 28 = .ok (.iand, 1) := by decide +kernel
theorem d_clear_29 : decode b_clear 29 = .ok (.ifCond .eq 18, 3) := by decide +kernel
theorem d_clear_32 : decode b_clear 32 = .ok (.aload_n 0, 1) := by decide +kernel
theorem d_clear_33 : decode b_clear 33 = .ok (.getfield 11, 3) := by decide +kernel
theorem d_clear_36 : decode b_clear 36 = .ok (.iload_n 3, 1) := by decide +kernel
theorem d_clear_37 : decode b_clear 37 = .ok (.aaload, 1) := by decide +kernel
theorem d_clear_38 : decode b_clear 38 = .ok (.dup, 1) := by decide +kernel
theorem d_clear_39 : decode b_clear 39 = .ok (.getfield 74, 3) := by decide +kernel
theorem d_clear_42 : decode b_clear 42 = .ok (.iconst 1, 1) := by decide +kernel
theorem d_clear_43 : decode b_clear 43 = .ok (.iadd, 1) := by decide +kernel
theorem d_clear_44 : decode b_clear 44 = .ok (.putfield 74, 3) := by decide +kernel
theorem d_clear_47 : decode b_clear 47 = .ok (.iinc 3 1, 3) := by decide +kernel
theorem d_clear_50 : decode b_clear 50 = .ok (.goto (-32), 3) := by decide +kernel
theorem d_clear_53 : decode b_clear 53 = .ok (.aload_n 0, 1) := by decide +kernel
theorem d_clear_54 : decode b_clear 54 = .ok (.dup, 1) := by decide +kernel
theorem d_clear_55 : decode b_clear 55 = .ok (.getfield 28, 3) := by decide +kernel
theorem d_clear_58 : decode b_clear 58 = .ok (.iload_n 2, 1) := by decide +kernel
theorem d_clear_59 : decode b_clear 59 = .ok (.iconst (-1), 1) := by decide +kernel
theorem d_clear_60 : decode b_clear 60 = .ok (.ixor, 1) := by decide +kernel
theorem d_clear_61 : decode b_clear 61 = .ok (.iand, 1) := by decide +kernel
theorem d_clear_62 : decode b_clear 62 = .ok (.putfield 28, 3) := by decide +kernel
theorem d_clear_65 : decode b_clear 65 = .ok (.iload_n 2, 1) := by decide +kernel
theorem d_clear_66 : decode b_clear 66 = .ok (.ireturn, 1) := by decide +kernel
theorem d_advance_0 : decode b_advance 0 = .ok (.iload_n 1, 1) := by decide +kernel
theorem d_advance_1 : decode b_advance 1 = .ok (.invokestatic 77, 3) := by decide +kernel
theorem d_advance_4 : decode b_advance 4 = .ok (.ifCond .ne 5, 3) := by decide +kernel
theorem d_advance_7 : decode b_advance 7 = .ok (.iconst (-1), 1) := by decide +kernel
theorem d_advance_8 : decode b_advance 8 = .ok (.ireturn, 1) := by decide +kernel
theorem d_advance_9 : decode b_advance 9 = .ok (.iconst 0, 1) := by decide +kernel
theorem d_advance_10 : decode b_advance 10 = .ok (.istore_n 2, 1) := by decide +kernel
theorem d_advance_11 : decode b_advance 11 = .ok (.iconst 0, 1) := by decide +kernel
theorem d_advance_12 : decode b_advance 12 = .ok (.istore_n 3, 1) := by decide +kernel
theorem d_advance_13 : decode b_advance 13 = .ok (.iload_n 3, 1) := by decide +kernel
theorem d_advance_14 : decode b_advance 14 = .ok (.iload_n 1, 1) := by decide +kernel
theorem d_advance_15 : decode b_advance 15 = .ok (.if_icmp .ge 16, 3) := by decide +kernel
theorem d_advance_18 : decode b_advance 18 = .ok (.iload_n 2, 1) := by decide +kernel
theorem d_advance_19 : decode b_advance 19 = .ok (.aload_n 0, 1) := by decide +kernel
theorem d_advance_20 : decode b_advance 20 = .ok (.invokevirtual 80, 3) := by decide +kernel
theorem d_advance_23 : decode b_advance 23 = .ok (.iadd, 1) := by decide +kernel
theorem d_advance_24 : decode b_advance 24 = .ok (.istore_n 2, 1) := by decide +kernel
theorem d_advance_25 : decode b_advance 25 = .ok (.iinc 3 1, 3) := by decide +kernel
theorem d_advance_28 : decode b_advance 28 = .ok (.goto (-15), 3) := by decide +kernel
theorem d_advance_31 : decode b_advance 31 = .ok (.iload_n 2, 1) := by decide +kernel
theorem d_advance_32 : decode b_advance 32 = .ok (.ireturn, 1) := by decide +kernel
theorem d_next_0 : decode b_next 0 = .ok (.iload_n 1, 1) := by decide +kernel
theorem d_next_1 : decode b_next 1 = .ok (.invokestatic 77, 3) := by decide +kernel
theorem d_next_4 : decode b_next 4 = .ok (.ifCond .ne 5, 3) := by decide +kernel
theorem d_next_7 : decode b_next 7 = .ok (.iconst (-1), 1) := by decide +kernel
theorem d_next_8 : decode b_next 8 = .ok (.ireturn, 1) := by decide +kernel
theorem d_next_9 : decode b_next 9 = .ok (.iconst 0, 1) := by decide +kernel
theorem d_next_10 : decode b_next 10 = .ok (.istore_n 2, 1) := by decide +kernel
theorem d_next_11 : decode b_next 11 = .ok (.iload_n 2, 1) := by decide +kernel
theorem d_next_12 : decode b_next 12 = .ok (.iload_n 1, 1) := by decide +kernel
theorem d_next_13 : decode b_next 13 = .ok (.if_icmp .ge 20, 3) := by decide +kernel
theorem d_next_16 : decode b_next 16 = .ok (.aload_n 0, 1) := by decide +kernel
theorem d_next_17 : decode b_next 17 = .ok (.invokevirtual 80, 3) := by decide +kernel
theorem d_next_20 : decode b_next 20 = .ok (.ifCond .le 7, 3) := by decide +kernel
theorem d_next_23 : decode b_next 23 = .ok (.iload_n 2, 1) := by decide +kernel
theorem d_next_24 : decode b_next 24 = .ok (.iconst 1, 1) := by decide +kernel
theorem d_next_25 : decode b_next 25 = .ok (.iadd, 1) := by decide +kernel
theorem d_next_26 : decode b_next 26 = .ok (.ireturn, 1) := by decide +kernel
theorem d_next_27 : decode b_next 27 = .ok (.iinc 2 1, 3) := by decide +kernel
theorem d_next_30 : decode b_next 30 = .ok (.goto (-19), 3) := by decide +kernel
theorem d_next_33 : decode b_next 33 = .ok (.iload_n 1, 1) := by decide +kernel
theorem d_next_34 : decode b_next 34 = .ok (.ireturn, 1) := by decide +kernel
theorem d_timer_0 : decode b_timer 0 = .ok (.iload_n 1, 1) := by decide +kernel
theorem d_timer_1 : decode b_timer 1 = .ok (.invokestatic 37, 3) := by decide +kernel
theorem d_timer_4 : decode b_timer 4 = .ok (.ifCond .ne 5, 3) := by decide +kernel
theorem d_timer_7 : decode b_timer 7 = .ok (.iconst (-1), 1) := by decide +kernel
theorem d_timer_8 : decode b_timer 8 = .ok (.ireturn, 1) := by decide +kernel
theorem d_timer_9 : decode b_timer 9 = .ok (.aload_n 0, 1) := by decide +kernel
theorem d_timer_10 : decode b_timer 10 = .ok (.getfield 11, 3) := by decide +kernel
theorem d_timer_13 : decode b_timer 13 = .ok (.iload_n 1, 1) := by decide +kernel
theorem d_timer_14 : decode b_timer 14 = .ok (.aaload, 1) := by decide +kernel
theorem d_timer_15 : decode b_timer 15 = .ok (.iload_n 2, 1) := by decide +kernel
theorem d_timer_16 : decode b_timer 16 = .ok (.invokevirtual 84, 3) := by decide +kernel
theorem d_timer_19 : decode b_timer 19 = .ok (.ireturn, 1) := by decide +kernel
theorem d_gateOf_0 : decode b_gateOf 0 = .ok (.iload_n 1, 1) := by decide +kernel
theorem d_gateOf_1 : decode b_gateOf 1 = .ok (.invokestatic 62, 3) := by decide +kernel
theorem d_gateOf_4 : decode b_gateOf 4 = .ok (.ifCond .ne 5, 3) := by decide +kernel
theorem d_gateOf_7 : decode b_gateOf 7 = .ok (.iconst (-1), 1) := by decide +kernel
theorem d_gateOf_8 : decode b_gateOf 8 = .ok (.ireturn, 1) := by decide +kernel
theorem d_gateOf_9 : decode b_gateOf 9 = .ok (.aload_n 0, 1) := by decide +kernel
theorem d_gateOf_10 : decode b_gateOf 10 = .ok (.getfield 17, 3) := by decide +kernel
theorem d_gateOf_13 : decode b_gateOf 13 = .ok (.iload_n 1, 1) := by decide +kernel
theorem d_gateOf_14 : decode b_gateOf 14 = .ok (.aaload, 1) := by decide +kernel
theorem d_gateOf_15 : decode b_gateOf 15 = .ok (.iload_n 2, 1) := by decide +kernel
theorem d_gateOf_16 : decode b_gateOf 16 = .ok (.aload_n 0, 1) := by decide +kernel
theorem d_gateOf_17 : decode b_gateOf 17 = .ok (.getfield 28, 3) := by decide +kernel
theorem d_gateOf_20 : decode b_gateOf 20 = .ok (.invokevirtual 88, 3) := by decide +kernel
theorem d_gateOf_23 : decode b_gateOf 23 = .ok (.ireturn, 1) := by decide +kernel
theorem d_look_0 : decode b_look 0 = .ok (.iload_n 1, 1) := by decide +kernel
theorem d_look_1 : decode b_look 1 = .ok (.tableswitch 54 0 3 #[31, 36, 41, 49], 31) := by decide +kernel
theorem d_look_32 : decode b_look 32 = .ok (.aload_n 0, 1) := by decide +kernel
theorem d_look_33 : decode b_look 33 = .ok (.getfield 28, 3) := by decide +kernel
theorem d_look_36 : decode b_look 36 = .ok (.ireturn, 1) := by decide +kernel
theorem d_look_37 : decode b_look 37 = .ok (.aload_n 0, 1) := by decide +kernel
theorem d_look_38 : decode b_look 38 = .ok (.getfield 32, 3) := by decide +kernel
theorem d_look_41 : decode b_look 41 = .ok (.ireturn, 1) := by decide +kernel
theorem d_look_42 : decode b_look 42 = .ok (.aload_n 0, 1) := by decide +kernel
theorem d_look_43 : decode b_look 43 = .ok (.getfield 24, 3) := by decide +kernel
theorem d_look_46 : decode b_look 46 = .ok (.getfield 91, 3) := by decide +kernel
theorem d_look_49 : decode b_look 49 = .ok (.ireturn, 1) := by decide +kernel
theorem d_look_50 : decode b_look 50 = .ok (.aload_n 0, 1) := by decide +kernel
theorem d_look_51 : decode b_look 51 = .ok (.invokevirtual 94, 3) := by decide +kernel
theorem d_look_54 : decode b_look 54 = .ok (.ireturn, 1) := by decide +kernel
theorem d_look_55 : decode b_look 55 = .ok (.iconst (-1), 1) := by decide +kernel
theorem d_look_56 : decode b_look 56 = .ok (.ireturn, 1) := by decide +kernel
theorem d_served_0 : decode b_served 0 = .ok (.aload_n 0, 1) := by decide +kernel
theorem d_served_1 : decode b_served 1 = .ok (.getfield 24, 3) := by decide +kernel
theorem d_served_4 : decode b_served 4 = .ok (.iload_n 1, 1) := by decide +kernel
theorem d_served_5 : decode b_served 5 = .ok (.iload_n 2, 1) := by decide +kernel
theorem d_served_6 : decode b_served 6 = .ok (.invokevirtual 97, 3) := by decide +kernel
theorem d_served_9 : decode b_served 9 = .ok (.ireturn, 1) := by decide +kernel
theorem d_isTimer_0 : decode b_isTimer 0 = .ok (.iload_n 0, 1) := by decide +kernel
theorem d_isTimer_1 : decode b_isTimer 1 = .ok (.ifCond .lt 13, 3) := by decide +kernel
theorem d_isTimer_4 : decode b_isTimer 4 = .ok (.iload_n 0, 1) := by decide +kernel
theorem d_isTimer_5 : decode b_isTimer 5 = .ok (.bipush 8, 2) := by decide +kernel
theorem d_isTimer_7 : decode b_isTimer 7 = .ok (.if_icmp .ge 7, 3) := by decide +kernel
theorem d_isTimer_10 : decode b_isTimer 10 = .ok (.iconst 1, 1) := by decide +kernel
theorem d_isTimer_11 : decode b_isTimer 11 = .ok (.goto 4, 3) := by decide +kernel
theorem d_isTimer_14 : decode b_isTimer 14 = .ok (.iconst 0, 1) := by decide +kernel
theorem d_isTimer_15 : decode b_isTimer 15 = .ok (.ireturn, 1) := by decide +kernel
theorem d_isGate_0 : decode b_isGate 0 = .ok (.iload_n 0, 1) := by decide +kernel
theorem d_isGate_1 : decode b_isGate 1 = .ok (.ifCond .lt 12, 3) := by decide +kernel
theorem d_isGate_4 : decode b_isGate 4 = .ok (.iload_n 0, 1) := by decide +kernel
theorem d_isGate_5 : decode b_isGate 5 = .ok (.iconst 4, 1) := by decide +kernel
theorem d_isGate_6 : decode b_isGate 6 = .ok (.if_icmp .ge 7, 3) := by decide +kernel
theorem d_isGate_9 : decode b_isGate 9 = .ok (.iconst 1, 1) := by decide +kernel
theorem d_isGate_10 : decode b_isGate 10 = .ok (.goto 4, 3) := by decide +kernel
theorem d_isGate_13 : decode b_isGate 13 = .ok (.iconst 0, 1) := by decide +kernel
theorem d_isGate_14 : decode b_isGate 14 = .ok (.ireturn, 1) := by decide +kernel
theorem d_isSource_0 : decode b_isSource 0 = .ok (.iload_n 1, 1) := by decide +kernel
theorem d_isSource_1 : decode b_isSource 1 = .ok (.ifCond .eq 12, 3) := by decide +kernel
theorem d_isSource_4 : decode b_isSource 4 = .ok (.iload_n 1, 1) := by decide +kernel
theorem d_isSource_5 : decode b_isSource 5 = .ok (.iconst 1, 1) := by decide +kernel
theorem d_isSource_6 : decode b_isSource 6 = .ok (.if_icmp .ne 11, 3) := by decide +kernel
theorem d_isSource_9 : decode b_isSource 9 = .ok (.iload_n 0, 1) := by decide +kernel
theorem d_isSource_10 : decode b_isSource 10 = .ok (.ifCond .le 7, 3) := by decide +kernel
theorem d_isSource_13 : decode b_isSource 13 = .ok (.iconst 1, 1) := by decide +kernel
theorem d_isSource_14 : decode b_isSource 14 = .ok (.goto 4, 3) := by decide +kernel
theorem d_isSource_17 : decode b_isSource 17 = .ok (.iconst 0, 1) := by decide +kernel
theorem d_isSource_18 : decode b_isSource 18 = .ok (.ireturn, 1) := by decide +kernel
theorem d_isBitSet_0 : decode b_isBitSet 0 = .ok (.iload_n 0, 1) := by decide +kernel
theorem d_isBitSet_1 : decode b_isBitSet 1 = .ok (.ifCond .lt 14, 3) := by decide +kernel
theorem d_isBitSet_4 : decode b_isBitSet 4 = .ok (.iload_n 0, 1) := by decide +kernel
theorem d_isBitSet_5 : decode b_isBitSet 5 = .ok (.sipush 255, 3) := by decide +kernel
theorem d_isBitSet_8 : decode b_isBitSet 8 = .ok (.if_icmp .gt 7, 3) := by decide +kernel
theorem d_isBitSet_11 : decode b_isBitSet 11 = .ok (.iconst 1, 1) := by decide +kernel
theorem d_isBitSet_12 : decode b_isBitSet 12 = .ok (.goto 4, 3) := by decide +kernel
theorem d_isBitSet_15 : decode b_isBitSet 15 = .ok (.iconst 0, 1) := by decide +kernel
theorem d_isBitSet_16 : decode b_isBitSet 16 = .ok (.ireturn, 1) := by decide +kernel
theorem d_isTickCount_0 : decode b_isTickCount 0 = .ok (.iload_n 0, 1) := by decide +kernel
theorem d_isTickCount_1 : decode b_isTickCount 1 = .ok (.ifCond .lt 14, 3) := by decide +kernel
theorem d_isTickCount_4 : decode b_isTickCount 4 = .ok (.iload_n 0, 1) := by decide +kernel
theorem d_isTickCount_5 : decode b_isTickCount 5 = .ok (.sipush 20000, 3) := by decide +kernel
theorem d_isTickCount_8 : decode b_isTickCount 8 = .ok (.if_icmp .gt 7, 3) := by decide +kernel
theorem d_isTickCount_11 : decode b_isTickCount 11 = .ok (.iconst 1, 1) := by decide +kernel
theorem d_isTickCount_12 : decode b_isTickCount 12 = .ok (.goto 4, 3) := by decide +kernel
theorem d_isTickCount_15 : decode b_isTickCount 15 = .ok (.iconst 0, 1) := by decide +kernel
theorem d_isTickCount_16 : decode b_isTickCount 16 = .ok (.ireturn, 1) := by decide +kernel
theorem d_tick_0 : decode b_tick 0 = .ok (.aload_n 0, 1) := by decide +kernel
theorem d_tick_1 : decode b_tick 1 = .ok (.dup, 1) := by decide +kernel
theorem d_tick_2 : decode b_tick 2 = .ok (.getfield 32, 3) := by decide +kernel
theorem d_tick_5 : decode b_tick 5 = .ok (.iconst 1, 1) := by decide +kernel
theorem d_tick_6 : decode b_tick 6 = .ok (.iadd, 1) := by decide +kernel
theorem d_tick_7 : decode b_tick 7 = .ok (.putfield 32, 3) := by decide +kernel
theorem d_tick_10 : decode b_tick 10 = .ok (.aload_n 0, 1) := by decide +kernel
theorem d_tick_11 : decode b_tick 11 = .ok (.invokevirtual 98, 3) := by decide +kernel
theorem d_tick_14 : decode b_tick 14 = .ok (.aload_n 0, 1) := by decide +kernel
theorem d_tick_15 : decode b_tick 15 = .ok (.invokevirtual 101, 3) := by decide +kernel
theorem d_tick_18 : decode b_tick 18 = .ok (.istore_n 1, 1) := by decide +kernel
theorem d_tick_19 : decode b_tick 19 = .ok (.aload_n 0, 1) := by decide +kernel
theorem d_tick_20 : decode b_tick 20 = .ok (.invokevirtual 104, 3) := by decide +kernel
theorem d_tick_23 : decode b_tick 23 = .ok (.iload_n 1, 1) := by decide +kernel
theorem d_tick_24 : decode b_tick 24 = .ok (.ireturn, 1) := by decide +kernel
theorem d_tickTimers_0 : decode b_tickTimers 0 = .ok (.iconst 0, 1) := by decide +kernel
theorem d_tickTimers_1 : decode b_tickTimers 1 = .ok (.istore_n 1, 1) := by decide +kernel
theorem d_tickTimers_2 : decode b_tickTimers 2 = .ok (.iconst 0, 1) := by decide +kernel
theorem d_tickTimers_3 : decode b_tickTimers 3 = .ok (.istore_n 2, 1) := by decide +kernel
theorem d_tickTimers_4 : decode b_tickTimers 4 = .ok (.iload_n 2, 1) := by decide +kernel
theorem d_tickTimers_5 : decode b_tickTimers 5 = .ok (.bipush 8, 2) := by decide +kernel
theorem d_tickTimers_7 : decode b_tickTimers 7 = .ok (.if_icmp .ge 61, 3) := by decide +kernel
theorem d_tickTimers_10 : decode b_tickTimers 10 = .ok (.aload_n 0, 1) := by decide +kernel
theorem d_tickTimers_11 : decode b_tickTimers 11 = .ok (.getfield 11, 3) := by decide +kernel
theorem d_tickTimers_14 : decode b_tickTimers 14 = .ok (.iload_n 2, 1) := by decide +kernel
theorem d_tickTimers_15 : decode b_tickTimers 15 = .ok (.aaload, 1) := by decide +kernel
theorem d_tickTimers_16 : decode b_tickTimers 16 = .ok (.astore_n 3, 1) := by decide +kernel
theorem d_tickTimers_17 : decode b_tickTimers 17 = .ok (.aload_n 3, 1) := by decide +kernel
theorem d_tickTimers_18 : decode b_tickTimers 18 = .ok (.getfield 46, 3) := by decide +kernel
theorem d_tickTimers_21 : decode b_tickTimers 21 = .ok (.ifCond .eq 7, 3) := by decide +kernel
theorem d_tickTimers_24 : decode b_tickTimers 24 = .ok (.iload_n 1, 1) := by decide +kernel
theorem d_tickTimers_25 : decode b_tickTimers 25 = .ok (.ifCond .eq 7, 3) := by decide +kernel
theorem d_tickTimers_28 : decode b_tickTimers 28 = .ok (.iconst 1, 1) := by decide +kernel
theorem d_tickTimers_29 : decode b_tickTimers 29 = .ok (.goto 4, 3) := by decide +kernel
theorem d_tickTimers_32 : decode b_tickTimers 32 = .ok (.iconst 0, 1) := by decide +kernel
theorem d_tickTimers_33 : decode b_tickTimers 33 = .ok (.istore 4, 2) := by decide +kernel
theorem d_tickTimers_35 : decode b_tickTimers 35 = .ok (.iload 4, 2) := by decide +kernel
theorem d_tickTimers_37 : decode b_tickTimers 37 = .ok (.ifCond .eq 14, 3) := by decide +kernel
theorem d_tickTimers_40 : decode b_tickTimers 40 = .ok (.aload_n 3, 1) := by decide +kernel
theorem d_tickTimers_41 : decode b_tickTimers 41 = .ok (.invokevirtual 107, 3) := by decide +kernel
theorem d_tickTimers_44 : decode b_tickTimers 44 = .ok (.ifCond .eq 7, 3) := by decide +kernel
theorem d_tickTimers_47 : decode b_tickTimers 47 = .ok (.iconst 1, 1) := by decide +kernel
theorem d_tickTimers_48 : decode b_tickTimers 48 = .ok (.goto 4, 3) := by decide +kernel
theorem d_tickTimers_51 : decode b_tickTimers 51 = .ok (.iconst 0, 1) := by decide +kernel
theorem d_tickTimers_52 : decode b_tickTimers 52 = .ok (.istore_n 1, 1) := by decide +kernel
theorem d_tickTimers_53 : decode b_tickTimers 53 = .ok (.iload_n 1, 1) := by decide +kernel
theorem d_tickTimers_54 : decode b_tickTimers 54 = .ok (.ifCond .eq 8, 3) := by decide +kernel
theorem d_tickTimers_57 : decode b_tickTimers 57 = .ok (.aload_n 0, 1) := by decide +kernel
theorem d_tickTimers_58 : decode b_tickTimers 58 = .ok (.iload_n 2, 1) := by decide +kernel
theorem d_tickTimers_59 : decode b_tickTimers 59 = .ok (.invokevirtual 111, 3) := by decide +kernel
theorem d_tickTimers_62 : decode b_tickTimers 62 = .ok (.iinc 2 1, 3) := by decide +kernel
theorem d_tickTimers_65 : decode b_tickTimers 65 = .ok (.goto (-61), 3) := by decide +kernel
theorem d_tickTimers_68 : decode b_tickTimers 68 = .ok (.return_, 1) := by decide +kernel
theorem d_raise_0 : decode b_raise 0 = .ok (.iconst 1, 1) := by decide +kernel
theorem d_raise_1 : decode b_raise 1 = .ok (.iload_n 1, 1) := by decide +kernel
theorem d_raise_2 : decode b_raise 2 = .ok (.ishl, 1) := by decide +kernel
theorem d_raise_3 : decode b_raise 3 = .ok (.istore_n 2, 1) := by decide +kernel
theorem d_raise_4 : decode b_raise 4 = .ok (.aload_n 0, 1) := by decide +kernel
theorem d_raise_5 : decode b_raise 5 = .ok (.getfield 28, 3) := by decide +kernel
theorem d_raise_8 : decode b_raise 8 = .ok (.iload_n 2, 1) := by decide +kernel
theorem d_raise_9 : decode b_raise 9 = .ok (.iand, 1) := by decide +kernel
theorem d_raise_10 : decode b_raise 10 = .ok (.ifCond .eq 18, 3) := by decide +kernel
theorem d_raise_13 : decode b_raise 13 = .ok (.aload_n 0, 1) := by decide +kernel
theorem d_raise_14 : decode b_raise 14 = .ok (.getfield 11, 3) := by decide +kernel
theorem d_raise_17 : decode b_raise 17 = .ok (.iload_n 1, 1) := by decide +kernel
theorem d_raise_18 : decode b_raise 18 = .ok (.aaload, 1) := by decide +kernel
theorem d_raise_19 : decode b_raise 19 = .ok (.dup, 1) := by decide +kernel
theorem d_raise_20 : decode b_raise 20 = .ok (.getfield 115, 3) := by decide +kernel
theorem d_raise_23 : decode b_raise 23 = .ok (.iconst 1, 1) := by decide +kernel
theorem d_raise_24 : decode b_raise 24 = .ok (.iadd, 1) := by decide +kernel
theorem d_raise_25 : decode b_raise 25 = .ok (.putfield 115, 3) := by decide +kernel
theorem d_raise_28 : decode b_raise 28 = .ok (.aload_n 0, 1) := by decide +kernel
theorem d_raise_29 : decode b_raise 29 = .ok (.dup, 1) := by decide +kernel
theorem d_raise_30 : decode b_raise 30 = .ok (.getfield 28, 3) := by decide +kernel
theorem d_raise_33 : decode b_raise 33 = .ok (.iload_n 2, 1) := by decide +kernel
theorem d_raise_34 : decode b_raise 34 = .ok (.ior, 1) := by decide +kernel
theorem d_raise_35 : decode b_raise 35 = .ok (.putfield 28, 3) := by decide +kernel
theorem d_raise_38 : decode b_raise 38 = .ok (.return_, 1) := by decide +kernel
theorem d_tickGates_0 : decode b_tickGates 0 = .ok (.iconst 0, 1) := by decide +kernel
theorem d_tickGates_1 : decode b_tickGates 1 = .ok (.istore_n 1, 1) := by decide +kernel
theorem d_tickGates_2 : decode b_tickGates 2 = .ok (.iconst 0, 1) := by decide +kernel
theorem d_tickGates_3 : decode b_tickGates 3 = .ok (.istore_n 2, 1) := by decide +kernel
theorem d_tickGates_4 : decode b_tickGates 4 = .ok (.iload_n 2, 1) := by decide +kernel
theorem d_tickGates_5 : decode b_tickGates 5 = .ok (.iconst 4, 1) := by decide +kernel
theorem d_tickGates_6 : decode b_tickGates 6 = .ok (.if_icmp .ge 32, 3) := by decide +kernel
theorem d_tickGates_9 : decode b_tickGates 9 = .ok (.aload_n 0, 1) := by decide +kernel
theorem d_tickGates_10 : decode b_tickGates 10 = .ok (.getfield 17, 3) := by decide +kernel
theorem d_tickGates_13 : decode b_tickGates 13 = .ok (.iload_n 2, 1) := by decide +kernel
theorem d_tickGates_14 : decode b_tickGates 14 = .ok (.aaload, 1) := by decide +kernel
theorem d_tickGates_15 : decode b_tickGates 15 = .ok (.invokevirtual 118, 3) := by decide +kernel
theorem d_tickGates_18 : decode b_tickGates 18 = .ok (.ifCond .eq 14, 3) := by decide +kernel
theorem d_tickGates_21 : decode b_tickGates 21 = .ok (.aload_n 0, 1) := by decide +kernel
theorem d_tickGates_22 : decode b_tickGates 22 = .ok (.iload_n 2, 1) := by decide +kernel
theorem d_tickGates_23 : decode b_tickGates 23 = .ok (.invokevirtual 121, 3) := by decide +kernel
theorem d_tickGates_26 : decode b_tickGates 26 = .ok (.ifCond .eq 6, 3) := by decide +kernel
theorem d_tickGates_29 : decode b_tickGates 29 = .ok (.iinc 1 1, 3) := by decide +kernel
theorem d_tickGates_32 : decode b_tickGates 32 = .ok (.iinc 2 1, 3) := by decide +kernel
theorem d_tickGates_35 : decode b_tickGates 35 = .ok (.goto (-31), 3) := by decide +kernel
theorem d_tickGates_38 : decode b_tickGates 38 = .ok (.iload_n 1, 1) := by decide +kernel
theorem d_tickGates_39 : decode b_tickGates 39 = .ok (.ireturn, 1) := by decide +kernel
theorem d_serve_0 : decode b_serve 0 = .ok (.aload_n 0, 1) := by decide +kernel
theorem d_serve_1 : decode b_serve 1 = .ok (.getfield 17, 3) := by decide +kernel
theorem d_serve_4 : decode b_serve 4 = .ok (.iload_n 1, 1) := by decide +kernel
theorem d_serve_5 : decode b_serve 5 = .ok (.aaload, 1) := by decide +kernel
theorem d_serve_6 : decode b_serve 6 = .ok (.astore_n 2, 1) := by decide +kernel
theorem d_serve_7 : decode b_serve 7 = .ok (.aload_n 2, 1) := by decide +kernel
theorem d_serve_8 : decode b_serve 8 = .ok (.aload_n 0, 1) := by decide +kernel
theorem d_serve_9 : decode b_serve 9 = .ok (.getfield 28, 3) := by decide +kernel
theorem d_serve_12 : decode b_serve 12 = .ok (.invokevirtual 124, 3) := by decide +kernel
theorem d_serve_15 : decode b_serve 15 = .ok (.ifCond .ne 15, 3) := by decide +kernel
theorem d_serve_18 : decode b_serve 18 = .ok (.aload_n 2, 1) := by decide +kernel
theorem d_serve_19 : decode b_serve 19 = .ok (.dup, 1) := by decide +kernel
theorem d_serve_20 : decode b_serve 20 = .ok (.getfield 127, 3) := by decide +kernel
theorem d_serve_23 : decode b_serve 23 = .ok (.iconst 1, 1) := by decide +kernel
theorem d_serve_24 : decode b_serve 24 = .ok (.iadd, 1) := by decide +kernel
theorem d_serve_25 : decode b_serve 25 = .ok (.putfield 127, 3) := by decide +kernel
theorem d_serve_28 : decode b_serve 28 = .ok (.iconst 0, 1) := by decide +kernel
theorem d_serve_29 : decode b_serve 29 = .ok (.ireturn, 1) := by decide +kernel
theorem d_serve_30 : decode b_serve 30 = .ok (.aload_n 0, 1) := by decide +kernel
theorem d_serve_31 : decode b_serve 31 = .ok (.getfield 28, 3) := by decide +kernel
theorem d_serve_34 : decode b_serve 34 = .ok (.aload_n 2, 1) := by decide +kernel
theorem d_serve_35 : decode b_serve 35 = .ok (.getfield 68, 3) := by decide +kernel
theorem d_serve_38 : decode b_serve 38 = .ok (.iand, 1) := by decide +kernel
theorem d_serve_39 : decode b_serve 39 = .ok (.invokestatic 130, 3) := by decide +kernel
theorem d_serve_42 : decode b_serve 42 = .ok (.istore_n 3, 1) := by decide +kernel
theorem d_serve_43 : decode b_serve 43 = .ok (.aload_n 0, 1) := by decide +kernel
theorem d_serve_44 : decode b_serve 44 = .ok (.dup, 1) := by decide +kernel
theorem d_serve_45 : decode b_serve 45 = .ok (.getfield 28, 3) := by decide +kernel
theorem d_serve_48 : decode b_serve 48 = .ok (.iconst 1, 1) := by decide +kernel
theorem d_serve_49 : decode b_serve 49 = .ok (.iload_n 3, 1) := by decide +kernel
theorem d_serve_50 : decode b_serve 50 = .ok (.ishl, 1) := by decide +kernel
theorem d_serve_51 : decode b_serve 51 = .ok (.iconst (-1), 1) := by decide +kernel
theorem d_serve_52 : decode b_serve 52 = .ok (.ixor, 1) := by decide +kernel
theorem d_serve_53 : decode b_serve 53 = .ok (.iand, 1) := by decide +kernel
theorem d_serve_54 : decode b_serve 54 = .ok (.putfield 28, 3) := by decide +kernel
theorem d_serve_57 : decode b_serve 57 = .ok (.aload_n 0, 1) := by decide +kernel
theorem d_serve_58 : decode b_serve 58 = .ok (.getfield 11, 3) := by decide +kernel
theorem d_serve_61 : decode b_serve 61 = .ok (.iload_n 3, 1) := by decide +kernel
theorem d_serve_62 : decode b_serve 62 = .ok (.aaload, 1) := by decide +kernel
theorem d_serve_63 : decode b_serve 63 = .ok (.dup, 1) := by decide +kernel
theorem d_serve_64 : decode b_serve 64 = .ok (.getfield 133, 3) := by decide +kernel
theorem d_serve_67 : decode b_serve 67 = .ok (.iconst 1, 1) := by decide +kernel
theorem d_serve_68 : decode b_serve 68 = .ok (.iadd, 1) := by decide +kernel
theorem d_serve_69 : decode b_serve 69 = .ok (.putfield 133, 3) := by decide +kernel
theorem d_serve_72 : decode b_serve 72 = .ok (.aload_n 2, 1) := by decide +kernel
theorem d_serve_73 : decode b_serve 73 = .ok (.dup, 1) := by decide +kernel
theorem d_serve_74 : decode b_serve 74 = .ok (.getfield 136, 3) := by decide +kernel
theorem d_serve_77 : decode b_serve 77 = .ok (.iconst 1, 1) := by decide +kernel
theorem d_serve_78 : decode b_serve 78 = .ok (.iadd, 1) := by decide +kernel
theorem d_serve_79 : decode b_serve 79 = .ok (.putfield 136, 3) := by decide +kernel
theorem d_serve_82 : decode b_serve 82 = .ok (.aload_n 2, 1) := by decide +kernel
theorem d_serve_83 : decode b_serve 83 = .ok (.aload_n 0, 1) := by decide +kernel
theorem d_serve_84 : decode b_serve 84 = .ok (.getfield 32, 3) := by decide +kernel
theorem d_serve_87 : decode b_serve 87 = .ok (.putfield 139, 3) := by decide +kernel
theorem d_serve_90 : decode b_serve 90 = .ok (.aload_n 0, 1) := by decide +kernel
theorem d_serve_91 : decode b_serve 91 = .ok (.getfield 24, 3) := by decide +kernel
theorem d_serve_94 : decode b_serve 94 = .ok (.iload_n 3, 1) := by decide +kernel
theorem d_serve_95 : decode b_serve 95 = .ok (.iload_n 1, 1) := by decide +kernel
theorem d_serve_96 : decode b_serve 96 = .ok (.aload_n 0, 1) := by decide +kernel
theorem d_serve_97 : decode b_serve 97 = .ok (.getfield 32, 3) := by decide +kernel
theorem d_serve_100 : decode b_serve 100 = .ok (.invokevirtual 142, 3) := by decide +kernel
theorem d_serve_103 : decode b_serve 103 = .ok (.iconst 1, 1) := by decide +kernel
theorem d_serve_104 : decode b_serve 104 = .ok (.ireturn, 1) := by decide +kernel
theorem d_leastBit_0 : decode b_leastBit 0 = .ok (.iconst 0, 1) := by decide +kernel
theorem d_leastBit_1 : decode b_leastBit 1 = .ok (.istore_n 1, 1) := by decide +kernel
theorem d_leastBit_2 : decode b_leastBit 2 = .ok (.iload_n 1, 1) := by decide +kernel
theorem d_leastBit_3 : decode b_leastBit 3 = .ok (.bipush 7, 2) := by decide +kernel
theorem d_leastBit_5 : decode b_leastBit 5 = .ok (.if_icmp .ge 19, 3) := by decide +kernel
theorem d_leastBit_8 : decode b_leastBit 8 = .ok (.iload_n 0, 1) := by decide +kernel
theorem d_leastBit_9 : decode b_leastBit 9 = .ok (.iconst 1, 1) := by decide +kernel
theorem d_leastBit_10 : decode b_leastBit 10 = .ok (.iload_n 1, 1) := by decide +kernel
theorem d_leastBit_11 : decode b_leastBit 11 = .ok (.ishl, 1) := by decide +kernel
theorem d_leastBit_12 : decode b_leastBit 12 = .ok (.iand, 1) := by decide +kernel
theorem d_leastBit_13 : decode b_leastBit 13 = .ok (.ifCond .eq 5, 3) := by decide +kernel
theorem d_leastBit_16 : decode b_leastBit 16 = .ok (.iload_n 1, 1) := by decide +kernel
theorem d_leastBit_17 : decode b_leastBit 17 = .ok (.ireturn, 1) := by decide +kernel
theorem d_leastBit_18 : decode b_leastBit 18 = .ok (.iinc 1 1, 3) := by decide +kernel
theorem d_leastBit_21 : decode b_leastBit 21 = .ok (.goto (-19), 3) := by decide +kernel
theorem d_leastBit_24 : decode b_leastBit 24 = .ok (.bipush 7, 2) := by decide +kernel
theorem d_leastBit_26 : decode b_leastBit 26 = .ok (.ireturn, 1) := by decide +kernel
theorem d_wakeGates_0 : decode b_wakeGates 0 = .ok (.iconst 0, 1) := by decide +kernel
theorem d_wakeGates_1 : decode b_wakeGates 1 = .ok (.istore_n 1, 1) := by decide +kernel
theorem d_wakeGates_2 : decode b_wakeGates 2 = .ok (.iload_n 1, 1) := by decide +kernel
theorem d_wakeGates_3 : decode b_wakeGates 3 = .ok (.iconst 4, 1) := by decide +kernel
theorem d_wakeGates_4 : decode b_wakeGates 4 = .ok (.if_icmp .ge 42, 3) := by decide +kernel
theorem d_wakeGates_7 : decode b_wakeGates 7 = .ok (.aload_n 0, 1) := by decide +kernel
theorem d_wakeGates_8 : decode b_wakeGates 8 = .ok (.getfield 17, 3) := by decide +kernel
theorem d_wakeGates_11 : decode b_wakeGates 11 = .ok (.iload_n 1, 1) := by decide +kernel
theorem d_wakeGates_12 : decode b_wakeGates 12 = .ok (.aaload, 1) := by decide +kernel
theorem d_wakeGates_13 : decode b_wakeGates 13 = .ok (.astore_n 2, 1) := by decide +kernel
theorem d_wakeGates_14 : decode b_wakeGates 14 = .ok (.aload_n 2, 1) := by decide +kernel
theorem d_wakeGates_15 : decode b_wakeGates 15 = .ok (.getfield 146, 3) := by decide +kernel
theorem d_wakeGates_18 : decode b_wakeGates 18 = .ok (.ifCond .ne 22, 3) := by decide +kernel
theorem d_wakeGates_21 : decode b_wakeGates 21 = .ok (.aload_n 2, 1) := by decide +kernel
theorem d_wakeGates_22 : decode b_wakeGates 22 = .ok (.aload_n 0, 1) := by decide +kernel
theorem d_wakeGates_23 : decode b_wakeGates 23 = .ok (.getfield 28, 3) := by decide +kernel
theorem d_wakeGates_26 : decode b_wakeGates 26 = .ok (.invokevirtual 124, 3) := by decide +kernel
theorem d_wakeGates_29 : decode b_wakeGates 29 = .ok (.ifCond .eq 11, 3) := by decide +kernel
theorem d_wakeGates_32 : decode b_wakeGates 32 = .ok (.aload_n 2, 1) := by decide +kernel
theorem d_wakeGates_33 : decode b_wakeGates 33 = .ok (.aload_n 2, 1) := by decide +kernel
theorem d_wakeGates_34 : decode b_wakeGates 34 = .ok (.getfield 71, 3) := by decide +kernel
theorem d_wakeGates_37 : decode b_wakeGates 37 = .ok (.putfield 146, 3) := by decide +kernel
theorem d_wakeGates_40 : decode b_wakeGates 40 = .ok (.iinc 1 1, 3) := by decide +kernel
theorem d_wakeGates_43 : decode b_wakeGates 43 = .ok (.goto (-41), 3) := by decide +kernel
theorem d_wakeGates_46 : decode b_wakeGates 46 = .ok (.return_, 1) := by decide +kernel
theorem d_ticksToNextEnd_0 : decode b_ticksToNextEnd 0 = .ok (.iconst 0, 1) := by decide +kernel
theorem d_ticksToNextEnd_1 : decode b_ticksToNextEnd 1 = .ok (.istore_n 1, 1) := by decide +kernel
theorem d_ticksToNextEnd_2 : decode b_ticksToNextEnd 2 = .ok (.iconst 0, 1) := by decide +kernel
theorem d_ticksToNextEnd_3 : decode b_ticksToNextEnd 3 = .ok (.istore_n 2, 1) := by decide +kernel
theorem d_ticksToNextEnd_4 : decode b_ticksToNextEnd 4 = .ok (.iload_n 2, 1) := by decide +kernel
theorem d_ticksToNextEnd_5 : decode b_ticksToNextEnd 5 = .ok (.bipush 8, 2) := by decide +kernel
theorem d_ticksToNextEnd_7 : decode b_ticksToNextEnd 7 = .ok (.if_icmp .ge 59, 3) := by decide +kernel
theorem d_ticksToNextEnd_10 : decode b_ticksToNextEnd 10 = .ok (.aload_n 0, 1) := by decide +kernel
theorem d_ticksToNextEnd_11 : decode b_ticksToNextEnd 11 = .ok (.getfield 11, 3) := by decide +kernel
theorem d_ticksToNextEnd_14 : decode b_ticksToNextEnd 14 = .ok (.iload_n 2, 1) := by decide +kernel
theorem d_ticksToNextEnd_15 : decode b_ticksToNextEnd 15 = .ok (.aaload, 1) := by decide +kernel
theorem d_ticksToNextEnd_16 : decode b_ticksToNextEnd 16 = .ok (.astore_n 3, 1) := by decide +kernel
theorem d_ticksToNextEnd_17 : decode b_ticksToNextEnd 17 = .ok (.aload_n 3, 1) := by decide +kernel
theorem d_ticksToNextEnd_18 : decode b_ticksToNextEnd 18 = .ok (.getfield 59, 3) := by decide +kernel
theorem d_ticksToNextEnd_21 : decode b_ticksToNextEnd 21 = .ok (.ifCond .eq 14, 3) := by decide +kernel
theorem d_ticksToNextEnd_24 : decode b_ticksToNextEnd 24 = .ok (.aload_n 3, 1) := by decide +kernel
theorem d_ticksToNextEnd_25 : decode b_ticksToNextEnd 25 = .ok (.getfield 46, 3) := by decide +kernel
theorem d_ticksToNextEnd_28 : decode b_ticksToNextEnd 28 = .ok (.ifCond .ne 7, 3) := by decide +kernel
theorem d_ticksToNextEnd_31 : decode b_ticksToNextEnd 31 = .ok (.iconst 1, 1) := by decide +kernel
theorem d_ticksToNextEnd_32 : decode b_ticksToNextEnd 32 = .ok (.goto 4, 3) := by decide +kernel
theorem d_ticksToNextEnd_35 : decode b_ticksToNextEnd 35 = .ok (.iconst 0, 1) := by decide +kernel
theorem d_ticksToNextEnd_36 : decode b_ticksToNextEnd 36 = .ok (.istore 4, 2) := by decide +kernel
theorem d_ticksToNextEnd_38 : decode b_ticksToNextEnd 38 = .ok (.iload 4, 2) := by decide +kernel
theorem d_ticksToNextEnd_40 : decode b_ticksToNextEnd 40 = .ok (.ifCond .eq 20, 3) := by decide +kernel
theorem d_ticksToNextEnd_43 : decode b_ticksToNextEnd 43 = .ok (.iload_n 1, 1) := by decide +kernel
theorem d_ticksToNextEnd_44 : decode b_ticksToNextEnd 44 = .ok (.ifCond .eq 11, 3) := by decide +kernel
theorem d_ticksToNextEnd_47 : decode b_ticksToNextEnd 47 = .ok (.aload_n 3, 1) := by decide +kernel
theorem d_ticksToNextEnd_48 : decode b_ticksToNextEnd 48 = .ok (.getfield 52, 3) := by decide +kernel
theorem d_ticksToNextEnd_51 : decode b_ticksToNextEnd 51 = .ok (.iload_n 1, 1) := by decide +kernel
theorem d_ticksToNextEnd_52 : decode b_ticksToNextEnd 52 = .ok (.if_icmp .ge 8, 3) := by decide +kernel
theorem d_ticksToNextEnd_55 : decode b_ticksToNextEnd 55 = .ok (.aload_n 3, 1) := by decide +kernel
theorem d_ticksToNextEnd_56 : decode b_ticksToNextEnd 56 = .ok (.getfield 52, 3) := by decide +kernel
theorem d_ticksToNextEnd_59 : decode b_ticksToNextEnd 59 = .ok (.istore_n 1, 1) := by decide +kernel
theorem d_ticksToNextEnd_60 : decode b_ticksToNextEnd 60 = .ok (.iinc 2 1, 3) := by decide +kernel
theorem d_ticksToNextEnd_63 : decode b_ticksToNextEnd 63 = .ok (.goto (-59), 3) := by decide +kernel
theorem d_ticksToNextEnd_66 : decode b_ticksToNextEnd 66 = .ok (.iload_n 1, 1) := by decide +kernel
theorem d_ticksToNextEnd_67 : decode b_ticksToNextEnd 67 = .ok (.ireturn, 1) := by decide +kernel
theorem d_Ginit_0 : decode b_Ginit 0 = .ok (.aload_n 0, 1) := by decide +kernel
theorem d_Ginit_1 : decode b_Ginit 1 = .ok (.invokespecial 3, 3) := by decide +kernel
theorem d_Ginit_4 : decode b_Ginit 4 = .ok (.aload_n 0, 1) := by decide +kernel
theorem d_Ginit_5 : decode b_Ginit 5 = .ok (.iconst 0, 1) := by decide +kernel
theorem d_Ginit_6 : decode b_Ginit 6 = .ok (.putfield 9, 3) := by decide +kernel
theorem d_Ginit_9 : decode b_Ginit 9 = .ok (.aload_n 0, 1) := by decide +kernel
theorem d_Ginit_10 : decode b_Ginit 10 = .ok (.iconst 1, 1) := by decide +kernel
theorem d_Ginit_11 : decode b_Ginit 11 = .ok (.putfield 15, 3) := by decide +kernel
theorem d_Ginit_14 : decode b_Ginit 14 = .ok (.aload_n 0, 1) := by decide +kernel
theorem d_Ginit_15 : decode b_Ginit 15 = .ok (.iconst 0, 1) := by decide +kernel
theorem d_Ginit_16 : decode b_Ginit 16 = .ok (.putfield 18, 3) := by decide +kernel
theorem d_Ginit_19 : decode b_Ginit 19 = .ok (.aload_n 0, 1) := by decide +kernel
theorem d_Ginit_20 : decode b_Ginit 20 = .ok (.iconst 0, 1) := by decide +kernel
theorem d_Ginit_21 : decode b_Ginit 21 = .ok (.putfield 21, 3) := by decide +kernel
theorem d_Ginit_24 : decode b_Ginit 24 = .ok (.aload_n 0, 1) := by decide +kernel
theorem d_Ginit_25 : decode b_Ginit 25 = .ok (.iconst 0, 1) := by decide +kernel
theorem d_Ginit_26 : decode b_Ginit 26 = .ok (.putfield 24, 3) := by decide +kernel
theorem d_Ginit_29 : decode b_Ginit 29 = .ok (.aload_n 0, 1) := by decide +kernel
theorem d_Ginit_30 : decode b_Ginit 30 = .ok (.iconst (-1), 1) := by decide +kernel
theorem d_Ginit_31 : decode b_Ginit 31 = .ok (.putfield 27, 3) := by decide +kernel
theorem d_Ginit_34 : decode b_Ginit 34 = .ok (.return_, 1) := by decide +kernel
theorem d_asks_0 : decode b_asks 0 = .ok (.iload_n 1, 1) := by decide +kernel
theorem d_asks_1 : decode b_asks 1 = .ok (.aload_n 0, 1) := by decide +kernel
theorem d_asks_2 : decode b_asks 2 = .ok (.getfield 9, 3) := by decide +kernel
theorem d_asks_5 : decode b_asks 5 = .ok (.iand, 1) := by decide +kernel
theorem d_asks_6 : decode b_asks 6 = .ok (.ifCond .eq 7, 3) := by decide +kernel
theorem d_asks_9 : decode b_asks 9 = .ok (.iconst 1, 1) := by decide +kernel
theorem d_asks_10 : decode b_asks 10 = .ok (.goto 4, 3) := by decide +kernel
theorem d_asks_13 : decode b_asks 13 = .ok (.iconst 0, 1) := by decide +kernel
theorem d_asks_14 : decode b_asks 14 = .ok (.ireturn, 1) := by decide +kernel
theorem d_waitEnds_0 : decode b_waitEnds 0 = .ok (.aload_n 0, 1) := by decide +kernel
theorem d_waitEnds_1 : decode b_waitEnds 1 = .ok (.getfield 18, 3) := by decide +kernel
theorem d_waitEnds_4 : decode b_waitEnds 4 = .ok (.ifCond .ne 5, 3) := by decide +kernel
theorem d_waitEnds_7 : decode b_waitEnds 7 = .ok (.iconst 0, 1) := by decide +kernel
theorem d_waitEnds_8 : decode b_waitEnds 8 = .ok (.ireturn, 1) := by decide +kernel
theorem d_waitEnds_9 : decode b_waitEnds 9 = .ok (.aload_n 0, 1) := by decide +kernel
theorem d_waitEnds_10 : decode b_waitEnds 10 = .ok (.dup, 1) := by decide +kernel
theorem d_waitEnds_11 : decode b_waitEnds 11 = .ok (.getfield 18, 3) := by decide +kernel
theorem d_waitEnds_14 : decode b_waitEnds 14 = .ok (.iconst 1, 1) := by decide +kernel
theorem d_waitEnds_15 : decode b_waitEnds 15 = .ok (.isub, 1) := by decide +kernel
theorem d_waitEnds_16 : decode b_waitEnds 16 = .ok (.putfield 18, 3) := by decide +kernel
theorem d_waitEnds_19 : decode b_waitEnds 19 = .ok (.aload_n 0, 1) := by decide +kernel
theorem d_waitEnds_20 : decode b_waitEnds 20 = .ok (.getfield 18, 3) := by decide +kernel
theorem d_waitEnds_23 : decode b_waitEnds 23 = .ok (.ifCond .ne 7, 3) := by decide +kernel
theorem d_waitEnds_26 : decode b_waitEnds 26 = .ok (.iconst 1, 1) := by decide +kernel
theorem d_waitEnds_27 : decode b_waitEnds 27 = .ok (.goto 4, 3) := by decide +kernel
theorem d_waitEnds_30 : decode b_waitEnds 30 = .ok (.iconst 0, 1) := by decide +kernel
theorem d_waitEnds_31 : decode b_waitEnds 31 = .ok (.ireturn, 1) := by decide +kernel
theorem d_Gread_0 : decode b_Gread 0 = .ok (.iload_n 1, 1) := by decide +kernel
theorem d_Gread_1 : decode b_Gread 1 = .ok (.tableswitch 87 0 6 #[43, 57, 62, 67, 72, 77, 82], 43) := by decide +kernel
theorem d_Gread_44 : decode b_Gread 44 = .ok (.aload_n 0, 1) := by decide +kernel
theorem d_Gread_45 : decode b_Gread 45 = .ok (.iload_n 2, 1) := by decide +kernel
theorem d_Gread_46 : decode b_Gread 46 = .ok (.invokevirtual 30, 3) := by decide +kernel
theorem d_Gread_49 : decode b_Gread 49 = .ok (.ifCond .eq 7, 3) := by decide +kernel
theorem d_Gread_52 : decode b_Gread 52 = .ok (.iconst 1, 1) := by decide +kernel
theorem d_Gread_53 : decode b_Gread 53 = .ok (.goto 4, 3) := by decide +kernel
theorem d_Gread_56 : decode b_Gread 56 = .ok (.iconst 0, 1) := by decide +kernel
theorem d_Gread_57 : decode b_Gread 57 = .ok (.ireturn, 1) := by decide +kernel
theorem d_Gread_58 : decode b_Gread 58 = .ok (.aload_n 0, 1) := by decide +kernel
theorem d_Gread_59 : decode b_Gread 59 = .ok (.getfield 18, 3) := by decide +kernel
theorem d_Gread_62 : decode b_Gread 62 = .ok (.ireturn, 1) := by decide +kernel
theorem d_Gread_63 : decode b_Gread 63 = .ok (.aload_n 0, 1) := by decide +kernel
theorem d_Gread_64 : decode b_Gread 64 = .ok (.getfield 9, 3) := by decide +kernel
theorem d_Gread_67 : decode b_Gread 67 = .ok (.ireturn, 1) := by decide +kernel
theorem d_Gread_68 : decode b_Gread 68 = .ok (.aload_n 0, 1) := by decide +kernel
theorem d_Gread_69 : decode b_Gread 69 = .ok (.getfield 15, 3) := by decide +kernel
theorem d_Gread_72 : decode b_Gread 72 = .ok (.ireturn, 1) := by decide +kernel
theorem d_Gread_73 : decode b_Gread 73 = .ok (.aload_n 0, 1) := by decide +kernel
theorem d_Gread_74 : decode b_Gread 74 = .ok (.getfield 21, 3) := by decide +kernel
theorem d_Gread_77 : decode b_Gread 77 = .ok (.ireturn, 1) := by decide +kernel
theorem d_Gread_78 : decode b_Gread 78 = .ok (.aload_n 0, 1) := by decide +kernel
theorem d_Gread_79 : decode b_Gread 79 = .ok (.getfield 24, 3) := by decide +kernel
theorem d_Gread_82 : decode b_Gread 82 = .ok (.ireturn, 1) := by decide +kernel
theorem d_Gread_83 : decode b_Gread 83 = .ok (.aload_n 0, 1) := by decide +kernel
theorem d_Gread_84 : decode b_Gread 84 = .ok (.getfield 27, 3) := by decide +kernel
theorem d_Gread_87 : decode b_Gread 87 = .ok (.ireturn, 1) := by decide +kernel
theorem d_Gread_88 : decode b_Gread 88 = .ok (.iconst (-1), 1) := by decide +kernel
theorem d_Gread_89 : decode b_Gread 89 = .ok (.ireturn, 1) := by decide +kernel
theorem d_Hinit_0 : decode b_Hinit 0 = .ok (.aload_n 0, 1) := by decide +kernel
theorem d_Hinit_1 : decode b_Hinit 1 = .ok (.invokespecial 3, 3) := by decide +kernel
theorem d_Hinit_4 : decode b_Hinit 4 = .ok (.aload_n 0, 1) := by decide +kernel
theorem d_Hinit_5 : decode b_Hinit 5 = .ok (.bipush 16, 2) := by decide +kernel
theorem d_Hinit_7 : decode b_Hinit 7 = .ok (.newarray .int, 2) := by decide +kernel
theorem d_Hinit_9 : decode b_Hinit 9 = .ok (.putfield 11, 3) := by decide +kernel
theorem d_Hinit_12 : decode b_Hinit 12 = .ok (.aload_n 0, 1) := by decide +kernel
theorem d_Hinit_13 : decode b_Hinit 13 = .ok (.bipush 16, 2) := by decide +kernel
theorem d_Hinit_15 : decode b_Hinit 15 = .ok (.newarray .int, 2) := by decide +kernel
theorem d_Hinit_17 : decode b_Hinit 17 = .ok (.putfield 15, 3) := by decide +kernel
theorem d_Hinit_20 : decode b_Hinit 20 = .ok (.aload_n 0, 1) := by decide +kernel
theorem d_Hinit_21 : decode b_Hinit 21 = .ok (.bipush 16, 2) := by decide +kernel
theorem d_Hinit_23 : decode b_Hinit 23 = .ok (.newarray .int, 2) := by decide +kernel
theorem d_Hinit_25 : decode b_Hinit 25 = .ok (.putfield 18, 3) := by decide +kernel
theorem d_Hinit_28 : decode b_Hinit 28 = .ok (.aload_n 0, 1) := by decide +kernel
theorem d_Hinit_29 : decode b_Hinit 29 = .ok (.iconst 0, 1) := by decide +kernel
theorem d_Hinit_30 : decode b_Hinit 30 = .ok (.putfield 21, 3) := by decide +kernel
theorem d_Hinit_33 : decode b_Hinit 33 = .ok (.aload_n 0, 1) := by decide +kernel
theorem d_Hinit_34 : decode b_Hinit 34 = .ok (.iconst 0, 1) := by decide +kernel
theorem d_Hinit_35 : decode b_Hinit 35 = .ok (.putfield 25, 3) := by decide +kernel
theorem d_Hinit_38 : decode b_Hinit 38 = .ok (.aload_n 0, 1) := by decide +kernel
theorem d_Hinit_39 : decode b_Hinit 39 = .ok (.iconst 0, 1) := by decide +kernel
theorem d_Hinit_40 : decode b_Hinit 40 = .ok (.putfield 28, 3) := by decide +kernel
theorem d_Hinit_43 : decode b_Hinit 43 = .ok (.return_, 1) := by decide +kernel
theorem d_add_0 : decode b_add 0 = .ok (.aload_n 0, 1) := by decide +kernel
theorem d_add_1 : decode b_add 1 = .ok (.getfield 11, 3) := by decide +kernel
theorem d_add_4 : decode b_add 4 = .ok (.aload_n 0, 1) := by decide +kernel
theorem d_add_5 : decode b_add 5 = .ok (.getfield 28, 3) := by decide +kernel
theorem d_add_8 : decode b_add 8 = .ok (.iload_n 1, 1) := by decide +kernel
theorem d_add_9 : decode b_add 9 = .ok (.iastore, 1) := by decide +kernel
theorem d_add_10 : decode b_add 10 = .ok (.aload_n 0, 1) := by decide +kernel
theorem d_add_11 : decode b_add 11 = .ok (.getfield 15, 3) := by decide +kernel
theorem d_add_14 : decode b_add 14 = .ok (.aload_n 0, 1) := by decide +kernel
theorem d_add_15 : decode b_add 15 = .ok (.getfield 28, 3) := by decide +kernel
theorem d_add_18 : decode b_add 18 = .ok (.iload_n 2, 1) := by decide +kernel
theorem d_add_19 : decode b_add 19 = .ok (.iastore, 1) := by decide +kernel
theorem d_add_20 : decode b_add 20 = .ok (.aload_n 0, 1) := by decide +kernel
theorem d_add_21 : decode b_add 21 = .ok (.getfield 18, 3) := by decide +kernel
theorem d_add_24 : decode b_add 24 = .ok (.aload_n 0, 1) := by decide +kernel
theorem d_add_25 : decode b_add 25 = .ok (.getfield 28, 3) := by decide +kernel
theorem d_add_28 : decode b_add 28 = .ok (.iload_n 3, 1) := by decide +kernel
theorem d_add_29 : decode b_add 29 = .ok (.iastore, 1) := by decide +kernel
theorem d_add_30 : decode b_add 30 = .ok (.aload_n 0, 1) := by decide +kernel
theorem d_add_31 : decode b_add 31 = .ok (.aload_n 0, 1) := by decide +kernel
theorem d_add_32 : decode b_add 32 = .ok (.getfield 28, 3) := by decide +kernel
theorem d_add_35 : decode b_add 35 = .ok (.iconst 1, 1) := by decide +kernel
theorem d_add_36 : decode b_add 36 = .ok (.iadd, 1) := by decide +kernel
theorem d_add_37 : decode b_add 37 = .ok (.bipush 16, 2) := by decide +kernel
theorem d_add_39 : decode b_add 39 = .ok (.irem, 1) := by decide +kernel
theorem d_add_40 : decode b_add 40 = .ok (.putfield 28, 3) := by decide +kernel
theorem d_add_43 : decode b_add 43 = .ok (.aload_n 0, 1) := by decide +kernel
theorem d_add_44 : decode b_add 44 = .ok (.getfield 25, 3) := by decide +kernel
theorem d_add_47 : decode b_add 47 = .ok (.bipush 16, 2) := by decide +kernel
theorem d_add_49 : decode b_add 49 = .ok (.if_icmp .ge 13, 3) := by decide +kernel
theorem d_add_52 : decode b_add 52 = .ok (.aload_n 0, 1) := by decide +kernel
theorem d_add_53 : decode b_add 53 = .ok (.dup, 1) := by decide +kernel
theorem d_add_54 : decode b_add 54 = .ok (.getfield 25, 3) := by decide +kernel
theorem d_add_57 : decode b_add 57 = .ok (.iconst 1, 1) := by decide +kernel
theorem d_add_58 : decode b_add 58 = .ok (.iadd, 1) := by decide +kernel
theorem d_add_59 : decode b_add 59 = .ok (.putfield 25, 3) := by decide +kernel
theorem d_add_62 : decode b_add 62 = .ok (.aload_n 0, 1) := by decide +kernel
theorem d_add_63 : decode b_add 63 = .ok (.dup, 1) := by decide +kernel
theorem d_add_64 : decode b_add 64 = .ok (.getfield 21, 3) := by decide +kernel
theorem d_add_67 : decode b_add 67 = .ok (.iconst 1, 1) := by decide +kernel
theorem d_add_68 : decode b_add 68 = .ok (.iadd, 1) := by decide +kernel
theorem d_add_69 : decode b_add 69 = .ok (.putfield 21, 3) := by decide +kernel
theorem d_add_72 : decode b_add 72 = .ok (.return_, 1) := by decide +kernel
theorem d_Hread_0 : decode b_Hread 0 = .ok (.iload_n 1, 1) := by decide +kernel
theorem d_Hread_1 : decode b_Hread 1 = .ok (.ifCond .lt 11, 3) := by decide +kernel
theorem d_Hread_4 : decode b_Hread 4 = .ok (.iload_n 1, 1) := by decide +kernel
theorem d_Hread_5 : decode b_Hread 5 = .ok (.aload_n 0, 1) := by decide +kernel
theorem d_Hread_6 : decode b_Hread 6 = .ok (.getfield 25, 3) := by decide +kernel
theorem d_Hread_9 : decode b_Hread 9 = .ok (.if_icmp .lt 5, 3) := by decide +kernel
theorem d_Hread_12 : decode b_Hread 12 = .ok (.iconst (-1), 1) := by decide +kernel
theorem d_Hread_13 : decode b_Hread 13 = .ok (.ireturn, 1) := by decide +kernel
theorem d_Hread_14 : decode b_Hread 14 = .ok (.aload_n 0, 1) := by decide +kernel
theorem d_Hread_15 : decode b_Hread 15 = .ok (.getfield 28, 3) := by decide +kernel
theorem d_Hread_18 : decode b_Hread 18 = .ok (.bipush 16, 2) := by decide +kernel
theorem d_Hread_20 : decode b_Hread 20 = .ok (.iadd, 1) := by decide +kernel
theorem d_Hread_21 : decode b_Hread 21 = .ok (.iconst 1, 1) := by decide +kernel
theorem d_Hread_22 : decode b_Hread 22 = .ok (.isub, 1) := by decide +kernel
theorem d_Hread_23 : decode b_Hread 23 = .ok (.iload_n 1, 1) := by decide +kernel
theorem d_Hread_24 : decode b_Hread 24 = .ok (.isub, 1) := by decide +kernel
theorem d_Hread_25 : decode b_Hread 25 = .ok (.bipush 16, 2) := by decide +kernel
theorem d_Hread_27 : decode b_Hread 27 = .ok (.irem, 1) := by decide +kernel
theorem d_Hread_28 : decode b_Hread 28 = .ok (.istore_n 3, 1) := by decide +kernel
theorem d_Hread_29 : decode b_Hread 29 = .ok (.iload_n 2, 1) := by decide +kernel
theorem d_Hread_30 : decode b_Hread 30 = .ok (.tableswitch 47 0 2 #[26, 33, 40], 26) := by decide +kernel
theorem d_Hread_56 : decode b_Hread 56 = .ok (.aload_n 0, 1) := by decide +kernel
theorem d_Hread_57 : decode b_Hread 57 = .ok (.getfield 11, 3) := by decide +kernel
theorem d_Hread_60 : decode b_Hread 60 = .ok (.iload_n 3, 1) := by decide +kernel
theorem d_Hread_61 : decode b_Hread 61 = .ok (.iaload, 1) := by decide +kernel
theorem d_Hread_62 : decode b_Hread 62 = .ok (.ireturn, 1) := by decide +kernel
theorem d_Hread_63 : decode b_Hread 63 = .ok (.aload_n 0, 1) := by decide +kernel
theorem d_Hread_64 : decode b_Hread 64 = .ok (.getfield 15, 3) := by decide +kernel
theorem d_Hread_67 : decode b_Hread 67 = .ok (.iload_n 3, 1) := by decide +kernel
theorem d_Hread_68 : decode b_Hread 68 = .ok (.iaload, 1) := by decide +kernel
theorem d_Hread_69 : decode b_Hread 69 = .ok (.ireturn, 1) := by decide +kernel
theorem d_Hread_70 : decode b_Hread 70 = .ok (.aload_n 0, 1) := by decide +kernel
theorem d_Hread_71 : decode b_Hread 71 = .ok (.getfield 18, 3) := by decide +kernel
theorem d_Hread_74 : decode b_Hread 74 = .ok (.iload_n 3, 1) := by decide +kernel
theorem d_Hread_75 : decode b_Hread 75 = .ok (.iaload, 1) := by decide +kernel
theorem d_Hread_76 : decode b_Hread 76 = .ok (.ireturn, 1) := by decide +kernel
theorem d_Hread_77 : decode b_Hread 77 = .ok (.iconst (-1), 1) := by decide +kernel
theorem d_Hread_78 : decode b_Hread 78 = .ok (.ireturn, 1) := by decide +kernel
theorem d_Tinit_0 : decode b_Tinit 0 = .ok (.aload_n 0, 1) := by decide +kernel
theorem d_Tinit_1 : decode b_Tinit 1 = .ok (.invokespecial 3, 3) := by decide +kernel
theorem d_Tinit_4 : decode b_Tinit 4 = .ok (.aload_n 0, 1) := by decide +kernel
theorem d_Tinit_5 : decode b_Tinit 5 = .ok (.iconst 1, 1) := by decide +kernel
theorem d_Tinit_6 : decode b_Tinit 6 = .ok (.putfield 9, 3) := by decide +kernel
theorem d_Tinit_9 : decode b_Tinit 9 = .ok (.aload_n 0, 1) := by decide +kernel
theorem d_Tinit_10 : decode b_Tinit 10 = .ok (.iconst 1, 1) := by decide +kernel
theorem d_Tinit_11 : decode b_Tinit 11 = .ok (.putfield 15, 3) := by decide +kernel
theorem d_Tinit_14 : decode b_Tinit 14 = .ok (.aload_n 0, 1) := by decide +kernel
theorem d_Tinit_15 : decode b_Tinit 15 = .ok (.iconst 0, 1) := by decide +kernel
theorem d_Tinit_16 : decode b_Tinit 16 = .ok (.putfield 18, 3) := by decide +kernel
theorem d_Tinit_19 : decode b_Tinit 19 = .ok (.aload_n 0, 1) := by decide +kernel
theorem d_Tinit_20 : decode b_Tinit 20 = .ok (.iconst 0, 1) := by decide +kernel
theorem d_Tinit_21 : decode b_Tinit 21 = .ok (.putfield 21, 3) := by decide +kernel
theorem d_Tinit_24 : decode b_Tinit 24 = .ok (.aload_n 0, 1) := by decide +kernel
theorem d_Tinit_25 : decode b_Tinit 25 = .ok (.iconst 0, 1) := by decide +kernel
theorem d_Tinit_26 : decode b_Tinit 26 = .ok (.putfield 25, 3) := by decide +kernel
theorem d_Tinit_29 : decode b_Tinit 29 = .ok (.aload_n 0, 1) := by decide +kernel
theorem d_Tinit_30 : decode b_Tinit 30 = .ok (.iconst 0, 1) := by decide +kernel
theorem d_Tinit_31 : decode b_Tinit 31 = .ok (.putfield 28, 3) := by decide +kernel
theorem d_Tinit_34 : decode b_Tinit 34 = .ok (.aload_n 0, 1) := by decide +kernel
theorem d_Tinit_35 : decode b_Tinit 35 = .ok (.iconst 0, 1) := by decide +kernel
theorem d_Tinit_36 : decode b_Tinit 36 = .ok (.putfield 31, 3) := by decide +kernel
theorem d_Tinit_39 : decode b_Tinit 39 = .ok (.aload_n 0, 1) := by decide +kernel
theorem d_Tinit_40 : decode b_Tinit 40 = .ok (.iconst 0, 1) := by decide +kernel
theorem d_Tinit_41 : decode b_Tinit 41 = .ok (.putfield 34, 3) := by decide +kernel
theorem d_Tinit_44 : decode b_Tinit 44 = .ok (.aload_n 0, 1) := by decide +kernel
theorem d_Tinit_45 : decode b_Tinit 45 = .ok (.iconst 0, 1) := by decide +kernel
theorem d_Tinit_46 : decode b_Tinit 46 = .ok (.putfield 37, 3) := by decide +kernel
theorem d_Tinit_49 : decode b_Tinit 49 = .ok (.return_, 1) := by decide +kernel
theorem d_countDown_0 : decode b_countDown 0 = .ok (.aload_n 0, 1) := by decide +kernel
theorem d_countDown_1 : decode b_countDown 1 = .ok (.getfield 25, 3) := by decide +kernel
theorem d_countDown_4 : decode b_countDown 4 = .ok (.ifCond .ne 5, 3) := by decide +kernel
theorem d_countDown_7 : decode b_countDown 7 = .ok (.iconst 0, 1) := by decide +kernel
theorem d_countDown_8 : decode b_countDown 8 = .ok (.ireturn, 1) := by decide +kernel
theorem d_countDown_9 : decode b_countDown 9 = .ok (.aload_n 0, 1) := by decide +kernel
theorem d_countDown_10 : decode b_countDown 10 = .ok (.getfield 15, 3) := by decide +kernel
theorem d_countDown_13 : decode b_countDown 13 = .ok (.iconst 1, 1) := by decide +kernel
theorem d_countDown_14 : decode b_countDown 14 = .ok (.if_icmp .le 15, 3) := by decide +kernel
theorem d_countDown_17 : decode b_countDown 17 = .ok (.aload_n 0, 1) := by decide +kernel
theorem d_countDown_18 : decode b_countDown 18 = .ok (.dup, 1) := by decide +kernel
theorem d_countDown_19 : decode b_countDown 19 = .ok (.getfield 15, 3) := by decide +kernel
theorem d_countDown_22 : decode b_countDown 22 = .ok (.iconst 1, 1) := by decide +kernel
theorem d_countDown_23 : decode b_countDown 23 = .ok (.isub, 1) := by decide +kernel
theorem d_countDown_24 : decode b_countDown 24 = .ok (.putfield 15, 3) := by decide +kernel
theorem d_countDown_27 : decode b_countDown 27 = .ok (.iconst 0, 1) := by decide +kernel
theorem d_countDown_28 : decode b_countDown 28 = .ok (.ireturn, 1) := by decide +kernel
theorem d_countDown_29 : decode b_countDown 29 = .ok (.aload_n 0, 1) := by decide +kernel
theorem d_countDown_30 : decode b_countDown 30 = .ok (.aload_n 0, 1) := by decide +kernel
theorem d_countDown_31 : decode b_countDown 31 = .ok (.getfield 9, 3) := by decide +kernel
theorem d_countDown_34 : decode b_countDown 34 = .ok (.putfield 15, 3) := by decide +kernel
theorem d_countDown_37 : decode b_countDown 37 = .ok (.aload_n 0, 1) := by decide +kernel
theorem d_countDown_38 : decode b_countDown 38 = .ok (.dup, 1) := by decide +kernel
theorem d_countDown_39 : decode b_countDown 39 = .ok (.getfield 28, 3) := by decide +kernel
theorem d_countDown_42 : decode b_countDown 42 = .ok (.iconst 1, 1) := by decide +kernel
theorem d_countDown_43 : decode b_countDown 43 = .ok (.iadd, 1) := by decide +kernel
theorem d_countDown_44 : decode b_countDown 44 = .ok (.putfield 28, 3) := by decide +kernel
theorem d_countDown_47 : decode b_countDown 47 = .ok (.aload_n 0, 1) := by decide +kernel
theorem d_countDown_48 : decode b_countDown 48 = .ok (.getfield 21, 3) := by decide +kernel
theorem d_countDown_51 : decode b_countDown 51 = .ok (.ifCond .eq 8, 3) := by decide +kernel
theorem d_countDown_54 : decode b_countDown 54 = .ok (.aload_n 0, 1) := by decide +kernel
theorem d_countDown_55 : decode b_countDown 55 = .ok (.iconst 0, 1) := by decide +kernel
theorem d_countDown_56 : decode b_countDown 56 = .ok (.putfield 25, 3) := by decide +kernel
theorem d_countDown_59 : decode b_countDown 59 = .ok (.iconst 1, 1) := by decide +kernel
theorem d_countDown_60 : decode b_countDown 60 = .ok (.ireturn, 1) := by decide +kernel
theorem d_Tread_0 : decode b_Tread 0 = .ok (.iload_n 1, 1) := by decide +kernel
theorem d_Tread_1 : decode b_Tread 1 = .ok (.tableswitch 112 0 8 #[51, 56, 61, 66, 79, 92, 97, 102, 107], 51) := by decide +kernel
theorem d_Tread_52 : decode b_Tread 52 = .ok (.aload_n 0, 1) := by decide +kernel
theorem d_Tread_53 : decode b_Tread 53 = .ok (.getfield 15, 3) := by decide +kernel
theorem d_Tread_56 : decode b_Tread 56 = .ok (.ireturn, 1) := by decide +kernel
theorem d_Tread_57 : decode b_Tread 57 = .ok (.aload_n 0, 1) := by decide +kernel
theorem d_Tread_58 : decode b_Tread 58 = .ok (.getfield 9, 3) := by decide +kernel
theorem d_Tread_61 : decode b_Tread 61 = .ok (.ireturn, 1) := by decide +kernel
theorem d_Tread_62 : decode b_Tread 62 = .ok (.aload_n 0, 1) := by decide +kernel
theorem d_Tread_63 : decode b_Tread 63 = .ok (.getfield 18, 3) := by decide +kernel
theorem d_Tread_66 : decode b_Tread 66 = .ok (.ireturn, 1) := by decide +kernel
theorem d_Tread_67 : decode b_Tread 67 = .ok (.aload_n 0, 1) := by decide +kernel
theorem d_Tread_68 : decode b_Tread 68 = .ok (.getfield 25, 3) := by decide +kernel
theorem d_Tread_71 : decode b_Tread 71 = .ok (.ifCond .eq 7, 3) := by decide +kernel
theorem d_Tread_74 : decode b_Tread 74 = .ok (.iconst 1, 1) := by decide +kernel
theorem d_Tread_75 : decode b_Tread 75 = .ok (.goto 4, 3) := by decide +kernel
theorem d_Tread_78 : decode b_Tread 78 = .ok (.iconst 0, 1) := by decide +kernel
theorem d_Tread_79 : decode b_Tread 79 = .ok (.ireturn, 1) := by decide +kernel
theorem d_Tread_80 : decode b_Tread 80 = .ok (.aload_n 0, 1) := by decide +kernel
theorem d_Tread_81 : decode b_Tread 81 = .ok (.getfield 21, 3) := by decide +kernel
theorem d_Tread_84 : decode b_Tread 84 = .ok (.ifCond .eq 7, 3) := by decide +kernel
theorem d_Tread_87 : decode b_Tread 87 = .ok (.iconst 1, 1) := by decide +kernel
theorem d_Tread_88 : decode b_Tread 88 = .ok (.goto 4, 3) := by decide +kernel
theorem d_Tread_91 : decode b_Tread 91 = .ok (.iconst 0, 1) := by decide +kernel
theorem d_Tread_92 : decode b_Tread 92 = .ok (.ireturn, 1) := by decide +kernel
theorem d_Tread_93 : decode b_Tread 93 = .ok (.aload_n 0, 1) := by decide +kernel
theorem d_Tread_94 : decode b_Tread 94 = .ok (.getfield 28, 3) := by decide +kernel
theorem d_Tread_97 : decode b_Tread 97 = .ok (.ireturn, 1) := by decide +kernel
theorem d_Tread_98 : decode b_Tread 98 = .ok (.aload_n 0, 1) := by decide +kernel
theorem d_Tread_99 : decode b_Tread 99 = .ok (.getfield 31, 3) := by decide +kernel
theorem d_Tread_102 : decode b_Tread 102 = .ok (.ireturn, 1) := by decide +kernel
theorem d_Tread_103 : decode b_Tread 103 = .ok (.aload_n 0, 1) := by decide +kernel
theorem d_Tread_104 : decode b_Tread 104 = .ok (.getfield 34, 3) := by decide +kernel
theorem d_Tread_107 : decode b_Tread 107 = .ok (.ireturn, 1) := by decide +kernel
theorem d_Tread_108 : decode b_Tread 108 = .ok (.aload_n 0, 1) := by decide +kernel
theorem d_Tread_109 : decode b_Tread 109 = .ok (.getfield 37, 3) := by decide +kernel
theorem d_Tread_112 : decode b_Tread 112 = .ok (.ireturn, 1) := by decide +kernel
theorem d_Tread_113 : decode b_Tread 113 = .ok (.iconst (-1), 1) := by decide +kernel
theorem d_Tread_114 : decode b_Tread 114 = .ok (.ireturn, 1) := by decide +kernel
end
section
/-! CORE: contracts over a world that is a function of a state; one list of words for all methods -/
abbrev St : Type := Nat → Nat → Int32
def up2 (σ : St) (i k : Nat) (v : Int32) : St := fun j => if j = i then upd (σ i) k v else σ j
theorem up2_ss (σ : St) (i k : Nat) (v : Int32) : up2 σ i k v i k = v := by simp [up2, upd]
theorem up2_sn (σ : St) (i : Nat) {k k2 : Nat} (v : Int32) (h : k2 ≠ k) : up2 σ i k v i k2 = σ i k2 := by simp [up2, upd, h]
theorem up2_n (σ : St) {i j : Nat} (k : Nat) (v : Int32) (h : j ≠ i) : up2 σ i k v j = σ j := by simp [up2, h]
theorem up2_s (σ : St) (i k : Nat) (v : Int32) : up2 σ i k v i = upd (σ i) k v := by simp [up2]
theorem good_of {w : Cond} (h : w ∈ BIG) : GoodIn BIG (w :: BIG) := fun v hv => by
  have hv' : v ∈ BIG := by
    rcases List.mem_cons.mp hv with e | e
    · rw [e]; exact h
    · exact e
  exact ⟨hv', good_of_word (BIG_good hv')⟩
def xN (U : State) : Prop := ∀ w ∈ NESTS, va_Nw w U
theorem isNest_cases {w : Cond} (h : isNest w = true) : (∃ a i b n d h, w = .fieldLinkNest a i b n d h) ∨ (∃ a i x h, w = .methodLinkNest a i x h) ∨ ∃ C, w = .arrayOver (.object C) := by
  unfold isNest at h
  split at h
  · exact Or.inl ⟨_, _, _, _, _, _, rfl⟩
  · exact Or.inr (Or.inl ⟨_, _, _, _, rfl⟩)
  · exact Or.inr (Or.inr ⟨_, rfl⟩)
  · exact absurd h (by decide)
theorem xN.warm {s U : State} (hW : s.WarmedH U.vm) (h : xN s) : xN U := fun w hw => by
  have h2 := h w hw
  rcases isNest_cases (NESTS_ok w hw) with ⟨a, i, b, n, d, k, rfl⟩ | ⟨a, i, x, k, rfl⟩ | ⟨C, rfl⟩
  · exact va_Nw.warmF hW h2
  · exact va_Nw.warmM hW h2
  · exact va_AO.moved hW.alike h2
theorem xN.same {u U : State} (e : u.vm = U.vm) (h : xN u) : xN U := fun w hw => by
  have h2 := h w hw
  rcases isNest_cases (NESTS_ok w hw) with ⟨a, i, b, n, d, k, rfl⟩ | ⟨a, i, x, k, rfl⟩ | ⟨C, rfl⟩
  · exact va_Nw.same rfl e h2
  · exact va_Nw.same rfl e h2
  · exact va_AO.moved (by rw [e]; exact Vm.Alike.refl U.vm) h2
theorem xN.use {s : State} (h : xN s) {w : Cond} (hw : w ∈ NESTS) {A : Array Value} : w.before A s = true := by
  have h2 := h w hw
  rcases isNest_cases (NESTS_ok w hw) with ⟨a, i, b, n, d, k, rfl⟩ | ⟨a, i, x, k, rfl⟩ | ⟨C, rfl⟩
  · exact va_Nw.use rfl h2
  · exact va_Nw.use rfl h2
  · exact va_AO.use h2
def xPre (D : va_G) (tys : List (ClassId × FieldType)) (w : va_W) (sz : Nat) (U : State) : Prop :=
  U.heap.size = sz ∧ va_P D classes w U.heap ∧ va_K D classes tys U ∧ va_D (fun _ => True) w ∧ xN U
def xPost (D : va_G) (tys : List (ClassId × FieldType)) (A : Nat → Prop) (wf : St → va_W) (τ : St) (t : State) : Prop :=
  va_P D classes (wf τ) t.heap ∧ va_K D classes tys t ∧ va_D A (wf τ)
theorem xPre_blind {D : va_G} {tys : List (ClassId × FieldType)} {w : va_W} {sz : Nat} {av : List Value} : FrameBlind (va_Pc av (xPre D tys w sz)) := fun a U g mk q => by
  obtain ⟨q0, q1, qP, qK, qD, qN⟩ := q
  exact ⟨q0, q1, qP, va_K.moved (u := U) (U := U.calling g mk a) (Vm.Alike.refl U.vm) qK, qD, xN.same (u := U) (U := U.calling g mk a) rfl qN⟩
/-- a method that answers an int (or a boolean): from the world wf σ it answers r0 and leaves the world wf τ0 -/
def KI (l : Launch) (D : va_G) (tys : List (ClassId × FieldType)) (wf : St → va_W) (rm : Room) (y : MethodName) (b : ByteArray) (mx : Nat) (ret : FieldType) (av : List Value) (σ : St) (r0 : Int32) (τ0 : St) : Prop :=
  ∀ sz : Nat, Met l y (.code y b mx (some ret) :: BIG) rm (va_Pc av (xPre D tys (wf σ) sz)) (va_Qi (fun (r : Int32) (τ : St) => r = r0 ∧ τ = τ0) (xPost D tys (va_A (wf σ) sz) wf) (va_A (wf σ) sz)) 0 0 (va_A (wf σ) sz)
/-- a method that answers nothing -/
def KV (l : Launch) (D : va_G) (tys : List (ClassId × FieldType)) (wf : St → va_W) (rm : Room) (y : MethodName) (b : ByteArray) (mx : Nat) (av : List Value) (σ : St) (τ0 : St) : Prop :=
  ∀ sz : Nat, Met l y (.code y b mx none :: BIG) rm (va_Pc av (xPre D tys (wf σ) sz)) (va_Qv (fun (τ : St) => τ = τ0) (xPost D tys (va_A (wf σ) sz) wf) (va_A (wf σ) sz)) 0 0 (va_A (wf σ) sz)
set_option maxHeartbeats 4000000 in
theorem KI.of {l : Launch} {D : va_G} {tys : List (ClassId × FieldType)} {wf : St → va_W} {rm : Room} {y : MethodName} {b : ByteArray} {mx : Nat} {ret : FieldType} {av : List Value} {σ : St} {r0 : Int32} {τ0 : St}
    (hy : plainName y.cls = true) (hav : (lg_sl av).length ≤ mx)
    (body : ∀ (p : Program) (e : Env) (s : State) (m : MethodId) (args : Array Value) (below : List Frame) (meth : Method) (c : Code) (A : Nat → Prop) (Q : State → Prop) (ls : Array Slot),
      p.tables.exec = Jvm.exec → c.code = b → c.maxLocals = mx → s.vm.findClass y.cls = some m.cls → (∀ w ∈ BIG, w.before args s = true) → va_K D classes tys s → xN s → (∀ q : Nat, s.heap.size ≤ q → A q) →
      va_P D classes (wf σ) s.heap → va_D A (wf σ) → va_S A s.heap s.heap [] → lv_has ls mx (lv_args 0 av) →
      (∀ (H : Heap) (locs : List Loc) (ls : Array Slot) (pc : Nat) (v : Int32) (τ : St), va_P D classes (wf τ) H → va_D A (wf τ) → va_S A s.heap H locs → narrow ret (.int v) = .int v → decode b pc = .ok (.ireturn, 1) → v = r0 → τ = τ0 → W p l e rm s m args below meth c H locs 0 0 Q (F0 m pc ls [.int v])) →
      W p l e rm s m args below meth c s.heap [] 0 0 Q (F0 m 0 ls [])) :
    KI l D tys wf rm y b mx ret av σ r0 τ0 := by
  intro sz
  refine Met.ofW (cc := b) (maxL := mx) (ret := some ret) hy rfl ?_
  intro p e s m args below meth c s₁ B hml hv
  obtain ⟨rfl, hsz, hP, hK, hD0, hN⟩ := hv
  have hts := atoms_spec (ws := .code y b mx (some ret) :: BIG) B.pre
  have hown : s.vm.findClass y.cls = some m.cls := findClass_of_methodNamed B.named
  have hlocks := B.notSynchronized
  subst hsz
  have hD := hD0.self (sz := s.heap.size)
  have hl := lv_entry av (n := mx) hav
  rw [lg_entry_eq]
  refine body p e s m _ below meth c (va_A (wf σ) s.heap.size) _ _ B.exec B.bytes hml hown (fun w h => hts w (List.mem_cons_of_mem _ h)) hK hN (fun q h => Or.inr h) hP hD va_S.rf hl ?_
  intro H locs ls pc v τ hP hD hS hn hd e1 e2
  exact W.zret B.exec B.bytes B.returns hn (fun t ht hW => ⟨⟨v, τ, rfl, ⟨e1, e2⟩, by rw [ht]; exact hP, va_K.moved hW.alike hK, hD⟩, hS.F ht⟩) hS.2.2 hd
set_option maxHeartbeats 4000000 in
theorem KV.of {l : Launch} {D : va_G} {tys : List (ClassId × FieldType)} {wf : St → va_W} {rm : Room} {y : MethodName} {b : ByteArray} {mx : Nat} {av : List Value} {σ : St} {τ0 : St}
    (hy : plainName y.cls = true) (hav : (lg_sl av).length ≤ mx)
    (body : ∀ (p : Program) (e : Env) (s : State) (m : MethodId) (args : Array Value) (below : List Frame) (meth : Method) (c : Code) (A : Nat → Prop) (Q : State → Prop) (ls : Array Slot),
      p.tables.exec = Jvm.exec → c.code = b → c.maxLocals = mx → s.vm.findClass y.cls = some m.cls → (∀ w ∈ BIG, w.before args s = true) → va_K D classes tys s → xN s → (∀ q : Nat, s.heap.size ≤ q → A q) →
      va_P D classes (wf σ) s.heap → va_D A (wf σ) → va_S A s.heap s.heap [] → lv_has ls mx (lv_args 0 av) →
      (∀ (H : Heap) (locs : List Loc) (ls : Array Slot) (pc : Nat) (τ : St), va_P D classes (wf τ) H → va_D A (wf τ) → va_S A s.heap H locs → decode b pc = .ok (.return_, 1) → τ = τ0 → W p l e rm s m args below meth c H locs 0 0 Q (F0 m pc ls [])) →
      W p l e rm s m args below meth c s.heap [] 0 0 Q (F0 m 0 ls [])) :
    KV l D tys wf rm y b mx av σ τ0 := by
  intro sz
  refine Met.ofW (cc := b) (maxL := mx) (ret := none) hy rfl ?_
  intro p e s m args below meth c s₁ B hml hv
  obtain ⟨rfl, hsz, hP, hK, hD0, hN⟩ := hv
  have hts := atoms_spec (ws := .code y b mx none :: BIG) B.pre
  have hown : s.vm.findClass y.cls = some m.cls := findClass_of_methodNamed B.named
  have hlocks := B.notSynchronized
  subst hsz
  have hD := hD0.self (sz := s.heap.size)
  have hl := lv_entry av (n := mx) hav
  rw [lg_entry_eq]
  refine body p e s m _ below meth c (va_A (wf σ) s.heap.size) _ _ B.exec B.bytes hml hown (fun w h => hts w (List.mem_cons_of_mem _ h)) hK hN (fun q h => Or.inr h) hP hD va_S.rf hl ?_
  intro H locs ls pc τ hP hD hS hd e2
  exact W.vret B.exec B.bytes B.returns (fun t ht hW => ⟨⟨τ, rfl, e2, by rw [ht]; exact hP, va_K.moved hW.alike hK, hD⟩, hS.F ht⟩) hS.2.2 hd
end
section
/-! CALLS over contracts KI, KV -/
abbrev CalleeOk (y : MethodName) (b : ByteArray) (mx : Nat) (ret : Option FieldType) (n : Nat) : Prop :=
  Cond.code y b mx ret ∈ BIG ∧ Cond.initialized y.cls ∈ BIG ∧ y.cls ≠ "java/lang/invoke/MethodHandle" ∧ y.cls ≠ "java/lang/invoke/VarHandle" ∧ (parseMethodDescriptor y.desc).map (fun d => d.parameters.length) = some n
abbrev InstOk (y : MethodName) : Prop := Cond.instanceMethod y ∈ BIG ∧ Cond.selects y.cls y y ∈ BIG
abbrev RoomOk (rm R : Room) (mx : Nat) : Prop := rm.cells = 0 ∧ rm.slots = 0 ∧ rm.frames + 1 ≤ R.frames ∧ 8 + (mx + 11) + rm.locals ≤ R.locals
theorem k_free {D : va_G} {A : Nat → Prop} {w : va_W} {H0 H : Heap} {locs : List Loc} (hD : va_D A w) (hS : va_S A H0 H locs) (hA : ∀ q : Nat, H0.size ≤ q → A q) : ∀ q, va_A w H.size q → A q := fun q h => by
  rcases h with ⟨k, e, h⟩ | h
  · exact hD.2 k _ h
  · exact hA q (Nat.le_trans hS.1 h)
section KC
variable {p : Program} {l : Launch} {e : Env} {R : Room} {s : State} {m : MethodId} {args : Array Value} {below : List Frame} {meth : Method} {c : Code} {H : Heap} {locs : List Loc} {cells slots : Nat} {Q : State → Prop}
  {D : va_G} {tys : List (ClassId × FieldType)} {wf : St → va_W} {rm : Room} {y : MethodName} {b cc : ByteArray} {mx nL n index pc : Nat} {ret : FieldType} {As rest st : List Value} {σ τ0 : St} {r0 : Int32} {A : Nat → Prop} {own : String} {ls : Array Slot} {ad ci N : Nat} {fs : List Value} {T : u_T} {host : String}
/-- what a contract asks at its start, out of the caller's world -/
theorem k_pre (hK : va_K D classes tys s) (hN : xN s) (hP : va_P D classes (wf σ) H) (hD : va_D A (wf σ)) (av : List Value) : ∀ U : State, U.heap = H → s.WarmedH U.vm → va_Pc av (xPre D tys (wf σ) H.size) av.toArray U :=
  fun U hU hW => ⟨rfl, by rw [hU], by rw [hU]; exact hP, va_K.moved hW.alike hK, hD.weaken (fun _ _ _ _ => trivial), hN.warm hW⟩
theorem k_cS (hx : p.tables.exec = Jvm.exec) (hb : c.code = cc) (hml : c.maxLocals = nL) (hown : s.vm.findClass own = some m.cls) (hG : ∀ w ∈ BIG, w.before args s = true) (hK : va_K D classes tys s) (hN : xN s) (hA : ∀ q : Nat, s.heap.size ≤ q → A q)
    (hP : va_P D classes (wf σ) H) (hD : va_D A (wf σ)) (hS : va_S A s.heap H locs) (hM : KI l D tys wf rm y b mx ret As σ r0 τ0) (ok : CalleeOk y b mx (some ret) n) (hst1 : Cond.static y ∈ BIG) (hlink : Cond.methodLink own index y ∈ BIG) (hrm : RoomOk rm R mx)
    (hn : As.length = n) (hlz : ls.size = nL) (hst : st = As.reverse ++ rest) (hroom : (rest.map fun v => v.category).sum ≤ 8) (hfit : cells ≤ R.cells ∧ slots ≤ R.slots) (hdg : decode cc pc = .ok (.invokestatic index, 3))
    (kk : ∀ (H1 : Heap) (locs1 : List Loc), va_P D classes (wf τ0) H1 → va_D A (wf τ0) → va_S A s.heap H1 locs1 → W p l e R s m args below meth c H1 locs1 cells slots Q (F0 m (pc + 3) ls (.int r0 :: rest))) :
    W p l e R s m args below meth c H locs cells slots Q (F0 m pc ls st) := by
  have hFc := k_free (D := D) hD hS hA
  refine va_calli (va_runS (As := As) (rest := rest) (Ts := BIG) ⟨hx, hb, hml, hown, hG⟩ (hM H.size) ⟨callB_of n hG (good_of ok.1) rfl hrm.1 hrm.2.1 (hG _ ok.2.1) (hG _ hlink) ⟨ok.2.2.1, ok.2.2.2.1, ok.2.2.2.2⟩ ⟨hrm.2.2.1, hrm.2.2.2⟩, hG _ hst1⟩ ⟨xPre_blind, k_pre hK hN hP hD As⟩ rfl hn hlz hst (lv_room hroom) hdg ⟨hfit.1, hfit.2⟩) hS (fun q _ h => hFc q h) hFc (fun r u t H1 locs1 ht hvm hw hB hz1 hk1 hS1 => ?_)
  obtain ⟨e1, e2⟩ := hw
  subst e1; subst e2
  obtain ⟨hP1, hK1, hD1⟩ := hB
  rw [ht] at hP1
  exact kk H1 locs1 hP1 (hD1.weaken (fun k q _ h => hFc _ h)) hS1
theorem k_cV (hx : p.tables.exec = Jvm.exec) (hb : c.code = cc) (hml : c.maxLocals = nL) (hown : s.vm.findClass own = some m.cls) (hG : ∀ w ∈ BIG, w.before args s = true) (hK : va_K D classes tys s) (hN : xN s) (hA : ∀ q : Nat, s.heap.size ≤ q → A q)
    (hP : va_P D classes (wf σ) H) (hD : va_D A (wf σ)) (hS : va_S A s.heap H locs) (hM : KI l D tys wf rm y b mx ret (.ref ad :: As) σ r0 τ0) (ok : CalleeOk y b mx (some ret) n) (io : InstOk y) (hlink : Cond.methodLink own index y ∈ BIG) (hrm : RoomOk rm R mx)
    (q0 : Nat) (he : (wf σ)[q0]? = some (ad, .inr (ci, fs))) (hc : classes[ci]? = some (y.cls, T, N)) (hn : As.length = n) (hlz : ls.size = nL) (hst : st = As.reverse ++ .ref ad :: rest) (hroom : (rest.map fun v => v.category).sum ≤ 8) (hfit : cells ≤ R.cells ∧ slots ≤ R.slots) (hdg : decode cc pc = .ok (.invokevirtual index, 3))
    (kk : ∀ (H1 : Heap) (locs1 : List Loc), va_P D classes (wf τ0) H1 → va_D A (wf τ0) → va_S A s.heap H1 locs1 → W p l e R s m args below meth c H1 locs1 cells slots Q (F0 m (pc + 3) ls (.int r0 :: rest))) :
    W p l e R s m args below meth c H locs cells slots Q (F0 m pc ls st) := by
  have hFc := k_free (D := D) hD hS hA
  refine va_calli (va_runV (As := As) (rest := rest) (Ts := BIG) (C := y.cls) ⟨hx, hb, hml, hown, hG⟩ (hM H.size) ⟨callB_of n hG (good_of ok.1) rfl hrm.1 hrm.2.1 (hG _ ok.2.1) (hG _ hlink) ⟨ok.2.2.1, ok.2.2.2.1, ok.2.2.2.2⟩ ⟨hrm.2.2.1, hrm.2.2.2⟩, hG _ io.1, hG _ io.2⟩ ⟨xPre_blind, va_recv hK hP hc he, k_pre hK hN hP hD (.ref ad :: As)⟩ rfl hn hlz hst (lv_room hroom) hdg ⟨hfit.1, hfit.2⟩) hS (fun q _ h => hFc q h) hFc (fun r u t H1 locs1 ht hvm hw hB hz1 hk1 hS1 => ?_)
  obtain ⟨e1, e2⟩ := hw
  subst e1; subst e2
  obtain ⟨hP1, hK1, hD1⟩ := hB
  rw [ht] at hP1
  exact kk H1 locs1 hP1 (hD1.weaken (fun k q _ h => hFc _ h)) hS1
theorem k_cVv (hx : p.tables.exec = Jvm.exec) (hb : c.code = cc) (hml : c.maxLocals = nL) (hown : s.vm.findClass own = some m.cls) (hG : ∀ w ∈ BIG, w.before args s = true) (hK : va_K D classes tys s) (hN : xN s) (hA : ∀ q : Nat, s.heap.size ≤ q → A q)
    (hP : va_P D classes (wf σ) H) (hD : va_D A (wf σ)) (hS : va_S A s.heap H locs) (hM : KV l D tys wf rm y b mx (.ref ad :: As) σ τ0) (ok : CalleeOk y b mx none n) (io : InstOk y) (hlink : Cond.methodLink own index y ∈ BIG) (hrm : RoomOk rm R mx)
    (q0 : Nat) (he : (wf σ)[q0]? = some (ad, .inr (ci, fs))) (hc : classes[ci]? = some (y.cls, T, N)) (hn : As.length = n) (hlz : ls.size = nL) (hst : st = As.reverse ++ .ref ad :: rest) (hroom : (rest.map fun v => v.category).sum ≤ 8) (hfit : cells ≤ R.cells ∧ slots ≤ R.slots) (hdg : decode cc pc = .ok (.invokevirtual index, 3))
    (kk : ∀ (H1 : Heap) (locs1 : List Loc), va_P D classes (wf τ0) H1 → va_D A (wf τ0) → va_S A s.heap H1 locs1 → W p l e R s m args below meth c H1 locs1 cells slots Q (F0 m (pc + 3) ls rest)) :
    W p l e R s m args below meth c H locs cells slots Q (F0 m pc ls st) := by
  have hFc := k_free (D := D) hD hS hA
  refine va_callv (va_runV (As := As) (rest := rest) (Ts := BIG) (C := y.cls) ⟨hx, hb, hml, hown, hG⟩ (hM H.size) ⟨callB_of n hG (good_of ok.1) rfl hrm.1 hrm.2.1 (hG _ ok.2.1) (hG _ hlink) ⟨ok.2.2.1, ok.2.2.2.1, ok.2.2.2.2⟩ ⟨hrm.2.2.1, hrm.2.2.2⟩, hG _ io.1, hG _ io.2⟩ ⟨xPre_blind, va_recv hK hP hc he, k_pre hK hN hP hD (.ref ad :: As)⟩ rfl hn hlz hst (lv_room hroom) hdg ⟨hfit.1, hfit.2⟩) hS (fun q _ h => hFc q h) hFc (fun u t H1 locs1 ht hvm hw hB hz1 hk1 hS1 => ?_)
  subst hw
  obtain ⟨hP1, hK1, hD1⟩ := hB
  rw [ht] at hP1
  exact kk H1 locs1 hP1 (hD1.weaken (fun k q _ h => hFc _ h)) hS1
theorem k_cN (hx : p.tables.exec = Jvm.exec) (hb : c.code = cc) (hml : c.maxLocals = nL) (hown : s.vm.findClass own = some m.cls) (hG : ∀ w ∈ BIG, w.before args s = true) (hK : va_K D classes tys s) (hN : xN s) (hA : ∀ q : Nat, s.heap.size ≤ q → A q)
    (hP : va_P D classes (wf σ) H) (hD : va_D A (wf σ)) (hS : va_S A s.heap H locs) (hM : KI l D tys wf rm y b mx ret (.ref ad :: As) σ r0 τ0) (ok : CalleeOk y b mx (some ret) n) (io : InstOk y) (hlink : Cond.methodLinkNest own index y host ∈ NESTS) (hrm : RoomOk rm R mx)
    (q0 : Nat) (he : (wf σ)[q0]? = some (ad, .inr (ci, fs))) (hc : classes[ci]? = some (y.cls, T, N)) (hn : As.length = n) (hlz : ls.size = nL) (hst : st = As.reverse ++ .ref ad :: rest) (hroom : (rest.map fun v => v.category).sum ≤ 8) (hfit : cells ≤ R.cells ∧ slots ≤ R.slots) (hdg : decode cc pc = .ok (.invokevirtual index, 3))
    (kk : ∀ (H1 : Heap) (locs1 : List Loc), va_P D classes (wf τ0) H1 → va_D A (wf τ0) → va_S A s.heap H1 locs1 → W p l e R s m args below meth c H1 locs1 cells slots Q (F0 m (pc + 3) ls (.int r0 :: rest))) :
    W p l e R s m args below meth c H locs cells slots Q (F0 m pc ls st) := by
  have hFc := k_free (D := D) hD hS hA
  refine va_calli (va_runVN (As := As) (rest := rest) (Ts := BIG) (C := y.cls) ⟨hx, hb, hml, hown, hG⟩ (hM H.size) ⟨va_cnB n hG (good_of ok.1) rfl hrm.1 hrm.2.1 (hN _ hlink) (hG _ ok.2.1) ⟨ok.2.2.1, ok.2.2.2.1, ok.2.2.2.2⟩ ⟨hrm.2.2.1, hrm.2.2.2⟩, hG _ io.1, hG _ io.2⟩ ⟨xPre_blind, va_recv hK hP hc he, k_pre hK hN hP hD (.ref ad :: As)⟩ rfl hn hlz hst (lv_room hroom) hdg ⟨hfit.1, hfit.2⟩) hS (fun q _ h => hFc q h) hFc (fun r u t H1 locs1 ht hvm hw hB hz1 hk1 hS1 => ?_)
  obtain ⟨e1, e2⟩ := hw
  subst e1; subst e2
  obtain ⟨hP1, hK1, hD1⟩ := hB
  rw [ht] at hP1
  exact kk H1 locs1 hP1 (hD1.weaken (fun k q _ h => hFc _ h)) hS1
theorem k_cNv (hx : p.tables.exec = Jvm.exec) (hb : c.code = cc) (hml : c.maxLocals = nL) (hown : s.vm.findClass own = some m.cls) (hG : ∀ w ∈ BIG, w.before args s = true) (hK : va_K D classes tys s) (hN : xN s) (hA : ∀ q : Nat, s.heap.size ≤ q → A q)
    (hP : va_P D classes (wf σ) H) (hD : va_D A (wf σ)) (hS : va_S A s.heap H locs) (hM : KV l D tys wf rm y b mx (.ref ad :: As) σ τ0) (ok : CalleeOk y b mx none n) (io : InstOk y) (hlink : Cond.methodLinkNest own index y host ∈ NESTS) (hrm : RoomOk rm R mx)
    (q0 : Nat) (he : (wf σ)[q0]? = some (ad, .inr (ci, fs))) (hc : classes[ci]? = some (y.cls, T, N)) (hn : As.length = n) (hlz : ls.size = nL) (hst : st = As.reverse ++ .ref ad :: rest) (hroom : (rest.map fun v => v.category).sum ≤ 8) (hfit : cells ≤ R.cells ∧ slots ≤ R.slots) (hdg : decode cc pc = .ok (.invokevirtual index, 3))
    (kk : ∀ (H1 : Heap) (locs1 : List Loc), va_P D classes (wf τ0) H1 → va_D A (wf τ0) → va_S A s.heap H1 locs1 → W p l e R s m args below meth c H1 locs1 cells slots Q (F0 m (pc + 3) ls rest)) :
    W p l e R s m args below meth c H locs cells slots Q (F0 m pc ls st) := by
  have hFc := k_free (D := D) hD hS hA
  refine va_callv (va_runVN (As := As) (rest := rest) (Ts := BIG) (C := y.cls) ⟨hx, hb, hml, hown, hG⟩ (hM H.size) ⟨va_cnB n hG (good_of ok.1) rfl hrm.1 hrm.2.1 (hN _ hlink) (hG _ ok.2.1) ⟨ok.2.2.1, ok.2.2.2.1, ok.2.2.2.2⟩ ⟨hrm.2.2.1, hrm.2.2.2⟩, hG _ io.1, hG _ io.2⟩ ⟨xPre_blind, va_recv hK hP hc he, k_pre hK hN hP hD (.ref ad :: As)⟩ rfl hn hlz hst (lv_room hroom) hdg ⟨hfit.1, hfit.2⟩) hS (fun q _ h => hFc q h) hFc (fun u t H1 locs1 ht hvm hw hB hz1 hk1 hS1 => ?_)
  subst hw
  obtain ⟨hP1, hK1, hD1⟩ := hB
  rw [ht] at hP1
  exact kk H1 locs1 hP1 (hD1.weaken (fun k q _ h => hFc _ h)) hS1
end KC
end
section
/-! THE FRAME: a call over the last part of a world -/
theorem fr_r {w wc : va_W} {k : Nat} {q : Nat × va_E} (hk : wc[k]? = some q) : (w ++ wc)[w.length + k]? = some q := by
  rw [List.getElem?_append_right (Nat.le_add_right _ _), Nat.add_sub_cancel_left]; exact hk
theorem fr_l {w wc : va_W} {k : Nat} {q : Nat × va_E} (hk : w[k]? = some q) : (w ++ wc)[k]? = some q := by
  rw [List.getElem?_append_left (List.getElem?_eq_some_iff.mp hk).1]; exact hk
theorem va_P_right {D : va_G} {cl : List vw_C} {w wc : va_W} {H : Heap} (hP : va_P D cl (w ++ wc) H) : va_P D cl wc H := fun k q hk => hP (w.length + k) q (fr_r hk)
theorem va_P_left {D : va_G} {cl : List vw_C} {w wc : va_W} {H : Heap} (hP : va_P D cl (w ++ wc) H) : va_P D cl w H := fun k q hk => hP k q (fr_l hk)
theorem va_D_right {A : Nat → Prop} {w wc : va_W} (hD : va_D A (w ++ wc)) : va_D A wc := ⟨fun i j p q hi hj e => by have h := hD.1 (w.length + i) (w.length + j) p q (fr_r hi) (fr_r hj) e; omega, fun k q hk => hD.2 (w.length + k) q (fr_r hk)⟩
theorem va_D_left {A : Nat → Prop} {w wc : va_W} (hD : va_D A (w ++ wc)) : va_D A w := ⟨fun i j p q hi hj e => hD.1 i j p q (fr_l hi) (fr_l hj) e, fun k q hk => hD.2 k q (fr_l hk)⟩
theorem k_swapP {D : va_G} {cl : List vw_C} {w1 w2 : va_W} {H : Heap} (h : va_P D cl (w1 ++ w2) H) : va_P D cl (w2 ++ w1) H := va_P.swap (a := []) (b := w1) (c := w2) h
theorem k_swapD {A : Nat → Prop} {w1 w2 : va_W} (h : va_D A (w1 ++ w2)) : va_D A (w2 ++ w1) := va_D.swap (a := []) (b := w1) (c := w2) h
theorem k_joinL {A0 : Nat → Prop} {D : va_G} {cl : List vw_C} {w wc w1 : va_W} {H H1 : Heap} (hP : va_P D cl (w ++ wc) H) (hD : va_D A0 (w ++ wc)) (hk : ∀ q : Nat, q < H.size → ¬ va_A wc H.size q → H1[q]? = H[q]?) (hF : ∀ q, va_A wc H.size q → A0 q) (hP1 : va_P D cl w1 H1) (hD1 : va_D (va_A wc H.size) w1) : va_P D cl (w ++ w1) H1 ∧ va_D A0 (w ++ w1) := by
  have apart : ∀ (k : Nat) (q : Nat × va_E), w[k]? = some q → q.1 < H.size ∧ ¬ va_A wc H.size q.1 := by
    intro k q hq
    have hl := (hP k q (fr_l hq)).lt
    refine ⟨hl, fun h => ?_⟩
    rcases h with ⟨k2, e, h⟩ | h
    · have hij := hD.1 k (w.length + k2) q (q.1, e) (fr_l hq) (fr_r h) rfl
      have := (List.getElem?_eq_some_iff.mp hq).1
      omega
    · omega
  refine ⟨va_P.app (fun k q hq => ?_) hP1, va_D.app (va_D_left hD) (hD1.weaken (fun k q _ h => hF q.1 h)) (fun i j x y hx hy hxy => ?_)⟩
  · obtain ⟨g1, g2⟩ := apart k q hq
    exact (hP k q (fr_l hq)).kept (hk q.1 g1 g2)
  · exact (apart i x hx).2 (by rw [hxy]; exact hD1.2 j y hy)
theorem k_freeR {A : Nat → Prop} {w wc : va_W} {H0 H : Heap} {locs : List Loc} (hD : va_D A (w ++ wc)) (hS : va_S A H0 H locs) (hA : ∀ q : Nat, H0.size ≤ q → A q) : ∀ q, va_A wc H.size q → A q := fun q h => by
  rcases h with ⟨k, e, h⟩ | h
  · exact hD.2 _ _ (fr_r h)
  · exact hA q (Nat.le_trans hS.1 h)
section KF
variable {p : Program} {l : Launch} {e : Env} {R : Room} {s : State} {m : MethodId} {args : Array Value} {below : List Frame} {meth : Method} {c : Code} {H : Heap} {locs : List Loc} {cells slots : Nat} {Q : State → Prop}
  {D : va_G} {tys : List (ClassId × FieldType)} {wf : St → va_W} {w : va_W} {rm : Room} {y : MethodName} {b cc : ByteArray} {mx nL n index pc : Nat} {ret : FieldType} {As rest st : List Value} {σ τ0 : St} {r0 : Int32} {A : Nat → Prop} {own : String} {ls : Array Slot} {ad ci N : Nat} {fs : List Value} {T : u_T} {host : String}
/-- the law's calls -/
theorem k_fV (hx : p.tables.exec = Jvm.exec) (hb : c.code = cc) (hml : c.maxLocals = nL) (hown : s.vm.findClass own = some m.cls) (hG : ∀ w ∈ BIG, w.before args s = true) (hK : va_K D classes tys s) (hN : xN s) (hA : ∀ q : Nat, s.heap.size ≤ q → A q)
    (hP : va_P D classes (w ++ wf σ) H) (hD : va_D A (w ++ wf σ)) (hS : va_S A s.heap H locs) (hM : KI l D tys wf rm y b mx ret (.ref ad :: As) σ r0 τ0) (ok : CalleeOk y b mx (some ret) n) (io : InstOk y) (hlink : Cond.methodLink own index y ∈ BIG) (hrm : RoomOk rm R mx)
    (q0 : Nat) (he : (wf σ)[q0]? = some (ad, .inr (ci, fs))) (hc : classes[ci]? = some (y.cls, T, N)) (hn : As.length = n) (hlz : ls.size = nL) (hst : st = As.reverse ++ .ref ad :: rest) (hroom : (rest.map fun v => v.category).sum ≤ 8) (hfit : cells ≤ R.cells ∧ slots ≤ R.slots) (hdg : decode cc pc = .ok (.invokevirtual index, 3))
    (kk : ∀ (H1 : Heap) (locs1 : List Loc), va_P D classes (w ++ wf τ0) H1 → va_D A (w ++ wf τ0) → va_S A s.heap H1 locs1 → W p l e R s m args below meth c H1 locs1 cells slots Q (F0 m (pc + 3) ls (.int r0 :: rest))) :
    W p l e R s m args below meth c H locs cells slots Q (F0 m pc ls st) := by
  have hFc := k_freeR hD hS hA
  refine va_calli (va_runV (As := As) (rest := rest) (Ts := BIG) (C := y.cls) ⟨hx, hb, hml, hown, hG⟩ (hM H.size) ⟨callB_of n hG (good_of ok.1) rfl hrm.1 hrm.2.1 (hG _ ok.2.1) (hG _ hlink) ⟨ok.2.2.1, ok.2.2.2.1, ok.2.2.2.2⟩ ⟨hrm.2.2.1, hrm.2.2.2⟩, hG _ io.1, hG _ io.2⟩ ⟨xPre_blind, va_recv hK (va_P_right hP) hc he, k_pre hK hN (va_P_right hP) (va_D_right hD) (.ref ad :: As)⟩ rfl hn hlz hst (lv_room hroom) hdg ⟨hfit.1, hfit.2⟩) hS (fun q _ h => hFc q h) hFc (fun r u t H1 locs1 ht hvm hw hB hz1 hk1 hS1 => ?_)
  obtain ⟨e1, e2⟩ := hw
  subst e1; subst e2
  obtain ⟨hP1, hK1, hD1⟩ := hB
  rw [ht] at hP1
  obtain ⟨hP2, hD2⟩ := k_joinL hP hD hk1 hFc hP1 hD1
  exact kk H1 locs1 hP2 hD2 hS1
/-- a nest mate's constructor, over the last part of a world -/
theorem k_fIN (hx : p.tables.exec = Jvm.exec) (hb : c.code = cc) (hml : c.maxLocals = nL) (hown : s.vm.findClass own = some m.cls) (hG : ∀ w ∈ BIG, w.before args s = true) (hK : va_K D classes tys s) (hN : xN s) (hA : ∀ q : Nat, s.heap.size ≤ q → A q)
    (hP : va_P D classes (w ++ wf σ) H) (hD : va_D A (w ++ wf σ)) (hS : va_S A s.heap H locs) (hM : KV l D tys wf rm y b mx (.ref ad :: As) σ τ0) (ok : CalleeOk y b mx none n) (hy1 : y.name = "<init>") (hin : Cond.instanceMethod y ∈ BIG) (hlink : Cond.methodLinkNest own index y host ∈ NESTS) (hrm : RoomOk rm R mx)
    (hn : As.length = n) (hlz : ls.size = nL) (hst : st = As.reverse ++ .ref ad :: rest) (hroom : (rest.map fun v => v.category).sum ≤ 8) (hfit : cells ≤ R.cells ∧ slots ≤ R.slots) (hdg : decode cc pc = .ok (.invokespecial index, 3))
    (kk : ∀ (H1 : Heap) (locs1 : List Loc), va_P D classes (w ++ wf τ0) H1 → va_D A (w ++ wf τ0) → va_S A s.heap H1 locs1 → W p l e R s m args below meth c H1 locs1 cells slots Q (F0 m (pc + 3) ls rest)) :
    W p l e R s m args below meth c H locs cells slots Q (F0 m pc ls st) := by
  have hFc := k_freeR hD hS hA
  refine va_callv (va_runIN (As := As) (rest := rest) (Ts := BIG) ⟨hx, hb, hml, hown, hG⟩ (hM H.size) ⟨va_cnB n hG (good_of ok.1) rfl hrm.1 hrm.2.1 (hN _ hlink) (hG _ ok.2.1) ⟨ok.2.2.1, ok.2.2.2.1, ok.2.2.2.2⟩ ⟨hrm.2.2.1, hrm.2.2.2⟩, hy1, hG _ hin⟩ ⟨xPre_blind, k_pre hK hN (va_P_right hP) (va_D_right hD) (.ref ad :: As)⟩ rfl hn hlz hst (lv_room hroom) hdg ⟨hfit.1, hfit.2⟩) hS (fun q _ h => hFc q h) hFc (fun u t H1 locs1 ht hvm hw hB hz1 hk1 hS1 => ?_)
  subst hw
  obtain ⟨hP1, hK1, hD1⟩ := hB
  rw [ht] at hP1
  obtain ⟨hP2, hD2⟩ := k_joinL hP hD hk1 hFc hP1 hD1
  exact kk H1 locs1 hP2 hD2 hS1
end KF
end
section
/-! CONSTRUCTORS that make cells -/
def KB (l : Launch) (D : va_G) (tys : List (ClassId × FieldType)) (w0 : va_W) (rm : Room) (y : MethodName) (b : ByteArray) (mx : Nat) (av : List Value) (mc ms : Nat) (Post : (Nat → Prop) → State → Prop) : Prop :=
  ∀ sz : Nat, Met l y (.code y b mx none :: BIG) rm (va_Pc av (xPre D tys w0 sz)) (va_Qv (fun _ : Unit => True) (fun _ t => Post (va_A w0 sz) t) (va_A w0 sz)) mc ms (va_A w0 sz)
set_option maxHeartbeats 4000000 in
theorem KB.of {l : Launch} {D : va_G} {tys : List (ClassId × FieldType)} {w0 : va_W} {rm : Room} {y : MethodName} {b : ByteArray} {mx : Nat} {av : List Value} {mc ms : Nat} {Post : (Nat → Prop) → State → Prop}
    (hy : plainName y.cls = true) (hav : (lg_sl av).length ≤ mx) (hname : y.name = "<init>")
    (body : ∀ (p : Program) (e : Env) (s : State) (m : MethodId) (args : Array Value) (below : List Frame) (meth : Method) (c : Code) (A : Nat → Prop) (Q : State → Prop) (ls : Array Slot),
      p.tables.exec = Jvm.exec → c.code = b → c.maxLocals = mx → s.vm.findClass y.cls = some m.cls → (∀ w ∈ BIG, w.before args s = true) → va_K D classes tys s → xN s → (∀ q : Nat, s.heap.size ≤ q → A q) → meth.name = "<init>" →
      va_P D classes w0 s.heap → va_D A w0 → va_S A s.heap s.heap [] → lv_has ls mx (lv_args 0 av) →
      (∀ (H : Heap) (locs : List Loc) (ls : Array Slot) (pc : Nat), (∀ t : State, t.heap = H → s.vm.Alike t.vm → Post A t) → va_S A s.heap H locs → decode b pc = .ok (.return_, 1) → W p l e rm s m args below meth c H locs mc ms Q (F0 m pc ls [])) →
      W p l e rm s m args below meth c s.heap [] 0 0 Q (F0 m 0 ls [])) :
    KB l D tys w0 rm y b mx av mc ms Post := by
  intro sz
  refine Met.ofW (cc := b) (maxL := mx) (ret := none) hy rfl ?_
  intro p e s m args below meth c s₁ B hml hv
  obtain ⟨rfl, hsz, hP, hK, hD0, hN⟩ := hv
  have hts := atoms_spec (ws := .code y b mx none :: BIG) B.pre
  have hown : s.vm.findClass y.cls = some m.cls := findClass_of_methodNamed B.named
  have hin : meth.name = "<init>" := (name_of_methodNamed B.named B.method).1.trans hname
  have hlocks := B.notSynchronized
  subst hsz
  have hD := hD0.self (sz := s.heap.size)
  have hl := lv_entry av (n := mx) hav
  rw [lg_entry_eq]
  refine body p e s m _ below meth c (va_A w0 s.heap.size) _ _ B.exec B.bytes hml hown (fun w h => hts w (List.mem_cons_of_mem _ h)) hK hN (fun q h => Or.inr h) hin hP hD va_S.rf hl ?_
  intro H locs ls pc hpost hS hd
  exact W.vret B.exec B.bytes B.returns (fun t ht hW => ⟨⟨(), rfl, trivial, hpost t ht hW.alike⟩, hS.F ht⟩) hS.2.2 hd
section KBC
variable {p : Program} {l : Launch} {e : Env} {R : Room} {s : State} {m : MethodId} {args : Array Value} {below : List Frame} {meth : Method} {c : Code} {H : Heap} {locs : List Loc} {cells slots mc ms : Nat} {Q : State → Prop}
  {D : va_G} {tys : List (ClassId × FieldType)} {w w0 : va_W} {rm : Room} {y : MethodName} {b cc : ByteArray} {mx nL n index pc : Nat} {As rest st : List Value} {A : Nat → Prop} {own : String} {ls : Array Slot} {ad : Nat} {host : String} {Post : (Nat → Prop) → State → Prop}
theorem k_pre0 (hK : va_K D classes tys s) (hN : xN s) (hP : va_P D classes w0 H) (hD : va_D A w0) (av : List Value) : ∀ U : State, U.heap = H → s.WarmedH U.vm → va_Pc av (xPre D tys w0 H.size) av.toArray U :=
  fun U hU hW => ⟨rfl, by rw [hU], by rw [hU]; exact hP, va_K.moved hW.alike hK, hD.weaken (fun _ _ _ _ => trivial), hN.warm hW⟩
/-- a nest mate's -/
theorem k_bIN (hx : p.tables.exec = Jvm.exec) (hb : c.code = cc) (hml : c.maxLocals = nL) (hown : s.vm.findClass own = some m.cls) (hG : ∀ w ∈ BIG, w.before args s = true) (hK : va_K D classes tys s) (hN : xN s) (hA : ∀ q : Nat, s.heap.size ≤ q → A q)
    (hP : va_P D classes (w ++ w0) H) (hD : va_D A (w ++ w0)) (hS : va_S A s.heap H locs) (hM : KB l D tys w0 rm y b mx (.ref ad :: As) mc ms Post) (ok : CalleeOk y b mx none n) (hy1 : y.name = "<init>") (hin : Cond.instanceMethod y ∈ BIG) (hlink : Cond.methodLinkNest own index y host ∈ NESTS) (hrm : rm.cells = mc ∧ rm.slots = ms ∧ rm.frames + 1 ≤ R.frames ∧ 8 + (mx + 11) + rm.locals ≤ R.locals)
    (hn : As.length = n) (hlz : ls.size = nL) (hst : st = As.reverse ++ .ref ad :: rest) (hroom : (rest.map fun v => v.category).sum ≤ 8) (hfit : cells + mc ≤ R.cells ∧ slots + ms ≤ R.slots) (hdg : decode cc pc = .ok (.invokespecial index, 3))
    (kk : ∀ (H1 : Heap) (locs1 : List Loc) (t : State), t.heap = H1 → s.vm.Alike t.vm → Post (va_A w0 H.size) t → (∀ w1, va_P D classes w1 H1 → va_D (va_A w0 H.size) w1 → va_P D classes (w ++ w1) H1 ∧ va_D A (w ++ w1)) → va_S A s.heap H1 locs1 → W p l e R s m args below meth c H1 locs1 (cells + mc) (slots + ms) Q (F0 m (pc + 3) ls rest)) :
    W p l e R s m args below meth c H locs cells slots Q (F0 m pc ls st) := by
  have hFc := k_freeR hD hS hA
  refine va_callv (va_runIN (As := As) (rest := rest) (Ts := BIG) ⟨hx, hb, hml, hown, hG⟩ (hM H.size) ⟨va_cnB n hG (good_of ok.1) rfl hrm.1 hrm.2.1 (hN _ hlink) (hG _ ok.2.1) ⟨ok.2.2.1, ok.2.2.2.1, ok.2.2.2.2⟩ ⟨hrm.2.2.1, hrm.2.2.2⟩, hy1, hG _ hin⟩ ⟨xPre_blind, k_pre0 hK hN (va_P_right hP) (va_D_right hD) (.ref ad :: As)⟩ rfl hn hlz hst (lv_room hroom) hdg hfit) hS (fun q _ h => hFc q h) hFc (fun u t H1 locs1 ht hvm hw hB hz1 hk1 hS1 => ?_)
  exact kk H1 locs1 t ht hvm hB (fun w1 hP1 hD1 => k_joinL hP hD hk1 hFc hP1 hD1) hS1
/-- the law's -/
theorem k_bI (hx : p.tables.exec = Jvm.exec) (hb : c.code = cc) (hml : c.maxLocals = nL) (hown : s.vm.findClass own = some m.cls) (hG : ∀ w ∈ BIG, w.before args s = true) (hK : va_K D classes tys s) (hN : xN s) (hA : ∀ q : Nat, s.heap.size ≤ q → A q)
    (hP : va_P D classes (w ++ w0) H) (hD : va_D A (w ++ w0)) (hS : va_S A s.heap H locs) (hM : KB l D tys w0 rm y b mx (.ref ad :: As) mc ms Post) (ok : CalleeOk y b mx none n) (hy1 : y.name = "<init>") (hin : Cond.instanceMethod y ∈ BIG) (hlink : Cond.methodLink own index y ∈ BIG) (hrm : rm.cells = mc ∧ rm.slots = ms ∧ rm.frames + 1 ≤ R.frames ∧ 8 + (mx + 11) + rm.locals ≤ R.locals)
    (hn : As.length = n) (hlz : ls.size = nL) (hst : st = As.reverse ++ .ref ad :: rest) (hroom : (rest.map fun v => v.category).sum ≤ 8) (hfit : cells + mc ≤ R.cells ∧ slots + ms ≤ R.slots) (hdg : decode cc pc = .ok (.invokespecial index, 3))
    (kk : ∀ (H1 : Heap) (locs1 : List Loc) (t : State), t.heap = H1 → s.vm.Alike t.vm → Post (va_A w0 H.size) t → (∀ w1, va_P D classes w1 H1 → va_D (va_A w0 H.size) w1 → va_P D classes (w ++ w1) H1 ∧ va_D A (w ++ w1)) → va_S A s.heap H1 locs1 → W p l e R s m args below meth c H1 locs1 (cells + mc) (slots + ms) Q (F0 m (pc + 3) ls rest)) :
    W p l e R s m args below meth c H locs cells slots Q (F0 m pc ls st) := by
  have hFc := k_freeR hD hS hA
  refine va_callv (va_runI (As := As) (rest := rest) (Ts := BIG) ⟨hx, hb, hml, hown, hG⟩ (hM H.size) ⟨callB_of n hG (good_of ok.1) rfl hrm.1 hrm.2.1 (hG _ ok.2.1) (hG _ hlink) ⟨ok.2.2.1, ok.2.2.2.1, ok.2.2.2.2⟩ ⟨hrm.2.2.1, hrm.2.2.2⟩, hy1, hG _ hin⟩ ⟨xPre_blind, k_pre0 hK hN (va_P_right hP) (va_D_right hD) (.ref ad :: As)⟩ rfl hn hlz hst (lv_room hroom) hdg hfit) hS (fun q _ h => hFc q h) hFc (fun u t H1 locs1 ht hvm hw hB hz1 hk1 hS1 => ?_)
  exact kk H1 locs1 t ht hvm hB (fun w1 hP1 hD1 => k_joinL hP hD hk1 hFc hP1 hD1) hS1
end KBC
end
section
/-! THE CLASS'S WORLD. State: 0 the object (3 status, 4 now), 1 history (3 total, 4 filled, 5 place), 2 bits, 3 servers, 4 times, 5 + t timer t (0 period, 1 count, 2 source, 3 once, 4 runs, 5 ended, 6 missed, 7 served, 8 cleared), 13 + g gate g (0 mask, 1 delay, 2 toWait, 3 bitsServed, 4 timesIdle, 5 latest). a: addresses, ca: classes of the arrays (0 int[], 1 Timer[], 2 Gate[]) -/
def cXf (a : Nat → Nat) (σ : St) : List Value := [.ref (a 17), .ref (a 18), .ref (a 1), .int (σ 0 3), .int (σ 0 4)]
def cHf (a : Nat → Nat) (σ : St) : List Value := [.ref (a 2), .ref (a 3), .ref (a 4), .int (σ 1 3), .int (σ 1 4), .int (σ 1 5)]
def cTf (σ : St) (i : Nat) : List Value := [.int (σ i 0), .int (σ i 1), .int (σ i 2), .int (σ i 3), .int (σ i 4), .int (σ i 5), .int (σ i 6), .int (σ i 7), .int (σ i 8)]
def cGf (σ : St) (i : Nat) : List Value := [.int (σ i 0), .int (σ i 1), .int (σ i 2), .int (σ i 3), .int (σ i 4), .int (σ i 5)]
def wX (a : Nat → Nat) (ca : Nat → ClassId) (σ : St) : va_W := [(a 0, .inr (0, cXf a σ)), (a 1, .inr (1, cHf a σ)), (a 2, .inl (ca 0, 16, .inl (σ 2))), (a 3, .inl (ca 0, 16, .inl (σ 3))), (a 4, .inl (ca 0, 16, .inl (σ 4))),
  (a 5, .inr (2, cTf σ 5)), (a 6, .inr (2, cTf σ 6)), (a 7, .inr (2, cTf σ 7)), (a 8, .inr (2, cTf σ 8)), (a 9, .inr (2, cTf σ 9)), (a 10, .inr (2, cTf σ 10)), (a 11, .inr (2, cTf σ 11)), (a 12, .inr (2, cTf σ 12)),
  (a 13, .inr (3, cGf σ 13)), (a 14, .inr (3, cGf σ 14)), (a 15, .inr (3, cGf σ 15)), (a 16, .inr (3, cGf σ 16)),
  (a 17, .inl (ca 1, 8, .inr (.inr (.inr (.inr (fun i => some (a (5 + i)))))))), (a 18, .inl (ca 2, 4, .inr (.inr (.inr (.inr (fun i => some (a (13 + i))))))))]
def tX (ca : Nat → ClassId) : List (ClassId × FieldType) := [(ca 0, .int), (ca 1, .object R_T), (ca 2, .object R_G)]
theorem wX_X {a : Nat → Nat} {ca : Nat → ClassId} {σ : St} : (wX a ca σ)[0]? = some (a 0, .inr (0, cXf a σ)) := rfl
theorem wX_H {a : Nat → Nat} {ca : Nat → ClassId} {σ : St} : (wX a ca σ)[1]? = some (a 1, .inr (1, cHf a σ)) := rfl
theorem wX_T {a : Nat → Nat} {ca : Nat → ClassId} {σ : St} {j : Nat} (hj : j < 8) : (wX a ca σ)[5 + j]? = some (a (5 + j), .inr (2, cTf σ (5 + j))) := by
  match j, hj with
  | 0, _ => rfl
  | 1, _ => rfl
  | 2, _ => rfl
  | 3, _ => rfl
  | 4, _ => rfl
  | 5, _ => rfl
  | 6, _ => rfl
  | 7, _ => rfl
  | j + 8, h => exact absurd h (by omega)
theorem wX_G {a : Nat → Nat} {ca : Nat → ClassId} {σ : St} {j : Nat} (hj : j < 4) : (wX a ca σ)[13 + j]? = some (a (13 + j), .inr (3, cGf σ (13 + j))) := by
  match j, hj with
  | 0, _ => rfl
  | 1, _ => rfl
  | 2, _ => rfl
  | 3, _ => rfl
  | j + 4, h => exact absurd h (by omega)
theorem cTf_set (σ : St) (i : Nat) {k : Nat} (hk : k < 9) (v : Int32) : (cTf σ i).set k (.int v) = cTf (up2 σ i k v) i := by
  match k, hk with
  | 0, _ => simp [cTf, up2, upd]
  | 1, _ => simp [cTf, up2, upd]
  | 2, _ => simp [cTf, up2, upd]
  | 3, _ => simp [cTf, up2, upd]
  | 4, _ => simp [cTf, up2, upd]
  | 5, _ => simp [cTf, up2, upd]
  | 6, _ => simp [cTf, up2, upd]
  | 7, _ => simp [cTf, up2, upd]
  | 8, _ => simp [cTf, up2, upd]
  | k + 9, h => exact absurd h (by omega)
theorem cGf_set (σ : St) (i : Nat) {k : Nat} (hk : k < 6) (v : Int32) : (cGf σ i).set k (.int v) = cGf (up2 σ i k v) i := by
  match k, hk with
  | 0, _ => simp [cGf, up2, upd]
  | 1, _ => simp [cGf, up2, upd]
  | 2, _ => simp [cGf, up2, upd]
  | 3, _ => simp [cGf, up2, upd]
  | 4, _ => simp [cGf, up2, upd]
  | 5, _ => simp [cGf, up2, upd]
  | k + 6, h => exact absurd h (by omega)
theorem cXf_n {a : Nat → Nat} {σ : St} {i k : Nat} {v : Int32} (h : i ≠ 0) : cXf a (up2 σ i k v) = cXf a σ := by simp [cXf, up2, Ne.symm h]
theorem cHf_n {a : Nat → Nat} {σ : St} {i k : Nat} {v : Int32} (h : i ≠ 1) : cHf a (up2 σ i k v) = cHf a σ := by simp [cHf, up2, Ne.symm h]
theorem cTf_n {σ : St} {i j k : Nat} {v : Int32} (h : i ≠ j) : cTf (up2 σ i k v) j = cTf σ j := by simp [cTf, up2, Ne.symm h]
theorem cGf_n {σ : St} {i j k : Nat} {v : Int32} (h : i ≠ j) : cGf (up2 σ i k v) j = cGf σ j := by simp [cGf, up2, Ne.symm h]
theorem wX_putT {a : Nat → Nat} {ca : Nat → ClassId} {σ : St} {j k : Nat} (hj : j < 8) (hk : k < 9) (v : Int32) : (wX a ca σ).set (5 + j) (a (5 + j), .inr (2, (cTf σ (5 + j)).set k (.int v))) = wX a ca (up2 σ (5 + j) k v) := by
  rw [cTf_set σ (5 + j) hk v]
  unfold wX
  rw [cXf_n (by omega), cHf_n (by omega), cGf_n (by omega), cGf_n (by omega), cGf_n (by omega), cGf_n (by omega), up2_n _ _ _ (show 2 ≠ 5 + j by omega), up2_n _ _ _ (show 3 ≠ 5 + j by omega), up2_n _ _ _ (show 4 ≠ 5 + j by omega)]
  match j, hj with
  | 0, _ => simp [cTf_n]
  | 1, _ => simp [cTf_n]
  | 2, _ => simp [cTf_n]
  | 3, _ => simp [cTf_n]
  | 4, _ => simp [cTf_n]
  | 5, _ => simp [cTf_n]
  | 6, _ => simp [cTf_n]
  | 7, _ => simp [cTf_n]
  | j + 8, h => exact absurd h (by omega)
theorem wX_putG {a : Nat → Nat} {ca : Nat → ClassId} {σ : St} {j k : Nat} (hj : j < 4) (hk : k < 6) (v : Int32) : (wX a ca σ).set (13 + j) (a (13 + j), .inr (3, (cGf σ (13 + j)).set k (.int v))) = wX a ca (up2 σ (13 + j) k v) := by
  rw [cGf_set σ (13 + j) hk v]
  unfold wX
  rw [cXf_n (by omega), cHf_n (by omega), cTf_n (by omega), cTf_n (by omega), cTf_n (by omega), cTf_n (by omega), cTf_n (by omega), cTf_n (by omega), cTf_n (by omega), cTf_n (by omega), up2_n _ _ _ (show 2 ≠ 13 + j by omega), up2_n _ _ _ (show 3 ≠ 13 + j by omega), up2_n _ _ _ (show 4 ≠ 13 + j by omega)]
  match j, hj with
  | 0, _ => simp [cGf_n]
  | 1, _ => simp [cGf_n]
  | 2, _ => simp [cGf_n]
  | 3, _ => simp [cGf_n]
  | j + 4, h => exact absurd h (by omega)
theorem wX_putX3 {a : Nat → Nat} {ca : Nat → ClassId} {σ : St} (v : Int32) : (wX a ca σ).set 0 (a 0, .inr (0, (cXf a σ).set 3 (.int v))) = wX a ca (up2 σ 0 3 v) := rfl
theorem wX_putX4 {a : Nat → Nat} {ca : Nat → ClassId} {σ : St} (v : Int32) : (wX a ca σ).set 0 (a 0, .inr (0, (cXf a σ).set 4 (.int v))) = wX a ca (up2 σ 0 4 v) := rfl
theorem wX_putH3 {a : Nat → Nat} {ca : Nat → ClassId} {σ : St} (v : Int32) : (wX a ca σ).set 1 (a 1, .inr (1, (cHf a σ).set 3 (.int v))) = wX a ca (up2 σ 1 3 v) := rfl
theorem wX_putH4 {a : Nat → Nat} {ca : Nat → ClassId} {σ : St} (v : Int32) : (wX a ca σ).set 1 (a 1, .inr (1, (cHf a σ).set 4 (.int v))) = wX a ca (up2 σ 1 4 v) := rfl
theorem wX_putH5 {a : Nat → Nat} {ca : Nat → ClassId} {σ : St} (v : Int32) : (wX a ca σ).set 1 (a 1, .inr (1, (cHf a σ).set 5 (.int v))) = wX a ca (up2 σ 1 5 v) := rfl
theorem wX_putA2 {a : Nat → Nat} {ca : Nat → ClassId} {σ : St} (k : Nat) (v : Int32) : (wX a ca σ).set 2 (a 2, .inl (ca 0, 16, .inl (upd (σ 2) k v))) = wX a ca (up2 σ 2 k v) := rfl
theorem wX_putA3 {a : Nat → Nat} {ca : Nat → ClassId} {σ : St} (k : Nat) (v : Int32) : (wX a ca σ).set 3 (a 3, .inl (ca 0, 16, .inl (upd (σ 3) k v))) = wX a ca (up2 σ 3 k v) := rfl
theorem wX_putA4 {a : Nat → Nat} {ca : Nat → ClassId} {σ : St} (k : Nat) (v : Int32) : (wX a ca σ).set 4 (a 4, .inl (ca 0, 16, .inl (upd (σ 4) k v))) = wX a ca (up2 σ 4 k v) := rfl
section WXL
variable {p : Program} {l : Launch} {e : Env} {R : Room} {s : State} {m : MethodId} {args : Array Value} {below : List Frame} {meth : Method} {c : Code} {H : Heap} {locs : List Loc} {cells slots : Nat} {Q : State → Prop} {cc : ByteArray} {pc : Nat} {ls : Array Slot} {rest : List Value} {D : va_G} {a : Nat → Nat} {ca : Nat → ClassId} {σ : St}
theorem x_aldT (hx : p.tables.exec = Jvm.exec) (hb : c.code = cc) (hK : va_K D classes (tX ca) s) (hP : va_P D classes (wX a ca σ) H) (j : Nat) (hj : j < 8) (hdg : decode cc pc = .ok (.aaload, 1))
    (kk : W p l e R s m args below meth c H locs cells slots Q (F0 m (pc + 1) ls (.ref (a (5 + j)) :: rest))) : W p l e R s m args below meth c H locs cells slots Q (F0 m pc ls (.int (nI j) :: .ref (a 17) :: rest)) := by
  refine va_aldq (C := R_T) (n := 8) (f := fun i => some (a (5 + i))) hx hb hK hP 17 1 rfl rfl (vp_in_nI hj (by decide)) hdg ?_
  rw [nI_clamp (Nat.lt_trans hj (by decide))]
  exact kk
theorem x_aldG (hx : p.tables.exec = Jvm.exec) (hb : c.code = cc) (hK : va_K D classes (tX ca) s) (hP : va_P D classes (wX a ca σ) H) (j : Nat) (hj : j < 4) (hdg : decode cc pc = .ok (.aaload, 1))
    (kk : W p l e R s m args below meth c H locs cells slots Q (F0 m (pc + 1) ls (.ref (a (13 + j)) :: rest))) : W p l e R s m args below meth c H locs cells slots Q (F0 m pc ls (.int (nI j) :: .ref (a 18) :: rest)) := by
  refine va_aldq (C := R_G) (n := 4) (f := fun i => some (a (13 + i))) hx hb hK hP 18 2 rfl rfl (vp_in_nI hj (by decide)) hdg ?_
  rw [nI_clamp (Nat.lt_trans hj (by decide))]
  exact kk
end WXL
end
section
/-! WHAT THE CLASS'S METHODS DO, as functions of the state -/
theorem lit_10 : ((1 : Int32) = 0) = False := eq_false (by decide)
def bI (b : Bool) : Int32 := if b then 1 else 0
def rm16 (x : Int32) : Int32 := x - x / 16 * 16
def bit1 (t : Int32) : Int32 := (1 : Int32) <<< (t &&& 31)
def f_isTimer (t : Int32) : Int32 := if t < 0 then 0 else if 8 ≤ t then 0 else 1
def f_isGate (g : Int32) : Int32 := if g < 0 then 0 else if 4 ≤ g then 0 else 1
def f_isSource (t src : Int32) : Int32 := if src = 0 then 1 else if src = 1 then (if t ≤ 0 then 0 else 1) else 0
def f_isBitSet (x : Int32) : Int32 := if x < 0 then 0 else if 255 < x then 0 else 1
def f_isTickCount (n : Int32) : Int32 := if n < 0 then 0 else if 20000 < n then 0 else 1
def f_set (σ : St) (t src per : Int32) (b : Bool) : Int32 × St :=
  if f_isTimer t = 0 then (0, σ) else if f_isSource t src = 0 then (0, σ) else if per < 1 then (0, σ) else if per ≤ 65535 then
    (1, up2 (up2 (up2 (up2 (up2 σ (5 + t.toNatClampNeg) 2 src) (5 + t.toNatClampNeg) 0 per) (5 + t.toNatClampNeg) 1 per) (5 + t.toNatClampNeg) 3 (bI b)) (5 + t.toNatClampNeg) 4 0) else (0, σ)
def f_turn (σ : St) (t : Int32) (b : Bool) : Int32 × St :=
  if f_isTimer t = 0 then (0, σ) else if σ (5 + t.toNatClampNeg) 4 = bI b then (0, σ) else (1, up2 σ (5 + t.toNatClampNeg) 4 (bI b))
def f_gate (σ : St) (g mask delay : Int32) : Int32 × St :=
  if f_isGate g = 0 then (0, σ) else if f_isBitSet mask = 0 then (0, σ) else if delay < 1 then (0, σ) else if delay ≤ 1000 then
    (1, up2 (up2 σ (13 + g.toNatClampNeg) 0 mask) (13 + g.toNatClampNeg) 1 delay) else (0, σ)
def clrL (c : Int32) : Nat → Nat → St → St
  | 0, _, σ => σ
  | n + 1, t, σ => clrL c n (t + 1) (if c &&& bit1 (nI t) = 0 then σ else up2 σ (5 + t) 8 (σ (5 + t) 8 + 1))
def f_clear (σ : St) (x : Int32) : Int32 × St :=
  if f_isBitSet x = 0 then (-1, σ) else (σ 0 3 &&& x, up2 (clrL (σ 0 3 &&& x) 8 0 σ) 0 3 (clrL (σ 0 3 &&& x) 8 0 σ 0 3 &&& ((σ 0 3 &&& x) ^^^ (-1))))
def f_countDown (σ : St) (i : Nat) : Int32 × St :=
  if σ i 4 = 0 then (0, σ) else if σ i 1 ≤ 1 then
    (if up2 (up2 σ i 1 (σ i 0)) i 5 (up2 σ i 1 (σ i 0) i 5 + 1) i 3 = 0 then (1, up2 (up2 σ i 1 (σ i 0)) i 5 (up2 σ i 1 (σ i 0) i 5 + 1))
     else (1, up2 (up2 (up2 σ i 1 (σ i 0)) i 5 (up2 σ i 1 (σ i 0) i 5 + 1)) i 4 0))
  else (0, up2 σ i 1 (σ i 1 - 1))
def f_raise (σ : St) (t : Nat) : St :=
  if σ 0 3 &&& bit1 (nI t) = 0 then up2 σ 0 3 (σ 0 3 ||| bit1 (nI t))
  else up2 (up2 σ (5 + t) 6 (σ (5 + t) 6 + 1)) 0 3 (up2 σ (5 + t) 6 (σ (5 + t) 6 + 1) 0 3 ||| bit1 (nI t))
def stT (e : Int32) (t : Nat) (σ : St) : Int32 × St :=
  if σ (5 + t) 2 = 0 then (if (f_countDown σ (5 + t)).1 = 0 then (0, (f_countDown σ (5 + t)).2) else (1, f_raise (f_countDown σ (5 + t)).2 t))
  else if e = 0 then (0, σ) else (if (f_countDown σ (5 + t)).1 = 0 then (0, (f_countDown σ (5 + t)).2) else (1, f_raise (f_countDown σ (5 + t)).2 t))
def tkT : Nat → Nat → Int32 → St → St
  | 0, _, _, σ => σ
  | n + 1, t, e, σ => tkT n (t + 1) (stT e t σ).1 (stT e t σ).2
def f_asks (σ : St) (i : Nat) (st : Int32) : Int32 := if st &&& σ i 0 = 0 then 0 else 1
def f_waitEnds (σ : St) (i : Nat) : Int32 × St :=
  if σ i 2 = 0 then (0, σ) else (if up2 σ i 2 (σ i 2 - 1) i 2 = 0 then 1 else 0, up2 σ i 2 (σ i 2 - 1))
def lbN (b : Int32) : Nat → Nat → Nat
  | 0, _ => 7
  | n + 1, t => if b &&& bit1 (nI t) = 0 then lbN b n (t + 1) else t
def f_arr (σ : St) (b sv tm : Int32) : St := up2 (up2 (up2 (up2 σ 2 (σ 1 5).toNatClampNeg b) 3 (σ 1 5).toNatClampNeg sv) 4 (σ 1 5).toNatClampNeg tm) 1 5 (rm16 (σ 1 5 + 1))
def f_add (σ : St) (b sv tm : Int32) : St :=
  if 16 ≤ σ 1 4 then up2 (f_arr σ b sv tm) 1 3 (σ 1 3 + 1) else up2 (up2 (f_arr σ b sv tm) 1 4 (σ 1 4 + 1)) 1 3 (σ 1 3 + 1)
def f_serve (σ : St) (g : Nat) : Int32 × St :=
  if f_asks σ (13 + g) (σ 0 3) = 0 then (0, up2 σ (13 + g) 4 (σ (13 + g) 4 + 1)) else
    let t := lbN (σ 0 3 &&& σ (13 + g) 0) 7 0
    let σ1 := up2 σ 0 3 (σ 0 3 &&& (bit1 (nI t) ^^^ (-1)))
    let σ2 := up2 σ1 (5 + t) 7 (σ1 (5 + t) 7 + 1)
    let σ3 := up2 σ2 (13 + g) 3 (σ2 (13 + g) 3 + 1)
    let σ4 := up2 σ3 (13 + g) 5 (σ3 0 4)
    (1, f_add σ4 (nI t) (nI g) (σ4 0 4))
def stG (g : Nat) (sv : Int32) (σ : St) : Int32 × St :=
  if (f_waitEnds σ (13 + g)).1 = 0 then (sv, (f_waitEnds σ (13 + g)).2)
  else if (f_serve (f_waitEnds σ (13 + g)).2 g).1 = 0 then (sv, (f_serve (f_waitEnds σ (13 + g)).2 g).2)
  else (sv + 1, (f_serve (f_waitEnds σ (13 + g)).2 g).2)
def tkG : Nat → Nat → Int32 → St → Int32 × St
  | 0, _, sv, σ => (sv, σ)
  | n + 1, g, sv, σ => tkG n (g + 1) (stG g sv σ).1 (stG g sv σ).2
def stW (g : Nat) (σ : St) : St :=
  if σ (13 + g) 2 = 0 then (if f_asks σ (13 + g) (σ 0 3) = 0 then σ else up2 σ (13 + g) 2 (σ (13 + g) 1)) else σ
def wkG : Nat → Nat → St → St
  | 0, _, σ => σ
  | n + 1, g, σ => wkG n (g + 1) (stW g σ)
def f_tick (σ : St) : Int32 × St :=
  ((tkG 4 0 0 (tkT 8 0 0 (up2 σ 0 4 (σ 0 4 + 1)))).1, wkG 4 0 (tkG 4 0 0 (tkT 8 0 0 (up2 σ 0 4 (σ 0 4 + 1)))).2)
def advL : Nat → Int32 → St → Int32 × St
  | 0, sv, σ => (sv, σ)
  | n + 1, sv, σ => advL n (sv + (f_tick σ).1) (f_tick σ).2
def f_advance (σ : St) (n : Int32) : Int32 × St := if f_isTickCount n = 0 then (-1, σ) else advL n.toNatClampNeg 0 σ
/-- n: how many are left, i: how many were -/
def nxtL (N : Int32) : Nat → Nat → St → Int32 × St
  | 0, _, σ => (N, σ)
  | n + 1, i, σ => if (f_tick σ).1 ≤ 0 then nxtL N n (i + 1) (f_tick σ).2 else (nI i + 1, (f_tick σ).2)
def f_next (σ : St) (n : Int32) : Int32 × St := if f_isTickCount n = 0 then (-1, σ) else nxtL n n.toNatClampNeg 0 σ
def f_Tread (σ : St) (i : Nat) (w : Int32) : Int32 :=
  if w = 0 then σ i 1 else if w = 1 then σ i 0 else if w = 2 then σ i 2 else if w = 3 then (if σ i 4 = 0 then 0 else 1) else if w = 4 then (if σ i 3 = 0 then 0 else 1)
  else if w = 5 then σ i 5 else if w = 6 then σ i 6 else if w = 7 then σ i 7 else if w = 8 then σ i 8 else -1
def f_timer (σ : St) (t w : Int32) : Int32 := if f_isTimer t = 0 then -1 else f_Tread σ (5 + t.toNatClampNeg) w
def f_Gread (σ : St) (i : Nat) (w st : Int32) : Int32 :=
  if w = 0 then (if f_asks σ i st = 0 then 0 else 1) else if w = 1 then σ i 2 else if w = 2 then σ i 0 else if w = 3 then σ i 1 else if w = 4 then σ i 3 else if w = 5 then σ i 4 else if w = 6 then σ i 5 else -1
def f_gateOf (σ : St) (g w : Int32) : Int32 := if f_isGate g = 0 then -1 else f_Gread σ (13 + g.toNatClampNeg) w (σ 0 3)
def stN (σ : St) (t : Nat) (x : Int32) : Int32 :=
  if σ (5 + t) 4 = 0 then x else if σ (5 + t) 2 = 0 then (if x = 0 then σ (5 + t) 1 else if x ≤ σ (5 + t) 1 then x else σ (5 + t) 1) else x
def tnL (σ : St) : Nat → Nat → Int32 → Int32
  | 0, _, x => x
  | n + 1, t, x => tnL σ n (t + 1) (stN σ t x)
def f_look (σ : St) (w : Int32) : Int32 := if w = 0 then σ 0 3 else if w = 1 then σ 0 4 else if w = 2 then σ 1 3 else if w = 3 then tnL σ 8 0 0 else -1
def f_Hread (σ : St) (i w : Int32) : Int32 :=
  if i < 0 then -1 else if i < σ 1 4 then (if w = 0 then σ 2 (rm16 (σ 1 5 + 16 - 1 - i)).toNatClampNeg else if w = 1 then σ 3 (rm16 (σ 1 5 + 16 - 1 - i)).toNatClampNeg else if w = 2 then σ 4 (rm16 (σ 1 5 + 16 - 1 - i)).toNatClampNeg else -1) else -1
end
section
/-! pure rows about the functions of the class -/
theorem in_of {t : Int32} {n : Nat} (hn : n < 2 ^ 31) (h1 : ¬ t < 0) (h2 : ¬ nI n ≤ t) : ∃ j : Nat, j < n ∧ t = nI j := by
  rcases pk_ix t hn with h3 | h3 | h3
  · exact absurd h3 h1
  · exact absurd h3 h2
  · exact h3
theorem isTimer_in {t : Int32} (h : ¬ f_isTimer t = 0) : ∃ j : Nat, j < 8 ∧ t = nI j := by
  unfold f_isTimer at h
  by_cases h1 : t < 0
  · rw [if_pos h1] at h; exact absurd rfl h
  · rw [if_neg h1] at h
    by_cases h2 : 8 ≤ t
    · rw [if_pos h2] at h; exact absurd rfl h
    · exact in_of (by decide) h1 h2
theorem isGate_in {t : Int32} (h : ¬ f_isGate t = 0) : ∃ j : Nat, j < 4 ∧ t = nI j := by
  unfold f_isGate at h
  by_cases h1 : t < 0
  · rw [if_pos h1] at h; exact absurd rfl h
  · rw [if_neg h1] at h
    by_cases h2 : 4 ≤ t
    · rw [if_pos h2] at h; exact absurd rfl h
    · exact in_of (by decide) h1 h2
theorem isTick_in {t : Int32} (h : ¬ f_isTickCount t = 0) : ∃ j : Nat, j < 20001 ∧ t = nI j := by
  unfold f_isTickCount at h
  by_cases h1 : t < 0
  · rw [if_pos h1] at h; exact absurd rfl h
  · rw [if_neg h1] at h
    by_cases h2 : 20000 < t
    · rw [if_pos h2] at h; exact absurd rfl h
    · refine in_of (by decide) h1 (fun h3 => h2 ?_)
      have h4 : nI 20001 ≤ t := h3
      rw [Int32.le_iff_toInt_le, nI_toInt (by decide)] at h4
      rw [Int32.lt_iff_toInt_lt]
      have h5 : (20000 : Int32).toInt = 20000 := by decide
      omega
theorem sw_cases (x : Int32) (n : Nat) (hn : n < 2 ^ 30) : (x.toInt < 0 ∨ (n : Int) < x.toInt) ∨ ∃ k : Nat, k ≤ n ∧ x = nI k := by
  by_cases h1 : x.toInt < 0
  · exact Or.inl (Or.inl h1)
  · by_cases h2 : (n : Int) < x.toInt
    · exact Or.inl (Or.inr h2)
    · refine Or.inr ⟨x.toInt.toNat, by omega, ?_⟩
      apply Int32.toInt_inj.mp
      rw [nI_toInt (by omega)]
      omega
theorem sw_o (x : Int32) (n : Int) (h : x.toInt < 0 ∨ n < x.toInt) (k : Int32) (h1 : 0 ≤ k.toInt) (h2 : k.toInt ≤ n) : (x = k) = False := eq_false (fun e => by subst e; omega)
theorem lbN_lt (b : Int32) : ∀ n t : Nat, t + n ≤ 7 → lbN b n t < 8
  | 0, _, _ => by simp [lbN]
  | n + 1, t, h => by
    unfold lbN
    by_cases c : b &&& bit1 (nI t) = 0
    · rw [if_pos c]; exact lbN_lt b n (t + 1) (by omega)
    · rw [if_neg c]; omega
def xInv (σ : St) : Prop := (∃ p : Nat, p < 16 ∧ σ 1 5 = nI p) ∧ ∃ f : Nat, f ≤ 16 ∧ σ 1 4 = nI f
theorem xInv_of {σ τ : St} (h : τ 1 = σ 1) (hi : xInv σ) : xInv τ := by unfold xInv at *; rw [h]; exact hi
theorem xInv_in {σ : St} (h : xInv σ) : vp_in (σ 1 5) 16 := by
  obtain ⟨⟨p, hp, e⟩, -⟩ := h
  rw [e]; exact vp_in_nI hp (by decide)
theorem rm16_nI {n : Nat} (h : n < 2 ^ 31) : rm16 (nI n) = nI (n % 16) := by
  unfold rm16
  exact pk_rem h (by decide : 0 < 16) (by decide)
theorem xInv_at {σ : St} (h : xInv σ) {i : Int32} (h1 : ¬ i < 0) (h2' : i < σ 1 4) : vp_in (rm16 (σ 1 5 + 16 - 1 - i)) 16 := by
  have h2 : ¬ σ 1 4 ≤ i := fun q => by
    rw [Int32.le_iff_toInt_le] at q
    rw [Int32.lt_iff_toInt_lt] at h2'
    omega
  obtain ⟨⟨p, hp, e⟩, f, hf, ef⟩ := h
  rw [ef] at h2
  obtain ⟨j, hj, rfl⟩ := in_of (by omega) h1 h2
  rw [e, show nI p + 16 = nI (p + 16) from nI_add p 16, show nI (p + 16) - 1 = nI (p + 15) from nI_pred (p + 15), pk_sub (by omega), rm16_nI (by omega)]
  exact vp_in_nI (Nat.mod_lt _ (by decide)) (by decide)
theorem sw_0_0 : (nI 0 = 0) = True := eq_true (by decide)
theorem sw_1_0 : (nI 1 = 0) = False := eq_false (by decide)
theorem sw_1_1 : (nI 1 = 1) = True := eq_true (by decide)
theorem sw_2_0 : (nI 2 = 0) = False := eq_false (by decide)
theorem sw_2_1 : (nI 2 = 1) = False := eq_false (by decide)
theorem sw_2_2 : (nI 2 = 2) = True := eq_true (by decide)
theorem sw_3_0 : (nI 3 = 0) = False := eq_false (by decide)
theorem sw_3_1 : (nI 3 = 1) = False := eq_false (by decide)
theorem sw_3_2 : (nI 3 = 2) = False := eq_false (by decide)
theorem sw_3_3 : (nI 3 = 3) = True := eq_true (by decide)
theorem sw_4_0 : (nI 4 = 0) = False := eq_false (by decide)
theorem sw_4_1 : (nI 4 = 1) = False := eq_false (by decide)
theorem sw_4_2 : (nI 4 = 2) = False := eq_false (by decide)
theorem sw_4_3 : (nI 4 = 3) = False := eq_false (by decide)
theorem sw_4_4 : (nI 4 = 4) = True := eq_true (by decide)
theorem sw_5_0 : (nI 5 = 0) = False := eq_false (by decide)
theorem sw_5_1 : (nI 5 = 1) = False := eq_false (by decide)
theorem sw_5_2 : (nI 5 = 2) = False := eq_false (by decide)
theorem sw_5_3 : (nI 5 = 3) = False := eq_false (by decide)
theorem sw_5_4 : (nI 5 = 4) = False := eq_false (by decide)
theorem sw_5_5 : (nI 5 = 5) = True := eq_true (by decide)
theorem sw_6_0 : (nI 6 = 0) = False := eq_false (by decide)
theorem sw_6_1 : (nI 6 = 1) = False := eq_false (by decide)
theorem sw_6_2 : (nI 6 = 2) = False := eq_false (by decide)
theorem sw_6_3 : (nI 6 = 3) = False := eq_false (by decide)
theorem sw_6_4 : (nI 6 = 4) = False := eq_false (by decide)
theorem sw_6_5 : (nI 6 = 5) = False := eq_false (by decide)
theorem sw_6_6 : (nI 6 = 6) = True := eq_true (by decide)
theorem sw_7_0 : (nI 7 = 0) = False := eq_false (by decide)
theorem sw_7_1 : (nI 7 = 1) = False := eq_false (by decide)
theorem sw_7_2 : (nI 7 = 2) = False := eq_false (by decide)
theorem sw_7_3 : (nI 7 = 3) = False := eq_false (by decide)
theorem sw_7_4 : (nI 7 = 4) = False := eq_false (by decide)
theorem sw_7_5 : (nI 7 = 5) = False := eq_false (by decide)
theorem sw_7_6 : (nI 7 = 6) = False := eq_false (by decide)
theorem sw_7_7 : (nI 7 = 7) = True := eq_true (by decide)
theorem sw_8_0 : (nI 8 = 0) = False := eq_false (by decide)
theorem sw_8_1 : (nI 8 = 1) = False := eq_false (by decide)
theorem sw_8_2 : (nI 8 = 2) = False := eq_false (by decide)
theorem sw_8_3 : (nI 8 = 3) = False := eq_false (by decide)
theorem sw_8_4 : (nI 8 = 4) = False := eq_false (by decide)
theorem sw_8_5 : (nI 8 = 5) = False := eq_false (by decide)
theorem sw_8_6 : (nI 8 = 6) = False := eq_false (by decide)
theorem sw_8_7 : (nI 8 = 7) = False := eq_false (by decide)
theorem sw_8_8 : (nI 8 = 8) = True := eq_true (by decide)
theorem sw_9_0 : (nI 9 = 0) = False := eq_false (by decide)
theorem sw_9_1 : (nI 9 = 1) = False := eq_false (by decide)
theorem sw_9_2 : (nI 9 = 2) = False := eq_false (by decide)
theorem sw_9_3 : (nI 9 = 3) = False := eq_false (by decide)
theorem sw_9_4 : (nI 9 = 4) = False := eq_false (by decide)
theorem sw_9_5 : (nI 9 = 5) = False := eq_false (by decide)
theorem sw_9_6 : (nI 9 = 6) = False := eq_false (by decide)
theorem sw_9_7 : (nI 9 = 7) = False := eq_false (by decide)
theorem sw_9_8 : (nI 9 = 8) = False := eq_false (by decide)
theorem sw_9_9 : (nI 9 = 9) = True := eq_true (by decide)
theorem bI_n (b : Bool) : narrow .boolean (.int (bI b)) = .int (bI b) := by cases b <;> rfl
theorem bI_f (b : Bool) : fits .boolean (.int (bI b)) = true := by cases b <;> rfl
theorem xInv_up {σ : St} {i k : Nat} {v : Int32} (h : i ≠ 1) (hi : xInv σ) : xInv (up2 σ i k v) := xInv_of (up2_n _ _ _ (Ne.symm h)) hi
theorem countDown_inv {σ : St} {i : Nat} (h : i ≠ 1) (hI : xInv σ) : xInv (f_countDown σ i).2 := by
  unfold f_countDown
  split
  · exact hI
  · split
    · split
      · exact xInv_up h (xInv_up h hI)
      · exact xInv_up h (xInv_up h (xInv_up h hI))
    · exact xInv_up h hI
theorem raise_inv {σ : St} {t : Nat} (hI : xInv σ) : xInv (f_raise σ t) := by
  unfold f_raise
  split
  · exact xInv_up (by decide) hI
  · exact xInv_up (by decide) (xInv_up (by omega) hI)
theorem stT_inv {σ : St} {t : Nat} {e : Int32} (hI : xInv σ) : xInv (stT e t σ).2 := by
  have h := countDown_inv (i := 5 + t) (by omega) hI
  unfold stT
  split
  · split
    · exact h
    · exact raise_inv h
  · split
    · exact hI
    · split
      · exact h
      · exact raise_inv h
theorem tkT_inv : ∀ (n t : Nat) (e : Int32) {σ : St}, xInv σ → xInv (tkT n t e σ)
  | 0, _, _, _, h => h
  | n + 1, t, e, _, h => tkT_inv n (t + 1) _ (stT_inv h)
theorem waitEnds_inv {σ : St} {g : Nat} (hI : xInv σ) : xInv (f_waitEnds σ (13 + g)).2 := by
  unfold f_waitEnds
  split
  · exact hI
  · exact xInv_up (by omega) hI
theorem add_inv {σ : St} {b sv tm : Int32} (hI : xInv σ) : xInv (f_add σ b sv tm) := by
  obtain ⟨⟨p, hp, e⟩, f, hf, ef⟩ := hI
  have e5 : rm16 (σ 1 5 + 1) = nI ((p + 1) % 16) := by rw [e, nI_1, rm16_nI (by omega)]
  unfold f_add f_arr
  by_cases c : 16 ≤ σ 1 4
  · rw [if_pos c]
    exact ⟨⟨(p + 1) % 16, Nat.mod_lt _ (by decide), e5⟩, f, hf, ef⟩
  · rw [if_neg c]
    refine ⟨⟨(p + 1) % 16, Nat.mod_lt _ (by decide), e5⟩, f + 1, ?_, ?_⟩
    · rw [ef] at c
      rcases Nat.lt_or_ge f 16 with q | q
      · omega
      · exact absurd (nI_le (a := 16) q (by omega)) c
    · show σ 1 4 + 1 = nI (f + 1)
      rw [ef, nI_1]
theorem serve_inv {σ : St} {g : Nat} (hI : xInv σ) : xInv (f_serve σ g).2 := by
  unfold f_serve
  split
  · exact xInv_up (by omega) hI
  · exact add_inv (xInv_up (by omega) (xInv_up (by omega) (xInv_up (by omega) (xInv_up (by decide) hI))))
theorem stG_inv (g : Nat) (sv : Int32) {σ : St} (hI : xInv σ) : xInv (stG g sv σ).2 := by
  have h := waitEnds_inv (g := g) hI
  unfold stG
  split
  · exact h
  · split
    · exact serve_inv h
    · exact serve_inv h
theorem tkG_inv : ∀ (n g : Nat) (sv : Int32) {σ : St}, xInv σ → xInv (tkG n g sv σ).2
  | 0, _, _, _, h => h
  | n + 1, g, sv, _, h => tkG_inv n (g + 1) _ (stG_inv g sv h)
theorem stW_inv {σ : St} {g : Nat} (hI : xInv σ) : xInv (stW g σ) := by
  unfold stW
  split
  · split
    · exact hI
    · exact xInv_up (by omega) hI
  · exact hI
theorem wkG_inv : ∀ (n g : Nat) {σ : St}, xInv σ → xInv (wkG n g σ)
  | 0, _, _, h => h
  | n + 1, g, _, h => wkG_inv n (g + 1) (stW_inv h)
theorem tick_inv0 {σ : St} (hI : xInv σ) : xInv (tkT 8 0 0 (up2 σ 0 4 (σ 0 4 + 1))) := tkT_inv 8 0 0 (xInv_up (by decide) hI)
theorem tick_inv {σ : St} (hI : xInv σ) : xInv (f_tick σ).2 := by
  have h := wkG_inv 4 0 (tkG_inv 4 0 0 (tick_inv0 hI))
  simp only [f_tick]
  exact h
theorem advL_inv : ∀ (n : Nat) (sv : Int32) {σ : St}, xInv σ → xInv (advL n sv σ).2
  | 0, _, _, h => h
  | n + 1, _, _, h => advL_inv n _ (tick_inv h)
theorem nxtL_inv (N : Int32) : ∀ (n i : Nat) {σ : St}, xInv σ → xInv (nxtL N n i σ).2 := by
  intro n
  induction n with
  | zero => intro i σ h; exact h
  | succ n ih =>
    intro i σ h
    have h1 := tick_inv h
    unfold nxtL
    generalize f_tick σ = q at h1 ⊢
    by_cases c : q.1 ≤ 0
    · rw [if_pos c]; exact ih (i + 1) h1
    · rw [if_neg c]; exact h1
end
section
/-! what the constructors make -/
def z0 : St := fun _ _ => 0
def wT1 (h : Nat) (σ : St) : va_W := [(h, .inr (2, cTf σ 0))]
def wG1 (h : Nat) (σ : St) : va_W := [(h, .inr (3, cGf σ 0))]
theorem wT1_put {h : Nat} {σ : St} {k : Nat} (hk : k < 9) (v : Int32) : (wT1 h σ).set 0 (h, .inr (2, (cTf σ 0).set k (.int v))) = wT1 h (up2 σ 0 k v) := by
  rw [cTf_set σ 0 hk v]; rfl
theorem wG1_put {h : Nat} {σ : St} {k : Nat} (hk : k < 6) (v : Int32) : (wG1 h σ).set 0 (h, .inr (3, (cGf σ 0).set k (.int v))) = wG1 h (up2 σ 0 k v) := by
  rw [cGf_set σ 0 hk v]; rfl
def tI (σ : St) : St := up2 (up2 (up2 (up2 (up2 (up2 (up2 (up2 (up2 σ 0 0 1) 0 1 1) 0 2 0) 0 3 0) 0 4 0) 0 5 0) 0 6 0) 0 7 0) 0 8 0
def gI (σ : St) : St := up2 (up2 (up2 (up2 (up2 (up2 σ 0 0 0) 0 1 1) 0 2 0) 0 3 0) 0 4 0) 0 5 (-1)
def s0 : St := fun i k => if 5 ≤ i ∧ i < 13 then (if k = 0 ∨ k = 1 then 1 else 0) else if 13 ≤ i ∧ i < 17 then (if k = 1 then 1 else if k = 5 then -1 else 0) else 0
theorem kI_eq {D : va_G} {tys : List (ClassId × FieldType)} {s : State} (hK : va_K D classes tys s) (i j : Nat) {c1 c2 : ClassId} (hi : tys[i]? = some (c1, .int)) (hj : tys[j]? = some (c2, .int)) : c1 = c2 :=
  Option.some.inj ((hK.2 i _ hi).2.symm.trans (hK.2 j _ hj).2)
def wH1 (h q2 q3 q4 : Nat) (kI : ClassId) : va_W := [(h, .inr (1, [.ref q2, .ref q3, .ref q4, .int 0, .int 0, .int 0])), (q2, .inl (kI, 16, .inl (fun _ => 0))), (q3, .inl (kI, 16, .inl (fun _ => 0))), (q4, .inl (kI, 16, .inl (fun _ => 0)))]
def pH (D : va_G) (h : Nat) (A : Nat → Prop) (t : State) : Prop := ∃ (q2 q3 q4 : Nat) (kI : ClassId), va_P D classes (wH1 h q2 q3 q4 kI) t.heap ∧ va_K D classes [(kI, .int)] t ∧ va_D A (wH1 h q2 q3 q4 kI)
def aOf (l : List Nat) : Nat → Nat := fun i => l.getD i 0
def cOf (k0 k1 k2 : ClassId) : Nat → ClassId := fun i => match i with
  | 0 => k0
  | 1 => k1
  | _ => k2
def pX (D : va_G) (h : Nat) (A : Nat → Prop) (t : State) : Prop := ∃ (a : Nat → Nat) (ca : Nat → ClassId), a 0 = h ∧ va_P D classes (wX a ca s0) t.heap ∧ va_K D classes (tX ca) t ∧ va_D A (wX a ca s0)
theorem vp_cell_congr (cA : ClassId) {n : Nat} {f g : Nat → Option Nat} (h : ∀ j, j < n → f j = g j) : vp_cell cA (n, .inr (.inr (.inr (.inr f)))) = vp_cell cA (n, .inr (.inr (.inr (.inr g)))) := by
  rw [vp_cell_q, vp_cell_q]
  unfold arrV
  congr 1
  apply Array.ext
  · simp
  · intro i h1 h2
    simp at h1
    simp [h i h1]
theorem P_arr {D : va_G} {ws : va_W} {H : Heap} (hP : va_P D classes ws H) (k : Nat) {q n : Nat} {cA : ClassId} {f : Nat → Option Nat} (g : Nat → Option Nat) (he : ws[k]? = some (q, .inl (cA, n, .inr (.inr (.inr (.inr f)))))) (h : ∀ j, j < n → f j = g j) : va_P D classes (ws.set k (q, .inl (cA, n, .inr (.inr (.inr (.inr g)))))) H := by
  intro i x hx
  by_cases e : k = i
  · subst e
    rw [List.getElem?_set_self (List.getElem?_eq_some_iff.mp he).1] at hx
    cases hx
    have h1 := hP k _ he
    show H[q]? = some (vp_cell cA _)
    rw [← vp_cell_congr cA h]
    exact h1
  · rw [List.getElem?_set_ne e] at hx
    exact hP i x hx
end
section
set_option maxHeartbeats 4000000 in
set_option maxRecDepth 100000 in
theorem c_isTimer (l : Launch) (D : va_G) (a : Nat → Nat) (ca : Nat → ClassId) (σ : St) (t : Int32) : KI l D (tX ca) (wX a ca) rm_isTimer y_isTimer b_isTimer 1 .boolean [.int t] σ (f_isTimer t) σ := by
  refine KI.of (by decide) (Nat.le_of_ble_eq_true rfl) ?_
  intro p e s m args below meth c A Q ls hx hb hml hown hG hK hN hA hP hD hS hl hret
  have hown : s.vm.findClass R_X = some m.cls := hown
  have hl : lv_has ls 1 [(0, .int t)] := hl
  refine lv_iload_n hx hb d_isTimer_0 rfl (lv_at hl 0 rfl) ?_
  refine lv_if_lt (tgt := 14) hx hb d_isTimer_1 (by decide) (fun c_1 => ?_) (fun c_1 => ?_)
  · refine lv_iconst (v := 0) hx hb d_isTimer_14 (by decide) ?_
    exact hret _ _ _ 15 0 σ hP hD hS rfl d_isTimer_15 (by simp only [f_isTimer, c_1, ↓reduceIte]) (rfl)
  · refine lv_iload_n hx hb d_isTimer_4 rfl (lv_at hl 0 rfl) ?_
    refine lv_bipush (v := 8) hx hb d_isTimer_5 (by decide) ?_
    refine lv_icmp_ge (tgt := 14) hx hb d_isTimer_7 (by decide) (fun c_2 => ?_) (fun c_2 => ?_)
    · refine lv_iconst (v := 0) hx hb d_isTimer_14 (by decide) ?_
      exact hret _ _ _ 15 0 σ hP hD hS rfl d_isTimer_15 (by simp only [f_isTimer, c_1, c_2, ↓reduceIte]) (rfl)
    · refine lv_iconst (v := 1) hx hb d_isTimer_10 (by decide) ?_
      refine lv_goto (tgt := 15) hx hb d_isTimer_11 (by decide) ?_
      exact hret _ _ _ 15 1 σ hP hD hS rfl d_isTimer_15 (by simp only [f_isTimer, c_1, c_2, ↓reduceIte]) (rfl)
set_option maxHeartbeats 4000000 in
set_option maxRecDepth 100000 in
theorem c_isGate (l : Launch) (D : va_G) (a : Nat → Nat) (ca : Nat → ClassId) (σ : St) (g : Int32) : KI l D (tX ca) (wX a ca) rm_isGate y_isGate b_isGate 1 .boolean [.int g] σ (f_isGate g) σ := by
  refine KI.of (by decide) (Nat.le_of_ble_eq_true rfl) ?_
  intro p e s m args below meth c A Q ls hx hb hml hown hG hK hN hA hP hD hS hl hret
  have hown : s.vm.findClass R_X = some m.cls := hown
  have hl : lv_has ls 1 [(0, .int g)] := hl
  refine lv_iload_n hx hb d_isGate_0 rfl (lv_at hl 0 rfl) ?_
  refine lv_if_lt (tgt := 13) hx hb d_isGate_1 (by decide) (fun c_1 => ?_) (fun c_1 => ?_)
  · refine lv_iconst (v := 0) hx hb d_isGate_13 (by decide) ?_
    exact hret _ _ _ 14 0 σ hP hD hS rfl d_isGate_14 (by simp only [f_isGate, c_1, ↓reduceIte]) (rfl)
  · refine lv_iload_n hx hb d_isGate_4 rfl (lv_at hl 0 rfl) ?_
    refine lv_iconst (v := 4) hx hb d_isGate_5 (by decide) ?_
    refine lv_icmp_ge (tgt := 13) hx hb d_isGate_6 (by decide) (fun c_2 => ?_) (fun c_2 => ?_)
    · refine lv_iconst (v := 0) hx hb d_isGate_13 (by decide) ?_
      exact hret _ _ _ 14 0 σ hP hD hS rfl d_isGate_14 (by simp only [f_isGate, c_1, c_2, ↓reduceIte]) (rfl)
    · refine lv_iconst (v := 1) hx hb d_isGate_9 (by decide) ?_
      refine lv_goto (tgt := 14) hx hb d_isGate_10 (by decide) ?_
      exact hret _ _ _ 14 1 σ hP hD hS rfl d_isGate_14 (by simp only [f_isGate, c_1, c_2, ↓reduceIte]) (rfl)
set_option maxHeartbeats 4000000 in
set_option maxRecDepth 100000 in
theorem c_isBitSet (l : Launch) (D : va_G) (a : Nat → Nat) (ca : Nat → ClassId) (σ : St) (x : Int32) : KI l D (tX ca) (wX a ca) rm_isBitSet y_isBitSet b_isBitSet 1 .boolean [.int x] σ (f_isBitSet x) σ := by
  refine KI.of (by decide) (Nat.le_of_ble_eq_true rfl) ?_
  intro p e s m args below meth c A Q ls hx hb hml hown hG hK hN hA hP hD hS hl hret
  have hown : s.vm.findClass R_X = some m.cls := hown
  have hl : lv_has ls 1 [(0, .int x)] := hl
  refine lv_iload_n hx hb d_isBitSet_0 rfl (lv_at hl 0 rfl) ?_
  refine lv_if_lt (tgt := 15) hx hb d_isBitSet_1 (by decide) (fun c_1 => ?_) (fun c_1 => ?_)
  · refine lv_iconst (v := 0) hx hb d_isBitSet_15 (by decide) ?_
    exact hret _ _ _ 16 0 σ hP hD hS rfl d_isBitSet_16 (by simp only [f_isBitSet, c_1, ↓reduceIte]) (rfl)
  · refine lv_iload_n hx hb d_isBitSet_4 rfl (lv_at hl 0 rfl) ?_
    refine lv_sipush (v := 255) hx hb d_isBitSet_5 (by decide) ?_
    refine lv_icmp_gt (tgt := 15) hx hb d_isBitSet_8 (by decide) (fun c_2 => ?_) (fun c_2 => ?_)
    · refine lv_iconst (v := 0) hx hb d_isBitSet_15 (by decide) ?_
      exact hret _ _ _ 16 0 σ hP hD hS rfl d_isBitSet_16 (by simp only [f_isBitSet, c_1, c_2, ↓reduceIte]) (rfl)
    · refine lv_iconst (v := 1) hx hb d_isBitSet_11 (by decide) ?_
      refine lv_goto (tgt := 16) hx hb d_isBitSet_12 (by decide) ?_
      exact hret _ _ _ 16 1 σ hP hD hS rfl d_isBitSet_16 (by simp only [f_isBitSet, c_1, c_2, ↓reduceIte]) (rfl)
set_option maxHeartbeats 4000000 in
set_option maxRecDepth 100000 in
theorem c_isTickCount (l : Launch) (D : va_G) (a : Nat → Nat) (ca : Nat → ClassId) (σ : St) (n : Int32) : KI l D (tX ca) (wX a ca) rm_isTickCount y_isTickCount b_isTickCount 1 .boolean [.int n] σ (f_isTickCount n) σ := by
  refine KI.of (by decide) (Nat.le_of_ble_eq_true rfl) ?_
  intro p e s m args below meth c A Q ls hx hb hml hown hG hK hN hA hP hD hS hl hret
  have hown : s.vm.findClass R_X = some m.cls := hown
  have hl : lv_has ls 1 [(0, .int n)] := hl
  refine lv_iload_n hx hb d_isTickCount_0 rfl (lv_at hl 0 rfl) ?_
  refine lv_if_lt (tgt := 15) hx hb d_isTickCount_1 (by decide) (fun c_1 => ?_) (fun c_1 => ?_)
  · refine lv_iconst (v := 0) hx hb d_isTickCount_15 (by decide) ?_
    exact hret _ _ _ 16 0 σ hP hD hS rfl d_isTickCount_16 (by simp only [f_isTickCount, c_1, ↓reduceIte]) (rfl)
  · refine lv_iload_n hx hb d_isTickCount_4 rfl (lv_at hl 0 rfl) ?_
    refine lv_sipush (v := 20000) hx hb d_isTickCount_5 (by decide) ?_
    refine lv_icmp_gt (tgt := 15) hx hb d_isTickCount_8 (by decide) (fun c_2 => ?_) (fun c_2 => ?_)
    · refine lv_iconst (v := 0) hx hb d_isTickCount_15 (by decide) ?_
      exact hret _ _ _ 16 0 σ hP hD hS rfl d_isTickCount_16 (by simp only [f_isTickCount, c_1, c_2, ↓reduceIte]) (rfl)
    · refine lv_iconst (v := 1) hx hb d_isTickCount_11 (by decide) ?_
      refine lv_goto (tgt := 16) hx hb d_isTickCount_12 (by decide) ?_
      exact hret _ _ _ 16 1 σ hP hD hS rfl d_isTickCount_16 (by simp only [f_isTickCount, c_1, c_2, ↓reduceIte]) (rfl)
set_option maxHeartbeats 4000000 in
set_option maxRecDepth 100000 in
theorem c_isSource (l : Launch) (D : va_G) (a : Nat → Nat) (ca : Nat → ClassId) (σ : St) (t : Int32) (src : Int32) : KI l D (tX ca) (wX a ca) rm_isSource y_isSource b_isSource 2 .boolean [.int t, .int src] σ (f_isSource t src) σ := by
  refine KI.of (by decide) (Nat.le_of_ble_eq_true rfl) ?_
  intro p e s m args below meth c A Q ls hx hb hml hown hG hK hN hA hP hD hS hl hret
  have hown : s.vm.findClass R_X = some m.cls := hown
  have hl : lv_has ls 2 [(0, .int t), (1, .int src)] := hl
  refine lv_iload_n hx hb d_isSource_0 rfl (lv_at hl 1 rfl) ?_
  refine lv_if_eq (tgt := 13) hx hb d_isSource_1 (by decide) (fun c_1 => ?_) (fun c_1 => ?_)
  · refine lv_iconst (v := 1) hx hb d_isSource_13 (by decide) ?_
    refine lv_goto (tgt := 18) hx hb d_isSource_14 (by decide) ?_
    exact hret _ _ _ 18 1 σ hP hD hS rfl d_isSource_18 (by simp only [f_isSource, lit_10, c_1, ↓reduceIte]) (rfl)
  · refine lv_iload_n hx hb d_isSource_4 rfl (lv_at hl 1 rfl) ?_
    refine lv_iconst (v := 1) hx hb d_isSource_5 (by decide) ?_
    refine lv_icmp_ne (tgt := 17) hx hb d_isSource_6 (by decide) (fun c_2 => ?_) (fun c_2 => ?_)
    · refine lv_iconst (v := 0) hx hb d_isSource_17 (by decide) ?_
      exact hret _ _ _ 18 0 σ hP hD hS rfl d_isSource_18 (by simp only [f_isSource, lit_10, c_1, c_2, ↓reduceIte]) (rfl)
    · refine lv_iload_n hx hb d_isSource_9 rfl (lv_at hl 0 rfl) ?_
      refine lv_if_le (tgt := 17) hx hb d_isSource_10 (by decide) (fun c_3 => ?_) (fun c_3 => ?_)
      · refine lv_iconst (v := 0) hx hb d_isSource_17 (by decide) ?_
        exact hret _ _ _ 18 0 σ hP hD hS rfl d_isSource_18 (by simp only [f_isSource, lit_10, c_1, c_2, c_3, ↓reduceIte]) (rfl)
      · refine lv_iconst (v := 1) hx hb d_isSource_13 (by decide) ?_
        refine lv_goto (tgt := 18) hx hb d_isSource_14 (by decide) ?_
        exact hret _ _ _ 18 1 σ hP hD hS rfl d_isSource_18 (by simp only [f_isSource, lit_10, c_1, c_2, c_3, ↓reduceIte]) (rfl)
set_option maxHeartbeats 4000000 in
set_option maxRecDepth 100000 in
theorem c_countDown (l : Launch) (D : va_G) (a : Nat → Nat) (ca : Nat → ClassId) (σ : St) (j : Nat) (hj : j < 8) : KI l D (tX ca) (wX a ca) rm_countDown y_countDown b_countDown 1 .boolean [.ref (a (5 + j))] σ ((f_countDown σ (5 + j)).1) ((f_countDown σ (5 + j)).2) := by
  refine KI.of (by decide) (Nat.le_of_ble_eq_true rfl) ?_
  intro p e s m args below meth c A Q ls hx hb hml hown hG hK hN hA hP hD hS hl hret
  have hown : s.vm.findClass R_T = some m.cls := hown
  have hl : lv_has ls 1 [(0, .ref (a (5 + j)))] := hl
  refine lv_aload_n hx hb d_countDown_0 rfl (lv_at hl 0 rfl) ?_
  refine va_get (v := .int (σ (5 + j) 4)) hx hb hG i_T hown hK hP (5 + j) (wX_T hj) rfl 4 (by decide) (hG _ L_T_25) (fun _ h9 => h9) rfl d_countDown_1 ?_
  refine lv_if_ne (tgt := 9) hx hb d_countDown_4 (by decide) (fun c_1 => ?_) (fun c_1 => ?_)
  · refine lv_aload_n hx hb d_countDown_9 rfl (lv_at hl 0 rfl) ?_
    refine va_get (v := .int (σ (5 + j) 1)) hx hb hG i_T hown hK hP (5 + j) (wX_T hj) rfl 1 (by decide) (hG _ L_T_15) (fun _ h9 => h9) rfl d_countDown_10 ?_
    refine lv_iconst (v := 1) hx hb d_countDown_13 (by decide) ?_
    refine lv_icmp_le (tgt := 29) hx hb d_countDown_14 (by decide) (fun c_2 => ?_) (fun c_2 => ?_)
    · refine lv_aload_n hx hb d_countDown_29 rfl (lv_at hl 0 rfl) ?_
      refine lv_aload_n hx hb d_countDown_30 rfl (lv_at hl 0 rfl) ?_
      refine va_get (v := .int (σ (5 + j) 0)) hx hb hG i_T hown hK hP (5 + j) (wX_T hj) rfl 0 (by decide) (hG _ L_T_9) (fun _ h9 => h9) rfl d_countDown_31 ?_
      refine va_put (ty := .int) (v := .int (σ (5 + j) 0)) hx hb hG i_T ft_T ft_T_ok n_T hown hK hP hD hS (5 + j) (wX_T hj) rfl 1 (by decide) (hG _ L_T_15) (fun _ h9 => h9) rfl (by decide +kernel) (rfl) (rfl) (Nat.le_of_ble_eq_true rfl) d_countDown_34 (fun H locs hP hD hS => ?_)
      rw [wX_putT hj (by decide)] at hP hD
      refine lv_aload_n hx hb d_countDown_37 rfl (lv_at hl 0 rfl) ?_
      refine lv_dup hx hb d_countDown_38 rfl ?_
      refine va_get (v := .int ((up2 σ (5 + j) 1 (σ (5 + j) 0)) (5 + j) 5)) hx hb hG i_T hown hK hP (5 + j) (wX_T hj) rfl 5 (by decide) (hG _ L_T_28) (fun _ h9 => h9) rfl d_countDown_39 ?_
      refine lv_iconst (v := 1) hx hb d_countDown_42 (by decide) ?_
      refine lv_iadd hx hb d_countDown_43 ?_
      refine va_put (ty := .int) (v := .int (((up2 σ (5 + j) 1 (σ (5 + j) 0)) (5 + j) 5) + 1)) hx hb hG i_T ft_T ft_T_ok n_T hown hK hP hD hS (5 + j) (wX_T hj) rfl 5 (by decide) (hG _ L_T_28) (fun _ h9 => h9) rfl (by decide +kernel) (rfl) (rfl) (Nat.le_of_ble_eq_true rfl) d_countDown_44 (fun H locs hP hD hS => ?_)
      rw [wX_putT hj (by decide)] at hP hD
      refine lv_aload_n hx hb d_countDown_47 rfl (lv_at hl 0 rfl) ?_
      refine va_get (v := .int ((up2 (up2 σ (5 + j) 1 (σ (5 + j) 0)) (5 + j) 5 (((up2 σ (5 + j) 1 (σ (5 + j) 0)) (5 + j) 5) + 1)) (5 + j) 3)) hx hb hG i_T hown hK hP (5 + j) (wX_T hj) rfl 3 (by decide) (hG _ L_T_21) (fun _ h9 => h9) rfl d_countDown_48 ?_
      refine lv_if_eq (tgt := 59) hx hb d_countDown_51 (by decide) (fun c_3 => ?_) (fun c_3 => ?_)
      · refine lv_iconst (v := 1) hx hb d_countDown_59 (by decide) ?_
        exact hret _ _ _ 60 1 (up2 (up2 σ (5 + j) 1 (σ (5 + j) 0)) (5 + j) 5 (((up2 σ (5 + j) 1 (σ (5 + j) 0)) (5 + j) 5) + 1)) hP hD hS rfl d_countDown_60 (by simp only [f_countDown, c_1, c_2, c_3, ↓reduceIte]) (by simp only [f_countDown, c_1, c_2, c_3, ↓reduceIte])
      · refine lv_aload_n hx hb d_countDown_54 rfl (lv_at hl 0 rfl) ?_
        refine lv_iconst (v := 0) hx hb d_countDown_55 (by decide) ?_
        refine va_put (ty := .boolean) (v := .int 0) hx hb hG i_T ft_T ft_T_ok n_T hown hK hP hD hS (5 + j) (wX_T hj) rfl 4 (by decide) (hG _ L_T_25) (fun _ h9 => h9) rfl (by decide +kernel) (rfl) (rfl) (Nat.le_of_ble_eq_true rfl) d_countDown_56 (fun H locs hP hD hS => ?_)
        rw [wX_putT hj (by decide)] at hP hD
        refine lv_iconst (v := 1) hx hb d_countDown_59 (by decide) ?_
        exact hret _ _ _ 60 1 (up2 (up2 (up2 σ (5 + j) 1 (σ (5 + j) 0)) (5 + j) 5 (((up2 σ (5 + j) 1 (σ (5 + j) 0)) (5 + j) 5) + 1)) (5 + j) 4 0) hP hD hS rfl d_countDown_60 (by simp only [f_countDown, c_1, c_2, c_3, ↓reduceIte]) (by simp only [f_countDown, c_1, c_2, c_3, ↓reduceIte])
    · refine lv_aload_n hx hb d_countDown_17 rfl (lv_at hl 0 rfl) ?_
      refine lv_dup hx hb d_countDown_18 rfl ?_
      refine va_get (v := .int (σ (5 + j) 1)) hx hb hG i_T hown hK hP (5 + j) (wX_T hj) rfl 1 (by decide) (hG _ L_T_15) (fun _ h9 => h9) rfl d_countDown_19 ?_
      refine lv_iconst (v := 1) hx hb d_countDown_22 (by decide) ?_
      refine lv_isub hx hb d_countDown_23 ?_
      refine va_put (ty := .int) (v := .int ((σ (5 + j) 1) - 1)) hx hb hG i_T ft_T ft_T_ok n_T hown hK hP hD hS (5 + j) (wX_T hj) rfl 1 (by decide) (hG _ L_T_15) (fun _ h9 => h9) rfl (by decide +kernel) (rfl) (rfl) (Nat.le_of_ble_eq_true rfl) d_countDown_24 (fun H locs hP hD hS => ?_)
      rw [wX_putT hj (by decide)] at hP hD
      refine lv_iconst (v := 0) hx hb d_countDown_27 (by decide) ?_
      exact hret _ _ _ 28 0 (up2 σ (5 + j) 1 ((σ (5 + j) 1) - 1)) hP hD hS rfl d_countDown_28 (by simp only [f_countDown, c_1, c_2, ↓reduceIte]) (by simp only [f_countDown, c_1, c_2, ↓reduceIte])
  · refine lv_iconst (v := 0) hx hb d_countDown_7 (by decide) ?_
    exact hret _ _ _ 8 0 σ hP hD hS rfl d_countDown_8 (by simp only [f_countDown, c_1, ↓reduceIte]) (by simp only [f_countDown, c_1, ↓reduceIte])
set_option maxHeartbeats 4000000 in
set_option maxRecDepth 100000 in
theorem c_Tread (l : Launch) (D : va_G) (a : Nat → Nat) (ca : Nat → ClassId) (σ : St) (j : Nat) (hj : j < 8) (w : Int32) : KI l D (tX ca) (wX a ca) rm_Tread y_Tread b_Tread 2 .int [.ref (a (5 + j)), .int w] σ (f_Tread σ (5 + j) w) σ := by
  refine KI.of (by decide) (Nat.le_of_ble_eq_true rfl) ?_
  intro p e s m args below meth c A Q ls hx hb hml hown hG hK hN hA hP hD hS hl hret
  have hown : s.vm.findClass R_T = some m.cls := hown
  have hl : lv_has ls 2 [(0, .ref (a (5 + j))), (1, .int w)] := hl
  refine lv_iload_n hx hb d_Tread_0 rfl (lv_at hl 1 rfl) ?_
  rcases sw_cases w 8 (by decide) with s_1 | ⟨k_2, k_2_l, s_1⟩
  · refine lv_tableOut (tgt := 113) hx hb d_Tread_1 s_1 (by decide) ?_
    refine lv_iconst (v := (-1)) hx hb d_Tread_113 (by decide) ?_
    exact hret _ _ _ 114 (-1) σ hP hD hS rfl d_Tread_114 (by simp only [f_Tread, sw_o _ _ s_1 0 (by decide) (by decide), sw_o _ _ s_1 1 (by decide) (by decide), sw_o _ _ s_1 2 (by decide) (by decide), sw_o _ _ s_1 3 (by decide) (by decide), sw_o _ _ s_1 4 (by decide) (by decide), sw_o _ _ s_1 5 (by decide) (by decide), sw_o _ _ s_1 6 (by decide) (by decide), sw_o _ _ s_1 7 (by decide) (by decide), sw_o _ _ s_1 8 (by decide) (by decide), ↓reduceIte]) (rfl)
  · rcases (show k_2 = 0 ∨ k_2 = 1 ∨ k_2 = 2 ∨ k_2 = 3 ∨ k_2 = 4 ∨ k_2 = 5 ∨ k_2 = 6 ∨ k_2 = 7 ∨ k_2 = 8 by omega) with rfl | rfl | rfl | rfl | rfl | rfl | rfl | rfl | rfl
    · refine lv_tableIn (off := 51) (tgt := 52) hx hb d_Tread_1 (by rw [s_1]; decide) (by rw [s_1]; decide) (by rw [s_1]; decide) (by decide) ?_
      refine lv_aload_n hx hb d_Tread_52 rfl (lv_at hl 0 rfl) ?_
      refine va_get (v := .int (σ (5 + j) 1)) hx hb hG i_T hown hK hP (5 + j) (wX_T hj) rfl 1 (by decide) (hG _ L_T_15) (fun _ h9 => h9) rfl d_Tread_53 ?_
      exact hret _ _ _ 56 (σ (5 + j) 1) σ hP hD hS rfl d_Tread_56 (by simp only [f_Tread, s_1, sw_0_0, ↓reduceIte]) (rfl)
    · refine lv_tableIn (off := 56) (tgt := 57) hx hb d_Tread_1 (by rw [s_1]; decide) (by rw [s_1]; decide) (by rw [s_1]; decide) (by decide) ?_
      refine lv_aload_n hx hb d_Tread_57 rfl (lv_at hl 0 rfl) ?_
      refine va_get (v := .int (σ (5 + j) 0)) hx hb hG i_T hown hK hP (5 + j) (wX_T hj) rfl 0 (by decide) (hG _ L_T_9) (fun _ h9 => h9) rfl d_Tread_58 ?_
      exact hret _ _ _ 61 (σ (5 + j) 0) σ hP hD hS rfl d_Tread_61 (by simp only [f_Tread, s_1, sw_1_0, sw_1_1, ↓reduceIte]) (rfl)
    · refine lv_tableIn (off := 61) (tgt := 62) hx hb d_Tread_1 (by rw [s_1]; decide) (by rw [s_1]; decide) (by rw [s_1]; decide) (by decide) ?_
      refine lv_aload_n hx hb d_Tread_62 rfl (lv_at hl 0 rfl) ?_
      refine va_get (v := .int (σ (5 + j) 2)) hx hb hG i_T hown hK hP (5 + j) (wX_T hj) rfl 2 (by decide) (hG _ L_T_18) (fun _ h9 => h9) rfl d_Tread_63 ?_
      exact hret _ _ _ 66 (σ (5 + j) 2) σ hP hD hS rfl d_Tread_66 (by simp only [f_Tread, s_1, sw_2_0, sw_2_1, sw_2_2, ↓reduceIte]) (rfl)
    · refine lv_tableIn (off := 66) (tgt := 67) hx hb d_Tread_1 (by rw [s_1]; decide) (by rw [s_1]; decide) (by rw [s_1]; decide) (by decide) ?_
      refine lv_aload_n hx hb d_Tread_67 rfl (lv_at hl 0 rfl) ?_
      refine va_get (v := .int (σ (5 + j) 4)) hx hb hG i_T hown hK hP (5 + j) (wX_T hj) rfl 4 (by decide) (hG _ L_T_25) (fun _ h9 => h9) rfl d_Tread_68 ?_
      refine lv_if_eq (tgt := 78) hx hb d_Tread_71 (by decide) (fun c_3 => ?_) (fun c_3 => ?_)
      · refine lv_iconst (v := 0) hx hb d_Tread_78 (by decide) ?_
        exact hret _ _ _ 79 0 σ hP hD hS rfl d_Tread_79 (by simp only [f_Tread, s_1, c_3, sw_3_0, sw_3_1, sw_3_2, sw_3_3, ↓reduceIte]) (rfl)
      · refine lv_iconst (v := 1) hx hb d_Tread_74 (by decide) ?_
        refine lv_goto (tgt := 79) hx hb d_Tread_75 (by decide) ?_
        exact hret _ _ _ 79 1 σ hP hD hS rfl d_Tread_79 (by simp only [f_Tread, s_1, c_3, sw_3_0, sw_3_1, sw_3_2, sw_3_3, ↓reduceIte]) (rfl)
    · refine lv_tableIn (off := 79) (tgt := 80) hx hb d_Tread_1 (by rw [s_1]; decide) (by rw [s_1]; decide) (by rw [s_1]; decide) (by decide) ?_
      refine lv_aload_n hx hb d_Tread_80 rfl (lv_at hl 0 rfl) ?_
      refine va_get (v := .int (σ (5 + j) 3)) hx hb hG i_T hown hK hP (5 + j) (wX_T hj) rfl 3 (by decide) (hG _ L_T_21) (fun _ h9 => h9) rfl d_Tread_81 ?_
      refine lv_if_eq (tgt := 91) hx hb d_Tread_84 (by decide) (fun c_4 => ?_) (fun c_4 => ?_)
      · refine lv_iconst (v := 0) hx hb d_Tread_91 (by decide) ?_
        exact hret _ _ _ 92 0 σ hP hD hS rfl d_Tread_92 (by simp only [f_Tread, s_1, c_4, sw_4_0, sw_4_1, sw_4_2, sw_4_3, sw_4_4, ↓reduceIte]) (rfl)
      · refine lv_iconst (v := 1) hx hb d_Tread_87 (by decide) ?_
        refine lv_goto (tgt := 92) hx hb d_Tread_88 (by decide) ?_
        exact hret _ _ _ 92 1 σ hP hD hS rfl d_Tread_92 (by simp only [f_Tread, s_1, c_4, sw_4_0, sw_4_1, sw_4_2, sw_4_3, sw_4_4, ↓reduceIte]) (rfl)
    · refine lv_tableIn (off := 92) (tgt := 93) hx hb d_Tread_1 (by rw [s_1]; decide) (by rw [s_1]; decide) (by rw [s_1]; decide) (by decide) ?_
      refine lv_aload_n hx hb d_Tread_93 rfl (lv_at hl 0 rfl) ?_
      refine va_get (v := .int (σ (5 + j) 5)) hx hb hG i_T hown hK hP (5 + j) (wX_T hj) rfl 5 (by decide) (hG _ L_T_28) (fun _ h9 => h9) rfl d_Tread_94 ?_
      exact hret _ _ _ 97 (σ (5 + j) 5) σ hP hD hS rfl d_Tread_97 (by simp only [f_Tread, s_1, sw_5_0, sw_5_1, sw_5_2, sw_5_3, sw_5_4, sw_5_5, ↓reduceIte]) (rfl)
    · refine lv_tableIn (off := 97) (tgt := 98) hx hb d_Tread_1 (by rw [s_1]; decide) (by rw [s_1]; decide) (by rw [s_1]; decide) (by decide) ?_
      refine lv_aload_n hx hb d_Tread_98 rfl (lv_at hl 0 rfl) ?_
      refine va_get (v := .int (σ (5 + j) 6)) hx hb hG i_T hown hK hP (5 + j) (wX_T hj) rfl 6 (by decide) (hG _ L_T_31) (fun _ h9 => h9) rfl d_Tread_99 ?_
      exact hret _ _ _ 102 (σ (5 + j) 6) σ hP hD hS rfl d_Tread_102 (by simp only [f_Tread, s_1, sw_6_0, sw_6_1, sw_6_2, sw_6_3, sw_6_4, sw_6_5, sw_6_6, ↓reduceIte]) (rfl)
    · refine lv_tableIn (off := 102) (tgt := 103) hx hb d_Tread_1 (by rw [s_1]; decide) (by rw [s_1]; decide) (by rw [s_1]; decide) (by decide) ?_
      refine lv_aload_n hx hb d_Tread_103 rfl (lv_at hl 0 rfl) ?_
      refine va_get (v := .int (σ (5 + j) 7)) hx hb hG i_T hown hK hP (5 + j) (wX_T hj) rfl 7 (by decide) (hG _ L_T_34) (fun _ h9 => h9) rfl d_Tread_104 ?_
      exact hret _ _ _ 107 (σ (5 + j) 7) σ hP hD hS rfl d_Tread_107 (by simp only [f_Tread, s_1, sw_7_0, sw_7_1, sw_7_2, sw_7_3, sw_7_4, sw_7_5, sw_7_6, sw_7_7, ↓reduceIte]) (rfl)
    · refine lv_tableIn (off := 107) (tgt := 108) hx hb d_Tread_1 (by rw [s_1]; decide) (by rw [s_1]; decide) (by rw [s_1]; decide) (by decide) ?_
      refine lv_aload_n hx hb d_Tread_108 rfl (lv_at hl 0 rfl) ?_
      refine va_get (v := .int (σ (5 + j) 8)) hx hb hG i_T hown hK hP (5 + j) (wX_T hj) rfl 8 (by decide) (hG _ L_T_37) (fun _ h9 => h9) rfl d_Tread_109 ?_
      exact hret _ _ _ 112 (σ (5 + j) 8) σ hP hD hS rfl d_Tread_112 (by simp only [f_Tread, s_1, sw_8_0, sw_8_1, sw_8_2, sw_8_3, sw_8_4, sw_8_5, sw_8_6, sw_8_7, sw_8_8, ↓reduceIte]) (rfl)
set_option maxHeartbeats 4000000 in
set_option maxRecDepth 100000 in
theorem c_asks (l : Launch) (D : va_G) (a : Nat → Nat) (ca : Nat → ClassId) (σ : St) (j : Nat) (hj : j < 4) (x : Int32) : KI l D (tX ca) (wX a ca) rm_asks y_asks b_asks 2 .boolean [.ref (a (13 + j)), .int x] σ (f_asks σ (13 + j) x) σ := by
  refine KI.of (by decide) (Nat.le_of_ble_eq_true rfl) ?_
  intro p e s m args below meth c A Q ls hx hb hml hown hG hK hN hA hP hD hS hl hret
  have hown : s.vm.findClass R_G = some m.cls := hown
  have hl : lv_has ls 2 [(0, .ref (a (13 + j))), (1, .int x)] := hl
  refine lv_iload_n hx hb d_asks_0 rfl (lv_at hl 1 rfl) ?_
  refine lv_aload_n hx hb d_asks_1 rfl (lv_at hl 0 rfl) ?_
  refine va_get (v := .int (σ (13 + j) 0)) hx hb hG i_G hown hK hP (13 + j) (wX_G hj) rfl 0 (by decide) (hG _ L_G_9) (fun _ h9 => h9) rfl d_asks_2 ?_
  refine lv_iand hx hb d_asks_5 ?_
  refine lv_if_eq (tgt := 13) hx hb d_asks_6 (by decide) (fun c_1 => ?_) (fun c_1 => ?_)
  · refine lv_iconst (v := 0) hx hb d_asks_13 (by decide) ?_
    exact hret _ _ _ 14 0 σ hP hD hS rfl d_asks_14 (by simp only [f_asks, c_1, ↓reduceIte]) (rfl)
  · refine lv_iconst (v := 1) hx hb d_asks_9 (by decide) ?_
    refine lv_goto (tgt := 14) hx hb d_asks_10 (by decide) ?_
    exact hret _ _ _ 14 1 σ hP hD hS rfl d_asks_14 (by simp only [f_asks, c_1, ↓reduceIte]) (rfl)
set_option maxHeartbeats 4000000 in
set_option maxRecDepth 100000 in
theorem c_waitEnds (l : Launch) (D : va_G) (a : Nat → Nat) (ca : Nat → ClassId) (σ : St) (j : Nat) (hj : j < 4) : KI l D (tX ca) (wX a ca) rm_waitEnds y_waitEnds b_waitEnds 1 .boolean [.ref (a (13 + j))] σ ((f_waitEnds σ (13 + j)).1) ((f_waitEnds σ (13 + j)).2) := by
  refine KI.of (by decide) (Nat.le_of_ble_eq_true rfl) ?_
  intro p e s m args below meth c A Q ls hx hb hml hown hG hK hN hA hP hD hS hl hret
  have hown : s.vm.findClass R_G = some m.cls := hown
  have hl : lv_has ls 1 [(0, .ref (a (13 + j)))] := hl
  refine lv_aload_n hx hb d_waitEnds_0 rfl (lv_at hl 0 rfl) ?_
  refine va_get (v := .int (σ (13 + j) 2)) hx hb hG i_G hown hK hP (13 + j) (wX_G hj) rfl 2 (by decide) (hG _ L_G_18) (fun _ h9 => h9) rfl d_waitEnds_1 ?_
  refine lv_if_ne (tgt := 9) hx hb d_waitEnds_4 (by decide) (fun c_1 => ?_) (fun c_1 => ?_)
  · refine lv_aload_n hx hb d_waitEnds_9 rfl (lv_at hl 0 rfl) ?_
    refine lv_dup hx hb d_waitEnds_10 rfl ?_
    refine va_get (v := .int (σ (13 + j) 2)) hx hb hG i_G hown hK hP (13 + j) (wX_G hj) rfl 2 (by decide) (hG _ L_G_18) (fun _ h9 => h9) rfl d_waitEnds_11 ?_
    refine lv_iconst (v := 1) hx hb d_waitEnds_14 (by decide) ?_
    refine lv_isub hx hb d_waitEnds_15 ?_
    refine va_put (ty := .int) (v := .int ((σ (13 + j) 2) - 1)) hx hb hG i_G ft_G ft_G_ok n_G hown hK hP hD hS (13 + j) (wX_G hj) rfl 2 (by decide) (hG _ L_G_18) (fun _ h9 => h9) rfl (by decide +kernel) (rfl) (rfl) (Nat.le_of_ble_eq_true rfl) d_waitEnds_16 (fun H locs hP hD hS => ?_)
    rw [wX_putG hj (by decide)] at hP hD
    refine lv_aload_n hx hb d_waitEnds_19 rfl (lv_at hl 0 rfl) ?_
    refine va_get (v := .int ((up2 σ (13 + j) 2 ((σ (13 + j) 2) - 1)) (13 + j) 2)) hx hb hG i_G hown hK hP (13 + j) (wX_G hj) rfl 2 (by decide) (hG _ L_G_18) (fun _ h9 => h9) rfl d_waitEnds_20 ?_
    refine lv_if_ne (tgt := 30) hx hb d_waitEnds_23 (by decide) (fun c_2 => ?_) (fun c_2 => ?_)
    · refine lv_iconst (v := 0) hx hb d_waitEnds_30 (by decide) ?_
      exact hret _ _ _ 31 0 (up2 σ (13 + j) 2 ((σ (13 + j) 2) - 1)) hP hD hS rfl d_waitEnds_31 (by simp only [f_waitEnds, c_1, c_2, ↓reduceIte]) (by simp only [f_waitEnds, c_1, c_2, ↓reduceIte])
    · refine lv_iconst (v := 1) hx hb d_waitEnds_26 (by decide) ?_
      refine lv_goto (tgt := 31) hx hb d_waitEnds_27 (by decide) ?_
      exact hret _ _ _ 31 1 (up2 σ (13 + j) 2 ((σ (13 + j) 2) - 1)) hP hD hS rfl d_waitEnds_31 (by simp only [f_waitEnds, c_1, c_2, ↓reduceIte]) (by simp only [f_waitEnds, c_1, c_2, ↓reduceIte])
  · refine lv_iconst (v := 0) hx hb d_waitEnds_7 (by decide) ?_
    exact hret _ _ _ 8 0 σ hP hD hS rfl d_waitEnds_8 (by simp only [f_waitEnds, c_1, ↓reduceIte]) (by simp only [f_waitEnds, c_1, ↓reduceIte])
set_option maxHeartbeats 4000000 in
set_option maxRecDepth 100000 in
theorem c_Gread (l : Launch) (D : va_G) (a : Nat → Nat) (ca : Nat → ClassId) (σ : St) (j : Nat) (hj : j < 4) (w : Int32) (x : Int32) : KI l D (tX ca) (wX a ca) rm_Gread y_Gread b_Gread 3 .int [.ref (a (13 + j)), .int w, .int x] σ (f_Gread σ (13 + j) w x) σ := by
  refine KI.of (by decide) (Nat.le_of_ble_eq_true rfl) ?_
  intro p e s m args below meth c A Q ls hx hb hml hown hG hK hN hA hP hD hS hl hret
  have hown : s.vm.findClass R_G = some m.cls := hown
  have hl : lv_has ls 3 [(0, .ref (a (13 + j))), (1, .int w), (2, .int x)] := hl
  refine lv_iload_n hx hb d_Gread_0 rfl (lv_at hl 1 rfl) ?_
  rcases sw_cases w 6 (by decide) with s_1 | ⟨k_2, k_2_l, s_1⟩
  · refine lv_tableOut (tgt := 88) hx hb d_Gread_1 s_1 (by decide) ?_
    refine lv_iconst (v := (-1)) hx hb d_Gread_88 (by decide) ?_
    exact hret _ _ _ 89 (-1) σ hP hD hS rfl d_Gread_89 (by simp only [f_Gread, sw_o _ _ s_1 0 (by decide) (by decide), sw_o _ _ s_1 1 (by decide) (by decide), sw_o _ _ s_1 2 (by decide) (by decide), sw_o _ _ s_1 3 (by decide) (by decide), sw_o _ _ s_1 4 (by decide) (by decide), sw_o _ _ s_1 5 (by decide) (by decide), sw_o _ _ s_1 6 (by decide) (by decide), ↓reduceIte]) (rfl)
  · rcases (show k_2 = 0 ∨ k_2 = 1 ∨ k_2 = 2 ∨ k_2 = 3 ∨ k_2 = 4 ∨ k_2 = 5 ∨ k_2 = 6 by omega) with rfl | rfl | rfl | rfl | rfl | rfl | rfl
    · refine lv_tableIn (off := 43) (tgt := 44) hx hb d_Gread_1 (by rw [s_1]; decide) (by rw [s_1]; decide) (by rw [s_1]; decide) (by decide) ?_
      refine lv_aload_n hx hb d_Gread_44 rfl (lv_at hl 0 rfl) ?_
      refine lv_iload_n hx hb d_Gread_45 rfl (lv_at hl 2 rfl) ?_
      refine k_cV (rest := []) hx hb hml hown hG hK hN hA hP hD hS (c_asks l D a ca σ j hj x) ok_asks io_asks L_G_30 ⟨rfl, rfl, by decide, by decide⟩ (13 + j) (wX_G hj) rfl rfl hl.1 rfl (Nat.le_of_ble_eq_true rfl) ⟨Nat.zero_le _, Nat.zero_le _⟩ d_Gread_46 (fun H locs hP hD hS => ?_)
      refine lv_if_eq (tgt := 56) hx hb d_Gread_49 (by decide) (fun c_3 => ?_) (fun c_3 => ?_)
      · refine lv_iconst (v := 0) hx hb d_Gread_56 (by decide) ?_
        exact hret _ _ _ 57 0 σ hP hD hS rfl d_Gread_57 (by simp only [f_Gread, s_1, c_3, sw_0_0, ↓reduceIte]) (rfl)
      · refine lv_iconst (v := 1) hx hb d_Gread_52 (by decide) ?_
        refine lv_goto (tgt := 57) hx hb d_Gread_53 (by decide) ?_
        exact hret _ _ _ 57 1 σ hP hD hS rfl d_Gread_57 (by simp only [f_Gread, s_1, c_3, sw_0_0, ↓reduceIte]) (rfl)
    · refine lv_tableIn (off := 57) (tgt := 58) hx hb d_Gread_1 (by rw [s_1]; decide) (by rw [s_1]; decide) (by rw [s_1]; decide) (by decide) ?_
      refine lv_aload_n hx hb d_Gread_58 rfl (lv_at hl 0 rfl) ?_
      refine va_get (v := .int (σ (13 + j) 2)) hx hb hG i_G hown hK hP (13 + j) (wX_G hj) rfl 2 (by decide) (hG _ L_G_18) (fun _ h9 => h9) rfl d_Gread_59 ?_
      exact hret _ _ _ 62 (σ (13 + j) 2) σ hP hD hS rfl d_Gread_62 (by simp only [f_Gread, s_1, sw_1_0, sw_1_1, ↓reduceIte]) (rfl)
    · refine lv_tableIn (off := 62) (tgt := 63) hx hb d_Gread_1 (by rw [s_1]; decide) (by rw [s_1]; decide) (by rw [s_1]; decide) (by decide) ?_
      refine lv_aload_n hx hb d_Gread_63 rfl (lv_at hl 0 rfl) ?_
      refine va_get (v := .int (σ (13 + j) 0)) hx hb hG i_G hown hK hP (13 + j) (wX_G hj) rfl 0 (by decide) (hG _ L_G_9) (fun _ h9 => h9) rfl d_Gread_64 ?_
      exact hret _ _ _ 67 (σ (13 + j) 0) σ hP hD hS rfl d_Gread_67 (by simp only [f_Gread, s_1, sw_2_0, sw_2_1, sw_2_2, ↓reduceIte]) (rfl)
    · refine lv_tableIn (off := 67) (tgt := 68) hx hb d_Gread_1 (by rw [s_1]; decide) (by rw [s_1]; decide) (by rw [s_1]; decide) (by decide) ?_
      refine lv_aload_n hx hb d_Gread_68 rfl (lv_at hl 0 rfl) ?_
      refine va_get (v := .int (σ (13 + j) 1)) hx hb hG i_G hown hK hP (13 + j) (wX_G hj) rfl 1 (by decide) (hG _ L_G_15) (fun _ h9 => h9) rfl d_Gread_69 ?_
      exact hret _ _ _ 72 (σ (13 + j) 1) σ hP hD hS rfl d_Gread_72 (by simp only [f_Gread, s_1, sw_3_0, sw_3_1, sw_3_2, sw_3_3, ↓reduceIte]) (rfl)
    · refine lv_tableIn (off := 72) (tgt := 73) hx hb d_Gread_1 (by rw [s_1]; decide) (by rw [s_1]; decide) (by rw [s_1]; decide) (by decide) ?_
      refine lv_aload_n hx hb d_Gread_73 rfl (lv_at hl 0 rfl) ?_
      refine va_get (v := .int (σ (13 + j) 3)) hx hb hG i_G hown hK hP (13 + j) (wX_G hj) rfl 3 (by decide) (hG _ L_G_21) (fun _ h9 => h9) rfl d_Gread_74 ?_
      exact hret _ _ _ 77 (σ (13 + j) 3) σ hP hD hS rfl d_Gread_77 (by simp only [f_Gread, s_1, sw_4_0, sw_4_1, sw_4_2, sw_4_3, sw_4_4, ↓reduceIte]) (rfl)
    · refine lv_tableIn (off := 77) (tgt := 78) hx hb d_Gread_1 (by rw [s_1]; decide) (by rw [s_1]; decide) (by rw [s_1]; decide) (by decide) ?_
      refine lv_aload_n hx hb d_Gread_78 rfl (lv_at hl 0 rfl) ?_
      refine va_get (v := .int (σ (13 + j) 4)) hx hb hG i_G hown hK hP (13 + j) (wX_G hj) rfl 4 (by decide) (hG _ L_G_24) (fun _ h9 => h9) rfl d_Gread_79 ?_
      exact hret _ _ _ 82 (σ (13 + j) 4) σ hP hD hS rfl d_Gread_82 (by simp only [f_Gread, s_1, sw_5_0, sw_5_1, sw_5_2, sw_5_3, sw_5_4, sw_5_5, ↓reduceIte]) (rfl)
    · refine lv_tableIn (off := 82) (tgt := 83) hx hb d_Gread_1 (by rw [s_1]; decide) (by rw [s_1]; decide) (by rw [s_1]; decide) (by decide) ?_
      refine lv_aload_n hx hb d_Gread_83 rfl (lv_at hl 0 rfl) ?_
      refine va_get (v := .int (σ (13 + j) 5)) hx hb hG i_G hown hK hP (13 + j) (wX_G hj) rfl 5 (by decide) (hG _ L_G_27) (fun _ h9 => h9) rfl d_Gread_84 ?_
      exact hret _ _ _ 87 (σ (13 + j) 5) σ hP hD hS rfl d_Gread_87 (by simp only [f_Gread, s_1, sw_6_0, sw_6_1, sw_6_2, sw_6_3, sw_6_4, sw_6_5, sw_6_6, ↓reduceIte]) (rfl)
set_option maxHeartbeats 4000000 in
set_option maxRecDepth 100000 in
theorem c_add (l : Launch) (D : va_G) (a : Nat → Nat) (ca : Nat → ClassId) (σ : St) (b : Int32) (sv : Int32) (tm : Int32) (hI : xInv σ) : KV l D (tX ca) (wX a ca) rm_add y_add b_add 4 [.ref (a 1), .int b, .int sv, .int tm] σ (f_add σ b sv tm) := by
  refine KV.of (by decide) (Nat.le_of_ble_eq_true rfl) ?_
  intro p e s m args below meth c A Q ls hx hb hml hown hG hK hN hA hP hD hS hl hret
  have hown : s.vm.findClass R_H = some m.cls := hown
  have hl : lv_has ls 4 [(0, .ref (a 1)), (1, .int b), (2, .int sv), (3, .int tm)] := hl
  refine lv_aload_n hx hb d_add_0 rfl (lv_at hl 0 rfl) ?_
  refine va_get (v := .ref (a 2)) hx hb hG i_H hown hK hP 1 wX_H rfl 0 (by decide) (hG _ L_H_11) (fun _ h9 => h9) rfl d_add_1 ?_
  refine lv_aload_n hx hb d_add_4 rfl (lv_at hl 0 rfl) ?_
  refine va_get (v := .int (σ 1 5)) hx hb hG i_H hown hK hP 1 wX_H rfl 5 (by decide) (hG _ L_H_28) (fun _ h9 => h9) rfl d_add_5 ?_
  refine lv_iload_n hx hb d_add_8 rfl (lv_at hl 1 rfl) ?_
  refine va_iast (i := (σ 1 5)) hx hb hK hP hD hS 2 0 rfl rfl (xInv_in hI) d_add_9 (fun H locs hP hD hS => ?_)
  rw [wX_putA2] at hP hD
  refine lv_aload_n hx hb d_add_10 rfl (lv_at hl 0 rfl) ?_
  refine va_get (v := .ref (a 3)) hx hb hG i_H hown hK hP 1 wX_H rfl 1 (by decide) (hG _ L_H_15) (fun _ h9 => h9) rfl d_add_11 ?_
  refine lv_aload_n hx hb d_add_14 rfl (lv_at hl 0 rfl) ?_
  refine va_get (v := .int (σ 1 5)) hx hb hG i_H hown hK hP 1 wX_H rfl 5 (by decide) (hG _ L_H_28) (fun _ h9 => h9) rfl d_add_15 ?_
  refine lv_iload_n hx hb d_add_18 rfl (lv_at hl 2 rfl) ?_
  refine va_iast (i := (σ 1 5)) hx hb hK hP hD hS 3 0 rfl rfl (xInv_in hI) d_add_19 (fun H locs hP hD hS => ?_)
  rw [wX_putA3] at hP hD
  refine lv_aload_n hx hb d_add_20 rfl (lv_at hl 0 rfl) ?_
  refine va_get (v := .ref (a 4)) hx hb hG i_H hown hK hP 1 wX_H rfl 2 (by decide) (hG _ L_H_18) (fun _ h9 => h9) rfl d_add_21 ?_
  refine lv_aload_n hx hb d_add_24 rfl (lv_at hl 0 rfl) ?_
  refine va_get (v := .int (σ 1 5)) hx hb hG i_H hown hK hP 1 wX_H rfl 5 (by decide) (hG _ L_H_28) (fun _ h9 => h9) rfl d_add_25 ?_
  refine lv_iload_n hx hb d_add_28 rfl (lv_at hl 3 rfl) ?_
  refine va_iast (i := (σ 1 5)) hx hb hK hP hD hS 4 0 rfl rfl (xInv_in hI) d_add_29 (fun H locs hP hD hS => ?_)
  rw [wX_putA4] at hP hD
  refine lv_aload_n hx hb d_add_30 rfl (lv_at hl 0 rfl) ?_
  refine lv_aload_n hx hb d_add_31 rfl (lv_at hl 0 rfl) ?_
  refine va_get (v := .int (σ 1 5)) hx hb hG i_H hown hK hP 1 wX_H rfl 5 (by decide) (hG _ L_H_28) (fun _ h9 => h9) rfl d_add_32 ?_
  refine lv_iconst (v := 1) hx hb d_add_35 (by decide) ?_
  refine lv_iadd hx hb d_add_36 ?_
  refine lv_bipush (v := 16) hx hb d_add_37 (by decide) ?_
  refine lv_irem hx hb d_add_39 (by decide) ?_
  refine va_put (ty := .int) (v := .int (((σ 1 5) + 1) - ((σ 1 5) + 1) / 16 * 16)) hx hb hG i_H ft_H ft_H_ok n_H hown hK hP hD hS 1 wX_H rfl 5 (by decide) (hG _ L_H_28) (fun _ h9 => h9) rfl (by decide +kernel) (rfl) (rfl) (Nat.le_of_ble_eq_true rfl) d_add_40 (fun H locs hP hD hS => ?_)
  rw [wX_putH5] at hP hD
  refine lv_aload_n hx hb d_add_43 rfl (lv_at hl 0 rfl) ?_
  refine va_get (v := .int (σ 1 4)) hx hb hG i_H hown hK hP 1 wX_H rfl 4 (by decide) (hG _ L_H_25) (fun _ h9 => h9) rfl d_add_44 ?_
  refine lv_bipush (v := 16) hx hb d_add_47 (by decide) ?_
  refine lv_icmp_ge (tgt := 62) hx hb d_add_49 (by decide) (fun c_1 => ?_) (fun c_1 => ?_)
  · refine lv_aload_n hx hb d_add_62 rfl (lv_at hl 0 rfl) ?_
    refine lv_dup hx hb d_add_63 rfl ?_
    refine va_get (v := .int (σ 1 3)) hx hb hG i_H hown hK hP 1 wX_H rfl 3 (by decide) (hG _ L_H_21) (fun _ h9 => h9) rfl d_add_64 ?_
    refine lv_iconst (v := 1) hx hb d_add_67 (by decide) ?_
    refine lv_iadd hx hb d_add_68 ?_
    refine va_put (ty := .int) (v := .int ((σ 1 3) + 1)) hx hb hG i_H ft_H ft_H_ok n_H hown hK hP hD hS 1 wX_H rfl 3 (by decide) (hG _ L_H_21) (fun _ h9 => h9) rfl (by decide +kernel) (rfl) (rfl) (Nat.le_of_ble_eq_true rfl) d_add_69 (fun H locs hP hD hS => ?_)
    rw [wX_putH3] at hP hD
    exact hret _ _ _ 72 (up2 (up2 (up2 (up2 (up2 σ 2 ((σ 1 5).toNatClampNeg) b) 3 ((σ 1 5).toNatClampNeg) sv) 4 ((σ 1 5).toNatClampNeg) tm) 1 5 (((σ 1 5) + 1) - ((σ 1 5) + 1) / 16 * 16)) 1 3 ((σ 1 3) + 1)) hP hD hS d_add_72 (by simp only [f_add, f_arr, rm16, c_1, ↓reduceIte])
  · refine lv_aload_n hx hb d_add_52 rfl (lv_at hl 0 rfl) ?_
    refine lv_dup hx hb d_add_53 rfl ?_
    refine va_get (v := .int (σ 1 4)) hx hb hG i_H hown hK hP 1 wX_H rfl 4 (by decide) (hG _ L_H_25) (fun _ h9 => h9) rfl d_add_54 ?_
    refine lv_iconst (v := 1) hx hb d_add_57 (by decide) ?_
    refine lv_iadd hx hb d_add_58 ?_
    refine va_put (ty := .int) (v := .int ((σ 1 4) + 1)) hx hb hG i_H ft_H ft_H_ok n_H hown hK hP hD hS 1 wX_H rfl 4 (by decide) (hG _ L_H_25) (fun _ h9 => h9) rfl (by decide +kernel) (rfl) (rfl) (Nat.le_of_ble_eq_true rfl) d_add_59 (fun H locs hP hD hS => ?_)
    rw [wX_putH4] at hP hD
    refine lv_aload_n hx hb d_add_62 rfl (lv_at hl 0 rfl) ?_
    refine lv_dup hx hb d_add_63 rfl ?_
    refine va_get (v := .int (σ 1 3)) hx hb hG i_H hown hK hP 1 wX_H rfl 3 (by decide) (hG _ L_H_21) (fun _ h9 => h9) rfl d_add_64 ?_
    refine lv_iconst (v := 1) hx hb d_add_67 (by decide) ?_
    refine lv_iadd hx hb d_add_68 ?_
    refine va_put (ty := .int) (v := .int ((σ 1 3) + 1)) hx hb hG i_H ft_H ft_H_ok n_H hown hK hP hD hS 1 wX_H rfl 3 (by decide) (hG _ L_H_21) (fun _ h9 => h9) rfl (by decide +kernel) (rfl) (rfl) (Nat.le_of_ble_eq_true rfl) d_add_69 (fun H locs hP hD hS => ?_)
    rw [wX_putH3] at hP hD
    exact hret _ _ _ 72 (up2 (up2 (up2 (up2 (up2 (up2 σ 2 ((σ 1 5).toNatClampNeg) b) 3 ((σ 1 5).toNatClampNeg) sv) 4 ((σ 1 5).toNatClampNeg) tm) 1 5 (((σ 1 5) + 1) - ((σ 1 5) + 1) / 16 * 16)) 1 4 ((σ 1 4) + 1)) 1 3 ((σ 1 3) + 1)) hP hD hS d_add_72 (by simp only [f_add, f_arr, rm16, c_1, ↓reduceIte])
set_option maxHeartbeats 4000000 in
set_option maxRecDepth 100000 in
theorem c_Hread (l : Launch) (D : va_G) (a : Nat → Nat) (ca : Nat → ClassId) (σ : St) (i : Int32) (w : Int32) (hI : xInv σ) : KI l D (tX ca) (wX a ca) rm_Hread y_Hread b_Hread 4 .int [.ref (a 1), .int i, .int w] σ (f_Hread σ i w) σ := by
  refine KI.of (by decide) (Nat.le_of_ble_eq_true rfl) ?_
  intro p e s m args below meth c A Q ls hx hb hml hown hG hK hN hA hP hD hS hl hret
  have hown : s.vm.findClass R_H = some m.cls := hown
  have hl : lv_has ls 4 [(0, .ref (a 1)), (1, .int i), (2, .int w)] := hl
  refine lv_iload_n hx hb d_Hread_0 rfl (lv_at hl 1 rfl) ?_
  refine lv_if_lt (tgt := 12) hx hb d_Hread_1 (by decide) (fun c_1 => ?_) (fun c_1 => ?_)
  · refine lv_iconst (v := (-1)) hx hb d_Hread_12 (by decide) ?_
    exact hret _ _ _ 13 (-1) σ hP hD hS rfl d_Hread_13 (by simp only [f_Hread, rm16, c_1, ↓reduceIte]) (rfl)
  · refine lv_iload_n hx hb d_Hread_4 rfl (lv_at hl 1 rfl) ?_
    refine lv_aload_n hx hb d_Hread_5 rfl (lv_at hl 0 rfl) ?_
    refine va_get (v := .int (σ 1 4)) hx hb hG i_H hown hK hP 1 wX_H rfl 4 (by decide) (hG _ L_H_25) (fun _ h9 => h9) rfl d_Hread_6 ?_
    refine lv_icmp_lt (tgt := 14) hx hb d_Hread_9 (by decide) (fun c_2 => ?_) (fun c_2 => ?_)
    · refine lv_aload_n hx hb d_Hread_14 rfl (lv_at hl 0 rfl) ?_
      refine va_get (v := .int (σ 1 5)) hx hb hG i_H hown hK hP 1 wX_H rfl 5 (by decide) (hG _ L_H_28) (fun _ h9 => h9) rfl d_Hread_15 ?_
      refine lv_bipush (v := 16) hx hb d_Hread_18 (by decide) ?_
      refine lv_iadd hx hb d_Hread_20 ?_
      refine lv_iconst (v := 1) hx hb d_Hread_21 (by decide) ?_
      refine lv_isub hx hb d_Hread_22 ?_
      refine lv_iload_n hx hb d_Hread_23 rfl (lv_at hl 1 rfl) ?_
      refine lv_isub hx hb d_Hread_24 ?_
      refine lv_bipush (v := 16) hx hb d_Hread_25 (by decide) ?_
      refine lv_irem hx hb d_Hread_27 (by decide) ?_
      refine lv_istore_n (lv' := [(3, .int (((((σ 1 5) + 16) - 1) - i) - ((((σ 1 5) + 16) - 1) - i) / 16 * 16)), (0, .ref (a 1)), (1, .int i), (2, .int w)]) hx hb d_Hread_28 rfl hl (by decide) rfl (fun ls hl => ?_)
      refine lv_iload_n hx hb d_Hread_29 rfl (lv_at hl 3 rfl) ?_
      rcases sw_cases w 2 (by decide) with s_3 | ⟨k_4, k_4_l, s_3⟩
      · refine lv_tableOut (tgt := 77) hx hb d_Hread_30 s_3 (by decide) ?_
        refine lv_iconst (v := (-1)) hx hb d_Hread_77 (by decide) ?_
        exact hret _ _ _ 78 (-1) σ hP hD hS rfl d_Hread_78 (by simp only [f_Hread, rm16, c_1, c_2, sw_o _ _ s_3 0 (by decide) (by decide), sw_o _ _ s_3 1 (by decide) (by decide), sw_o _ _ s_3 2 (by decide) (by decide), ↓reduceIte]) (rfl)
      · rcases (show k_4 = 0 ∨ k_4 = 1 ∨ k_4 = 2 by omega) with rfl | rfl | rfl
        · refine lv_tableIn (off := 26) (tgt := 56) hx hb d_Hread_30 (by rw [s_3]; decide) (by rw [s_3]; decide) (by rw [s_3]; decide) (by decide) ?_
          refine lv_aload_n hx hb d_Hread_56 rfl (lv_at hl 1 rfl) ?_
          refine va_get (v := .ref (a 2)) hx hb hG i_H hown hK hP 1 wX_H rfl 0 (by decide) (hG _ L_H_11) (fun _ h9 => h9) rfl d_Hread_57 ?_
          refine lv_iload_n hx hb d_Hread_60 rfl (lv_at hl 0 rfl) ?_
          refine va_iald hx hb hK hP 2 0 rfl rfl (xInv_at hI c_1 c_2) d_Hread_61 ?_
          exact hret _ _ _ 62 (σ 2 (((((σ 1 5) + 16) - 1) - i) - ((((σ 1 5) + 16) - 1) - i) / 16 * 16).toNatClampNeg) σ hP hD hS rfl d_Hread_62 (by simp only [f_Hread, rm16, c_1, c_2, s_3, sw_0_0, ↓reduceIte]) (rfl)
        · refine lv_tableIn (off := 33) (tgt := 63) hx hb d_Hread_30 (by rw [s_3]; decide) (by rw [s_3]; decide) (by rw [s_3]; decide) (by decide) ?_
          refine lv_aload_n hx hb d_Hread_63 rfl (lv_at hl 1 rfl) ?_
          refine va_get (v := .ref (a 3)) hx hb hG i_H hown hK hP 1 wX_H rfl 1 (by decide) (hG _ L_H_15) (fun _ h9 => h9) rfl d_Hread_64 ?_
          refine lv_iload_n hx hb d_Hread_67 rfl (lv_at hl 0 rfl) ?_
          refine va_iald hx hb hK hP 3 0 rfl rfl (xInv_at hI c_1 c_2) d_Hread_68 ?_
          exact hret _ _ _ 69 (σ 3 (((((σ 1 5) + 16) - 1) - i) - ((((σ 1 5) + 16) - 1) - i) / 16 * 16).toNatClampNeg) σ hP hD hS rfl d_Hread_69 (by simp only [f_Hread, rm16, c_1, c_2, s_3, sw_1_0, sw_1_1, ↓reduceIte]) (rfl)
        · refine lv_tableIn (off := 40) (tgt := 70) hx hb d_Hread_30 (by rw [s_3]; decide) (by rw [s_3]; decide) (by rw [s_3]; decide) (by decide) ?_
          refine lv_aload_n hx hb d_Hread_70 rfl (lv_at hl 1 rfl) ?_
          refine va_get (v := .ref (a 4)) hx hb hG i_H hown hK hP 1 wX_H rfl 2 (by decide) (hG _ L_H_18) (fun _ h9 => h9) rfl d_Hread_71 ?_
          refine lv_iload_n hx hb d_Hread_74 rfl (lv_at hl 0 rfl) ?_
          refine va_iald hx hb hK hP 4 0 rfl rfl (xInv_at hI c_1 c_2) d_Hread_75 ?_
          exact hret _ _ _ 76 (σ 4 (((((σ 1 5) + 16) - 1) - i) - ((((σ 1 5) + 16) - 1) - i) / 16 * 16).toNatClampNeg) σ hP hD hS rfl d_Hread_76 (by simp only [f_Hread, rm16, c_1, c_2, s_3, sw_2_0, sw_2_1, sw_2_2, ↓reduceIte]) (rfl)
    · refine lv_iconst (v := (-1)) hx hb d_Hread_12 (by decide) ?_
      exact hret _ _ _ 13 (-1) σ hP hD hS rfl d_Hread_13 (by simp only [f_Hread, rm16, c_1, c_2, ↓reduceIte]) (rfl)
set_option maxHeartbeats 4000000 in
set_option maxRecDepth 100000 in
theorem c_leastBit (l : Launch) (D : va_G) (a : Nat → Nat) (ca : Nat → ClassId) (σ : St) (x : Int32) : KI l D (tX ca) (wX a ca) rm_leastBit y_leastBit b_leastBit 2 .int [.int x] σ (nI (lbN x 7 0)) σ := by
  refine KI.of (by decide) (Nat.le_of_ble_eq_true rfl) ?_
  intro p e s m args below meth c A Q ls hx hb hml hown hG hK hN hA hP hD hS hl hret
  have hown : s.vm.findClass R_X = some m.cls := hown
  have hl : lv_has ls 2 [(0, .int x)] := hl
  refine lv_iconst (v := 0) hx hb d_leastBit_0 (by decide) ?_
  refine lv_istore_n (lv' := [(1, .int 0), (0, .int x)]) hx hb d_leastBit_1 rfl hl (by decide) rfl (fun ls hl => ?_)
  have loop : ∀ (n : Nat) (t : Nat), (t + n = 7) → (lbN x n t = lbN x 7 0) → ∀ (H : Heap) (locs : List Loc) (ls : Array Slot), va_P D classes (wX a ca σ) H → va_D A (wX a ca σ) → va_S A s.heap H locs → lv_has ls 2 [(1, .int (nI t)), (0, .int x)] → W p l e rm_leastBit s m args below meth c H locs 0 0 Q (F0 m 2 ls []) := by
    intro n
    induction n with
    | zero =>
      intro t ht hrel H locs ls hP hD hS hl
      refine lv_iload_n hx hb d_leastBit_2 rfl (lv_at hl 0 rfl) ?_
      refine lv_bipush (v := 7) hx hb d_leastBit_3 (by decide) ?_
      refine lv_icmp_ge (tgt := 24) hx hb d_leastBit_5 (by decide) (fun c_1 => ?_) (fun c_1 => absurd (nI_le (a := 7) (b := t) (by omega) (by omega)) c_1)
      refine lv_bipush (v := 7) hx hb d_leastBit_24 (by decide) ?_
      exact hret _ _ _ 26 7 σ hP hD hS rfl d_leastBit_26 (by rw [← hrel]; rfl) (rfl)
    | succ n ih =>
      intro t ht hrel H locs ls hP hD hS hl
      refine lv_iload_n hx hb d_leastBit_2 rfl (lv_at hl 0 rfl) ?_
      refine lv_bipush (v := 7) hx hb d_leastBit_3 (by decide) ?_
      refine lv_icmp_ge (tgt := 24) hx hb d_leastBit_5 (by decide) (fun c_2 => absurd c_2 (nI_ge (a := t) (b := 7) (by omega) (by omega))) (fun c_2 => ?_)
      refine lv_iload_n hx hb d_leastBit_8 rfl (lv_at hl 1 rfl) ?_
      refine lv_iconst (v := 1) hx hb d_leastBit_9 (by decide) ?_
      refine lv_iload_n hx hb d_leastBit_10 rfl (lv_at hl 0 rfl) ?_
      refine lv_ishl hx hb d_leastBit_11 ?_
      refine lv_iand hx hb d_leastBit_12 ?_
      refine lv_if_eq (tgt := 18) hx hb d_leastBit_13 (by decide) (fun c_3 => ?_) (fun c_3 => ?_)
      · refine lv_iinc (v := nI (t + 1)) (lv' := [(1, .int (nI (t + 1))), (0, .int x)]) hx hb d_leastBit_18 hl (k := 0) rfl (nI_1 t) (by decide) rfl (fun ls hl => ?_)
        refine lv_goto (tgt := 2) hx hb d_leastBit_21 (by decide) ?_
        exact ih (t + 1) (by omega) (by rw [← hrel]; simp only [lbN, bit1, c_2, c_3, ↓reduceIte]) _ _ _ hP hD hS (lv_sub hl [0, 1] rfl)
      · refine lv_iload_n hx hb d_leastBit_16 rfl (lv_at hl 0 rfl) ?_
        exact hret _ _ _ 17 (nI t) σ hP hD hS rfl d_leastBit_17 (by rw [← hrel]; simp only [lbN, bit1, c_2, c_3, ↓reduceIte]) (rfl)
  exact loop 7 0 (by omega) rfl _ _ _ hP hD hS (lv_sub hl [0, 1] rfl)
set_option maxHeartbeats 4000000 in
set_option maxRecDepth 100000 in
theorem c_raise (l : Launch) (D : va_G) (a : Nat → Nat) (ca : Nat → ClassId) (σ : St) (j : Nat) (hj : j < 8) : KV l D (tX ca) (wX a ca) rm_raise y_raise b_raise 3 [.ref (a 0), .int (nI j)] σ (f_raise σ j) := by
  refine KV.of (by decide) (Nat.le_of_ble_eq_true rfl) ?_
  intro p e s m args below meth c A Q ls hx hb hml hown hG hK hN hA hP hD hS hl hret
  have hown : s.vm.findClass R_X = some m.cls := hown
  have hl : lv_has ls 3 [(0, .ref (a 0)), (1, .int (nI j))] := hl
  refine lv_iconst (v := 1) hx hb d_raise_0 (by decide) ?_
  refine lv_iload_n hx hb d_raise_1 rfl (lv_at hl 1 rfl) ?_
  refine lv_ishl hx hb d_raise_2 ?_
  refine lv_istore_n (lv' := [(2, .int ((1 : Int32) <<< ((nI j) &&& 31))), (0, .ref (a 0)), (1, .int (nI j))]) hx hb d_raise_3 rfl hl (by decide) rfl (fun ls hl => ?_)
  refine lv_aload_n hx hb d_raise_4 rfl (lv_at hl 1 rfl) ?_
  refine va_get (v := .int (σ 0 3)) hx hb hG i_X hown hK hP 0 wX_X rfl 3 (by decide) (hG _ L_X_28) (fun _ h9 => h9) rfl d_raise_5 ?_
  refine lv_iload_n hx hb d_raise_8 rfl (lv_at hl 0 rfl) ?_
  refine lv_iand hx hb d_raise_9 ?_
  refine lv_if_eq (tgt := 28) hx hb d_raise_10 (by decide) (fun c_1 => ?_) (fun c_1 => ?_)
  · refine lv_aload_n hx hb d_raise_28 rfl (lv_at hl 1 rfl) ?_
    refine lv_dup hx hb d_raise_29 rfl ?_
    refine va_get (v := .int (σ 0 3)) hx hb hG i_X hown hK hP 0 wX_X rfl 3 (by decide) (hG _ L_X_28) (fun _ h9 => h9) rfl d_raise_30 ?_
    refine lv_iload_n hx hb d_raise_33 rfl (lv_at hl 0 rfl) ?_
    refine lv_ior hx hb d_raise_34 ?_
    refine va_put (ty := .int) (v := .int ((σ 0 3) ||| ((1 : Int32) <<< ((nI j) &&& 31)))) hx hb hG i_X ft_X ft_X_ok n_X hown hK hP hD hS 0 wX_X rfl 3 (by decide) (hG _ L_X_28) (fun _ h9 => h9) rfl (by decide +kernel) (rfl) (rfl) (Nat.le_of_ble_eq_true rfl) d_raise_35 (fun H locs hP hD hS => ?_)
    rw [wX_putX3] at hP hD
    exact hret _ _ _ 38 (up2 σ 0 3 ((σ 0 3) ||| ((1 : Int32) <<< ((nI j) &&& 31)))) hP hD hS d_raise_38 (by simp only [f_raise, bit1, c_1, ↓reduceIte])
  · refine lv_aload_n hx hb d_raise_13 rfl (lv_at hl 1 rfl) ?_
    refine va_get (v := .ref (a 17)) hx hb hG i_X hown hK hP 0 wX_X rfl 0 (by decide) (hG _ L_X_11) (fun _ h9 => h9) rfl d_raise_14 ?_
    refine lv_iload_n hx hb d_raise_17 rfl (lv_at hl 2 rfl) ?_
    refine x_aldT hx hb hK hP j hj d_raise_18 ?_
    refine lv_dup hx hb d_raise_19 rfl ?_
    refine va_getN (v := .int (σ (5 + j) 6)) hx hb hG i_T hown hK hP (5 + j) (wX_T hj) rfl 6 (by decide) (hN.use L_X_115) (fun _ h9 => h9) rfl d_raise_20 ?_
    refine lv_iconst (v := 1) hx hb d_raise_23 (by decide) ?_
    refine lv_iadd hx hb d_raise_24 ?_
    refine va_putN (ty := .int) (v := .int ((σ (5 + j) 6) + 1)) hx hb hG i_T ft_T ft_T_ok n_T hown hK hP hD hS (5 + j) (wX_T hj) rfl 6 (by decide) (hN.use L_X_115) (fun _ h9 => h9) rfl (by decide +kernel) (rfl) (rfl) (Nat.le_of_ble_eq_true rfl) d_raise_25 (fun H locs hP hD hS => ?_)
    rw [wX_putT hj (by decide)] at hP hD
    refine lv_aload_n hx hb d_raise_28 rfl (lv_at hl 1 rfl) ?_
    refine lv_dup hx hb d_raise_29 rfl ?_
    refine va_get (v := .int ((up2 σ (5 + j) 6 ((σ (5 + j) 6) + 1)) 0 3)) hx hb hG i_X hown hK hP 0 wX_X rfl 3 (by decide) (hG _ L_X_28) (fun _ h9 => h9) rfl d_raise_30 ?_
    refine lv_iload_n hx hb d_raise_33 rfl (lv_at hl 0 rfl) ?_
    refine lv_ior hx hb d_raise_34 ?_
    refine va_put (ty := .int) (v := .int (((up2 σ (5 + j) 6 ((σ (5 + j) 6) + 1)) 0 3) ||| ((1 : Int32) <<< ((nI j) &&& 31)))) hx hb hG i_X ft_X ft_X_ok n_X hown hK hP hD hS 0 wX_X rfl 3 (by decide) (hG _ L_X_28) (fun _ h9 => h9) rfl (by decide +kernel) (rfl) (rfl) (Nat.le_of_ble_eq_true rfl) d_raise_35 (fun H locs hP hD hS => ?_)
    rw [wX_putX3] at hP hD
    exact hret _ _ _ 38 (up2 (up2 σ (5 + j) 6 ((σ (5 + j) 6) + 1)) 0 3 (((up2 σ (5 + j) 6 ((σ (5 + j) 6) + 1)) 0 3) ||| ((1 : Int32) <<< ((nI j) &&& 31)))) hP hD hS d_raise_38 (by simp only [f_raise, bit1, c_1, ↓reduceIte])
end
section
set_option maxHeartbeats 4000000 in
set_option maxRecDepth 100000 in
theorem c_tickTimers (l : Launch) (D : va_G) (a : Nat → Nat) (ca : Nat → ClassId) (σ : St)  : KV l D (tX ca) (wX a ca) rm_tickTimers y_tickTimers b_tickTimers 5 [.ref (a 0)] σ (tkT 8 0 0 σ) := by
  refine KV.of (by decide) (Nat.le_of_ble_eq_true rfl) ?_
  intro p e s m args below meth c A Q ls hx hb hml hown hG hK hN hA hP hD hS hl hret
  have hown : s.vm.findClass R_X = some m.cls := hown
  have hl : lv_has ls 5 [(0, .ref (a 0))] := hl
  refine lv_iconst (v := 0) hx hb d_tickTimers_0 (by decide) ?_
  refine lv_istore_n (lv' := [(1, .int 0), (0, .ref (a 0))]) hx hb d_tickTimers_1 rfl hl (by decide) rfl (fun ls hl => ?_)
  refine lv_iconst (v := 0) hx hb d_tickTimers_2 (by decide) ?_
  refine lv_istore_n (lv' := [(2, .int 0), (1, .int 0), (0, .ref (a 0))]) hx hb d_tickTimers_3 rfl hl (by decide) rfl (fun ls hl => ?_)
  have loop : ∀ (n : Nat) (t : Nat) (x : Int32) (σ1 : St), (t + n = 8) → (tkT n t x σ1 = tkT 8 0 0 σ) → ∀ (H : Heap) (locs : List Loc) (ls : Array Slot), va_P D classes (wX a ca σ1) H → va_D A (wX a ca σ1) → va_S A s.heap H locs → lv_has ls 5 [(2, .int (nI t)), (1, .int x), (0, .ref (a 0))] → W p l e rm_tickTimers s m args below meth c H locs 0 0 Q (F0 m 4 ls []) := by
    intro n
    induction n with
    | zero =>
      intro t x σ1 ht hrel H locs ls hP hD hS hl
      refine lv_iload_n hx hb d_tickTimers_4 rfl (lv_at hl 0 rfl) ?_
      refine lv_bipush (v := 8) hx hb d_tickTimers_5 (by decide) ?_
      refine lv_icmp_ge (tgt := 68) hx hb d_tickTimers_7 (by decide) (fun c_1 => ?_) (fun c_1 => absurd (nI_le (a := 8) (b := t) (by omega) (by omega)) c_1)
      exact hret _ _ _ 68 σ1 hP hD hS d_tickTimers_68 (hrel)
    | succ n ih =>
      intro t x σ1 ht hrel H locs ls hP hD hS hl
      refine lv_iload_n hx hb d_tickTimers_4 rfl (lv_at hl 0 rfl) ?_
      refine lv_bipush (v := 8) hx hb d_tickTimers_5 (by decide) ?_
      refine lv_icmp_ge (tgt := 68) hx hb d_tickTimers_7 (by decide) (fun c_2 => absurd c_2 (nI_ge (a := t) (b := 8) (by omega) (by omega))) (fun c_2 => ?_)
      refine lv_aload_n hx hb d_tickTimers_10 rfl (lv_at hl 2 rfl) ?_
      refine va_get (v := .ref (a 17)) hx hb hG i_X hown hK hP 0 wX_X rfl 0 (by decide) (hG _ L_X_11) (fun _ h9 => h9) rfl d_tickTimers_11 ?_
      refine lv_iload_n hx hb d_tickTimers_14 rfl (lv_at hl 0 rfl) ?_
      refine x_aldT hx hb hK hP t (show t < 8 by omega) d_tickTimers_15 ?_
      refine lv_astore_n (lv' := [(3, .ref (a (5 + t))), (2, .int (nI t)), (1, .int x), (0, .ref (a 0))]) hx hb d_tickTimers_16 rfl hl (by decide) rfl (fun ls hl => ?_)
      refine lv_aload_n hx hb d_tickTimers_17 rfl (lv_at hl 0 rfl) ?_
      refine va_getN (v := .int (σ1 (5 + t) 2)) hx hb hG i_T hown hK hP (5 + t) (wX_T (show t < 8 by omega)) rfl 2 (by decide) (hN.use L_X_46) (fun _ h9 => h9) rfl d_tickTimers_18 ?_
      refine lv_if_eq (tgt := 28) hx hb d_tickTimers_21 (by decide) (fun c_3 => ?_) (fun c_3 => ?_)
      · refine lv_iconst (v := 1) hx hb d_tickTimers_28 (by decide) ?_
        refine lv_goto (tgt := 33) hx hb d_tickTimers_29 (by decide) ?_
        refine lv_istore (lv' := [(4, .int 1), (3, .ref (a (5 + t))), (2, .int (nI t)), (1, .int x), (0, .ref (a 0))]) hx hb d_tickTimers_33 hl (by decide) rfl (fun ls hl => ?_)
        refine lv_iload hx hb d_tickTimers_35 (lv_at hl 0 rfl) ?_
        refine lv_if_eq (tgt := 51) hx hb d_tickTimers_37 (by decide) (fun c_4 => absurd c_4 (by decide)) (fun _ => ?_)
        refine lv_aload_n hx hb d_tickTimers_40 rfl (lv_at hl 1 rfl) ?_
        refine k_cN (rest := []) hx hb hml hown hG hK hN hA hP hD hS (c_countDown l D a ca σ1 t (show t < 8 by omega)) ok_countDown io_countDown L_X_107 ⟨rfl, rfl, by decide, by decide⟩ (5 + t) (wX_T (show t < 8 by omega)) rfl rfl hl.1 rfl (Nat.le_of_ble_eq_true rfl) ⟨Nat.zero_le _, Nat.zero_le _⟩ d_tickTimers_41 (fun H locs hP hD hS => ?_)
        refine lv_if_eq (tgt := 51) hx hb d_tickTimers_44 (by decide) (fun c_5 => ?_) (fun c_5 => ?_)
        · refine lv_iconst (v := 0) hx hb d_tickTimers_51 (by decide) ?_
          refine lv_istore_n (lv' := [(1, .int 0), (4, .int 1), (3, .ref (a (5 + t))), (2, .int (nI t)), (0, .ref (a 0))]) hx hb d_tickTimers_52 rfl hl (by decide) rfl (fun ls hl => ?_)
          refine lv_iload_n hx hb d_tickTimers_53 rfl (lv_at hl 0 rfl) ?_
          refine lv_if_eq (tgt := 62) hx hb d_tickTimers_54 (by decide) (fun _ => ?_) (fun c_6 => absurd (by decide) c_6)
          refine lv_iinc (v := nI (t + 1)) (lv' := [(2, .int (nI (t + 1))), (1, .int 0), (4, .int 1), (3, .ref (a (5 + t))), (0, .ref (a 0))]) hx hb d_tickTimers_62 hl (k := 3) rfl (nI_1 t) (by decide) rfl (fun ls hl => ?_)
          refine lv_goto (tgt := 4) hx hb d_tickTimers_65 (by decide) ?_
          exact ih (t + 1) 0 ((f_countDown σ1 (5 + t)).2) (by omega) (by rw [← hrel]; simp only [tkT, stT, c_2, c_3, c_5, ↓reduceIte]) _ _ _ hP hD hS (lv_sub hl [0, 1, 4] rfl)
        · refine lv_iconst (v := 1) hx hb d_tickTimers_47 (by decide) ?_
          refine lv_goto (tgt := 52) hx hb d_tickTimers_48 (by decide) ?_
          refine lv_istore_n (lv' := [(1, .int 1), (4, .int 1), (3, .ref (a (5 + t))), (2, .int (nI t)), (0, .ref (a 0))]) hx hb d_tickTimers_52 rfl hl (by decide) rfl (fun ls hl => ?_)
          refine lv_iload_n hx hb d_tickTimers_53 rfl (lv_at hl 0 rfl) ?_
          refine lv_if_eq (tgt := 62) hx hb d_tickTimers_54 (by decide) (fun c_7 => absurd c_7 (by decide)) (fun _ => ?_)
          refine lv_aload_n hx hb d_tickTimers_57 rfl (lv_at hl 4 rfl) ?_
          refine lv_iload_n hx hb d_tickTimers_58 rfl (lv_at hl 3 rfl) ?_
          refine k_cVv (rest := []) hx hb hml hown hG hK hN hA hP hD hS (c_raise l D a ca ((f_countDown σ1 (5 + t)).2) t (show t < 8 by omega)) ok_raise io_raise L_X_111 ⟨rfl, rfl, by decide, by decide⟩ 0 wX_X rfl rfl hl.1 rfl (Nat.le_of_ble_eq_true rfl) ⟨Nat.zero_le _, Nat.zero_le _⟩ d_tickTimers_59 (fun H locs hP hD hS => ?_)
          refine lv_iinc (v := nI (t + 1)) (lv' := [(2, .int (nI (t + 1))), (1, .int 1), (4, .int 1), (3, .ref (a (5 + t))), (0, .ref (a 0))]) hx hb d_tickTimers_62 hl (k := 3) rfl (nI_1 t) (by decide) rfl (fun ls hl => ?_)
          refine lv_goto (tgt := 4) hx hb d_tickTimers_65 (by decide) ?_
          exact ih (t + 1) 1 (f_raise ((f_countDown σ1 (5 + t)).2) t) (by omega) (by rw [← hrel]; simp only [tkT, stT, c_2, c_3, c_5, ↓reduceIte]) _ _ _ hP hD hS (lv_sub hl [0, 1, 4] rfl)
      · refine lv_iload_n hx hb d_tickTimers_24 rfl (lv_at hl 2 rfl) ?_
        refine lv_if_eq (tgt := 32) hx hb d_tickTimers_25 (by decide) (fun c_8 => ?_) (fun c_8 => ?_)
        · refine lv_iconst (v := 0) hx hb d_tickTimers_32 (by decide) ?_
          refine lv_istore (lv' := [(4, .int 0), (3, .ref (a (5 + t))), (2, .int (nI t)), (1, .int x), (0, .ref (a 0))]) hx hb d_tickTimers_33 hl (by decide) rfl (fun ls hl => ?_)
          refine lv_iload hx hb d_tickTimers_35 (lv_at hl 0 rfl) ?_
          refine lv_if_eq (tgt := 51) hx hb d_tickTimers_37 (by decide) (fun _ => ?_) (fun c_9 => absurd (by decide) c_9)
          refine lv_iconst (v := 0) hx hb d_tickTimers_51 (by decide) ?_
          refine lv_istore_n (lv' := [(1, .int 0), (4, .int 0), (3, .ref (a (5 + t))), (2, .int (nI t)), (0, .ref (a 0))]) hx hb d_tickTimers_52 rfl hl (by decide) rfl (fun ls hl => ?_)
          refine lv_iload_n hx hb d_tickTimers_53 rfl (lv_at hl 0 rfl) ?_
          refine lv_if_eq (tgt := 62) hx hb d_tickTimers_54 (by decide) (fun _ => ?_) (fun c_10 => absurd (by decide) c_10)
          refine lv_iinc (v := nI (t + 1)) (lv' := [(2, .int (nI (t + 1))), (1, .int 0), (4, .int 0), (3, .ref (a (5 + t))), (0, .ref (a 0))]) hx hb d_tickTimers_62 hl (k := 3) rfl (nI_1 t) (by decide) rfl (fun ls hl => ?_)
          refine lv_goto (tgt := 4) hx hb d_tickTimers_65 (by decide) ?_
          exact ih (t + 1) 0 σ1 (by omega) (by rw [← hrel]; simp only [tkT, stT, c_2, c_3, c_8, ↓reduceIte]) _ _ _ hP hD hS (lv_sub hl [0, 1, 4] rfl)
        · refine lv_iconst (v := 1) hx hb d_tickTimers_28 (by decide) ?_
          refine lv_goto (tgt := 33) hx hb d_tickTimers_29 (by decide) ?_
          refine lv_istore (lv' := [(4, .int 1), (3, .ref (a (5 + t))), (2, .int (nI t)), (1, .int x), (0, .ref (a 0))]) hx hb d_tickTimers_33 hl (by decide) rfl (fun ls hl => ?_)
          refine lv_iload hx hb d_tickTimers_35 (lv_at hl 0 rfl) ?_
          refine lv_if_eq (tgt := 51) hx hb d_tickTimers_37 (by decide) (fun c_11 => absurd c_11 (by decide)) (fun _ => ?_)
          refine lv_aload_n hx hb d_tickTimers_40 rfl (lv_at hl 1 rfl) ?_
          refine k_cN (rest := []) hx hb hml hown hG hK hN hA hP hD hS (c_countDown l D a ca σ1 t (show t < 8 by omega)) ok_countDown io_countDown L_X_107 ⟨rfl, rfl, by decide, by decide⟩ (5 + t) (wX_T (show t < 8 by omega)) rfl rfl hl.1 rfl (Nat.le_of_ble_eq_true rfl) ⟨Nat.zero_le _, Nat.zero_le _⟩ d_tickTimers_41 (fun H locs hP hD hS => ?_)
          refine lv_if_eq (tgt := 51) hx hb d_tickTimers_44 (by decide) (fun c_12 => ?_) (fun c_12 => ?_)
          · refine lv_iconst (v := 0) hx hb d_tickTimers_51 (by decide) ?_
            refine lv_istore_n (lv' := [(1, .int 0), (4, .int 1), (3, .ref (a (5 + t))), (2, .int (nI t)), (0, .ref (a 0))]) hx hb d_tickTimers_52 rfl hl (by decide) rfl (fun ls hl => ?_)
            refine lv_iload_n hx hb d_tickTimers_53 rfl (lv_at hl 0 rfl) ?_
            refine lv_if_eq (tgt := 62) hx hb d_tickTimers_54 (by decide) (fun _ => ?_) (fun c_13 => absurd (by decide) c_13)
            refine lv_iinc (v := nI (t + 1)) (lv' := [(2, .int (nI (t + 1))), (1, .int 0), (4, .int 1), (3, .ref (a (5 + t))), (0, .ref (a 0))]) hx hb d_tickTimers_62 hl (k := 3) rfl (nI_1 t) (by decide) rfl (fun ls hl => ?_)
            refine lv_goto (tgt := 4) hx hb d_tickTimers_65 (by decide) ?_
            exact ih (t + 1) 0 ((f_countDown σ1 (5 + t)).2) (by omega) (by rw [← hrel]; simp only [tkT, stT, c_2, c_3, c_8, c_12, ↓reduceIte]) _ _ _ hP hD hS (lv_sub hl [0, 1, 4] rfl)
          · refine lv_iconst (v := 1) hx hb d_tickTimers_47 (by decide) ?_
            refine lv_goto (tgt := 52) hx hb d_tickTimers_48 (by decide) ?_
            refine lv_istore_n (lv' := [(1, .int 1), (4, .int 1), (3, .ref (a (5 + t))), (2, .int (nI t)), (0, .ref (a 0))]) hx hb d_tickTimers_52 rfl hl (by decide) rfl (fun ls hl => ?_)
            refine lv_iload_n hx hb d_tickTimers_53 rfl (lv_at hl 0 rfl) ?_
            refine lv_if_eq (tgt := 62) hx hb d_tickTimers_54 (by decide) (fun c_14 => absurd c_14 (by decide)) (fun _ => ?_)
            refine lv_aload_n hx hb d_tickTimers_57 rfl (lv_at hl 4 rfl) ?_
            refine lv_iload_n hx hb d_tickTimers_58 rfl (lv_at hl 3 rfl) ?_
            refine k_cVv (rest := []) hx hb hml hown hG hK hN hA hP hD hS (c_raise l D a ca ((f_countDown σ1 (5 + t)).2) t (show t < 8 by omega)) ok_raise io_raise L_X_111 ⟨rfl, rfl, by decide, by decide⟩ 0 wX_X rfl rfl hl.1 rfl (Nat.le_of_ble_eq_true rfl) ⟨Nat.zero_le _, Nat.zero_le _⟩ d_tickTimers_59 (fun H locs hP hD hS => ?_)
            refine lv_iinc (v := nI (t + 1)) (lv' := [(2, .int (nI (t + 1))), (1, .int 1), (4, .int 1), (3, .ref (a (5 + t))), (0, .ref (a 0))]) hx hb d_tickTimers_62 hl (k := 3) rfl (nI_1 t) (by decide) rfl (fun ls hl => ?_)
            refine lv_goto (tgt := 4) hx hb d_tickTimers_65 (by decide) ?_
            exact ih (t + 1) 1 (f_raise ((f_countDown σ1 (5 + t)).2) t) (by omega) (by rw [← hrel]; simp only [tkT, stT, c_2, c_3, c_8, c_12, ↓reduceIte]) _ _ _ hP hD hS (lv_sub hl [0, 1, 4] rfl)
  exact loop 8 0 0 σ (by omega) rfl _ _ _ hP hD hS (lv_sub hl [0, 1, 2] rfl)
set_option maxHeartbeats 4000000 in
set_option maxRecDepth 100000 in
theorem c_serve (l : Launch) (D : va_G) (a : Nat → Nat) (ca : Nat → ClassId) (σ : St) (j : Nat) (hj : j < 4) (hI : xInv σ) : KI l D (tX ca) (wX a ca) rm_serve y_serve b_serve 4 .boolean [.ref (a 0), .int (nI j)] σ ((f_serve σ j).1) ((f_serve σ j).2) := by
  refine KI.of (by decide) (Nat.le_of_ble_eq_true rfl) ?_
  intro p e s m args below meth c A Q ls hx hb hml hown hG hK hN hA hP hD hS hl hret
  have hown : s.vm.findClass R_X = some m.cls := hown
  have hl : lv_has ls 4 [(0, .ref (a 0)), (1, .int (nI j))] := hl
  refine lv_aload_n hx hb d_serve_0 rfl (lv_at hl 0 rfl) ?_
  refine va_get (v := .ref (a 18)) hx hb hG i_X hown hK hP 0 wX_X rfl 1 (by decide) (hG _ L_X_17) (fun _ h9 => h9) rfl d_serve_1 ?_
  refine lv_iload_n hx hb d_serve_4 rfl (lv_at hl 1 rfl) ?_
  refine x_aldG hx hb hK hP j hj d_serve_5 ?_
  refine lv_astore_n (lv' := [(2, .ref (a (13 + j))), (0, .ref (a 0)), (1, .int (nI j))]) hx hb d_serve_6 rfl hl (by decide) rfl (fun ls hl => ?_)
  refine lv_aload_n hx hb d_serve_7 rfl (lv_at hl 0 rfl) ?_
  refine lv_aload_n hx hb d_serve_8 rfl (lv_at hl 1 rfl) ?_
  refine va_get (v := .int (σ 0 3)) hx hb hG i_X hown hK hP 0 wX_X rfl 3 (by decide) (hG _ L_X_28) (fun _ h9 => h9) rfl d_serve_9 ?_
  refine k_cN (rest := []) hx hb hml hown hG hK hN hA hP hD hS (c_asks l D a ca σ j hj (σ 0 3)) ok_asks io_asks L_X_124 ⟨rfl, rfl, by decide, by decide⟩ (13 + j) (wX_G hj) rfl rfl hl.1 rfl (Nat.le_of_ble_eq_true rfl) ⟨Nat.zero_le _, Nat.zero_le _⟩ d_serve_12 (fun H locs hP hD hS => ?_)
  refine lv_if_ne (tgt := 30) hx hb d_serve_15 (by decide) (fun c_1 => ?_) (fun c_1 => ?_)
  · refine lv_aload_n hx hb d_serve_30 rfl (lv_at hl 1 rfl) ?_
    refine va_get (v := .int (σ 0 3)) hx hb hG i_X hown hK hP 0 wX_X rfl 3 (by decide) (hG _ L_X_28) (fun _ h9 => h9) rfl d_serve_31 ?_
    refine lv_aload_n hx hb d_serve_34 rfl (lv_at hl 0 rfl) ?_
    refine va_getN (v := .int (σ (13 + j) 0)) hx hb hG i_G hown hK hP (13 + j) (wX_G hj) rfl 0 (by decide) (hN.use L_X_68) (fun _ h9 => h9) rfl d_serve_35 ?_
    refine lv_iand hx hb d_serve_38 ?_
    refine k_cS (rest := []) hx hb hml hown hG hK hN hA hP hD hS (c_leastBit l D a ca σ ((σ 0 3) &&& (σ (13 + j) 0))) ok_leastBit so_leastBit L_X_130 ⟨rfl, rfl, by decide, by decide⟩ rfl hl.1 rfl (Nat.le_of_ble_eq_true rfl) ⟨Nat.zero_le _, Nat.zero_le _⟩ d_serve_39 (fun H locs hP hD hS => ?_)
    obtain ⟨k, hk8, ek⟩ : ∃ k : Nat, k < 8 ∧ lbN ((σ 0 3) &&& (σ (13 + j) 0)) 7 0 = k := ⟨_, lbN_lt _ 7 0 (by decide), rfl⟩
    rw [ek]
    refine lv_istore_n (lv' := [(3, .int (nI k)), (2, .ref (a (13 + j))), (0, .ref (a 0)), (1, .int (nI j))]) hx hb d_serve_42 rfl hl (by decide) rfl (fun ls hl => ?_)
    refine lv_aload_n hx hb d_serve_43 rfl (lv_at hl 2 rfl) ?_
    refine lv_dup hx hb d_serve_44 rfl ?_
    refine va_get (v := .int (σ 0 3)) hx hb hG i_X hown hK hP 0 wX_X rfl 3 (by decide) (hG _ L_X_28) (fun _ h9 => h9) rfl d_serve_45 ?_
    refine lv_iconst (v := 1) hx hb d_serve_48 (by decide) ?_
    refine lv_iload_n hx hb d_serve_49 rfl (lv_at hl 0 rfl) ?_
    refine lv_ishl hx hb d_serve_50 ?_
    refine lv_iconst (v := (-1)) hx hb d_serve_51 (by decide) ?_
    refine lv_ixor hx hb d_serve_52 ?_
    refine lv_iand hx hb d_serve_53 ?_
    refine va_put (ty := .int) (v := .int ((σ 0 3) &&& (((1 : Int32) <<< ((nI k) &&& 31)) ^^^ (-1)))) hx hb hG i_X ft_X ft_X_ok n_X hown hK hP hD hS 0 wX_X rfl 3 (by decide) (hG _ L_X_28) (fun _ h9 => h9) rfl (by decide +kernel) (rfl) (rfl) (Nat.le_of_ble_eq_true rfl) d_serve_54 (fun H locs hP hD hS => ?_)
    rw [wX_putX3] at hP hD
    refine lv_aload_n hx hb d_serve_57 rfl (lv_at hl 2 rfl) ?_
    refine va_get (v := .ref (a 17)) hx hb hG i_X hown hK hP 0 wX_X rfl 0 (by decide) (hG _ L_X_11) (fun _ h9 => h9) rfl d_serve_58 ?_
    refine lv_iload_n hx hb d_serve_61 rfl (lv_at hl 0 rfl) ?_
    refine x_aldT hx hb hK hP k hk8 d_serve_62 ?_
    refine lv_dup hx hb d_serve_63 rfl ?_
    refine va_getN (v := .int ((up2 σ 0 3 ((σ 0 3) &&& (((1 : Int32) <<< ((nI k) &&& 31)) ^^^ (-1)))) (5 + k) 7)) hx hb hG i_T hown hK hP (5 + k) (wX_T hk8) rfl 7 (by decide) (hN.use L_X_133) (fun _ h9 => h9) rfl d_serve_64 ?_
    refine lv_iconst (v := 1) hx hb d_serve_67 (by decide) ?_
    refine lv_iadd hx hb d_serve_68 ?_
    refine va_putN (ty := .int) (v := .int (((up2 σ 0 3 ((σ 0 3) &&& (((1 : Int32) <<< ((nI k) &&& 31)) ^^^ (-1)))) (5 + k) 7) + 1)) hx hb hG i_T ft_T ft_T_ok n_T hown hK hP hD hS (5 + k) (wX_T hk8) rfl 7 (by decide) (hN.use L_X_133) (fun _ h9 => h9) rfl (by decide +kernel) (rfl) (rfl) (Nat.le_of_ble_eq_true rfl) d_serve_69 (fun H locs hP hD hS => ?_)
    rw [wX_putT hk8 (by decide)] at hP hD
    refine lv_aload_n hx hb d_serve_72 rfl (lv_at hl 1 rfl) ?_
    refine lv_dup hx hb d_serve_73 rfl ?_
    refine va_getN (v := .int ((up2 (up2 σ 0 3 ((σ 0 3) &&& (((1 : Int32) <<< ((nI k) &&& 31)) ^^^ (-1)))) (5 + k) 7 (((up2 σ 0 3 ((σ 0 3) &&& (((1 : Int32) <<< ((nI k) &&& 31)) ^^^ (-1)))) (5 + k) 7) + 1)) (13 + j) 3)) hx hb hG i_G hown hK hP (13 + j) (wX_G hj) rfl 3 (by decide) (hN.use L_X_136) (fun _ h9 => h9) rfl d_serve_74 ?_
    refine lv_iconst (v := 1) hx hb d_serve_77 (by decide) ?_
    refine lv_iadd hx hb d_serve_78 ?_
    refine va_putN (ty := .int) (v := .int (((up2 (up2 σ 0 3 ((σ 0 3) &&& (((1 : Int32) <<< ((nI k) &&& 31)) ^^^ (-1)))) (5 + k) 7 (((up2 σ 0 3 ((σ 0 3) &&& (((1 : Int32) <<< ((nI k) &&& 31)) ^^^ (-1)))) (5 + k) 7) + 1)) (13 + j) 3) + 1)) hx hb hG i_G ft_G ft_G_ok n_G hown hK hP hD hS (13 + j) (wX_G hj) rfl 3 (by decide) (hN.use L_X_136) (fun _ h9 => h9) rfl (by decide +kernel) (rfl) (rfl) (Nat.le_of_ble_eq_true rfl) d_serve_79 (fun H locs hP hD hS => ?_)
    rw [wX_putG hj (by decide)] at hP hD
    refine lv_aload_n hx hb d_serve_82 rfl (lv_at hl 1 rfl) ?_
    refine lv_aload_n hx hb d_serve_83 rfl (lv_at hl 2 rfl) ?_
    refine va_get (v := .int ((up2 (up2 (up2 σ 0 3 ((σ 0 3) &&& (((1 : Int32) <<< ((nI k) &&& 31)) ^^^ (-1)))) (5 + k) 7 (((up2 σ 0 3 ((σ 0 3) &&& (((1 : Int32) <<< ((nI k) &&& 31)) ^^^ (-1)))) (5 + k) 7) + 1)) (13 + j) 3 (((up2 (up2 σ 0 3 ((σ 0 3) &&& (((1 : Int32) <<< ((nI k) &&& 31)) ^^^ (-1)))) (5 + k) 7 (((up2 σ 0 3 ((σ 0 3) &&& (((1 : Int32) <<< ((nI k) &&& 31)) ^^^ (-1)))) (5 + k) 7) + 1)) (13 + j) 3) + 1)) 0 4)) hx hb hG i_X hown hK hP 0 wX_X rfl 4 (by decide) (hG _ L_X_32) (fun _ h9 => h9) rfl d_serve_84 ?_
    refine va_putN (ty := .int) (v := .int ((up2 (up2 (up2 σ 0 3 ((σ 0 3) &&& (((1 : Int32) <<< ((nI k) &&& 31)) ^^^ (-1)))) (5 + k) 7 (((up2 σ 0 3 ((σ 0 3) &&& (((1 : Int32) <<< ((nI k) &&& 31)) ^^^ (-1)))) (5 + k) 7) + 1)) (13 + j) 3 (((up2 (up2 σ 0 3 ((σ 0 3) &&& (((1 : Int32) <<< ((nI k) &&& 31)) ^^^ (-1)))) (5 + k) 7 (((up2 σ 0 3 ((σ 0 3) &&& (((1 : Int32) <<< ((nI k) &&& 31)) ^^^ (-1)))) (5 + k) 7) + 1)) (13 + j) 3) + 1)) 0 4)) hx hb hG i_G ft_G ft_G_ok n_G hown hK hP hD hS (13 + j) (wX_G hj) rfl 5 (by decide) (hN.use L_X_139) (fun _ h9 => h9) rfl (by decide +kernel) (rfl) (rfl) (Nat.le_of_ble_eq_true rfl) d_serve_87 (fun H locs hP hD hS => ?_)
    rw [wX_putG hj (by decide)] at hP hD
    refine lv_aload_n hx hb d_serve_90 rfl (lv_at hl 2 rfl) ?_
    refine va_get (v := .ref (a 1)) hx hb hG i_X hown hK hP 0 wX_X rfl 2 (by decide) (hG _ L_X_24) (fun _ h9 => h9) rfl d_serve_91 ?_
    refine lv_iload_n hx hb d_serve_94 rfl (lv_at hl 0 rfl) ?_
    refine lv_iload_n hx hb d_serve_95 rfl (lv_at hl 3 rfl) ?_
    refine lv_aload_n hx hb d_serve_96 rfl (lv_at hl 2 rfl) ?_
    refine va_get (v := .int ((up2 (up2 (up2 (up2 σ 0 3 ((σ 0 3) &&& (((1 : Int32) <<< ((nI k) &&& 31)) ^^^ (-1)))) (5 + k) 7 (((up2 σ 0 3 ((σ 0 3) &&& (((1 : Int32) <<< ((nI k) &&& 31)) ^^^ (-1)))) (5 + k) 7) + 1)) (13 + j) 3 (((up2 (up2 σ 0 3 ((σ 0 3) &&& (((1 : Int32) <<< ((nI k) &&& 31)) ^^^ (-1)))) (5 + k) 7 (((up2 σ 0 3 ((σ 0 3) &&& (((1 : Int32) <<< ((nI k) &&& 31)) ^^^ (-1)))) (5 + k) 7) + 1)) (13 + j) 3) + 1)) (13 + j) 5 ((up2 (up2 (up2 σ 0 3 ((σ 0 3) &&& (((1 : Int32) <<< ((nI k) &&& 31)) ^^^ (-1)))) (5 + k) 7 (((up2 σ 0 3 ((σ 0 3) &&& (((1 : Int32) <<< ((nI k) &&& 31)) ^^^ (-1)))) (5 + k) 7) + 1)) (13 + j) 3 (((up2 (up2 σ 0 3 ((σ 0 3) &&& (((1 : Int32) <<< ((nI k) &&& 31)) ^^^ (-1)))) (5 + k) 7 (((up2 σ 0 3 ((σ 0 3) &&& (((1 : Int32) <<< ((nI k) &&& 31)) ^^^ (-1)))) (5 + k) 7) + 1)) (13 + j) 3) + 1)) 0 4)) 0 4)) hx hb hG i_X hown hK hP 0 wX_X rfl 4 (by decide) (hG _ L_X_32) (fun _ h9 => h9) rfl d_serve_97 ?_
    refine k_cNv (rest := []) hx hb hml hown hG hK hN hA hP hD hS (c_add l D a ca (up2 (up2 (up2 (up2 σ 0 3 ((σ 0 3) &&& (((1 : Int32) <<< ((nI k) &&& 31)) ^^^ (-1)))) (5 + k) 7 (((up2 σ 0 3 ((σ 0 3) &&& (((1 : Int32) <<< ((nI k) &&& 31)) ^^^ (-1)))) (5 + k) 7) + 1)) (13 + j) 3 (((up2 (up2 σ 0 3 ((σ 0 3) &&& (((1 : Int32) <<< ((nI k) &&& 31)) ^^^ (-1)))) (5 + k) 7 (((up2 σ 0 3 ((σ 0 3) &&& (((1 : Int32) <<< ((nI k) &&& 31)) ^^^ (-1)))) (5 + k) 7) + 1)) (13 + j) 3) + 1)) (13 + j) 5 ((up2 (up2 (up2 σ 0 3 ((σ 0 3) &&& (((1 : Int32) <<< ((nI k) &&& 31)) ^^^ (-1)))) (5 + k) 7 (((up2 σ 0 3 ((σ 0 3) &&& (((1 : Int32) <<< ((nI k) &&& 31)) ^^^ (-1)))) (5 + k) 7) + 1)) (13 + j) 3 (((up2 (up2 σ 0 3 ((σ 0 3) &&& (((1 : Int32) <<< ((nI k) &&& 31)) ^^^ (-1)))) (5 + k) 7 (((up2 σ 0 3 ((σ 0 3) &&& (((1 : Int32) <<< ((nI k) &&& 31)) ^^^ (-1)))) (5 + k) 7) + 1)) (13 + j) 3) + 1)) 0 4)) (nI k) (nI j) ((up2 (up2 (up2 (up2 σ 0 3 ((σ 0 3) &&& (((1 : Int32) <<< ((nI k) &&& 31)) ^^^ (-1)))) (5 + k) 7 (((up2 σ 0 3 ((σ 0 3) &&& (((1 : Int32) <<< ((nI k) &&& 31)) ^^^ (-1)))) (5 + k) 7) + 1)) (13 + j) 3 (((up2 (up2 σ 0 3 ((σ 0 3) &&& (((1 : Int32) <<< ((nI k) &&& 31)) ^^^ (-1)))) (5 + k) 7 (((up2 σ 0 3 ((σ 0 3) &&& (((1 : Int32) <<< ((nI k) &&& 31)) ^^^ (-1)))) (5 + k) 7) + 1)) (13 + j) 3) + 1)) (13 + j) 5 ((up2 (up2 (up2 σ 0 3 ((σ 0 3) &&& (((1 : Int32) <<< ((nI k) &&& 31)) ^^^ (-1)))) (5 + k) 7 (((up2 σ 0 3 ((σ 0 3) &&& (((1 : Int32) <<< ((nI k) &&& 31)) ^^^ (-1)))) (5 + k) 7) + 1)) (13 + j) 3 (((up2 (up2 σ 0 3 ((σ 0 3) &&& (((1 : Int32) <<< ((nI k) &&& 31)) ^^^ (-1)))) (5 + k) 7 (((up2 σ 0 3 ((σ 0 3) &&& (((1 : Int32) <<< ((nI k) &&& 31)) ^^^ (-1)))) (5 + k) 7) + 1)) (13 + j) 3) + 1)) 0 4)) 0 4) (xInv_up (by omega) (xInv_up (by omega) (xInv_up (by omega) (xInv_up (by decide) hI))))) ok_add io_add L_X_142 ⟨rfl, rfl, by decide, by decide⟩ 1 wX_H rfl rfl hl.1 rfl (Nat.le_of_ble_eq_true rfl) ⟨Nat.zero_le _, Nat.zero_le _⟩ d_serve_100 (fun H locs hP hD hS => ?_)
    refine lv_iconst (v := 1) hx hb d_serve_103 (by decide) ?_
    exact hret _ _ _ 104 1 (f_add (up2 (up2 (up2 (up2 σ 0 3 ((σ 0 3) &&& (((1 : Int32) <<< ((nI k) &&& 31)) ^^^ (-1)))) (5 + k) 7 (((up2 σ 0 3 ((σ 0 3) &&& (((1 : Int32) <<< ((nI k) &&& 31)) ^^^ (-1)))) (5 + k) 7) + 1)) (13 + j) 3 (((up2 (up2 σ 0 3 ((σ 0 3) &&& (((1 : Int32) <<< ((nI k) &&& 31)) ^^^ (-1)))) (5 + k) 7 (((up2 σ 0 3 ((σ 0 3) &&& (((1 : Int32) <<< ((nI k) &&& 31)) ^^^ (-1)))) (5 + k) 7) + 1)) (13 + j) 3) + 1)) (13 + j) 5 ((up2 (up2 (up2 σ 0 3 ((σ 0 3) &&& (((1 : Int32) <<< ((nI k) &&& 31)) ^^^ (-1)))) (5 + k) 7 (((up2 σ 0 3 ((σ 0 3) &&& (((1 : Int32) <<< ((nI k) &&& 31)) ^^^ (-1)))) (5 + k) 7) + 1)) (13 + j) 3 (((up2 (up2 σ 0 3 ((σ 0 3) &&& (((1 : Int32) <<< ((nI k) &&& 31)) ^^^ (-1)))) (5 + k) 7 (((up2 σ 0 3 ((σ 0 3) &&& (((1 : Int32) <<< ((nI k) &&& 31)) ^^^ (-1)))) (5 + k) 7) + 1)) (13 + j) 3) + 1)) 0 4)) (nI k) (nI j) ((up2 (up2 (up2 (up2 σ 0 3 ((σ 0 3) &&& (((1 : Int32) <<< ((nI k) &&& 31)) ^^^ (-1)))) (5 + k) 7 (((up2 σ 0 3 ((σ 0 3) &&& (((1 : Int32) <<< ((nI k) &&& 31)) ^^^ (-1)))) (5 + k) 7) + 1)) (13 + j) 3 (((up2 (up2 σ 0 3 ((σ 0 3) &&& (((1 : Int32) <<< ((nI k) &&& 31)) ^^^ (-1)))) (5 + k) 7 (((up2 σ 0 3 ((σ 0 3) &&& (((1 : Int32) <<< ((nI k) &&& 31)) ^^^ (-1)))) (5 + k) 7) + 1)) (13 + j) 3) + 1)) (13 + j) 5 ((up2 (up2 (up2 σ 0 3 ((σ 0 3) &&& (((1 : Int32) <<< ((nI k) &&& 31)) ^^^ (-1)))) (5 + k) 7 (((up2 σ 0 3 ((σ 0 3) &&& (((1 : Int32) <<< ((nI k) &&& 31)) ^^^ (-1)))) (5 + k) 7) + 1)) (13 + j) 3 (((up2 (up2 σ 0 3 ((σ 0 3) &&& (((1 : Int32) <<< ((nI k) &&& 31)) ^^^ (-1)))) (5 + k) 7 (((up2 σ 0 3 ((σ 0 3) &&& (((1 : Int32) <<< ((nI k) &&& 31)) ^^^ (-1)))) (5 + k) 7) + 1)) (13 + j) 3) + 1)) 0 4)) 0 4)) hP hD hS rfl d_serve_104 (by simp only [f_serve, bit1, c_1, ek, ↓reduceIte]) (by simp only [f_serve, bit1, c_1, ek, ↓reduceIte])
  · refine lv_aload_n hx hb d_serve_18 rfl (lv_at hl 0 rfl) ?_
    refine lv_dup hx hb d_serve_19 rfl ?_
    refine va_getN (v := .int (σ (13 + j) 4)) hx hb hG i_G hown hK hP (13 + j) (wX_G hj) rfl 4 (by decide) (hN.use L_X_127) (fun _ h9 => h9) rfl d_serve_20 ?_
    refine lv_iconst (v := 1) hx hb d_serve_23 (by decide) ?_
    refine lv_iadd hx hb d_serve_24 ?_
    refine va_putN (ty := .int) (v := .int ((σ (13 + j) 4) + 1)) hx hb hG i_G ft_G ft_G_ok n_G hown hK hP hD hS (13 + j) (wX_G hj) rfl 4 (by decide) (hN.use L_X_127) (fun _ h9 => h9) rfl (by decide +kernel) (rfl) (rfl) (Nat.le_of_ble_eq_true rfl) d_serve_25 (fun H locs hP hD hS => ?_)
    rw [wX_putG hj (by decide)] at hP hD
    refine lv_iconst (v := 0) hx hb d_serve_28 (by decide) ?_
    exact hret _ _ _ 29 0 (up2 σ (13 + j) 4 ((σ (13 + j) 4) + 1)) hP hD hS rfl d_serve_29 (by simp only [f_serve, bit1, c_1, ↓reduceIte]) (by simp only [f_serve, bit1, c_1, ↓reduceIte])
set_option maxHeartbeats 4000000 in
set_option maxRecDepth 100000 in
theorem c_tickGates (l : Launch) (D : va_G) (a : Nat → Nat) (ca : Nat → ClassId) (σ : St) (hI : xInv σ) : KI l D (tX ca) (wX a ca) rm_tickGates y_tickGates b_tickGates 3 .int [.ref (a 0)] σ ((tkG 4 0 0 σ).1) ((tkG 4 0 0 σ).2) := by
  refine KI.of (by decide) (Nat.le_of_ble_eq_true rfl) ?_
  intro p e s m args below meth c A Q ls hx hb hml hown hG hK hN hA hP hD hS hl hret
  have hown : s.vm.findClass R_X = some m.cls := hown
  have hl : lv_has ls 3 [(0, .ref (a 0))] := hl
  refine lv_iconst (v := 0) hx hb d_tickGates_0 (by decide) ?_
  refine lv_istore_n (lv' := [(1, .int 0), (0, .ref (a 0))]) hx hb d_tickGates_1 rfl hl (by decide) rfl (fun ls hl => ?_)
  refine lv_iconst (v := 0) hx hb d_tickGates_2 (by decide) ?_
  refine lv_istore_n (lv' := [(2, .int 0), (1, .int 0), (0, .ref (a 0))]) hx hb d_tickGates_3 rfl hl (by decide) rfl (fun ls hl => ?_)
  have loop : ∀ (n : Nat) (g : Nat) (sv : Int32) (σ1 : St), (g + n = 4) → (xInv σ1) → (tkG n g sv σ1 = tkG 4 0 0 σ) → ∀ (H : Heap) (locs : List Loc) (ls : Array Slot), va_P D classes (wX a ca σ1) H → va_D A (wX a ca σ1) → va_S A s.heap H locs → lv_has ls 3 [(2, .int (nI g)), (1, .int sv), (0, .ref (a 0))] → W p l e rm_tickGates s m args below meth c H locs 0 0 Q (F0 m 4 ls []) := by
    intro n
    induction n with
    | zero =>
      intro g sv σ1 hg hI1 hrel H locs ls hP hD hS hl
      refine lv_iload_n hx hb d_tickGates_4 rfl (lv_at hl 0 rfl) ?_
      refine lv_iconst (v := 4) hx hb d_tickGates_5 (by decide) ?_
      refine lv_icmp_ge (tgt := 38) hx hb d_tickGates_6 (by decide) (fun c_1 => ?_) (fun c_1 => absurd (nI_le (a := 4) (b := g) (by omega) (by omega)) c_1)
      refine lv_iload_n hx hb d_tickGates_38 rfl (lv_at hl 1 rfl) ?_
      exact hret _ _ _ 39 sv σ1 hP hD hS rfl d_tickGates_39 (by rw [← hrel]; rfl) (by rw [← hrel]; rfl)
    | succ n ih =>
      intro g sv σ1 hg hI1 hrel H locs ls hP hD hS hl
      refine lv_iload_n hx hb d_tickGates_4 rfl (lv_at hl 0 rfl) ?_
      refine lv_iconst (v := 4) hx hb d_tickGates_5 (by decide) ?_
      refine lv_icmp_ge (tgt := 38) hx hb d_tickGates_6 (by decide) (fun c_2 => absurd c_2 (nI_ge (a := g) (b := 4) (by omega) (by omega))) (fun c_2 => ?_)
      refine lv_aload_n hx hb d_tickGates_9 rfl (lv_at hl 2 rfl) ?_
      refine va_get (v := .ref (a 18)) hx hb hG i_X hown hK hP 0 wX_X rfl 1 (by decide) (hG _ L_X_17) (fun _ h9 => h9) rfl d_tickGates_10 ?_
      refine lv_iload_n hx hb d_tickGates_13 rfl (lv_at hl 0 rfl) ?_
      refine x_aldG hx hb hK hP g (show g < 4 by omega) d_tickGates_14 ?_
      refine k_cN (rest := []) hx hb hml hown hG hK hN hA hP hD hS (c_waitEnds l D a ca σ1 g (show g < 4 by omega)) ok_waitEnds io_waitEnds L_X_118 ⟨rfl, rfl, by decide, by decide⟩ (13 + g) (wX_G (show g < 4 by omega)) rfl rfl hl.1 rfl (Nat.le_of_ble_eq_true rfl) ⟨Nat.zero_le _, Nat.zero_le _⟩ d_tickGates_15 (fun H locs hP hD hS => ?_)
      refine lv_if_eq (tgt := 32) hx hb d_tickGates_18 (by decide) (fun c_3 => ?_) (fun c_3 => ?_)
      · refine lv_iinc (v := nI (g + 1)) (lv' := [(2, .int (nI (g + 1))), (1, .int sv), (0, .ref (a 0))]) hx hb d_tickGates_32 hl (k := 0) rfl (nI_1 g) (by decide) rfl (fun ls hl => ?_)
        refine lv_goto (tgt := 4) hx hb d_tickGates_35 (by decide) ?_
        exact ih (g + 1) sv ((f_waitEnds σ1 (13 + g)).2) (by omega) (by have q := stG_inv g sv hI1; revert q; simp only [stG, c_2, c_3, ↓reduceIte]; exact id) (by rw [← hrel]; simp only [tkG, stG, c_2, c_3, ↓reduceIte]) _ _ _ hP hD hS (lv_sub hl [0, 1, 2] rfl)
      · refine lv_aload_n hx hb d_tickGates_21 rfl (lv_at hl 2 rfl) ?_
        refine lv_iload_n hx hb d_tickGates_22 rfl (lv_at hl 0 rfl) ?_
        refine k_cV (rest := []) hx hb hml hown hG hK hN hA hP hD hS (c_serve l D a ca ((f_waitEnds σ1 (13 + g)).2) g (show g < 4 by omega) (waitEnds_inv hI1)) ok_serve io_serve L_X_121 ⟨rfl, rfl, by decide, by decide⟩ 0 wX_X rfl rfl hl.1 rfl (Nat.le_of_ble_eq_true rfl) ⟨Nat.zero_le _, Nat.zero_le _⟩ d_tickGates_23 (fun H locs hP hD hS => ?_)
        refine lv_if_eq (tgt := 32) hx hb d_tickGates_26 (by decide) (fun c_4 => ?_) (fun c_4 => ?_)
        · refine lv_iinc (v := nI (g + 1)) (lv' := [(2, .int (nI (g + 1))), (1, .int sv), (0, .ref (a 0))]) hx hb d_tickGates_32 hl (k := 0) rfl (nI_1 g) (by decide) rfl (fun ls hl => ?_)
          refine lv_goto (tgt := 4) hx hb d_tickGates_35 (by decide) ?_
          exact ih (g + 1) sv ((f_serve ((f_waitEnds σ1 (13 + g)).2) g).2) (by omega) (by have q := stG_inv g sv hI1; revert q; simp only [stG, c_2, c_3, c_4, ↓reduceIte]; exact id) (by rw [← hrel]; simp only [tkG, stG, c_2, c_3, c_4, ↓reduceIte]) _ _ _ hP hD hS (lv_sub hl [0, 1, 2] rfl)
        · refine lv_iinc (v := sv + 1) (lv' := [(1, .int (sv + 1)), (2, .int (nI g)), (0, .ref (a 0))]) hx hb d_tickGates_29 hl (k := 1) rfl (rfl) (by decide) rfl (fun ls hl => ?_)
          refine lv_iinc (v := nI (g + 1)) (lv' := [(2, .int (nI (g + 1))), (1, .int (sv + 1)), (0, .ref (a 0))]) hx hb d_tickGates_32 hl (k := 1) rfl (nI_1 g) (by decide) rfl (fun ls hl => ?_)
          refine lv_goto (tgt := 4) hx hb d_tickGates_35 (by decide) ?_
          exact ih (g + 1) (sv + 1) ((f_serve ((f_waitEnds σ1 (13 + g)).2) g).2) (by omega) (by have q := stG_inv g sv hI1; revert q; simp only [stG, c_2, c_3, c_4, ↓reduceIte]; exact id) (by rw [← hrel]; simp only [tkG, stG, c_2, c_3, c_4, ↓reduceIte]) _ _ _ hP hD hS (lv_sub hl [0, 1, 2] rfl)
  exact loop 4 0 0 σ (by omega) hI rfl _ _ _ hP hD hS (lv_sub hl [0, 1, 2] rfl)
set_option maxHeartbeats 4000000 in
set_option maxRecDepth 100000 in
theorem c_wakeGates (l : Launch) (D : va_G) (a : Nat → Nat) (ca : Nat → ClassId) (σ : St)  : KV l D (tX ca) (wX a ca) rm_wakeGates y_wakeGates b_wakeGates 3 [.ref (a 0)] σ (wkG 4 0 σ) := by
  refine KV.of (by decide) (Nat.le_of_ble_eq_true rfl) ?_
  intro p e s m args below meth c A Q ls hx hb hml hown hG hK hN hA hP hD hS hl hret
  have hown : s.vm.findClass R_X = some m.cls := hown
  have hl : lv_has ls 3 [(0, .ref (a 0))] := hl
  refine lv_iconst (v := 0) hx hb d_wakeGates_0 (by decide) ?_
  refine lv_istore_n (lv' := [(1, .int 0), (0, .ref (a 0))]) hx hb d_wakeGates_1 rfl hl (by decide) rfl (fun ls hl => ?_)
  have loop : ∀ (n : Nat) (g : Nat) (σ1 : St), (g + n = 4) → (wkG n g σ1 = wkG 4 0 σ) → ∀ (H : Heap) (locs : List Loc) (ls : Array Slot), va_P D classes (wX a ca σ1) H → va_D A (wX a ca σ1) → va_S A s.heap H locs → lv_has ls 3 [(1, .int (nI g)), (0, .ref (a 0))] → W p l e rm_wakeGates s m args below meth c H locs 0 0 Q (F0 m 2 ls []) := by
    intro n
    induction n with
    | zero =>
      intro g σ1 hg hrel H locs ls hP hD hS hl
      refine lv_iload_n hx hb d_wakeGates_2 rfl (lv_at hl 0 rfl) ?_
      refine lv_iconst (v := 4) hx hb d_wakeGates_3 (by decide) ?_
      refine lv_icmp_ge (tgt := 46) hx hb d_wakeGates_4 (by decide) (fun c_1 => ?_) (fun c_1 => absurd (nI_le (a := 4) (b := g) (by omega) (by omega)) c_1)
      exact hret _ _ _ 46 σ1 hP hD hS d_wakeGates_46 (hrel)
    | succ n ih =>
      intro g σ1 hg hrel H locs ls hP hD hS hl
      refine lv_iload_n hx hb d_wakeGates_2 rfl (lv_at hl 0 rfl) ?_
      refine lv_iconst (v := 4) hx hb d_wakeGates_3 (by decide) ?_
      refine lv_icmp_ge (tgt := 46) hx hb d_wakeGates_4 (by decide) (fun c_2 => absurd c_2 (nI_ge (a := g) (b := 4) (by omega) (by omega))) (fun c_2 => ?_)
      refine lv_aload_n hx hb d_wakeGates_7 rfl (lv_at hl 1 rfl) ?_
      refine va_get (v := .ref (a 18)) hx hb hG i_X hown hK hP 0 wX_X rfl 1 (by decide) (hG _ L_X_17) (fun _ h9 => h9) rfl d_wakeGates_8 ?_
      refine lv_iload_n hx hb d_wakeGates_11 rfl (lv_at hl 0 rfl) ?_
      refine x_aldG hx hb hK hP g (show g < 4 by omega) d_wakeGates_12 ?_
      refine lv_astore_n (lv' := [(2, .ref (a (13 + g))), (1, .int (nI g)), (0, .ref (a 0))]) hx hb d_wakeGates_13 rfl hl (by decide) rfl (fun ls hl => ?_)
      refine lv_aload_n hx hb d_wakeGates_14 rfl (lv_at hl 0 rfl) ?_
      refine va_getN (v := .int (σ1 (13 + g) 2)) hx hb hG i_G hown hK hP (13 + g) (wX_G (show g < 4 by omega)) rfl 2 (by decide) (hN.use L_X_146) (fun _ h9 => h9) rfl d_wakeGates_15 ?_
      refine lv_if_ne (tgt := 40) hx hb d_wakeGates_18 (by decide) (fun c_3 => ?_) (fun c_3 => ?_)
      · refine lv_iinc (v := nI (g + 1)) (lv' := [(1, .int (nI (g + 1))), (2, .ref (a (13 + g))), (0, .ref (a 0))]) hx hb d_wakeGates_40 hl (k := 1) rfl (nI_1 g) (by decide) rfl (fun ls hl => ?_)
        refine lv_goto (tgt := 2) hx hb d_wakeGates_43 (by decide) ?_
        exact ih (g + 1) σ1 (by omega) (by rw [← hrel]; simp only [wkG, stW, c_2, c_3, ↓reduceIte]) _ _ _ hP hD hS (lv_sub hl [0, 2] rfl)
      · refine lv_aload_n hx hb d_wakeGates_21 rfl (lv_at hl 0 rfl) ?_
        refine lv_aload_n hx hb d_wakeGates_22 rfl (lv_at hl 2 rfl) ?_
        refine va_get (v := .int (σ1 0 3)) hx hb hG i_X hown hK hP 0 wX_X rfl 3 (by decide) (hG _ L_X_28) (fun _ h9 => h9) rfl d_wakeGates_23 ?_
        refine k_cN (rest := []) hx hb hml hown hG hK hN hA hP hD hS (c_asks l D a ca σ1 g (show g < 4 by omega) (σ1 0 3)) ok_asks io_asks L_X_124 ⟨rfl, rfl, by decide, by decide⟩ (13 + g) (wX_G (show g < 4 by omega)) rfl rfl hl.1 rfl (Nat.le_of_ble_eq_true rfl) ⟨Nat.zero_le _, Nat.zero_le _⟩ d_wakeGates_26 (fun H locs hP hD hS => ?_)
        refine lv_if_eq (tgt := 40) hx hb d_wakeGates_29 (by decide) (fun c_4 => ?_) (fun c_4 => ?_)
        · refine lv_iinc (v := nI (g + 1)) (lv' := [(1, .int (nI (g + 1))), (2, .ref (a (13 + g))), (0, .ref (a 0))]) hx hb d_wakeGates_40 hl (k := 1) rfl (nI_1 g) (by decide) rfl (fun ls hl => ?_)
          refine lv_goto (tgt := 2) hx hb d_wakeGates_43 (by decide) ?_
          exact ih (g + 1) σ1 (by omega) (by rw [← hrel]; simp only [wkG, stW, c_2, c_3, c_4, ↓reduceIte]) _ _ _ hP hD hS (lv_sub hl [0, 2] rfl)
        · refine lv_aload_n hx hb d_wakeGates_32 rfl (lv_at hl 0 rfl) ?_
          refine lv_aload_n hx hb d_wakeGates_33 rfl (lv_at hl 0 rfl) ?_
          refine va_getN (v := .int (σ1 (13 + g) 1)) hx hb hG i_G hown hK hP (13 + g) (wX_G (show g < 4 by omega)) rfl 1 (by decide) (hN.use L_X_71) (fun _ h9 => h9) rfl d_wakeGates_34 ?_
          refine va_putN (ty := .int) (v := .int (σ1 (13 + g) 1)) hx hb hG i_G ft_G ft_G_ok n_G hown hK hP hD hS (13 + g) (wX_G (show g < 4 by omega)) rfl 2 (by decide) (hN.use L_X_146) (fun _ h9 => h9) rfl (by decide +kernel) (rfl) (rfl) (Nat.le_of_ble_eq_true rfl) d_wakeGates_37 (fun H locs hP hD hS => ?_)
          rw [wX_putG (show g < 4 by omega) (by decide)] at hP hD
          refine lv_iinc (v := nI (g + 1)) (lv' := [(1, .int (nI (g + 1))), (2, .ref (a (13 + g))), (0, .ref (a 0))]) hx hb d_wakeGates_40 hl (k := 1) rfl (nI_1 g) (by decide) rfl (fun ls hl => ?_)
          refine lv_goto (tgt := 2) hx hb d_wakeGates_43 (by decide) ?_
          exact ih (g + 1) (up2 σ1 (13 + g) 2 (σ1 (13 + g) 1)) (by omega) (by rw [← hrel]; simp only [wkG, stW, c_2, c_3, c_4, ↓reduceIte]) _ _ _ hP hD hS (lv_sub hl [0, 2] rfl)
  exact loop 4 0 σ (by omega) rfl _ _ _ hP hD hS (lv_sub hl [0, 1] rfl)
set_option maxHeartbeats 4000000 in
set_option maxRecDepth 100000 in
theorem c_tick (l : Launch) (D : va_G) (a : Nat → Nat) (ca : Nat → ClassId) (σ : St) (hI : xInv σ) : KI l D (tX ca) (wX a ca) rm_tick y_tick b_tick 2 .int [.ref (a 0)] σ ((f_tick σ).1) ((f_tick σ).2) := by
  refine KI.of (by decide) (Nat.le_of_ble_eq_true rfl) ?_
  intro p e s m args below meth c A Q ls hx hb hml hown hG hK hN hA hP hD hS hl hret
  have hown : s.vm.findClass R_X = some m.cls := hown
  have hl : lv_has ls 2 [(0, .ref (a 0))] := hl
  refine lv_aload_n hx hb d_tick_0 rfl (lv_at hl 0 rfl) ?_
  refine lv_dup hx hb d_tick_1 rfl ?_
  refine va_get (v := .int (σ 0 4)) hx hb hG i_X hown hK hP 0 wX_X rfl 4 (by decide) (hG _ L_X_32) (fun _ h9 => h9) rfl d_tick_2 ?_
  refine lv_iconst (v := 1) hx hb d_tick_5 (by decide) ?_
  refine lv_iadd hx hb d_tick_6 ?_
  refine va_put (ty := .int) (v := .int ((σ 0 4) + 1)) hx hb hG i_X ft_X ft_X_ok n_X hown hK hP hD hS 0 wX_X rfl 4 (by decide) (hG _ L_X_32) (fun _ h9 => h9) rfl (by decide +kernel) (rfl) (rfl) (Nat.le_of_ble_eq_true rfl) d_tick_7 (fun H locs hP hD hS => ?_)
  rw [wX_putX4] at hP hD
  refine lv_aload_n hx hb d_tick_10 rfl (lv_at hl 0 rfl) ?_
  refine k_cVv (rest := []) hx hb hml hown hG hK hN hA hP hD hS (c_tickTimers l D a ca (up2 σ 0 4 ((σ 0 4) + 1))) ok_tickTimers io_tickTimers L_X_98 ⟨rfl, rfl, by decide, by decide⟩ 0 wX_X rfl rfl hl.1 rfl (Nat.le_of_ble_eq_true rfl) ⟨Nat.zero_le _, Nat.zero_le _⟩ d_tick_11 (fun H locs hP hD hS => ?_)
  refine lv_aload_n hx hb d_tick_14 rfl (lv_at hl 0 rfl) ?_
  refine k_cV (rest := []) hx hb hml hown hG hK hN hA hP hD hS (c_tickGates l D a ca (tkT 8 0 0 (up2 σ 0 4 ((σ 0 4) + 1))) (tick_inv0 hI)) ok_tickGates io_tickGates L_X_101 ⟨rfl, rfl, by decide, by decide⟩ 0 wX_X rfl rfl hl.1 rfl (Nat.le_of_ble_eq_true rfl) ⟨Nat.zero_le _, Nat.zero_le _⟩ d_tick_15 (fun H locs hP hD hS => ?_)
  refine lv_istore_n (lv' := [(1, .int ((tkG 4 0 0 (tkT 8 0 0 (up2 σ 0 4 ((σ 0 4) + 1)))).1)), (0, .ref (a 0))]) hx hb d_tick_18 rfl hl (by decide) rfl (fun ls hl => ?_)
  refine lv_aload_n hx hb d_tick_19 rfl (lv_at hl 1 rfl) ?_
  refine k_cVv (rest := []) hx hb hml hown hG hK hN hA hP hD hS (c_wakeGates l D a ca ((tkG 4 0 0 (tkT 8 0 0 (up2 σ 0 4 ((σ 0 4) + 1)))).2)) ok_wakeGates io_wakeGates L_X_104 ⟨rfl, rfl, by decide, by decide⟩ 0 wX_X rfl rfl hl.1 rfl (Nat.le_of_ble_eq_true rfl) ⟨Nat.zero_le _, Nat.zero_le _⟩ d_tick_20 (fun H locs hP hD hS => ?_)
  refine lv_iload_n hx hb d_tick_23 rfl (lv_at hl 0 rfl) ?_
  exact hret _ _ _ 24 ((tkG 4 0 0 (tkT 8 0 0 (up2 σ 0 4 ((σ 0 4) + 1)))).1) (wkG 4 0 ((tkG 4 0 0 (tkT 8 0 0 (up2 σ 0 4 ((σ 0 4) + 1)))).2)) hP hD hS rfl d_tick_24 (by simp only [f_tick, ↓reduceIte]) (by simp only [f_tick, ↓reduceIte])
set_option maxHeartbeats 4000000 in
set_option maxRecDepth 100000 in
theorem c_ticksToNextEnd (l : Launch) (D : va_G) (a : Nat → Nat) (ca : Nat → ClassId) (σ : St)  : KI l D (tX ca) (wX a ca) rm_ticksToNextEnd y_ticksToNextEnd b_ticksToNextEnd 5 .int [.ref (a 0)] σ (tnL σ 8 0 0) σ := by
  refine KI.of (by decide) (Nat.le_of_ble_eq_true rfl) ?_
  intro p e s m args below meth c A Q ls hx hb hml hown hG hK hN hA hP hD hS hl hret
  have hown : s.vm.findClass R_X = some m.cls := hown
  have hl : lv_has ls 5 [(0, .ref (a 0))] := hl
  refine lv_iconst (v := 0) hx hb d_ticksToNextEnd_0 (by decide) ?_
  refine lv_istore_n (lv' := [(1, .int 0), (0, .ref (a 0))]) hx hb d_ticksToNextEnd_1 rfl hl (by decide) rfl (fun ls hl => ?_)
  refine lv_iconst (v := 0) hx hb d_ticksToNextEnd_2 (by decide) ?_
  refine lv_istore_n (lv' := [(2, .int 0), (1, .int 0), (0, .ref (a 0))]) hx hb d_ticksToNextEnd_3 rfl hl (by decide) rfl (fun ls hl => ?_)
  have loop : ∀ (n : Nat) (t : Nat) (x : Int32), (t + n = 8) → (tnL σ n t x = tnL σ 8 0 0) → ∀ (H : Heap) (locs : List Loc) (ls : Array Slot), va_P D classes (wX a ca σ) H → va_D A (wX a ca σ) → va_S A s.heap H locs → lv_has ls 5 [(2, .int (nI t)), (1, .int x), (0, .ref (a 0))] → W p l e rm_ticksToNextEnd s m args below meth c H locs 0 0 Q (F0 m 4 ls []) := by
    intro n
    induction n with
    | zero =>
      intro t x ht hrel H locs ls hP hD hS hl
      refine lv_iload_n hx hb d_ticksToNextEnd_4 rfl (lv_at hl 0 rfl) ?_
      refine lv_bipush (v := 8) hx hb d_ticksToNextEnd_5 (by decide) ?_
      refine lv_icmp_ge (tgt := 66) hx hb d_ticksToNextEnd_7 (by decide) (fun c_1 => ?_) (fun c_1 => absurd (nI_le (a := 8) (b := t) (by omega) (by omega)) c_1)
      refine lv_iload_n hx hb d_ticksToNextEnd_66 rfl (lv_at hl 1 rfl) ?_
      exact hret _ _ _ 67 x σ hP hD hS rfl d_ticksToNextEnd_67 (hrel) (rfl)
    | succ n ih =>
      intro t x ht hrel H locs ls hP hD hS hl
      refine lv_iload_n hx hb d_ticksToNextEnd_4 rfl (lv_at hl 0 rfl) ?_
      refine lv_bipush (v := 8) hx hb d_ticksToNextEnd_5 (by decide) ?_
      refine lv_icmp_ge (tgt := 66) hx hb d_ticksToNextEnd_7 (by decide) (fun c_2 => absurd c_2 (nI_ge (a := t) (b := 8) (by omega) (by omega))) (fun c_2 => ?_)
      refine lv_aload_n hx hb d_ticksToNextEnd_10 rfl (lv_at hl 2 rfl) ?_
      refine va_get (v := .ref (a 17)) hx hb hG i_X hown hK hP 0 wX_X rfl 0 (by decide) (hG _ L_X_11) (fun _ h9 => h9) rfl d_ticksToNextEnd_11 ?_
      refine lv_iload_n hx hb d_ticksToNextEnd_14 rfl (lv_at hl 0 rfl) ?_
      refine x_aldT hx hb hK hP t (show t < 8 by omega) d_ticksToNextEnd_15 ?_
      refine lv_astore_n (lv' := [(3, .ref (a (5 + t))), (2, .int (nI t)), (1, .int x), (0, .ref (a 0))]) hx hb d_ticksToNextEnd_16 rfl hl (by decide) rfl (fun ls hl => ?_)
      refine lv_aload_n hx hb d_ticksToNextEnd_17 rfl (lv_at hl 0 rfl) ?_
      refine va_getN (v := .int (σ (5 + t) 4)) hx hb hG i_T hown hK hP (5 + t) (wX_T (show t < 8 by omega)) rfl 4 (by decide) (hN.use L_X_59) (fun _ h9 => h9) rfl d_ticksToNextEnd_18 ?_
      refine lv_if_eq (tgt := 35) hx hb d_ticksToNextEnd_21 (by decide) (fun c_3 => ?_) (fun c_3 => ?_)
      · refine lv_iconst (v := 0) hx hb d_ticksToNextEnd_35 (by decide) ?_
        refine lv_istore (lv' := [(4, .int 0), (3, .ref (a (5 + t))), (2, .int (nI t)), (1, .int x), (0, .ref (a 0))]) hx hb d_ticksToNextEnd_36 hl (by decide) rfl (fun ls hl => ?_)
        refine lv_iload hx hb d_ticksToNextEnd_38 (lv_at hl 0 rfl) ?_
        refine lv_if_eq (tgt := 60) hx hb d_ticksToNextEnd_40 (by decide) (fun _ => ?_) (fun c_4 => absurd (by decide) c_4)
        refine lv_iinc (v := nI (t + 1)) (lv' := [(2, .int (nI (t + 1))), (4, .int 0), (3, .ref (a (5 + t))), (1, .int x), (0, .ref (a 0))]) hx hb d_ticksToNextEnd_60 hl (k := 2) rfl (nI_1 t) (by decide) rfl (fun ls hl => ?_)
        refine lv_goto (tgt := 4) hx hb d_ticksToNextEnd_63 (by decide) ?_
        exact ih (t + 1) x (by omega) (by rw [← hrel]; simp only [tnL, stN, c_2, c_3, ↓reduceIte]) _ _ _ hP hD hS (lv_sub hl [0, 3, 4] rfl)
      · refine lv_aload_n hx hb d_ticksToNextEnd_24 rfl (lv_at hl 0 rfl) ?_
        refine va_getN (v := .int (σ (5 + t) 2)) hx hb hG i_T hown hK hP (5 + t) (wX_T (show t < 8 by omega)) rfl 2 (by decide) (hN.use L_X_46) (fun _ h9 => h9) rfl d_ticksToNextEnd_25 ?_
        refine lv_if_ne (tgt := 35) hx hb d_ticksToNextEnd_28 (by decide) (fun c_5 => ?_) (fun c_5 => ?_)
        · refine lv_iconst (v := 0) hx hb d_ticksToNextEnd_35 (by decide) ?_
          refine lv_istore (lv' := [(4, .int 0), (3, .ref (a (5 + t))), (2, .int (nI t)), (1, .int x), (0, .ref (a 0))]) hx hb d_ticksToNextEnd_36 hl (by decide) rfl (fun ls hl => ?_)
          refine lv_iload hx hb d_ticksToNextEnd_38 (lv_at hl 0 rfl) ?_
          refine lv_if_eq (tgt := 60) hx hb d_ticksToNextEnd_40 (by decide) (fun _ => ?_) (fun c_6 => absurd (by decide) c_6)
          refine lv_iinc (v := nI (t + 1)) (lv' := [(2, .int (nI (t + 1))), (4, .int 0), (3, .ref (a (5 + t))), (1, .int x), (0, .ref (a 0))]) hx hb d_ticksToNextEnd_60 hl (k := 2) rfl (nI_1 t) (by decide) rfl (fun ls hl => ?_)
          refine lv_goto (tgt := 4) hx hb d_ticksToNextEnd_63 (by decide) ?_
          exact ih (t + 1) x (by omega) (by rw [← hrel]; simp only [tnL, stN, c_2, c_3, c_5, ↓reduceIte]) _ _ _ hP hD hS (lv_sub hl [0, 3, 4] rfl)
        · refine lv_iconst (v := 1) hx hb d_ticksToNextEnd_31 (by decide) ?_
          refine lv_goto (tgt := 36) hx hb d_ticksToNextEnd_32 (by decide) ?_
          refine lv_istore (lv' := [(4, .int 1), (3, .ref (a (5 + t))), (2, .int (nI t)), (1, .int x), (0, .ref (a 0))]) hx hb d_ticksToNextEnd_36 hl (by decide) rfl (fun ls hl => ?_)
          refine lv_iload hx hb d_ticksToNextEnd_38 (lv_at hl 0 rfl) ?_
          refine lv_if_eq (tgt := 60) hx hb d_ticksToNextEnd_40 (by decide) (fun c_7 => absurd c_7 (by decide)) (fun _ => ?_)
          refine lv_iload_n hx hb d_ticksToNextEnd_43 rfl (lv_at hl 3 rfl) ?_
          refine lv_if_eq (tgt := 55) hx hb d_ticksToNextEnd_44 (by decide) (fun c_8 => ?_) (fun c_8 => ?_)
          · refine lv_aload_n hx hb d_ticksToNextEnd_55 rfl (lv_at hl 1 rfl) ?_
            refine va_getN (v := .int (σ (5 + t) 1)) hx hb hG i_T hown hK hP (5 + t) (wX_T (show t < 8 by omega)) rfl 1 (by decide) (hN.use L_X_52) (fun _ h9 => h9) rfl d_ticksToNextEnd_56 ?_
            refine lv_istore_n (lv' := [(1, .int (σ (5 + t) 1)), (4, .int 1), (3, .ref (a (5 + t))), (2, .int (nI t)), (0, .ref (a 0))]) hx hb d_ticksToNextEnd_59 rfl hl (by decide) rfl (fun ls hl => ?_)
            refine lv_iinc (v := nI (t + 1)) (lv' := [(2, .int (nI (t + 1))), (1, .int (σ (5 + t) 1)), (4, .int 1), (3, .ref (a (5 + t))), (0, .ref (a 0))]) hx hb d_ticksToNextEnd_60 hl (k := 3) rfl (nI_1 t) (by decide) rfl (fun ls hl => ?_)
            refine lv_goto (tgt := 4) hx hb d_ticksToNextEnd_63 (by decide) ?_
            exact ih (t + 1) (σ (5 + t) 1) (by omega) (by rw [← hrel]; simp only [tnL, stN, c_2, c_3, c_5, c_8, ↓reduceIte]) _ _ _ hP hD hS (lv_sub hl [0, 1, 4] rfl)
          · refine lv_aload_n hx hb d_ticksToNextEnd_47 rfl (lv_at hl 1 rfl) ?_
            refine va_getN (v := .int (σ (5 + t) 1)) hx hb hG i_T hown hK hP (5 + t) (wX_T (show t < 8 by omega)) rfl 1 (by decide) (hN.use L_X_52) (fun _ h9 => h9) rfl d_ticksToNextEnd_48 ?_
            refine lv_iload_n hx hb d_ticksToNextEnd_51 rfl (lv_at hl 3 rfl) ?_
            refine lv_icmp_ge (tgt := 60) hx hb d_ticksToNextEnd_52 (by decide) (fun c_9 => ?_) (fun c_9 => ?_)
            · refine lv_iinc (v := nI (t + 1)) (lv' := [(2, .int (nI (t + 1))), (4, .int 1), (3, .ref (a (5 + t))), (1, .int x), (0, .ref (a 0))]) hx hb d_ticksToNextEnd_60 hl (k := 2) rfl (nI_1 t) (by decide) rfl (fun ls hl => ?_)
              refine lv_goto (tgt := 4) hx hb d_ticksToNextEnd_63 (by decide) ?_
              exact ih (t + 1) x (by omega) (by rw [← hrel]; simp only [tnL, stN, c_2, c_3, c_5, c_8, c_9, ↓reduceIte]) _ _ _ hP hD hS (lv_sub hl [0, 3, 4] rfl)
            · refine lv_aload_n hx hb d_ticksToNextEnd_55 rfl (lv_at hl 1 rfl) ?_
              refine va_getN (v := .int (σ (5 + t) 1)) hx hb hG i_T hown hK hP (5 + t) (wX_T (show t < 8 by omega)) rfl 1 (by decide) (hN.use L_X_52) (fun _ h9 => h9) rfl d_ticksToNextEnd_56 ?_
              refine lv_istore_n (lv' := [(1, .int (σ (5 + t) 1)), (4, .int 1), (3, .ref (a (5 + t))), (2, .int (nI t)), (0, .ref (a 0))]) hx hb d_ticksToNextEnd_59 rfl hl (by decide) rfl (fun ls hl => ?_)
              refine lv_iinc (v := nI (t + 1)) (lv' := [(2, .int (nI (t + 1))), (1, .int (σ (5 + t) 1)), (4, .int 1), (3, .ref (a (5 + t))), (0, .ref (a 0))]) hx hb d_ticksToNextEnd_60 hl (k := 3) rfl (nI_1 t) (by decide) rfl (fun ls hl => ?_)
              refine lv_goto (tgt := 4) hx hb d_ticksToNextEnd_63 (by decide) ?_
              exact ih (t + 1) (σ (5 + t) 1) (by omega) (by rw [← hrel]; simp only [tnL, stN, c_2, c_3, c_5, c_8, c_9, ↓reduceIte]) _ _ _ hP hD hS (lv_sub hl [0, 1, 4] rfl)
  exact loop 8 0 0 (by omega) rfl _ _ _ hP hD hS (lv_sub hl [0, 1, 2] rfl)
end
section
set_option maxHeartbeats 4000000 in
set_option maxRecDepth 100000 in
theorem c_set (l : Launch) (D : va_G) (a : Nat → Nat) (ca : Nat → ClassId) (σ : St) (t : Int32) (src : Int32) (per : Int32) (b : Bool) : KI l D (tX ca) (wX a ca) rm_set y_set b_set 6 .boolean [.ref (a 0), .int t, .int src, .int per, .int (bI b)] σ ((f_set σ t src per b).1) ((f_set σ t src per b).2) := by
  refine KI.of (by decide) (Nat.le_of_ble_eq_true rfl) ?_
  intro p e s m args below meth c A Q ls hx hb hml hown hG hK hN hA hP hD hS hl hret
  have hown : s.vm.findClass R_X = some m.cls := hown
  have hl : lv_has ls 6 [(0, .ref (a 0)), (1, .int t), (2, .int src), (3, .int per), (4, .int (bI b))] := hl
  refine lv_iload_n hx hb d_set_0 rfl (lv_at hl 1 rfl) ?_
  refine k_cS (rest := []) hx hb hml hown hG hK hN hA hP hD hS (c_isTimer l D a ca σ t) ok_isTimer so_isTimer L_X_37 ⟨rfl, rfl, by decide, by decide⟩ rfl hl.1 rfl (Nat.le_of_ble_eq_true rfl) ⟨Nat.zero_le _, Nat.zero_le _⟩ d_set_1 (fun H locs hP hD hS => ?_)
  refine lv_if_eq (tgt := 26) hx hb d_set_4 (by decide) (fun c_1 => ?_) (fun c_1 => ?_)
  · refine lv_iconst (v := 0) hx hb d_set_26 (by decide) ?_
    exact hret _ _ _ 27 0 σ hP hD hS rfl d_set_27 (by simp only [f_set, c_1, ↓reduceIte]) (by simp only [f_set, c_1, ↓reduceIte])
  · obtain ⟨j, hj, rfl⟩ := isTimer_in c_1
    have hcl : (nI j).toNatClampNeg = j := nI_clamp (by omega)
    refine lv_iload_n hx hb d_set_7 rfl (lv_at hl 1 rfl) ?_
    refine lv_iload_n hx hb d_set_8 rfl (lv_at hl 2 rfl) ?_
    refine k_cS (rest := []) hx hb hml hown hG hK hN hA hP hD hS (c_isSource l D a ca σ (nI j) src) ok_isSource so_isSource L_X_41 ⟨rfl, rfl, by decide, by decide⟩ rfl hl.1 rfl (Nat.le_of_ble_eq_true rfl) ⟨Nat.zero_le _, Nat.zero_le _⟩ d_set_9 (fun H locs hP hD hS => ?_)
    refine lv_if_eq (tgt := 26) hx hb d_set_12 (by decide) (fun c_2 => ?_) (fun c_2 => ?_)
    · refine lv_iconst (v := 0) hx hb d_set_26 (by decide) ?_
      exact hret _ _ _ 27 0 σ hP hD hS rfl d_set_27 (by simp only [f_set, c_1, hcl, c_2, ↓reduceIte]) (by simp only [f_set, c_1, hcl, c_2, ↓reduceIte])
    · refine lv_iload_n hx hb d_set_15 rfl (lv_at hl 3 rfl) ?_
      refine lv_iconst (v := 1) hx hb d_set_16 (by decide) ?_
      refine lv_icmp_lt (tgt := 26) hx hb d_set_17 (by decide) (fun c_3 => ?_) (fun c_3 => ?_)
      · refine lv_iconst (v := 0) hx hb d_set_26 (by decide) ?_
        exact hret _ _ _ 27 0 σ hP hD hS rfl d_set_27 (by simp only [f_set, c_1, hcl, c_2, c_3, ↓reduceIte]) (by simp only [f_set, c_1, hcl, c_2, c_3, ↓reduceIte])
      · refine lv_iload_n hx hb d_set_20 rfl (lv_at hl 3 rfl) ?_
        refine lv_ldc (v := 65535) hx hb hown (hG _ L_X_45) d_set_21 ?_
        refine lv_icmp_le (tgt := 28) hx hb d_set_23 (by decide) (fun c_4 => ?_) (fun c_4 => ?_)
        · refine lv_aload_n hx hb d_set_28 rfl (lv_at hl 0 rfl) ?_
          refine va_get (v := .ref (a 17)) hx hb hG i_X hown hK hP 0 wX_X rfl 0 (by decide) (hG _ L_X_11) (fun _ h9 => h9) rfl d_set_29 ?_
          refine lv_iload_n hx hb d_set_32 rfl (lv_at hl 1 rfl) ?_
          refine x_aldT hx hb hK hP j hj d_set_33 ?_
          refine lv_astore (lv' := [(5, .ref (a (5 + j))), (0, .ref (a 0)), (1, .int (nI j)), (2, .int src), (3, .int per), (4, .int (bI b))]) hx hb d_set_34 hl (by decide) rfl (fun ls hl => ?_)
          refine lv_aload hx hb d_set_36 (lv_at hl 0 rfl) ?_
          refine lv_iload_n hx hb d_set_38 rfl (lv_at hl 3 rfl) ?_
          refine va_putN (ty := .int) (v := .int src) hx hb hG i_T ft_T ft_T_ok n_T hown hK hP hD hS (5 + j) (wX_T hj) rfl 2 (by decide) (hN.use L_X_46) (fun _ h9 => h9) rfl (by decide +kernel) (rfl) (rfl) (Nat.le_of_ble_eq_true rfl) d_set_39 (fun H locs hP hD hS => ?_)
          rw [wX_putT hj (by decide)] at hP hD
          refine lv_aload hx hb d_set_42 (lv_at hl 0 rfl) ?_
          refine lv_iload_n hx hb d_set_44 rfl (lv_at hl 4 rfl) ?_
          refine va_putN (ty := .int) (v := .int per) hx hb hG i_T ft_T ft_T_ok n_T hown hK hP hD hS (5 + j) (wX_T hj) rfl 0 (by decide) (hN.use L_X_49) (fun _ h9 => h9) rfl (by decide +kernel) (rfl) (rfl) (Nat.le_of_ble_eq_true rfl) d_set_45 (fun H locs hP hD hS => ?_)
          rw [wX_putT hj (by decide)] at hP hD
          refine lv_aload hx hb d_set_48 (lv_at hl 0 rfl) ?_
          refine lv_iload_n hx hb d_set_50 rfl (lv_at hl 4 rfl) ?_
          refine va_putN (ty := .int) (v := .int per) hx hb hG i_T ft_T ft_T_ok n_T hown hK hP hD hS (5 + j) (wX_T hj) rfl 1 (by decide) (hN.use L_X_52) (fun _ h9 => h9) rfl (by decide +kernel) (rfl) (rfl) (Nat.le_of_ble_eq_true rfl) d_set_51 (fun H locs hP hD hS => ?_)
          rw [wX_putT hj (by decide)] at hP hD
          refine lv_aload hx hb d_set_54 (lv_at hl 0 rfl) ?_
          refine lv_iload hx hb d_set_56 (lv_at hl 5 rfl) ?_
          refine va_putN (ty := .boolean) (v := .int (bI b)) hx hb hG i_T ft_T ft_T_ok n_T hown hK hP hD hS (5 + j) (wX_T hj) rfl 3 (by decide) (hN.use L_X_55) (fun _ h9 => h9) rfl (by decide +kernel) (bI_n _) (bI_f _) (Nat.le_of_ble_eq_true rfl) d_set_58 (fun H locs hP hD hS => ?_)
          rw [wX_putT hj (by decide)] at hP hD
          refine lv_aload hx hb d_set_61 (lv_at hl 0 rfl) ?_
          refine lv_iconst (v := 0) hx hb d_set_63 (by decide) ?_
          refine va_putN (ty := .boolean) (v := .int 0) hx hb hG i_T ft_T ft_T_ok n_T hown hK hP hD hS (5 + j) (wX_T hj) rfl 4 (by decide) (hN.use L_X_59) (fun _ h9 => h9) rfl (by decide +kernel) (rfl) (rfl) (Nat.le_of_ble_eq_true rfl) d_set_64 (fun H locs hP hD hS => ?_)
          rw [wX_putT hj (by decide)] at hP hD
          refine lv_iconst (v := 1) hx hb d_set_67 (by decide) ?_
          exact hret _ _ _ 68 1 (up2 (up2 (up2 (up2 (up2 σ (5 + j) 2 src) (5 + j) 0 per) (5 + j) 1 per) (5 + j) 3 (bI b)) (5 + j) 4 0) hP hD hS rfl d_set_68 (by simp only [f_set, c_1, hcl, c_2, c_3, c_4, ↓reduceIte]) (by simp only [f_set, c_1, hcl, c_2, c_3, c_4, ↓reduceIte])
        · refine lv_iconst (v := 0) hx hb d_set_26 (by decide) ?_
          exact hret _ _ _ 27 0 σ hP hD hS rfl d_set_27 (by simp only [f_set, c_1, hcl, c_2, c_3, c_4, ↓reduceIte]) (by simp only [f_set, c_1, hcl, c_2, c_3, c_4, ↓reduceIte])
set_option maxHeartbeats 4000000 in
set_option maxRecDepth 100000 in
theorem c_turn (l : Launch) (D : va_G) (a : Nat → Nat) (ca : Nat → ClassId) (σ : St) (t : Int32) (b : Bool) : KI l D (tX ca) (wX a ca) rm_turn y_turn b_turn 3 .boolean [.ref (a 0), .int t, .int (bI b)] σ ((f_turn σ t b).1) ((f_turn σ t b).2) := by
  refine KI.of (by decide) (Nat.le_of_ble_eq_true rfl) ?_
  intro p e s m args below meth c A Q ls hx hb hml hown hG hK hN hA hP hD hS hl hret
  have hown : s.vm.findClass R_X = some m.cls := hown
  have hl : lv_has ls 3 [(0, .ref (a 0)), (1, .int t), (2, .int (bI b))] := hl
  refine lv_iload_n hx hb d_turn_0 rfl (lv_at hl 1 rfl) ?_
  refine k_cS (rest := []) hx hb hml hown hG hK hN hA hP hD hS (c_isTimer l D a ca σ t) ok_isTimer so_isTimer L_X_37 ⟨rfl, rfl, by decide, by decide⟩ rfl hl.1 rfl (Nat.le_of_ble_eq_true rfl) ⟨Nat.zero_le _, Nat.zero_le _⟩ d_turn_1 (fun H locs hP hD hS => ?_)
  refine lv_if_eq (tgt := 20) hx hb d_turn_4 (by decide) (fun c_1 => ?_) (fun c_1 => ?_)
  · refine lv_iconst (v := 0) hx hb d_turn_20 (by decide) ?_
    exact hret _ _ _ 21 0 σ hP hD hS rfl d_turn_21 (by simp only [f_turn, c_1, ↓reduceIte]) (by simp only [f_turn, c_1, ↓reduceIte])
  · obtain ⟨j, hj, rfl⟩ := isTimer_in c_1
    have hcl : (nI j).toNatClampNeg = j := nI_clamp (by omega)
    refine lv_aload_n hx hb d_turn_7 rfl (lv_at hl 0 rfl) ?_
    refine va_get (v := .ref (a 17)) hx hb hG i_X hown hK hP 0 wX_X rfl 0 (by decide) (hG _ L_X_11) (fun _ h9 => h9) rfl d_turn_8 ?_
    refine lv_iload_n hx hb d_turn_11 rfl (lv_at hl 1 rfl) ?_
    refine x_aldT hx hb hK hP j hj d_turn_12 ?_
    refine va_getN (v := .int (σ (5 + j) 4)) hx hb hG i_T hown hK hP (5 + j) (wX_T hj) rfl 4 (by decide) (hN.use L_X_59) (fun _ h9 => h9) rfl d_turn_13 ?_
    refine lv_iload_n hx hb d_turn_16 rfl (lv_at hl 2 rfl) ?_
    refine lv_icmp_ne (tgt := 22) hx hb d_turn_17 (by decide) (fun c_2 => ?_) (fun c_2 => ?_)
    · refine lv_aload_n hx hb d_turn_22 rfl (lv_at hl 0 rfl) ?_
      refine va_get (v := .ref (a 17)) hx hb hG i_X hown hK hP 0 wX_X rfl 0 (by decide) (hG _ L_X_11) (fun _ h9 => h9) rfl d_turn_23 ?_
      refine lv_iload_n hx hb d_turn_26 rfl (lv_at hl 1 rfl) ?_
      refine x_aldT hx hb hK hP j hj d_turn_27 ?_
      refine lv_iload_n hx hb d_turn_28 rfl (lv_at hl 2 rfl) ?_
      refine va_putN (ty := .boolean) (v := .int (bI b)) hx hb hG i_T ft_T ft_T_ok n_T hown hK hP hD hS (5 + j) (wX_T hj) rfl 4 (by decide) (hN.use L_X_59) (fun _ h9 => h9) rfl (by decide +kernel) (bI_n _) (bI_f _) (Nat.le_of_ble_eq_true rfl) d_turn_29 (fun H locs hP hD hS => ?_)
      rw [wX_putT hj (by decide)] at hP hD
      refine lv_iconst (v := 1) hx hb d_turn_32 (by decide) ?_
      exact hret _ _ _ 33 1 (up2 σ (5 + j) 4 (bI b)) hP hD hS rfl d_turn_33 (by simp only [f_turn, c_1, hcl, c_2, ↓reduceIte]) (by simp only [f_turn, c_1, hcl, c_2, ↓reduceIte])
    · refine lv_iconst (v := 0) hx hb d_turn_20 (by decide) ?_
      exact hret _ _ _ 21 0 σ hP hD hS rfl d_turn_21 (by simp only [f_turn, c_1, hcl, c_2, ↓reduceIte]) (by simp only [f_turn, c_1, hcl, c_2, ↓reduceIte])
set_option maxHeartbeats 4000000 in
set_option maxRecDepth 100000 in
theorem c_gate (l : Launch) (D : va_G) (a : Nat → Nat) (ca : Nat → ClassId) (σ : St) (g : Int32) (mask : Int32) (delay : Int32) : KI l D (tX ca) (wX a ca) rm_gate y_gate b_gate 4 .boolean [.ref (a 0), .int g, .int mask, .int delay] σ ((f_gate σ g mask delay).1) ((f_gate σ g mask delay).2) := by
  refine KI.of (by decide) (Nat.le_of_ble_eq_true rfl) ?_
  intro p e s m args below meth c A Q ls hx hb hml hown hG hK hN hA hP hD hS hl hret
  have hown : s.vm.findClass R_X = some m.cls := hown
  have hl : lv_has ls 4 [(0, .ref (a 0)), (1, .int g), (2, .int mask), (3, .int delay)] := hl
  refine lv_iload_n hx hb d_gate_0 rfl (lv_at hl 1 rfl) ?_
  refine k_cS (rest := []) hx hb hml hown hG hK hN hA hP hD hS (c_isGate l D a ca σ g) ok_isGate so_isGate L_X_62 ⟨rfl, rfl, by decide, by decide⟩ rfl hl.1 rfl (Nat.le_of_ble_eq_true rfl) ⟨Nat.zero_le _, Nat.zero_le _⟩ d_gate_1 (fun H locs hP hD hS => ?_)
  refine lv_if_eq (tgt := 26) hx hb d_gate_4 (by decide) (fun c_1 => ?_) (fun c_1 => ?_)
  · refine lv_iconst (v := 0) hx hb d_gate_26 (by decide) ?_
    exact hret _ _ _ 27 0 σ hP hD hS rfl d_gate_27 (by simp only [f_gate, c_1, ↓reduceIte]) (by simp only [f_gate, c_1, ↓reduceIte])
  · obtain ⟨j, hj, rfl⟩ := isGate_in c_1
    have hcl : (nI j).toNatClampNeg = j := nI_clamp (by omega)
    refine lv_iload_n hx hb d_gate_7 rfl (lv_at hl 2 rfl) ?_
    refine k_cS (rest := []) hx hb hml hown hG hK hN hA hP hD hS (c_isBitSet l D a ca σ mask) ok_isBitSet so_isBitSet L_X_65 ⟨rfl, rfl, by decide, by decide⟩ rfl hl.1 rfl (Nat.le_of_ble_eq_true rfl) ⟨Nat.zero_le _, Nat.zero_le _⟩ d_gate_8 (fun H locs hP hD hS => ?_)
    refine lv_if_eq (tgt := 26) hx hb d_gate_11 (by decide) (fun c_2 => ?_) (fun c_2 => ?_)
    · refine lv_iconst (v := 0) hx hb d_gate_26 (by decide) ?_
      exact hret _ _ _ 27 0 σ hP hD hS rfl d_gate_27 (by simp only [f_gate, c_1, hcl, c_2, ↓reduceIte]) (by simp only [f_gate, c_1, hcl, c_2, ↓reduceIte])
    · refine lv_iload_n hx hb d_gate_14 rfl (lv_at hl 3 rfl) ?_
      refine lv_iconst (v := 1) hx hb d_gate_15 (by decide) ?_
      refine lv_icmp_lt (tgt := 26) hx hb d_gate_16 (by decide) (fun c_3 => ?_) (fun c_3 => ?_)
      · refine lv_iconst (v := 0) hx hb d_gate_26 (by decide) ?_
        exact hret _ _ _ 27 0 σ hP hD hS rfl d_gate_27 (by simp only [f_gate, c_1, hcl, c_2, c_3, ↓reduceIte]) (by simp only [f_gate, c_1, hcl, c_2, c_3, ↓reduceIte])
      · refine lv_iload_n hx hb d_gate_19 rfl (lv_at hl 3 rfl) ?_
        refine lv_sipush (v := 1000) hx hb d_gate_20 (by decide) ?_
        refine lv_icmp_le (tgt := 28) hx hb d_gate_23 (by decide) (fun c_4 => ?_) (fun c_4 => ?_)
        · refine lv_aload_n hx hb d_gate_28 rfl (lv_at hl 0 rfl) ?_
          refine va_get (v := .ref (a 18)) hx hb hG i_X hown hK hP 0 wX_X rfl 1 (by decide) (hG _ L_X_17) (fun _ h9 => h9) rfl d_gate_29 ?_
          refine lv_iload_n hx hb d_gate_32 rfl (lv_at hl 1 rfl) ?_
          refine x_aldG hx hb hK hP j hj d_gate_33 ?_
          refine lv_iload_n hx hb d_gate_34 rfl (lv_at hl 2 rfl) ?_
          refine va_putN (ty := .int) (v := .int mask) hx hb hG i_G ft_G ft_G_ok n_G hown hK hP hD hS (13 + j) (wX_G hj) rfl 0 (by decide) (hN.use L_X_68) (fun _ h9 => h9) rfl (by decide +kernel) (rfl) (rfl) (Nat.le_of_ble_eq_true rfl) d_gate_35 (fun H locs hP hD hS => ?_)
          rw [wX_putG hj (by decide)] at hP hD
          refine lv_aload_n hx hb d_gate_38 rfl (lv_at hl 0 rfl) ?_
          refine va_get (v := .ref (a 18)) hx hb hG i_X hown hK hP 0 wX_X rfl 1 (by decide) (hG _ L_X_17) (fun _ h9 => h9) rfl d_gate_39 ?_
          refine lv_iload_n hx hb d_gate_42 rfl (lv_at hl 1 rfl) ?_
          refine x_aldG hx hb hK hP j hj d_gate_43 ?_
          refine lv_iload_n hx hb d_gate_44 rfl (lv_at hl 3 rfl) ?_
          refine va_putN (ty := .int) (v := .int delay) hx hb hG i_G ft_G ft_G_ok n_G hown hK hP hD hS (13 + j) (wX_G hj) rfl 1 (by decide) (hN.use L_X_71) (fun _ h9 => h9) rfl (by decide +kernel) (rfl) (rfl) (Nat.le_of_ble_eq_true rfl) d_gate_45 (fun H locs hP hD hS => ?_)
          rw [wX_putG hj (by decide)] at hP hD
          refine lv_iconst (v := 1) hx hb d_gate_48 (by decide) ?_
          exact hret _ _ _ 49 1 (up2 (up2 σ (13 + j) 0 mask) (13 + j) 1 delay) hP hD hS rfl d_gate_49 (by simp only [f_gate, c_1, hcl, c_2, c_3, c_4, ↓reduceIte]) (by simp only [f_gate, c_1, hcl, c_2, c_3, c_4, ↓reduceIte])
        · refine lv_iconst (v := 0) hx hb d_gate_26 (by decide) ?_
          exact hret _ _ _ 27 0 σ hP hD hS rfl d_gate_27 (by simp only [f_gate, c_1, hcl, c_2, c_3, c_4, ↓reduceIte]) (by simp only [f_gate, c_1, hcl, c_2, c_3, c_4, ↓reduceIte])
set_option maxHeartbeats 4000000 in
set_option maxRecDepth 100000 in
theorem c_clear (l : Launch) (D : va_G) (a : Nat → Nat) (ca : Nat → ClassId) (σ : St) (x : Int32) : KI l D (tX ca) (wX a ca) rm_clear y_clear b_clear 4 .int [.ref (a 0), .int x] σ ((f_clear σ x).1) ((f_clear σ x).2) := by
  refine KI.of (by decide) (Nat.le_of_ble_eq_true rfl) ?_
  intro p e s m args below meth c A Q ls hx hb hml hown hG hK hN hA hP hD hS hl hret
  have hown : s.vm.findClass R_X = some m.cls := hown
  have hl : lv_has ls 4 [(0, .ref (a 0)), (1, .int x)] := hl
  refine lv_iload_n hx hb d_clear_0 rfl (lv_at hl 1 rfl) ?_
  refine k_cS (rest := []) hx hb hml hown hG hK hN hA hP hD hS (c_isBitSet l D a ca σ x) ok_isBitSet so_isBitSet L_X_65 ⟨rfl, rfl, by decide, by decide⟩ rfl hl.1 rfl (Nat.le_of_ble_eq_true rfl) ⟨Nat.zero_le _, Nat.zero_le _⟩ d_clear_1 (fun H locs hP hD hS => ?_)
  refine lv_if_ne (tgt := 9) hx hb d_clear_4 (by decide) (fun c_1 => ?_) (fun c_1 => ?_)
  · refine lv_aload_n hx hb d_clear_9 rfl (lv_at hl 0 rfl) ?_
    refine va_get (v := .int (σ 0 3)) hx hb hG i_X hown hK hP 0 wX_X rfl 3 (by decide) (hG _ L_X_28) (fun _ h9 => h9) rfl d_clear_10 ?_
    refine lv_iload_n hx hb d_clear_13 rfl (lv_at hl 1 rfl) ?_
    refine lv_iand hx hb d_clear_14 ?_
    refine lv_istore_n (lv' := [(2, .int ((σ 0 3) &&& x)), (0, .ref (a 0)), (1, .int x)]) hx hb d_clear_15 rfl hl (by decide) rfl (fun ls hl => ?_)
    refine lv_iconst (v := 0) hx hb d_clear_16 (by decide) ?_
    refine lv_istore_n (lv' := [(3, .int 0), (2, .int ((σ 0 3) &&& x)), (0, .ref (a 0)), (1, .int x)]) hx hb d_clear_17 rfl hl (by decide) rfl (fun ls hl => ?_)
    have loop : ∀ (n : Nat) (t : Nat) (σ1 : St), (t + n = 8) → (clrL (σ 0 3 &&& x) n t σ1 = clrL (σ 0 3 &&& x) 8 0 σ) → ∀ (H : Heap) (locs : List Loc) (ls : Array Slot), va_P D classes (wX a ca σ1) H → va_D A (wX a ca σ1) → va_S A s.heap H locs → lv_has ls 4 [(3, .int (nI t)), (2, .int (σ 0 3 &&& x)), (1, .int x), (0, .ref (a 0))] → W p l e rm_clear s m args below meth c H locs 0 0 Q (F0 m 18 ls []) := by
      intro n
      induction n with
      | zero =>
        intro t σ1 ht hrel H locs ls hP hD hS hl
        refine lv_iload_n hx hb d_clear_18 rfl (lv_at hl 0 rfl) ?_
        refine lv_bipush (v := 8) hx hb d_clear_19 (by decide) ?_
        refine lv_icmp_ge (tgt := 53) hx hb d_clear_21 (by decide) (fun c_2 => ?_) (fun c_2 => absurd (nI_le (a := 8) (b := t) (by omega) (by omega)) c_2)
        refine lv_aload_n hx hb d_clear_53 rfl (lv_at hl 3 rfl) ?_
        refine lv_dup hx hb d_clear_54 rfl ?_
        refine va_get (v := .int (σ1 0 3)) hx hb hG i_X hown hK hP 0 wX_X rfl 3 (by decide) (hG _ L_X_28) (fun _ h9 => h9) rfl d_clear_55 ?_
        refine lv_iload_n hx hb d_clear_58 rfl (lv_at hl 1 rfl) ?_
        refine lv_iconst (v := (-1)) hx hb d_clear_59 (by decide) ?_
        refine lv_ixor hx hb d_clear_60 ?_
        refine lv_iand hx hb d_clear_61 ?_
        refine va_put (ty := .int) (v := .int ((σ1 0 3) &&& ((σ 0 3 &&& x) ^^^ (-1)))) hx hb hG i_X ft_X ft_X_ok n_X hown hK hP hD hS 0 wX_X rfl 3 (by decide) (hG _ L_X_28) (fun _ h9 => h9) rfl (by decide +kernel) (rfl) (rfl) (Nat.le_of_ble_eq_true rfl) d_clear_62 (fun H locs hP hD hS => ?_)
        rw [wX_putX3] at hP hD
        refine lv_iload_n hx hb d_clear_65 rfl (lv_at hl 1 rfl) ?_
        exact hret _ _ _ 66 (σ 0 3 &&& x) (up2 σ1 0 3 ((σ1 0 3) &&& ((σ 0 3 &&& x) ^^^ (-1)))) hP hD hS rfl d_clear_66 (by simp only [f_clear, c_1, c_2, ↓reduceIte]) (by have hrel : σ1 = _ := hrel; simp only [f_clear, c_1, c_2, ↓reduceIte]; rw [hrel])
      | succ n ih =>
        intro t σ1 ht hrel H locs ls hP hD hS hl
        refine lv_iload_n hx hb d_clear_18 rfl (lv_at hl 0 rfl) ?_
        refine lv_bipush (v := 8) hx hb d_clear_19 (by decide) ?_
        refine lv_icmp_ge (tgt := 53) hx hb d_clear_21 (by decide) (fun c_3 => absurd c_3 (nI_ge (a := t) (b := 8) (by omega) (by omega))) (fun c_3 => ?_)
        refine lv_iload_n hx hb d_clear_24 rfl (lv_at hl 1 rfl) ?_
        refine lv_iconst (v := 1) hx hb d_clear_25 (by decide) ?_
        refine lv_iload_n hx hb d_clear_26 rfl (lv_at hl 0 rfl) ?_
        refine lv_ishl hx hb d_clear_27 ?_
        refine lv_iand hx hb d_clear_28 ?_
        refine lv_if_eq (tgt := 47) hx hb d_clear_29 (by decide) (fun c_4 => ?_) (fun c_4 => ?_)
        · refine lv_iinc (v := nI (t + 1)) (lv' := [(3, .int (nI (t + 1))), (2, .int (σ 0 3 &&& x)), (1, .int x), (0, .ref (a 0))]) hx hb d_clear_47 hl (k := 0) rfl (nI_1 t) (by decide) rfl (fun ls hl => ?_)
          refine lv_goto (tgt := 18) hx hb d_clear_50 (by decide) ?_
          exact ih (t + 1) σ1 (by omega) (by rw [← hrel]; simp only [clrL, bit1, c_1, c_3, c_4, ↓reduceIte]) _ _ _ hP hD hS (lv_sub hl [0, 1, 2, 3] rfl)
        · refine lv_aload_n hx hb d_clear_32 rfl (lv_at hl 3 rfl) ?_
          refine va_get (v := .ref (a 17)) hx hb hG i_X hown hK hP 0 wX_X rfl 0 (by decide) (hG _ L_X_11) (fun _ h9 => h9) rfl d_clear_33 ?_
          refine lv_iload_n hx hb d_clear_36 rfl (lv_at hl 0 rfl) ?_
          refine x_aldT hx hb hK hP t (show t < 8 by omega) d_clear_37 ?_
          refine lv_dup hx hb d_clear_38 rfl ?_
          refine va_getN (v := .int (σ1 (5 + t) 8)) hx hb hG i_T hown hK hP (5 + t) (wX_T (show t < 8 by omega)) rfl 8 (by decide) (hN.use L_X_74) (fun _ h9 => h9) rfl d_clear_39 ?_
          refine lv_iconst (v := 1) hx hb d_clear_42 (by decide) ?_
          refine lv_iadd hx hb d_clear_43 ?_
          refine va_putN (ty := .int) (v := .int ((σ1 (5 + t) 8) + 1)) hx hb hG i_T ft_T ft_T_ok n_T hown hK hP hD hS (5 + t) (wX_T (show t < 8 by omega)) rfl 8 (by decide) (hN.use L_X_74) (fun _ h9 => h9) rfl (by decide +kernel) (rfl) (rfl) (Nat.le_of_ble_eq_true rfl) d_clear_44 (fun H locs hP hD hS => ?_)
          rw [wX_putT (show t < 8 by omega) (by decide)] at hP hD
          refine lv_iinc (v := nI (t + 1)) (lv' := [(3, .int (nI (t + 1))), (2, .int (σ 0 3 &&& x)), (1, .int x), (0, .ref (a 0))]) hx hb d_clear_47 hl (k := 0) rfl (nI_1 t) (by decide) rfl (fun ls hl => ?_)
          refine lv_goto (tgt := 18) hx hb d_clear_50 (by decide) ?_
          exact ih (t + 1) (up2 σ1 (5 + t) 8 ((σ1 (5 + t) 8) + 1)) (by omega) (by rw [← hrel]; simp only [clrL, bit1, c_1, c_3, c_4, ↓reduceIte]) _ _ _ hP hD hS (lv_sub hl [0, 1, 2, 3] rfl)
    exact loop 8 0 σ (by omega) rfl _ _ _ hP hD hS (lv_sub hl [0, 1, 3, 2] rfl)
  · refine lv_iconst (v := (-1)) hx hb d_clear_7 (by decide) ?_
    exact hret _ _ _ 8 (-1) σ hP hD hS rfl d_clear_8 (by simp only [f_clear, c_1, ↓reduceIte]) (by simp only [f_clear, c_1, ↓reduceIte])
set_option maxHeartbeats 4000000 in
set_option maxRecDepth 100000 in
theorem c_advance (l : Launch) (D : va_G) (a : Nat → Nat) (ca : Nat → ClassId) (σ : St) (n0 : Int32) (hI : xInv σ) : KI l D (tX ca) (wX a ca) rm_advance y_advance b_advance 4 .int [.ref (a 0), .int n0] σ ((f_advance σ n0).1) ((f_advance σ n0).2) := by
  refine KI.of (by decide) (Nat.le_of_ble_eq_true rfl) ?_
  intro p e s m args below meth c A Q ls hx hb hml hown hG hK hN hA hP hD hS hl hret
  have hown : s.vm.findClass R_X = some m.cls := hown
  have hl : lv_has ls 4 [(0, .ref (a 0)), (1, .int n0)] := hl
  refine lv_iload_n hx hb d_advance_0 rfl (lv_at hl 1 rfl) ?_
  refine k_cS (rest := []) hx hb hml hown hG hK hN hA hP hD hS (c_isTickCount l D a ca σ n0) ok_isTickCount so_isTickCount L_X_77 ⟨rfl, rfl, by decide, by decide⟩ rfl hl.1 rfl (Nat.le_of_ble_eq_true rfl) ⟨Nat.zero_le _, Nat.zero_le _⟩ d_advance_1 (fun H locs hP hD hS => ?_)
  refine lv_if_ne (tgt := 9) hx hb d_advance_4 (by decide) (fun c_1 => ?_) (fun c_1 => ?_)
  · obtain ⟨j, hj, rfl⟩ := isTick_in c_1
    have hcl : (nI j).toNatClampNeg = j := nI_clamp (by omega)
    refine lv_iconst (v := 0) hx hb d_advance_9 (by decide) ?_
    refine lv_istore_n (lv' := [(2, .int 0), (0, .ref (a 0)), (1, .int (nI j))]) hx hb d_advance_10 rfl hl (by decide) rfl (fun ls hl => ?_)
    refine lv_iconst (v := 0) hx hb d_advance_11 (by decide) ?_
    refine lv_istore_n (lv' := [(3, .int 0), (2, .int 0), (0, .ref (a 0)), (1, .int (nI j))]) hx hb d_advance_12 rfl hl (by decide) rfl (fun ls hl => ?_)
    have loop : ∀ (n : Nat) (i : Nat) (sv : Int32) (σ1 : St), (i + n = j) → (xInv σ1) → (advL n sv σ1 = advL j 0 σ) → ∀ (H : Heap) (locs : List Loc) (ls : Array Slot), va_P D classes (wX a ca σ1) H → va_D A (wX a ca σ1) → va_S A s.heap H locs → lv_has ls 4 [(3, .int (nI i)), (2, .int sv), (1, .int (nI j)), (0, .ref (a 0))] → W p l e rm_advance s m args below meth c H locs 0 0 Q (F0 m 13 ls []) := by
      intro n
      induction n with
      | zero =>
        intro i sv σ1 hi hI1 hrel H locs ls hP hD hS hl
        refine lv_iload_n hx hb d_advance_13 rfl (lv_at hl 0 rfl) ?_
        refine lv_iload_n hx hb d_advance_14 rfl (lv_at hl 2 rfl) ?_
        refine lv_icmp_ge (tgt := 31) hx hb d_advance_15 (by decide) (fun c_2 => ?_) (fun c_2 => absurd (nI_le (a := j) (b := i) (by omega) (by omega)) c_2)
        refine lv_iload_n hx hb d_advance_31 rfl (lv_at hl 1 rfl) ?_
        exact hret _ _ _ 32 sv σ1 hP hD hS rfl d_advance_32 (by simp only [f_advance, c_1, hcl, c_2, ↓reduceIte]; rw [← hrel]; rfl) (by simp only [f_advance, c_1, hcl, c_2, ↓reduceIte]; rw [← hrel]; rfl)
      | succ n ih =>
        intro i sv σ1 hi hI1 hrel H locs ls hP hD hS hl
        refine lv_iload_n hx hb d_advance_13 rfl (lv_at hl 0 rfl) ?_
        refine lv_iload_n hx hb d_advance_14 rfl (lv_at hl 2 rfl) ?_
        refine lv_icmp_ge (tgt := 31) hx hb d_advance_15 (by decide) (fun c_3 => absurd c_3 (nI_ge (a := i) (b := j) (by omega) (by omega))) (fun c_3 => ?_)
        refine lv_iload_n hx hb d_advance_18 rfl (lv_at hl 1 rfl) ?_
        refine lv_aload_n hx hb d_advance_19 rfl (lv_at hl 3 rfl) ?_
        refine k_cV (rest := [.int sv]) hx hb hml hown hG hK hN hA hP hD hS (c_tick l D a ca σ1 hI1) ok_tick io_tick L_X_80 ⟨rfl, rfl, by decide, by decide⟩ 0 wX_X rfl rfl hl.1 rfl (Nat.le_of_ble_eq_true rfl) ⟨Nat.zero_le _, Nat.zero_le _⟩ d_advance_20 (fun H locs hP hD hS => ?_)
        refine lv_iadd hx hb d_advance_23 ?_
        refine lv_istore_n (lv' := [(2, .int (sv + ((f_tick σ1).1))), (3, .int (nI i)), (1, .int (nI j)), (0, .ref (a 0))]) hx hb d_advance_24 rfl hl (by decide) rfl (fun ls hl => ?_)
        refine lv_iinc (v := nI (i + 1)) (lv' := [(3, .int (nI (i + 1))), (2, .int (sv + ((f_tick σ1).1))), (1, .int (nI j)), (0, .ref (a 0))]) hx hb d_advance_25 hl (k := 1) rfl (nI_1 i) (by decide) rfl (fun ls hl => ?_)
        refine lv_goto (tgt := 13) hx hb d_advance_28 (by decide) ?_
        exact ih (i + 1) (sv + ((f_tick σ1).1)) ((f_tick σ1).2) (by omega) (tick_inv hI1) (by rw [← hrel]; simp only [advL, c_1, hcl, c_3, ↓reduceIte]) _ _ _ hP hD hS (lv_sub hl [0, 1, 2, 3] rfl)
    exact loop j 0 0 σ (by omega) hI rfl _ _ _ hP hD hS (lv_sub hl [0, 1, 3, 2] rfl)
  · refine lv_iconst (v := (-1)) hx hb d_advance_7 (by decide) ?_
    exact hret _ _ _ 8 (-1) σ hP hD hS rfl d_advance_8 (by simp only [f_advance, c_1, ↓reduceIte]) (by simp only [f_advance, c_1, ↓reduceIte])
set_option maxHeartbeats 4000000 in
set_option maxRecDepth 100000 in
theorem c_next (l : Launch) (D : va_G) (a : Nat → Nat) (ca : Nat → ClassId) (σ : St) (n0 : Int32) (hI : xInv σ) : KI l D (tX ca) (wX a ca) rm_next y_next b_next 3 .int [.ref (a 0), .int n0] σ ((f_next σ n0).1) ((f_next σ n0).2) := by
  refine KI.of (by decide) (Nat.le_of_ble_eq_true rfl) ?_
  intro p e s m args below meth c A Q ls hx hb hml hown hG hK hN hA hP hD hS hl hret
  have hown : s.vm.findClass R_X = some m.cls := hown
  have hl : lv_has ls 3 [(0, .ref (a 0)), (1, .int n0)] := hl
  refine lv_iload_n hx hb d_next_0 rfl (lv_at hl 1 rfl) ?_
  refine k_cS (rest := []) hx hb hml hown hG hK hN hA hP hD hS (c_isTickCount l D a ca σ n0) ok_isTickCount so_isTickCount L_X_77 ⟨rfl, rfl, by decide, by decide⟩ rfl hl.1 rfl (Nat.le_of_ble_eq_true rfl) ⟨Nat.zero_le _, Nat.zero_le _⟩ d_next_1 (fun H locs hP hD hS => ?_)
  refine lv_if_ne (tgt := 9) hx hb d_next_4 (by decide) (fun c_1 => ?_) (fun c_1 => ?_)
  · obtain ⟨j, hj, rfl⟩ := isTick_in c_1
    have hcl : (nI j).toNatClampNeg = j := nI_clamp (by omega)
    refine lv_iconst (v := 0) hx hb d_next_9 (by decide) ?_
    refine lv_istore_n (lv' := [(2, .int 0), (0, .ref (a 0)), (1, .int (nI j))]) hx hb d_next_10 rfl hl (by decide) rfl (fun ls hl => ?_)
    have loop : ∀ (n : Nat) (i : Nat) (σ1 : St), (i + n = j) → (xInv σ1) → (nxtL (nI j) n i σ1 = nxtL (nI j) j 0 σ) → ∀ (H : Heap) (locs : List Loc) (ls : Array Slot), va_P D classes (wX a ca σ1) H → va_D A (wX a ca σ1) → va_S A s.heap H locs → lv_has ls 3 [(2, .int (nI i)), (1, .int (nI j)), (0, .ref (a 0))] → W p l e rm_next s m args below meth c H locs 0 0 Q (F0 m 11 ls []) := by
      intro n
      induction n with
      | zero =>
        intro i σ1 hi hI1 hrel H locs ls hP hD hS hl
        refine lv_iload_n hx hb d_next_11 rfl (lv_at hl 0 rfl) ?_
        refine lv_iload_n hx hb d_next_12 rfl (lv_at hl 1 rfl) ?_
        refine lv_icmp_ge (tgt := 33) hx hb d_next_13 (by decide) (fun c_2 => ?_) (fun c_2 => absurd (nI_le (a := j) (b := i) (by omega) (by omega)) c_2)
        refine lv_iload_n hx hb d_next_33 rfl (lv_at hl 1 rfl) ?_
        exact hret _ _ _ 34 (nI j) σ1 hP hD hS rfl d_next_34 (by simp only [f_next, c_1, hcl, c_2, ↓reduceIte]; rw [← hrel]; simp only [nxtL, c_1, hcl, c_2, ↓reduceIte]) (by simp only [f_next, c_1, hcl, c_2, ↓reduceIte]; rw [← hrel]; simp only [nxtL, c_1, hcl, c_2, ↓reduceIte])
      | succ n ih =>
        intro i σ1 hi hI1 hrel H locs ls hP hD hS hl
        refine lv_iload_n hx hb d_next_11 rfl (lv_at hl 0 rfl) ?_
        refine lv_iload_n hx hb d_next_12 rfl (lv_at hl 1 rfl) ?_
        refine lv_icmp_ge (tgt := 33) hx hb d_next_13 (by decide) (fun c_3 => absurd c_3 (nI_ge (a := i) (b := j) (by omega) (by omega))) (fun c_3 => ?_)
        refine lv_aload_n hx hb d_next_16 rfl (lv_at hl 2 rfl) ?_
        refine k_cV (rest := []) hx hb hml hown hG hK hN hA hP hD hS (c_tick l D a ca σ1 hI1) ok_tick io_tick L_X_80 ⟨rfl, rfl, by decide, by decide⟩ 0 wX_X rfl rfl hl.1 rfl (Nat.le_of_ble_eq_true rfl) ⟨Nat.zero_le _, Nat.zero_le _⟩ d_next_17 (fun H locs hP hD hS => ?_)
        refine lv_if_le (tgt := 27) hx hb d_next_20 (by decide) (fun c_4 => ?_) (fun c_4 => ?_)
        · refine lv_iinc (v := nI (i + 1)) (lv' := [(2, .int (nI (i + 1))), (1, .int (nI j)), (0, .ref (a 0))]) hx hb d_next_27 hl (k := 0) rfl (nI_1 i) (by decide) rfl (fun ls hl => ?_)
          refine lv_goto (tgt := 11) hx hb d_next_30 (by decide) ?_
          exact ih (i + 1) ((f_tick σ1).2) (by omega) (tick_inv hI1) (by rw [← hrel]; simp only [nxtL, c_1, hcl, c_3, c_4, ↓reduceIte]) _ _ _ hP hD hS (lv_sub hl [0, 1, 2] rfl)
        · refine lv_iload_n hx hb d_next_23 rfl (lv_at hl 0 rfl) ?_
          refine lv_iconst (v := 1) hx hb d_next_24 (by decide) ?_
          refine lv_iadd hx hb d_next_25 ?_
          exact hret _ _ _ 26 ((nI i) + 1) ((f_tick σ1).2) hP hD hS rfl d_next_26 (by simp only [f_next, c_1, hcl, c_3, c_4, ↓reduceIte]; rw [← hrel]; simp only [nxtL, c_1, hcl, c_3, c_4, ↓reduceIte]) (by simp only [f_next, c_1, hcl, c_3, c_4, ↓reduceIte]; rw [← hrel]; simp only [nxtL, c_1, hcl, c_3, c_4, ↓reduceIte])
    exact loop j 0 σ (by omega) hI rfl _ _ _ hP hD hS (lv_sub hl [0, 2, 1] rfl)
  · refine lv_iconst (v := (-1)) hx hb d_next_7 (by decide) ?_
    exact hret _ _ _ 8 (-1) σ hP hD hS rfl d_next_8 (by simp only [f_next, c_1, ↓reduceIte]) (by simp only [f_next, c_1, ↓reduceIte])
set_option maxHeartbeats 4000000 in
set_option maxRecDepth 100000 in
theorem c_timer (l : Launch) (D : va_G) (a : Nat → Nat) (ca : Nat → ClassId) (σ : St) (t : Int32) (w : Int32) : KI l D (tX ca) (wX a ca) rm_timer y_timer b_timer 3 .int [.ref (a 0), .int t, .int w] σ (f_timer σ t w) σ := by
  refine KI.of (by decide) (Nat.le_of_ble_eq_true rfl) ?_
  intro p e s m args below meth c A Q ls hx hb hml hown hG hK hN hA hP hD hS hl hret
  have hown : s.vm.findClass R_X = some m.cls := hown
  have hl : lv_has ls 3 [(0, .ref (a 0)), (1, .int t), (2, .int w)] := hl
  refine lv_iload_n hx hb d_timer_0 rfl (lv_at hl 1 rfl) ?_
  refine k_cS (rest := []) hx hb hml hown hG hK hN hA hP hD hS (c_isTimer l D a ca σ t) ok_isTimer so_isTimer L_X_37 ⟨rfl, rfl, by decide, by decide⟩ rfl hl.1 rfl (Nat.le_of_ble_eq_true rfl) ⟨Nat.zero_le _, Nat.zero_le _⟩ d_timer_1 (fun H locs hP hD hS => ?_)
  refine lv_if_ne (tgt := 9) hx hb d_timer_4 (by decide) (fun c_1 => ?_) (fun c_1 => ?_)
  · obtain ⟨j, hj, rfl⟩ := isTimer_in c_1
    have hcl : (nI j).toNatClampNeg = j := nI_clamp (by omega)
    refine lv_aload_n hx hb d_timer_9 rfl (lv_at hl 0 rfl) ?_
    refine va_get (v := .ref (a 17)) hx hb hG i_X hown hK hP 0 wX_X rfl 0 (by decide) (hG _ L_X_11) (fun _ h9 => h9) rfl d_timer_10 ?_
    refine lv_iload_n hx hb d_timer_13 rfl (lv_at hl 1 rfl) ?_
    refine x_aldT hx hb hK hP j hj d_timer_14 ?_
    refine lv_iload_n hx hb d_timer_15 rfl (lv_at hl 2 rfl) ?_
    refine k_cN (rest := []) hx hb hml hown hG hK hN hA hP hD hS (c_Tread l D a ca σ j hj w) ok_Tread io_Tread L_X_84 ⟨rfl, rfl, by decide, by decide⟩ (5 + j) (wX_T hj) rfl rfl hl.1 rfl (Nat.le_of_ble_eq_true rfl) ⟨Nat.zero_le _, Nat.zero_le _⟩ d_timer_16 (fun H locs hP hD hS => ?_)
    exact hret _ _ _ 19 (f_Tread σ (5 + j) w) σ hP hD hS rfl d_timer_19 (by simp only [f_timer, c_1, hcl, ↓reduceIte]) (rfl)
  · refine lv_iconst (v := (-1)) hx hb d_timer_7 (by decide) ?_
    exact hret _ _ _ 8 (-1) σ hP hD hS rfl d_timer_8 (by simp only [f_timer, c_1, ↓reduceIte]) (rfl)
set_option maxHeartbeats 4000000 in
set_option maxRecDepth 100000 in
theorem c_gateOf (l : Launch) (D : va_G) (a : Nat → Nat) (ca : Nat → ClassId) (σ : St) (g : Int32) (w : Int32) : KI l D (tX ca) (wX a ca) rm_gateOf y_gateOf b_gateOf 3 .int [.ref (a 0), .int g, .int w] σ (f_gateOf σ g w) σ := by
  refine KI.of (by decide) (Nat.le_of_ble_eq_true rfl) ?_
  intro p e s m args below meth c A Q ls hx hb hml hown hG hK hN hA hP hD hS hl hret
  have hown : s.vm.findClass R_X = some m.cls := hown
  have hl : lv_has ls 3 [(0, .ref (a 0)), (1, .int g), (2, .int w)] := hl
  refine lv_iload_n hx hb d_gateOf_0 rfl (lv_at hl 1 rfl) ?_
  refine k_cS (rest := []) hx hb hml hown hG hK hN hA hP hD hS (c_isGate l D a ca σ g) ok_isGate so_isGate L_X_62 ⟨rfl, rfl, by decide, by decide⟩ rfl hl.1 rfl (Nat.le_of_ble_eq_true rfl) ⟨Nat.zero_le _, Nat.zero_le _⟩ d_gateOf_1 (fun H locs hP hD hS => ?_)
  refine lv_if_ne (tgt := 9) hx hb d_gateOf_4 (by decide) (fun c_1 => ?_) (fun c_1 => ?_)
  · obtain ⟨j, hj, rfl⟩ := isGate_in c_1
    have hcl : (nI j).toNatClampNeg = j := nI_clamp (by omega)
    refine lv_aload_n hx hb d_gateOf_9 rfl (lv_at hl 0 rfl) ?_
    refine va_get (v := .ref (a 18)) hx hb hG i_X hown hK hP 0 wX_X rfl 1 (by decide) (hG _ L_X_17) (fun _ h9 => h9) rfl d_gateOf_10 ?_
    refine lv_iload_n hx hb d_gateOf_13 rfl (lv_at hl 1 rfl) ?_
    refine x_aldG hx hb hK hP j hj d_gateOf_14 ?_
    refine lv_iload_n hx hb d_gateOf_15 rfl (lv_at hl 2 rfl) ?_
    refine lv_aload_n hx hb d_gateOf_16 rfl (lv_at hl 0 rfl) ?_
    refine va_get (v := .int (σ 0 3)) hx hb hG i_X hown hK hP 0 wX_X rfl 3 (by decide) (hG _ L_X_28) (fun _ h9 => h9) rfl d_gateOf_17 ?_
    refine k_cN (rest := []) hx hb hml hown hG hK hN hA hP hD hS (c_Gread l D a ca σ j hj w (σ 0 3)) ok_Gread io_Gread L_X_88 ⟨rfl, rfl, by decide, by decide⟩ (13 + j) (wX_G hj) rfl rfl hl.1 rfl (Nat.le_of_ble_eq_true rfl) ⟨Nat.zero_le _, Nat.zero_le _⟩ d_gateOf_20 (fun H locs hP hD hS => ?_)
    exact hret _ _ _ 23 (f_Gread σ (13 + j) w (σ 0 3)) σ hP hD hS rfl d_gateOf_23 (by simp only [f_gateOf, c_1, hcl, ↓reduceIte]) (rfl)
  · refine lv_iconst (v := (-1)) hx hb d_gateOf_7 (by decide) ?_
    exact hret _ _ _ 8 (-1) σ hP hD hS rfl d_gateOf_8 (by simp only [f_gateOf, c_1, ↓reduceIte]) (rfl)
set_option maxHeartbeats 4000000 in
set_option maxRecDepth 100000 in
theorem c_look (l : Launch) (D : va_G) (a : Nat → Nat) (ca : Nat → ClassId) (σ : St) (w : Int32) : KI l D (tX ca) (wX a ca) rm_look y_look b_look 2 .int [.ref (a 0), .int w] σ (f_look σ w) σ := by
  refine KI.of (by decide) (Nat.le_of_ble_eq_true rfl) ?_
  intro p e s m args below meth c A Q ls hx hb hml hown hG hK hN hA hP hD hS hl hret
  have hown : s.vm.findClass R_X = some m.cls := hown
  have hl : lv_has ls 2 [(0, .ref (a 0)), (1, .int w)] := hl
  refine lv_iload_n hx hb d_look_0 rfl (lv_at hl 1 rfl) ?_
  rcases sw_cases w 3 (by decide) with s_1 | ⟨k_2, k_2_l, s_1⟩
  · refine lv_tableOut (tgt := 55) hx hb d_look_1 s_1 (by decide) ?_
    refine lv_iconst (v := (-1)) hx hb d_look_55 (by decide) ?_
    exact hret _ _ _ 56 (-1) σ hP hD hS rfl d_look_56 (by simp only [f_look, sw_o _ _ s_1 0 (by decide) (by decide), sw_o _ _ s_1 1 (by decide) (by decide), sw_o _ _ s_1 2 (by decide) (by decide), sw_o _ _ s_1 3 (by decide) (by decide), ↓reduceIte]) (rfl)
  · rcases (show k_2 = 0 ∨ k_2 = 1 ∨ k_2 = 2 ∨ k_2 = 3 by omega) with rfl | rfl | rfl | rfl
    · refine lv_tableIn (off := 31) (tgt := 32) hx hb d_look_1 (by rw [s_1]; decide) (by rw [s_1]; decide) (by rw [s_1]; decide) (by decide) ?_
      refine lv_aload_n hx hb d_look_32 rfl (lv_at hl 0 rfl) ?_
      refine va_get (v := .int (σ 0 3)) hx hb hG i_X hown hK hP 0 wX_X rfl 3 (by decide) (hG _ L_X_28) (fun _ h9 => h9) rfl d_look_33 ?_
      exact hret _ _ _ 36 (σ 0 3) σ hP hD hS rfl d_look_36 (by simp only [f_look, s_1, sw_0_0, ↓reduceIte]) (rfl)
    · refine lv_tableIn (off := 36) (tgt := 37) hx hb d_look_1 (by rw [s_1]; decide) (by rw [s_1]; decide) (by rw [s_1]; decide) (by decide) ?_
      refine lv_aload_n hx hb d_look_37 rfl (lv_at hl 0 rfl) ?_
      refine va_get (v := .int (σ 0 4)) hx hb hG i_X hown hK hP 0 wX_X rfl 4 (by decide) (hG _ L_X_32) (fun _ h9 => h9) rfl d_look_38 ?_
      exact hret _ _ _ 41 (σ 0 4) σ hP hD hS rfl d_look_41 (by simp only [f_look, s_1, sw_1_0, sw_1_1, ↓reduceIte]) (rfl)
    · refine lv_tableIn (off := 41) (tgt := 42) hx hb d_look_1 (by rw [s_1]; decide) (by rw [s_1]; decide) (by rw [s_1]; decide) (by decide) ?_
      refine lv_aload_n hx hb d_look_42 rfl (lv_at hl 0 rfl) ?_
      refine va_get (v := .ref (a 1)) hx hb hG i_X hown hK hP 0 wX_X rfl 2 (by decide) (hG _ L_X_24) (fun _ h9 => h9) rfl d_look_43 ?_
      refine va_getN (v := .int (σ 1 3)) hx hb hG i_H hown hK hP 1 wX_H rfl 3 (by decide) (hN.use L_X_91) (fun _ h9 => h9) rfl d_look_46 ?_
      exact hret _ _ _ 49 (σ 1 3) σ hP hD hS rfl d_look_49 (by simp only [f_look, s_1, sw_2_0, sw_2_1, sw_2_2, ↓reduceIte]) (rfl)
    · refine lv_tableIn (off := 49) (tgt := 50) hx hb d_look_1 (by rw [s_1]; decide) (by rw [s_1]; decide) (by rw [s_1]; decide) (by decide) ?_
      refine lv_aload_n hx hb d_look_50 rfl (lv_at hl 0 rfl) ?_
      refine k_cV (rest := []) hx hb hml hown hG hK hN hA hP hD hS (c_ticksToNextEnd l D a ca σ) ok_ticksToNextEnd io_ticksToNextEnd L_X_94 ⟨rfl, rfl, by decide, by decide⟩ 0 wX_X rfl rfl hl.1 rfl (Nat.le_of_ble_eq_true rfl) ⟨Nat.zero_le _, Nat.zero_le _⟩ d_look_51 (fun H locs hP hD hS => ?_)
      exact hret _ _ _ 54 (tnL σ 8 0 0) σ hP hD hS rfl d_look_54 (by simp only [f_look, s_1, sw_3_0, sw_3_1, sw_3_2, sw_3_3, ↓reduceIte]) (rfl)
set_option maxHeartbeats 4000000 in
set_option maxRecDepth 100000 in
theorem c_served (l : Launch) (D : va_G) (a : Nat → Nat) (ca : Nat → ClassId) (σ : St) (i : Int32) (w : Int32) (hI : xInv σ) : KI l D (tX ca) (wX a ca) rm_served y_served b_served 3 .int [.ref (a 0), .int i, .int w] σ (f_Hread σ i w) σ := by
  refine KI.of (by decide) (Nat.le_of_ble_eq_true rfl) ?_
  intro p e s m args below meth c A Q ls hx hb hml hown hG hK hN hA hP hD hS hl hret
  have hown : s.vm.findClass R_X = some m.cls := hown
  have hl : lv_has ls 3 [(0, .ref (a 0)), (1, .int i), (2, .int w)] := hl
  refine lv_aload_n hx hb d_served_0 rfl (lv_at hl 0 rfl) ?_
  refine va_get (v := .ref (a 1)) hx hb hG i_X hown hK hP 0 wX_X rfl 2 (by decide) (hG _ L_X_24) (fun _ h9 => h9) rfl d_served_1 ?_
  refine lv_iload_n hx hb d_served_4 rfl (lv_at hl 1 rfl) ?_
  refine lv_iload_n hx hb d_served_5 rfl (lv_at hl 2 rfl) ?_
  refine k_cN (rest := []) hx hb hml hown hG hK hN hA hP hD hS (c_Hread l D a ca σ i w hI) ok_Hread io_Hread L_X_97 ⟨rfl, rfl, by decide, by decide⟩ 1 wX_H rfl rfl hl.1 rfl (Nat.le_of_ble_eq_true rfl) ⟨Nat.zero_le _, Nat.zero_le _⟩ d_served_6 (fun H locs hP hD hS => ?_)
  exact hret _ _ _ 9 (f_Hread σ i w) σ hP hD hS rfl d_served_9 (rfl) (rfl)
end
section
set_option maxHeartbeats 4000000 in
set_option maxRecDepth 100000 in
theorem c_Tinit (l : Launch) (D : va_G) (tys : List (ClassId × FieldType)) (h : Nat) (σ : St) : KV l D tys (wT1 h) rm_Tinit y_Tinit b_Tinit 1 [.ref h] σ (tI σ) := by
  refine KV.of (by decide) (Nat.le_of_ble_eq_true rfl) ?_
  intro p e s m args below meth c A Q ls hx hb hml hown hG hK hN hA hP hD hS hl hret
  have hown : s.vm.findClass R_T = some m.cls := hown
  have hl : lv_has ls 1 [(0, .ref h)] := hl
  refine lv_aload_n hx hb d_Tinit_0 rfl (lv_at hl 0 rfl) ?_
  refine W.objInit hx hb hown (hG _ L_T_3) (hG _ objI) (hG _ objC) rfl (by rw [hml]; exact hl.1) rfl d_Tinit_1 (Nat.le_of_ble_eq_true rfl) (Nat.le_of_ble_eq_true rfl) ?_
  refine W.eq (g2 := F0 m 4 ls []) rfl ?_
  refine lv_aload_n hx hb d_Tinit_4 rfl (lv_at hl 0 rfl) ?_
  refine lv_iconst (v := 1) hx hb d_Tinit_5 (by decide) ?_
  refine va_put (ty := .int) (v := .int 1) hx hb hG i_T ft_T ft_T_ok n_T hown hK hP hD hS 0 rfl rfl 0 (by decide) (hG _ L_T_9) (fun _ h9 => h9) rfl (by decide +kernel) rfl rfl (Nat.le_of_ble_eq_true rfl) d_Tinit_6 (fun H locs hP hD hS => ?_)
  rw [wT1_put (by decide)] at hP hD
  refine lv_aload_n hx hb d_Tinit_9 rfl (lv_at hl 0 rfl) ?_
  refine lv_iconst (v := 1) hx hb d_Tinit_10 (by decide) ?_
  refine va_put (ty := .int) (v := .int 1) hx hb hG i_T ft_T ft_T_ok n_T hown hK hP hD hS 0 rfl rfl 1 (by decide) (hG _ L_T_15) (fun _ h9 => h9) rfl (by decide +kernel) rfl rfl (Nat.le_of_ble_eq_true rfl) d_Tinit_11 (fun H locs hP hD hS => ?_)
  rw [wT1_put (by decide)] at hP hD
  refine lv_aload_n hx hb d_Tinit_14 rfl (lv_at hl 0 rfl) ?_
  refine lv_iconst (v := 0) hx hb d_Tinit_15 (by decide) ?_
  refine va_put (ty := .int) (v := .int 0) hx hb hG i_T ft_T ft_T_ok n_T hown hK hP hD hS 0 rfl rfl 2 (by decide) (hG _ L_T_18) (fun _ h9 => h9) rfl (by decide +kernel) rfl rfl (Nat.le_of_ble_eq_true rfl) d_Tinit_16 (fun H locs hP hD hS => ?_)
  rw [wT1_put (by decide)] at hP hD
  refine lv_aload_n hx hb d_Tinit_19 rfl (lv_at hl 0 rfl) ?_
  refine lv_iconst (v := 0) hx hb d_Tinit_20 (by decide) ?_
  refine va_put (ty := .boolean) (v := .int 0) hx hb hG i_T ft_T ft_T_ok n_T hown hK hP hD hS 0 rfl rfl 3 (by decide) (hG _ L_T_21) (fun _ h9 => h9) rfl (by decide +kernel) rfl rfl (Nat.le_of_ble_eq_true rfl) d_Tinit_21 (fun H locs hP hD hS => ?_)
  rw [wT1_put (by decide)] at hP hD
  refine lv_aload_n hx hb d_Tinit_24 rfl (lv_at hl 0 rfl) ?_
  refine lv_iconst (v := 0) hx hb d_Tinit_25 (by decide) ?_
  refine va_put (ty := .boolean) (v := .int 0) hx hb hG i_T ft_T ft_T_ok n_T hown hK hP hD hS 0 rfl rfl 4 (by decide) (hG _ L_T_25) (fun _ h9 => h9) rfl (by decide +kernel) rfl rfl (Nat.le_of_ble_eq_true rfl) d_Tinit_26 (fun H locs hP hD hS => ?_)
  rw [wT1_put (by decide)] at hP hD
  refine lv_aload_n hx hb d_Tinit_29 rfl (lv_at hl 0 rfl) ?_
  refine lv_iconst (v := 0) hx hb d_Tinit_30 (by decide) ?_
  refine va_put (ty := .int) (v := .int 0) hx hb hG i_T ft_T ft_T_ok n_T hown hK hP hD hS 0 rfl rfl 5 (by decide) (hG _ L_T_28) (fun _ h9 => h9) rfl (by decide +kernel) rfl rfl (Nat.le_of_ble_eq_true rfl) d_Tinit_31 (fun H locs hP hD hS => ?_)
  rw [wT1_put (by decide)] at hP hD
  refine lv_aload_n hx hb d_Tinit_34 rfl (lv_at hl 0 rfl) ?_
  refine lv_iconst (v := 0) hx hb d_Tinit_35 (by decide) ?_
  refine va_put (ty := .int) (v := .int 0) hx hb hG i_T ft_T ft_T_ok n_T hown hK hP hD hS 0 rfl rfl 6 (by decide) (hG _ L_T_31) (fun _ h9 => h9) rfl (by decide +kernel) rfl rfl (Nat.le_of_ble_eq_true rfl) d_Tinit_36 (fun H locs hP hD hS => ?_)
  rw [wT1_put (by decide)] at hP hD
  refine lv_aload_n hx hb d_Tinit_39 rfl (lv_at hl 0 rfl) ?_
  refine lv_iconst (v := 0) hx hb d_Tinit_40 (by decide) ?_
  refine va_put (ty := .int) (v := .int 0) hx hb hG i_T ft_T ft_T_ok n_T hown hK hP hD hS 0 rfl rfl 7 (by decide) (hG _ L_T_34) (fun _ h9 => h9) rfl (by decide +kernel) rfl rfl (Nat.le_of_ble_eq_true rfl) d_Tinit_41 (fun H locs hP hD hS => ?_)
  rw [wT1_put (by decide)] at hP hD
  refine lv_aload_n hx hb d_Tinit_44 rfl (lv_at hl 0 rfl) ?_
  refine lv_iconst (v := 0) hx hb d_Tinit_45 (by decide) ?_
  refine va_put (ty := .int) (v := .int 0) hx hb hG i_T ft_T ft_T_ok n_T hown hK hP hD hS 0 rfl rfl 8 (by decide) (hG _ L_T_37) (fun _ h9 => h9) rfl (by decide +kernel) rfl rfl (Nat.le_of_ble_eq_true rfl) d_Tinit_46 (fun H locs hP hD hS => ?_)
  rw [wT1_put (by decide)] at hP hD
  exact hret _ _ _ 49 (up2 (up2 (up2 (up2 (up2 (up2 (up2 (up2 (up2 σ 0 0 1) 0 1 1) 0 2 0) 0 3 0) 0 4 0) 0 5 0) 0 6 0) 0 7 0) 0 8 0) hP hD hS d_Tinit_49 (rfl)
set_option maxHeartbeats 4000000 in
set_option maxRecDepth 100000 in
theorem c_Ginit (l : Launch) (D : va_G) (tys : List (ClassId × FieldType)) (h : Nat) (σ : St) : KV l D tys (wG1 h) rm_Ginit y_Ginit b_Ginit 1 [.ref h] σ (gI σ) := by
  refine KV.of (by decide) (Nat.le_of_ble_eq_true rfl) ?_
  intro p e s m args below meth c A Q ls hx hb hml hown hG hK hN hA hP hD hS hl hret
  have hown : s.vm.findClass R_G = some m.cls := hown
  have hl : lv_has ls 1 [(0, .ref h)] := hl
  refine lv_aload_n hx hb d_Ginit_0 rfl (lv_at hl 0 rfl) ?_
  refine W.objInit hx hb hown (hG _ L_G_3) (hG _ objI) (hG _ objC) rfl (by rw [hml]; exact hl.1) rfl d_Ginit_1 (Nat.le_of_ble_eq_true rfl) (Nat.le_of_ble_eq_true rfl) ?_
  refine W.eq (g2 := F0 m 4 ls []) rfl ?_
  refine lv_aload_n hx hb d_Ginit_4 rfl (lv_at hl 0 rfl) ?_
  refine lv_iconst (v := 0) hx hb d_Ginit_5 (by decide) ?_
  refine va_put (ty := .int) (v := .int 0) hx hb hG i_G ft_G ft_G_ok n_G hown hK hP hD hS 0 rfl rfl 0 (by decide) (hG _ L_G_9) (fun _ h9 => h9) rfl (by decide +kernel) rfl rfl (Nat.le_of_ble_eq_true rfl) d_Ginit_6 (fun H locs hP hD hS => ?_)
  rw [wG1_put (by decide)] at hP hD
  refine lv_aload_n hx hb d_Ginit_9 rfl (lv_at hl 0 rfl) ?_
  refine lv_iconst (v := 1) hx hb d_Ginit_10 (by decide) ?_
  refine va_put (ty := .int) (v := .int 1) hx hb hG i_G ft_G ft_G_ok n_G hown hK hP hD hS 0 rfl rfl 1 (by decide) (hG _ L_G_15) (fun _ h9 => h9) rfl (by decide +kernel) rfl rfl (Nat.le_of_ble_eq_true rfl) d_Ginit_11 (fun H locs hP hD hS => ?_)
  rw [wG1_put (by decide)] at hP hD
  refine lv_aload_n hx hb d_Ginit_14 rfl (lv_at hl 0 rfl) ?_
  refine lv_iconst (v := 0) hx hb d_Ginit_15 (by decide) ?_
  refine va_put (ty := .int) (v := .int 0) hx hb hG i_G ft_G ft_G_ok n_G hown hK hP hD hS 0 rfl rfl 2 (by decide) (hG _ L_G_18) (fun _ h9 => h9) rfl (by decide +kernel) rfl rfl (Nat.le_of_ble_eq_true rfl) d_Ginit_16 (fun H locs hP hD hS => ?_)
  rw [wG1_put (by decide)] at hP hD
  refine lv_aload_n hx hb d_Ginit_19 rfl (lv_at hl 0 rfl) ?_
  refine lv_iconst (v := 0) hx hb d_Ginit_20 (by decide) ?_
  refine va_put (ty := .int) (v := .int 0) hx hb hG i_G ft_G ft_G_ok n_G hown hK hP hD hS 0 rfl rfl 3 (by decide) (hG _ L_G_21) (fun _ h9 => h9) rfl (by decide +kernel) rfl rfl (Nat.le_of_ble_eq_true rfl) d_Ginit_21 (fun H locs hP hD hS => ?_)
  rw [wG1_put (by decide)] at hP hD
  refine lv_aload_n hx hb d_Ginit_24 rfl (lv_at hl 0 rfl) ?_
  refine lv_iconst (v := 0) hx hb d_Ginit_25 (by decide) ?_
  refine va_put (ty := .int) (v := .int 0) hx hb hG i_G ft_G ft_G_ok n_G hown hK hP hD hS 0 rfl rfl 4 (by decide) (hG _ L_G_24) (fun _ h9 => h9) rfl (by decide +kernel) rfl rfl (Nat.le_of_ble_eq_true rfl) d_Ginit_26 (fun H locs hP hD hS => ?_)
  rw [wG1_put (by decide)] at hP hD
  refine lv_aload_n hx hb d_Ginit_29 rfl (lv_at hl 0 rfl) ?_
  refine lv_iconst (v := (-1)) hx hb d_Ginit_30 (by decide) ?_
  refine va_put (ty := .int) (v := .int (-1)) hx hb hG i_G ft_G ft_G_ok n_G hown hK hP hD hS 0 rfl rfl 5 (by decide) (hG _ L_G_27) (fun _ h9 => h9) rfl (by decide +kernel) rfl rfl (Nat.le_of_ble_eq_true rfl) d_Ginit_31 (fun H locs hP hD hS => ?_)
  rw [wG1_put (by decide)] at hP hD
  exact hret _ _ _ 34 (up2 (up2 (up2 (up2 (up2 (up2 σ 0 0 0) 0 1 1) 0 2 0) 0 3 0) 0 4 0) 0 5 (-1)) hP hD hS d_Ginit_34 (rfl)
set_option maxHeartbeats 8000000 in
set_option maxRecDepth 100000 in
theorem c_Hinit (l : Launch) (D : va_G) (h : Nat) : KB l D [] [(h, .inr (1, [.null, .null, .null, .int 0, .int 0, .int 0]))] rm_Hinit y_Hinit b_Hinit 1 [.ref h] 3 48 (pH D h) := by
  refine KB.of (by decide) (Nat.le_of_ble_eq_true rfl) rfl ?_
  intro p e s m args below meth c A Q ls hx hb hml hown hG hK hN hA hin hP hD hS hl hret
  have hown : s.vm.findClass R_H = some m.cls := hown
  have hl : lv_has ls 1 [(0, .ref h)] := hl
  obtain ⟨H, eH⟩ : ∃ H, H = s.heap := ⟨_, rfl⟩
  rw [show W p l e rm_Hinit s m args below meth c s.heap = W p l e rm_Hinit s m args below meth c H by rw [eH]]
  rw [← eH] at hP
  have hS : va_S A s.heap H [] := by rw [eH]; exact hS
  refine lv_aload_n hx hb d_Hinit_0 rfl (lv_at hl 0 rfl) ?_
  refine W.objInit hx hb hown (hG _ L_H_3) (hG _ objI) (hG _ objC) rfl (by rw [hml]; exact hl.1) rfl d_Hinit_1 (Nat.le_of_ble_eq_true rfl) (Nat.le_of_ble_eq_true rfl) ?_
  refine W.eq (g2 := F0 m 4 ls []) rfl ?_
  refine lv_aload_n hx hb d_Hinit_4 rfl (lv_at hl 0 rfl) ?_
  refine lv_bipush (v := 16) hx hb d_Hinit_5 (by decide) ?_
  refine va_newa (atype := .int) (ty := .int) (n := 16) (N' := 16) (a0 := (16, .inl (fun _ => 0))) hx hb (hG _ arr_int) rfl hK hP hD hS hA (fun _ => rfl) (by decide) (by decide) (by decide) (by decide) (by decide) d_Hinit_7 (fun q_1 k_2 H hK hP hD hS => ?_)
  have hK : va_K D classes [(k_2, .int)] s := hK
  have hP : va_P D classes [(h, .inr (1, [.null, .null, .null, .int 0, .int 0, .int 0])), (q_1, .inl (k_2, 16, .inl (fun _ => 0)))] H := hP
  have hD : va_D A [(h, .inr (1, [.null, .null, .null, .int 0, .int 0, .int 0])), (q_1, .inl (k_2, 16, .inl (fun _ => 0)))] := hD
  refine W.widen (k := 1) (n := 16) (by decide) (by decide) ?_
  refine va_putF (ty := (.array .int)) (v := .ref q_1) hx hb hG i_H ft_H ft_H_ok n_H hown hK hP hD hS 0 rfl rfl 0 (by decide) (hG _ L_H_11) (fun _ h9 => h9) rfl hin rfl (by decide +kernel) rfl rfl (Nat.le_of_ble_eq_true rfl) d_Hinit_9 (fun H locs hP hD hS => ?_)
  have hP : va_P D classes [(h, .inr (1, [.ref q_1, .null, .null, .int 0, .int 0, .int 0])), (q_1, .inl (k_2, 16, .inl (fun _ => 0)))] H := hP
  have hD : va_D A [(h, .inr (1, [.ref q_1, .null, .null, .int 0, .int 0, .int 0])), (q_1, .inl (k_2, 16, .inl (fun _ => 0)))] := hD
  refine lv_aload_n hx hb d_Hinit_12 rfl (lv_at hl 0 rfl) ?_
  refine lv_bipush (v := 16) hx hb d_Hinit_13 (by decide) ?_
  refine va_newa (atype := .int) (ty := .int) (n := 16) (N' := 16) (a0 := (16, .inl (fun _ => 0))) hx hb (hG _ arr_int) rfl hK hP hD hS hA (fun _ => rfl) (by decide) (by decide) (by decide) (by decide) (by decide) d_Hinit_15 (fun q_3 k_4 H hK hP hD hS => ?_)
  have hK : va_K D classes [(k_2, .int), (k_4, .int)] s := hK
  have hP : va_P D classes [(h, .inr (1, [.ref q_1, .null, .null, .int 0, .int 0, .int 0])), (q_1, .inl (k_2, 16, .inl (fun _ => 0))), (q_3, .inl (k_4, 16, .inl (fun _ => 0)))] H := hP
  have hD : va_D A [(h, .inr (1, [.ref q_1, .null, .null, .int 0, .int 0, .int 0])), (q_1, .inl (k_2, 16, .inl (fun _ => 0))), (q_3, .inl (k_4, 16, .inl (fun _ => 0)))] := hD
  refine W.widen (k := 2) (n := 32) (by decide) (by decide) ?_
  refine va_putF (ty := (.array .int)) (v := .ref q_3) hx hb hG i_H ft_H ft_H_ok n_H hown hK hP hD hS 0 rfl rfl 1 (by decide) (hG _ L_H_15) (fun _ h9 => h9) rfl hin rfl (by decide +kernel) rfl rfl (Nat.le_of_ble_eq_true rfl) d_Hinit_17 (fun H locs hP hD hS => ?_)
  have hP : va_P D classes [(h, .inr (1, [.ref q_1, .ref q_3, .null, .int 0, .int 0, .int 0])), (q_1, .inl (k_2, 16, .inl (fun _ => 0))), (q_3, .inl (k_4, 16, .inl (fun _ => 0)))] H := hP
  have hD : va_D A [(h, .inr (1, [.ref q_1, .ref q_3, .null, .int 0, .int 0, .int 0])), (q_1, .inl (k_2, 16, .inl (fun _ => 0))), (q_3, .inl (k_4, 16, .inl (fun _ => 0)))] := hD
  refine lv_aload_n hx hb d_Hinit_20 rfl (lv_at hl 0 rfl) ?_
  refine lv_bipush (v := 16) hx hb d_Hinit_21 (by decide) ?_
  refine va_newa (atype := .int) (ty := .int) (n := 16) (N' := 16) (a0 := (16, .inl (fun _ => 0))) hx hb (hG _ arr_int) rfl hK hP hD hS hA (fun _ => rfl) (by decide) (by decide) (by decide) (by decide) (by decide) d_Hinit_23 (fun q_5 k_6 H hK hP hD hS => ?_)
  have hK : va_K D classes [(k_2, .int), (k_4, .int), (k_6, .int)] s := hK
  have hP : va_P D classes [(h, .inr (1, [.ref q_1, .ref q_3, .null, .int 0, .int 0, .int 0])), (q_1, .inl (k_2, 16, .inl (fun _ => 0))), (q_3, .inl (k_4, 16, .inl (fun _ => 0))), (q_5, .inl (k_6, 16, .inl (fun _ => 0)))] H := hP
  have hD : va_D A [(h, .inr (1, [.ref q_1, .ref q_3, .null, .int 0, .int 0, .int 0])), (q_1, .inl (k_2, 16, .inl (fun _ => 0))), (q_3, .inl (k_4, 16, .inl (fun _ => 0))), (q_5, .inl (k_6, 16, .inl (fun _ => 0)))] := hD
  refine W.widen (k := 3) (n := 48) (by decide) (by decide) ?_
  refine va_putF (ty := (.array .int)) (v := .ref q_5) hx hb hG i_H ft_H ft_H_ok n_H hown hK hP hD hS 0 rfl rfl 2 (by decide) (hG _ L_H_18) (fun _ h9 => h9) rfl hin rfl (by decide +kernel) rfl rfl (Nat.le_of_ble_eq_true rfl) d_Hinit_25 (fun H locs hP hD hS => ?_)
  have hP : va_P D classes [(h, .inr (1, [.ref q_1, .ref q_3, .ref q_5, .int 0, .int 0, .int 0])), (q_1, .inl (k_2, 16, .inl (fun _ => 0))), (q_3, .inl (k_4, 16, .inl (fun _ => 0))), (q_5, .inl (k_6, 16, .inl (fun _ => 0)))] H := hP
  have hD : va_D A [(h, .inr (1, [.ref q_1, .ref q_3, .ref q_5, .int 0, .int 0, .int 0])), (q_1, .inl (k_2, 16, .inl (fun _ => 0))), (q_3, .inl (k_4, 16, .inl (fun _ => 0))), (q_5, .inl (k_6, 16, .inl (fun _ => 0)))] := hD
  refine lv_aload_n hx hb d_Hinit_28 rfl (lv_at hl 0 rfl) ?_
  refine lv_iconst (v := 0) hx hb d_Hinit_29 (by decide) ?_
  refine va_put (ty := .int) (v := .int 0) hx hb hG i_H ft_H ft_H_ok n_H hown hK hP hD hS 0 rfl rfl 3 (by decide) (hG _ L_H_21) (fun _ h9 => h9) rfl (by decide +kernel) rfl rfl (Nat.le_of_ble_eq_true rfl) d_Hinit_30 (fun H locs hP hD hS => ?_)
  have hP : va_P D classes [(h, .inr (1, [.ref q_1, .ref q_3, .ref q_5, .int 0, .int 0, .int 0])), (q_1, .inl (k_2, 16, .inl (fun _ => 0))), (q_3, .inl (k_4, 16, .inl (fun _ => 0))), (q_5, .inl (k_6, 16, .inl (fun _ => 0)))] H := hP
  have hD : va_D A [(h, .inr (1, [.ref q_1, .ref q_3, .ref q_5, .int 0, .int 0, .int 0])), (q_1, .inl (k_2, 16, .inl (fun _ => 0))), (q_3, .inl (k_4, 16, .inl (fun _ => 0))), (q_5, .inl (k_6, 16, .inl (fun _ => 0)))] := hD
  refine lv_aload_n hx hb d_Hinit_33 rfl (lv_at hl 0 rfl) ?_
  refine lv_iconst (v := 0) hx hb d_Hinit_34 (by decide) ?_
  refine va_put (ty := .int) (v := .int 0) hx hb hG i_H ft_H ft_H_ok n_H hown hK hP hD hS 0 rfl rfl 4 (by decide) (hG _ L_H_25) (fun _ h9 => h9) rfl (by decide +kernel) rfl rfl (Nat.le_of_ble_eq_true rfl) d_Hinit_35 (fun H locs hP hD hS => ?_)
  have hP : va_P D classes [(h, .inr (1, [.ref q_1, .ref q_3, .ref q_5, .int 0, .int 0, .int 0])), (q_1, .inl (k_2, 16, .inl (fun _ => 0))), (q_3, .inl (k_4, 16, .inl (fun _ => 0))), (q_5, .inl (k_6, 16, .inl (fun _ => 0)))] H := hP
  have hD : va_D A [(h, .inr (1, [.ref q_1, .ref q_3, .ref q_5, .int 0, .int 0, .int 0])), (q_1, .inl (k_2, 16, .inl (fun _ => 0))), (q_3, .inl (k_4, 16, .inl (fun _ => 0))), (q_5, .inl (k_6, 16, .inl (fun _ => 0)))] := hD
  refine lv_aload_n hx hb d_Hinit_38 rfl (lv_at hl 0 rfl) ?_
  refine lv_iconst (v := 0) hx hb d_Hinit_39 (by decide) ?_
  refine va_put (ty := .int) (v := .int 0) hx hb hG i_H ft_H ft_H_ok n_H hown hK hP hD hS 0 rfl rfl 5 (by decide) (hG _ L_H_28) (fun _ h9 => h9) rfl (by decide +kernel) rfl rfl (Nat.le_of_ble_eq_true rfl) d_Hinit_40 (fun H locs hP hD hS => ?_)
  have hP : va_P D classes [(h, .inr (1, [.ref q_1, .ref q_3, .ref q_5, .int 0, .int 0, .int 0])), (q_1, .inl (k_2, 16, .inl (fun _ => 0))), (q_3, .inl (k_4, 16, .inl (fun _ => 0))), (q_5, .inl (k_6, 16, .inl (fun _ => 0)))] H := hP
  have hD : va_D A [(h, .inr (1, [.ref q_1, .ref q_3, .ref q_5, .int 0, .int 0, .int 0])), (q_1, .inl (k_2, 16, .inl (fun _ => 0))), (q_3, .inl (k_4, 16, .inl (fun _ => 0))), (q_5, .inl (k_6, 16, .inl (fun _ => 0)))] := hD
  obtain rfl := kI_eq hK 0 1 rfl rfl
  obtain rfl := kI_eq hK 0 2 rfl rfl
  exact hret _ _ _ 43 (fun t ht hvm => ⟨q_1, q_3, q_5, k_2, by rw [ht]; exact hP, va_K.moved hvm (hK.sub (tys' := [(k_2, .int)]) [0] rfl), hD⟩) hS d_Hinit_43
set_option maxHeartbeats 8000000 in
set_option maxRecDepth 100000 in
theorem c_Xinit (l : Launch) (D : va_G) (h : Nat) : KB l D [] [(h, .inr (0, [.null, .null, .null, .int 0, .int 0]))] rm_Xinit y_Xinit b_Xinit 2 [.ref h] 18 162 (pX D h) := by
  refine KB.of (by decide) (Nat.le_of_ble_eq_true rfl) rfl ?_
  intro p e s m args below meth c A Q ls hx hb hml hown hG hK hN hA hin hP hD hS hl hret
  have hown : s.vm.findClass R_X = some m.cls := hown
  have hl : lv_has ls 2 [(0, .ref h)] := hl
  obtain ⟨H, eH⟩ : ∃ H, H = s.heap := ⟨_, rfl⟩
  rw [show W p l e rm_Xinit s m args below meth c s.heap = W p l e rm_Xinit s m args below meth c H by rw [eH]]
  rw [← eH] at hP
  have hS : va_S A s.heap H [] := by rw [eH]; exact hS
  refine lv_aload_n hx hb d_Xinit_0 rfl (lv_at hl 0 rfl) ?_
  refine W.objInit hx hb hown (hG _ L_X_1) (hG _ objI) (hG _ objC) rfl (by rw [hml]; exact hl.1) rfl d_Xinit_1 (Nat.le_of_ble_eq_true rfl) (Nat.le_of_ble_eq_true rfl) ?_
  refine W.eq (g2 := F0 m 4 ls []) rfl ?_
  refine lv_aload_n hx hb d_Xinit_4 rfl (lv_at hl 0 rfl) ?_
  refine lv_bipush (v := 8) hx hb d_Xinit_5 (by decide) ?_
  refine va_newq (C := R_T) (n := 8) (N' := 8) hx hb hown (hG _ L_X_9) (hN _ over_T) hK hP hD hS hA (by decide) (by decide) (by decide) (by decide) (by decide) d_Xinit_7 (fun q_1 k_2 H hK hP hD hS => ?_)
  have hK : va_K D classes [(k_2, .object R_T)] s := hK
  have hP : va_P D classes [(h, .inr (0, [.null, .null, .null, .int 0, .int 0])), (q_1, .inl (k_2, 8, .inr (.inr (.inr (.inr (fun _ => none))))))] H := hP
  have hD : va_D A [(h, .inr (0, [.null, .null, .null, .int 0, .int 0])), (q_1, .inl (k_2, 8, .inr (.inr (.inr (.inr (fun _ => none))))))] := hD
  refine W.widen (k := 1) (n := 8) (by decide) (by decide) ?_
  refine va_putF (ty := (.array (.object "TimerGates$Timer"))) (v := .ref q_1) hx hb hG i_X ft_X ft_X_ok n_X hown hK hP hD hS 0 rfl rfl 0 (by decide) (hG _ L_X_11) (fun _ h9 => h9) rfl hin rfl (by decide +kernel) rfl rfl (Nat.le_of_ble_eq_true rfl) d_Xinit_10 (fun H locs hP hD hS => ?_)
  have hP : va_P D classes [(h, .inr (0, [.ref q_1, .null, .null, .int 0, .int 0])), (q_1, .inl (k_2, 8, .inr (.inr (.inr (.inr (fun _ => none))))))] H := hP
  have hD : va_D A [(h, .inr (0, [.ref q_1, .null, .null, .int 0, .int 0])), (q_1, .inl (k_2, 8, .inr (.inr (.inr (.inr (fun _ => none))))))] := hD
  refine lv_aload_n hx hb d_Xinit_13 rfl (lv_at hl 0 rfl) ?_
  refine lv_iconst (v := 4) hx hb d_Xinit_14 (by decide) ?_
  refine va_newq (C := R_G) (n := 4) (N' := 4) hx hb hown (hG _ L_X_15) (hN _ over_G) hK hP hD hS hA (by decide) (by decide) (by decide) (by decide) (by decide) d_Xinit_15 (fun q_3 k_4 H hK hP hD hS => ?_)
  have hK : va_K D classes [(k_2, .object R_T), (k_4, .object R_G)] s := hK
  have hP : va_P D classes [(h, .inr (0, [.ref q_1, .null, .null, .int 0, .int 0])), (q_1, .inl (k_2, 8, .inr (.inr (.inr (.inr (fun _ => none)))))), (q_3, .inl (k_4, 4, .inr (.inr (.inr (.inr (fun _ => none))))))] H := hP
  have hD : va_D A [(h, .inr (0, [.ref q_1, .null, .null, .int 0, .int 0])), (q_1, .inl (k_2, 8, .inr (.inr (.inr (.inr (fun _ => none)))))), (q_3, .inl (k_4, 4, .inr (.inr (.inr (.inr (fun _ => none))))))] := hD
  refine W.widen (k := 2) (n := 12) (by decide) (by decide) ?_
  refine va_putF (ty := (.array (.object "TimerGates$Gate"))) (v := .ref q_3) hx hb hG i_X ft_X ft_X_ok n_X hown hK hP hD hS 0 rfl rfl 1 (by decide) (hG _ L_X_17) (fun _ h9 => h9) rfl hin rfl (by decide +kernel) rfl rfl (Nat.le_of_ble_eq_true rfl) d_Xinit_18 (fun H locs hP hD hS => ?_)
  have hP : va_P D classes [(h, .inr (0, [.ref q_1, .ref q_3, .null, .int 0, .int 0])), (q_1, .inl (k_2, 8, .inr (.inr (.inr (.inr (fun _ => none)))))), (q_3, .inl (k_4, 4, .inr (.inr (.inr (.inr (fun _ => none))))))] H := hP
  have hD : va_D A [(h, .inr (0, [.ref q_1, .ref q_3, .null, .int 0, .int 0])), (q_1, .inl (k_2, 8, .inr (.inr (.inr (.inr (fun _ => none)))))), (q_3, .inl (k_4, 4, .inr (.inr (.inr (.inr (fun _ => none))))))] := hD
  refine lv_aload_n hx hb d_Xinit_21 rfl (lv_at hl 0 rfl) ?_
  refine va_new (ci := 1) (fs := [.null, .null, .null, .int 0, .int 0, .int 0]) hx hb hG i_H ft_H ft_H_ok hown (hG _ L_X_21) (hG _ inst_H) (hG _ ini_H) hK hP hD hS hA rfl (fun j hj => by rcases (show j = 0 ∨ j = 1 ∨ j = 2 ∨ j = 3 ∨ j = 4 ∨ j = 5 by omega) with rfl | rfl | rfl | rfl | rfl | rfl <;> rfl) (by decide) (by decide) d_Xinit_22 (fun q_5 H hP hD hS => ?_)
  have hP : va_P D classes [(h, .inr (0, [.ref q_1, .ref q_3, .null, .int 0, .int 0])), (q_1, .inl (k_2, 8, .inr (.inr (.inr (.inr (fun _ => none)))))), (q_3, .inl (k_4, 4, .inr (.inr (.inr (.inr (fun _ => none)))))), (q_5, .inr (1, [.null, .null, .null, .int 0, .int 0, .int 0]))] H := hP
  have hD : va_D A [(h, .inr (0, [.ref q_1, .ref q_3, .null, .int 0, .int 0])), (q_1, .inl (k_2, 8, .inr (.inr (.inr (.inr (fun _ => none)))))), (q_3, .inl (k_4, 4, .inr (.inr (.inr (.inr (fun _ => none)))))), (q_5, .inr (1, [.null, .null, .null, .int 0, .int 0, .int 0]))] := hD
  refine W.widen (k := 3) (n := 18) (by decide) (by decide) ?_
  refine lv_dup hx hb d_Xinit_25 rfl ?_
  have hP : va_P D classes ([(h, .inr (0, [.ref q_1, .ref q_3, .null, .int 0, .int 0])), (q_1, .inl (k_2, 8, .inr (.inr (.inr (.inr (fun _ => none)))))), (q_3, .inl (k_4, 4, .inr (.inr (.inr (.inr (fun _ => none))))))] ++ [(q_5, .inr (1, [.null, .null, .null, .int 0, .int 0, .int 0]))]) H := hP
  have hD : va_D A ([(h, .inr (0, [.ref q_1, .ref q_3, .null, .int 0, .int 0])), (q_1, .inl (k_2, 8, .inr (.inr (.inr (.inr (fun _ => none)))))), (q_3, .inl (k_4, 4, .inr (.inr (.inr (.inr (fun _ => none))))))] ++ [(q_5, .inr (1, [.null, .null, .null, .int 0, .int 0, .int 0]))]) := hD
  refine k_bIN (rest := [.ref q_5, .ref h]) hx hb hml hown hG (hK.sub (tys' := []) [] rfl) hN hA hP hD hS (c_Hinit l D q_5) ok_Hinit rfl oi_Hinit L_X_23 ⟨rfl, rfl, by decide, by decide⟩ rfl hl.1 rfl (Nat.le_of_ble_eq_true rfl) ⟨by decide, by decide⟩ d_Xinit_26 (fun H locs t ht hvm hB hJ hS => ?_)
  obtain ⟨q2, q3, q4, kI, hP1, hK1, hD1⟩ := hB
  rw [ht] at hP1
  obtain ⟨hP, hD⟩ := hJ _ hP1 hD1
  have hK := hK.app (va_K.moved hvm.symm hK1)
  have hK : va_K D classes [(k_2, .object R_T), (k_4, .object R_G), (kI, .int)] s := hK
  have hP : va_P D classes [(h, .inr (0, [.ref q_1, .ref q_3, .null, .int 0, .int 0])), (q_1, .inl (k_2, 8, .inr (.inr (.inr (.inr (fun _ => none)))))), (q_3, .inl (k_4, 4, .inr (.inr (.inr (.inr (fun _ => none)))))), (q_5, .inr (1, [.ref q2, .ref q3, .ref q4, .int 0, .int 0, .int 0])), (q2, .inl (kI, 16, .inl (fun _ => 0))), (q3, .inl (kI, 16, .inl (fun _ => 0))), (q4, .inl (kI, 16, .inl (fun _ => 0)))] H := hP
  have hD : va_D A [(h, .inr (0, [.ref q_1, .ref q_3, .null, .int 0, .int 0])), (q_1, .inl (k_2, 8, .inr (.inr (.inr (.inr (fun _ => none)))))), (q_3, .inl (k_4, 4, .inr (.inr (.inr (.inr (fun _ => none)))))), (q_5, .inr (1, [.ref q2, .ref q3, .ref q4, .int 0, .int 0, .int 0])), (q2, .inl (kI, 16, .inl (fun _ => 0))), (q3, .inl (kI, 16, .inl (fun _ => 0))), (q4, .inl (kI, 16, .inl (fun _ => 0)))] := hD
  refine W.widen (k := 6) (n := 66) (by decide) (by decide) ?_
  refine va_putF (ty := (.object "TimerGates$History")) (v := .ref q_5) hx hb hG i_X ft_X ft_X_ok n_X hown hK hP hD hS 0 rfl rfl 2 (by decide) (hG _ L_X_24) (fun _ h9 => h9) rfl hin rfl (by decide +kernel) rfl rfl (Nat.le_of_ble_eq_true rfl) d_Xinit_29 (fun H locs hP hD hS => ?_)
  have hP : va_P D classes [(h, .inr (0, [.ref q_1, .ref q_3, .ref q_5, .int 0, .int 0])), (q_1, .inl (k_2, 8, .inr (.inr (.inr (.inr (fun _ => none)))))), (q_3, .inl (k_4, 4, .inr (.inr (.inr (.inr (fun _ => none)))))), (q_5, .inr (1, [.ref q2, .ref q3, .ref q4, .int 0, .int 0, .int 0])), (q2, .inl (kI, 16, .inl (fun _ => 0))), (q3, .inl (kI, 16, .inl (fun _ => 0))), (q4, .inl (kI, 16, .inl (fun _ => 0)))] H := hP
  have hD : va_D A [(h, .inr (0, [.ref q_1, .ref q_3, .ref q_5, .int 0, .int 0])), (q_1, .inl (k_2, 8, .inr (.inr (.inr (.inr (fun _ => none)))))), (q_3, .inl (k_4, 4, .inr (.inr (.inr (.inr (fun _ => none)))))), (q_5, .inr (1, [.ref q2, .ref q3, .ref q4, .int 0, .int 0, .int 0])), (q2, .inl (kI, 16, .inl (fun _ => 0))), (q3, .inl (kI, 16, .inl (fun _ => 0))), (q4, .inl (kI, 16, .inl (fun _ => 0)))] := hD
  refine lv_aload_n hx hb d_Xinit_32 rfl (lv_at hl 0 rfl) ?_
  refine lv_iconst (v := 0) hx hb d_Xinit_33 (by decide) ?_
  refine va_put (ty := .int) (v := .int 0) hx hb hG i_X ft_X ft_X_ok n_X hown hK hP hD hS 0 rfl rfl 3 (by decide) (hG _ L_X_28) (fun _ h9 => h9) rfl (by decide +kernel) rfl rfl (Nat.le_of_ble_eq_true rfl) d_Xinit_34 (fun H locs hP hD hS => ?_)
  have hP : va_P D classes [(h, .inr (0, [.ref q_1, .ref q_3, .ref q_5, .int 0, .int 0])), (q_1, .inl (k_2, 8, .inr (.inr (.inr (.inr (fun _ => none)))))), (q_3, .inl (k_4, 4, .inr (.inr (.inr (.inr (fun _ => none)))))), (q_5, .inr (1, [.ref q2, .ref q3, .ref q4, .int 0, .int 0, .int 0])), (q2, .inl (kI, 16, .inl (fun _ => 0))), (q3, .inl (kI, 16, .inl (fun _ => 0))), (q4, .inl (kI, 16, .inl (fun _ => 0)))] H := hP
  have hD : va_D A [(h, .inr (0, [.ref q_1, .ref q_3, .ref q_5, .int 0, .int 0])), (q_1, .inl (k_2, 8, .inr (.inr (.inr (.inr (fun _ => none)))))), (q_3, .inl (k_4, 4, .inr (.inr (.inr (.inr (fun _ => none)))))), (q_5, .inr (1, [.ref q2, .ref q3, .ref q4, .int 0, .int 0, .int 0])), (q2, .inl (kI, 16, .inl (fun _ => 0))), (q3, .inl (kI, 16, .inl (fun _ => 0))), (q4, .inl (kI, 16, .inl (fun _ => 0)))] := hD
  refine lv_aload_n hx hb d_Xinit_37 rfl (lv_at hl 0 rfl) ?_
  refine lv_iconst (v := 0) hx hb d_Xinit_38 (by decide) ?_
  refine va_put (ty := .int) (v := .int 0) hx hb hG i_X ft_X ft_X_ok n_X hown hK hP hD hS 0 rfl rfl 4 (by decide) (hG _ L_X_32) (fun _ h9 => h9) rfl (by decide +kernel) rfl rfl (Nat.le_of_ble_eq_true rfl) d_Xinit_39 (fun H locs hP hD hS => ?_)
  have hP : va_P D classes [(h, .inr (0, [.ref q_1, .ref q_3, .ref q_5, .int 0, .int 0])), (q_1, .inl (k_2, 8, .inr (.inr (.inr (.inr (fun _ => none)))))), (q_3, .inl (k_4, 4, .inr (.inr (.inr (.inr (fun _ => none)))))), (q_5, .inr (1, [.ref q2, .ref q3, .ref q4, .int 0, .int 0, .int 0])), (q2, .inl (kI, 16, .inl (fun _ => 0))), (q3, .inl (kI, 16, .inl (fun _ => 0))), (q4, .inl (kI, 16, .inl (fun _ => 0)))] H := hP
  have hD : va_D A [(h, .inr (0, [.ref q_1, .ref q_3, .ref q_5, .int 0, .int 0])), (q_1, .inl (k_2, 8, .inr (.inr (.inr (.inr (fun _ => none)))))), (q_3, .inl (k_4, 4, .inr (.inr (.inr (.inr (fun _ => none)))))), (q_5, .inr (1, [.ref q2, .ref q3, .ref q4, .int 0, .int 0, .int 0])), (q2, .inl (kI, 16, .inl (fun _ => 0))), (q3, .inl (kI, 16, .inl (fun _ => 0))), (q4, .inl (kI, 16, .inl (fun _ => 0)))] := hD
  refine lv_iconst (v := 0) hx hb d_Xinit_42 (by decide) ?_
  refine lv_istore_n (lv' := [(1, .int 0), (0, .ref h)]) hx hb d_Xinit_43 rfl hl (by decide) rfl (fun ls hl => ?_)
  refine lv_iload_n hx hb d_Xinit_44 rfl (lv_at hl 0 rfl) ?_
  refine lv_bipush (v := 8) hx hb d_Xinit_45 (by decide) ?_
  refine lv_icmp_ge (tgt := 69) hx hb d_Xinit_47 (by decide) (fun c_6 => absurd c_6 (by decide)) (fun _ => ?_)
  refine lv_aload_n hx hb d_Xinit_50 rfl (lv_at hl 1 rfl) ?_
  refine va_get (v := .ref q_1) hx hb hG i_X hown hK hP 0 rfl rfl 0 (by decide) (hG _ L_X_11) (fun _ h9 => h9) rfl d_Xinit_51 ?_
  refine lv_iload_n hx hb d_Xinit_54 rfl (lv_at hl 0 rfl) ?_
  refine va_new (ci := 2) (fs := [.int 0, .int 0, .int 0, .int 0, .int 0, .int 0, .int 0, .int 0, .int 0]) hx hb hG i_T ft_T ft_T_ok hown (hG _ L_X_9) (hG _ inst_T) (hG _ ini_T) hK hP hD hS hA rfl (fun j hj => by rcases (show j = 0 ∨ j = 1 ∨ j = 2 ∨ j = 3 ∨ j = 4 ∨ j = 5 ∨ j = 6 ∨ j = 7 ∨ j = 8 by omega) with rfl | rfl | rfl | rfl | rfl | rfl | rfl | rfl | rfl <;> rfl) (by decide) (by decide) d_Xinit_55 (fun q_7 H hP hD hS => ?_)
  have hP : va_P D classes [(h, .inr (0, [.ref q_1, .ref q_3, .ref q_5, .int 0, .int 0])), (q_1, .inl (k_2, 8, .inr (.inr (.inr (.inr (fun _ => none)))))), (q_3, .inl (k_4, 4, .inr (.inr (.inr (.inr (fun _ => none)))))), (q_5, .inr (1, [.ref q2, .ref q3, .ref q4, .int 0, .int 0, .int 0])), (q2, .inl (kI, 16, .inl (fun _ => 0))), (q3, .inl (kI, 16, .inl (fun _ => 0))), (q4, .inl (kI, 16, .inl (fun _ => 0))), (q_7, .inr (2, [.int 0, .int 0, .int 0, .int 0, .int 0, .int 0, .int 0, .int 0, .int 0]))] H := hP
  have hD : va_D A [(h, .inr (0, [.ref q_1, .ref q_3, .ref q_5, .int 0, .int 0])), (q_1, .inl (k_2, 8, .inr (.inr (.inr (.inr (fun _ => none)))))), (q_3, .inl (k_4, 4, .inr (.inr (.inr (.inr (fun _ => none)))))), (q_5, .inr (1, [.ref q2, .ref q3, .ref q4, .int 0, .int 0, .int 0])), (q2, .inl (kI, 16, .inl (fun _ => 0))), (q3, .inl (kI, 16, .inl (fun _ => 0))), (q4, .inl (kI, 16, .inl (fun _ => 0))), (q_7, .inr (2, [.int 0, .int 0, .int 0, .int 0, .int 0, .int 0, .int 0, .int 0, .int 0]))] := hD
  refine W.widen (k := 7) (n := 75) (by decide) (by decide) ?_
  refine lv_dup hx hb d_Xinit_58 rfl ?_
  have hP : va_P D classes ([(h, .inr (0, [.ref q_1, .ref q_3, .ref q_5, .int 0, .int 0])), (q_1, .inl (k_2, 8, .inr (.inr (.inr (.inr (fun _ => none)))))), (q_3, .inl (k_4, 4, .inr (.inr (.inr (.inr (fun _ => none)))))), (q_5, .inr (1, [.ref q2, .ref q3, .ref q4, .int 0, .int 0, .int 0])), (q2, .inl (kI, 16, .inl (fun _ => 0))), (q3, .inl (kI, 16, .inl (fun _ => 0))), (q4, .inl (kI, 16, .inl (fun _ => 0)))] ++ wT1 q_7 z0) H := hP
  have hD : va_D A ([(h, .inr (0, [.ref q_1, .ref q_3, .ref q_5, .int 0, .int 0])), (q_1, .inl (k_2, 8, .inr (.inr (.inr (.inr (fun _ => none)))))), (q_3, .inl (k_4, 4, .inr (.inr (.inr (.inr (fun _ => none)))))), (q_5, .inr (1, [.ref q2, .ref q3, .ref q4, .int 0, .int 0, .int 0])), (q2, .inl (kI, 16, .inl (fun _ => 0))), (q3, .inl (kI, 16, .inl (fun _ => 0))), (q4, .inl (kI, 16, .inl (fun _ => 0)))] ++ wT1 q_7 z0) := hD
  refine k_fIN (rest := [.ref q_7, .int 0, .ref q_1]) hx hb hml hown hG hK hN hA hP hD hS (c_Tinit l D _ q_7 z0) ok_Tinit rfl oi_Tinit L_X_35 ⟨rfl, rfl, by decide, by decide⟩ rfl hl.1 rfl (Nat.le_of_ble_eq_true rfl) ⟨by decide, by decide⟩ d_Xinit_59 (fun H locs hP hD hS => ?_)
  have hP : va_P D classes [(h, .inr (0, [.ref q_1, .ref q_3, .ref q_5, .int 0, .int 0])), (q_1, .inl (k_2, 8, .inr (.inr (.inr (.inr (fun _ => none)))))), (q_3, .inl (k_4, 4, .inr (.inr (.inr (.inr (fun _ => none)))))), (q_5, .inr (1, [.ref q2, .ref q3, .ref q4, .int 0, .int 0, .int 0])), (q2, .inl (kI, 16, .inl (fun _ => 0))), (q3, .inl (kI, 16, .inl (fun _ => 0))), (q4, .inl (kI, 16, .inl (fun _ => 0))), (q_7, .inr (2, [.int 1, .int 1, .int 0, .int 0, .int 0, .int 0, .int 0, .int 0, .int 0]))] H := hP
  have hD : va_D A [(h, .inr (0, [.ref q_1, .ref q_3, .ref q_5, .int 0, .int 0])), (q_1, .inl (k_2, 8, .inr (.inr (.inr (.inr (fun _ => none)))))), (q_3, .inl (k_4, 4, .inr (.inr (.inr (.inr (fun _ => none)))))), (q_5, .inr (1, [.ref q2, .ref q3, .ref q4, .int 0, .int 0, .int 0])), (q2, .inl (kI, 16, .inl (fun _ => 0))), (q3, .inl (kI, 16, .inl (fun _ => 0))), (q4, .inl (kI, 16, .inl (fun _ => 0))), (q_7, .inr (2, [.int 1, .int 1, .int 0, .int 0, .int 0, .int 0, .int 0, .int 0, .int 0]))] := hD
  refine va_astq (i := 0) hx hb hK hP hD hS 1 0 7 2 rfl rfl rfl rfl (vp_in_nI (n := 0) (by decide) (by decide)) d_Xinit_62 (fun H locs hP hD hS => ?_)
  have hP : va_P D classes [(h, .inr (0, [.ref q_1, .ref q_3, .ref q_5, .int 0, .int 0])), (q_1, .inl (k_2, 8, .inr (.inr (.inr (.inr (va_up (fun _ => none) 0 (some q_7))))))), (q_3, .inl (k_4, 4, .inr (.inr (.inr (.inr (fun _ => none)))))), (q_5, .inr (1, [.ref q2, .ref q3, .ref q4, .int 0, .int 0, .int 0])), (q2, .inl (kI, 16, .inl (fun _ => 0))), (q3, .inl (kI, 16, .inl (fun _ => 0))), (q4, .inl (kI, 16, .inl (fun _ => 0))), (q_7, .inr (2, [.int 1, .int 1, .int 0, .int 0, .int 0, .int 0, .int 0, .int 0, .int 0]))] H := hP
  have hD : va_D A [(h, .inr (0, [.ref q_1, .ref q_3, .ref q_5, .int 0, .int 0])), (q_1, .inl (k_2, 8, .inr (.inr (.inr (.inr (va_up (fun _ => none) 0 (some q_7))))))), (q_3, .inl (k_4, 4, .inr (.inr (.inr (.inr (fun _ => none)))))), (q_5, .inr (1, [.ref q2, .ref q3, .ref q4, .int 0, .int 0, .int 0])), (q2, .inl (kI, 16, .inl (fun _ => 0))), (q3, .inl (kI, 16, .inl (fun _ => 0))), (q4, .inl (kI, 16, .inl (fun _ => 0))), (q_7, .inr (2, [.int 1, .int 1, .int 0, .int 0, .int 0, .int 0, .int 0, .int 0, .int 0]))] := hD
  refine lv_iinc (v := 1) (lv' := [(1, .int 1), (0, .ref h)]) hx hb d_Xinit_63 hl (k := 0) rfl (by decide) (by decide) rfl (fun ls hl => ?_)
  refine lv_goto (tgt := 44) hx hb d_Xinit_66 (by decide) ?_
  refine lv_iload_n hx hb d_Xinit_44 rfl (lv_at hl 0 rfl) ?_
  refine lv_bipush (v := 8) hx hb d_Xinit_45 (by decide) ?_
  refine lv_icmp_ge (tgt := 69) hx hb d_Xinit_47 (by decide) (fun c_8 => absurd c_8 (by decide)) (fun _ => ?_)
  refine lv_aload_n hx hb d_Xinit_50 rfl (lv_at hl 1 rfl) ?_
  refine va_get (v := .ref q_1) hx hb hG i_X hown hK hP 0 rfl rfl 0 (by decide) (hG _ L_X_11) (fun _ h9 => h9) rfl d_Xinit_51 ?_
  refine lv_iload_n hx hb d_Xinit_54 rfl (lv_at hl 0 rfl) ?_
  refine va_new (ci := 2) (fs := [.int 0, .int 0, .int 0, .int 0, .int 0, .int 0, .int 0, .int 0, .int 0]) hx hb hG i_T ft_T ft_T_ok hown (hG _ L_X_9) (hG _ inst_T) (hG _ ini_T) hK hP hD hS hA rfl (fun j hj => by rcases (show j = 0 ∨ j = 1 ∨ j = 2 ∨ j = 3 ∨ j = 4 ∨ j = 5 ∨ j = 6 ∨ j = 7 ∨ j = 8 by omega) with rfl | rfl | rfl | rfl | rfl | rfl | rfl | rfl | rfl <;> rfl) (by decide) (by decide) d_Xinit_55 (fun q_9 H hP hD hS => ?_)
  have hP : va_P D classes [(h, .inr (0, [.ref q_1, .ref q_3, .ref q_5, .int 0, .int 0])), (q_1, .inl (k_2, 8, .inr (.inr (.inr (.inr (va_up (fun _ => none) 0 (some q_7))))))), (q_3, .inl (k_4, 4, .inr (.inr (.inr (.inr (fun _ => none)))))), (q_5, .inr (1, [.ref q2, .ref q3, .ref q4, .int 0, .int 0, .int 0])), (q2, .inl (kI, 16, .inl (fun _ => 0))), (q3, .inl (kI, 16, .inl (fun _ => 0))), (q4, .inl (kI, 16, .inl (fun _ => 0))), (q_7, .inr (2, [.int 1, .int 1, .int 0, .int 0, .int 0, .int 0, .int 0, .int 0, .int 0])), (q_9, .inr (2, [.int 0, .int 0, .int 0, .int 0, .int 0, .int 0, .int 0, .int 0, .int 0]))] H := hP
  have hD : va_D A [(h, .inr (0, [.ref q_1, .ref q_3, .ref q_5, .int 0, .int 0])), (q_1, .inl (k_2, 8, .inr (.inr (.inr (.inr (va_up (fun _ => none) 0 (some q_7))))))), (q_3, .inl (k_4, 4, .inr (.inr (.inr (.inr (fun _ => none)))))), (q_5, .inr (1, [.ref q2, .ref q3, .ref q4, .int 0, .int 0, .int 0])), (q2, .inl (kI, 16, .inl (fun _ => 0))), (q3, .inl (kI, 16, .inl (fun _ => 0))), (q4, .inl (kI, 16, .inl (fun _ => 0))), (q_7, .inr (2, [.int 1, .int 1, .int 0, .int 0, .int 0, .int 0, .int 0, .int 0, .int 0])), (q_9, .inr (2, [.int 0, .int 0, .int 0, .int 0, .int 0, .int 0, .int 0, .int 0, .int 0]))] := hD
  refine W.widen (k := 8) (n := 84) (by decide) (by decide) ?_
  refine lv_dup hx hb d_Xinit_58 rfl ?_
  have hP : va_P D classes ([(h, .inr (0, [.ref q_1, .ref q_3, .ref q_5, .int 0, .int 0])), (q_1, .inl (k_2, 8, .inr (.inr (.inr (.inr (va_up (fun _ => none) 0 (some q_7))))))), (q_3, .inl (k_4, 4, .inr (.inr (.inr (.inr (fun _ => none)))))), (q_5, .inr (1, [.ref q2, .ref q3, .ref q4, .int 0, .int 0, .int 0])), (q2, .inl (kI, 16, .inl (fun _ => 0))), (q3, .inl (kI, 16, .inl (fun _ => 0))), (q4, .inl (kI, 16, .inl (fun _ => 0))), (q_7, .inr (2, [.int 1, .int 1, .int 0, .int 0, .int 0, .int 0, .int 0, .int 0, .int 0]))] ++ wT1 q_9 z0) H := hP
  have hD : va_D A ([(h, .inr (0, [.ref q_1, .ref q_3, .ref q_5, .int 0, .int 0])), (q_1, .inl (k_2, 8, .inr (.inr (.inr (.inr (va_up (fun _ => none) 0 (some q_7))))))), (q_3, .inl (k_4, 4, .inr (.inr (.inr (.inr (fun _ => none)))))), (q_5, .inr (1, [.ref q2, .ref q3, .ref q4, .int 0, .int 0, .int 0])), (q2, .inl (kI, 16, .inl (fun _ => 0))), (q3, .inl (kI, 16, .inl (fun _ => 0))), (q4, .inl (kI, 16, .inl (fun _ => 0))), (q_7, .inr (2, [.int 1, .int 1, .int 0, .int 0, .int 0, .int 0, .int 0, .int 0, .int 0]))] ++ wT1 q_9 z0) := hD
  refine k_fIN (rest := [.ref q_9, .int 1, .ref q_1]) hx hb hml hown hG hK hN hA hP hD hS (c_Tinit l D _ q_9 z0) ok_Tinit rfl oi_Tinit L_X_35 ⟨rfl, rfl, by decide, by decide⟩ rfl hl.1 rfl (Nat.le_of_ble_eq_true rfl) ⟨by decide, by decide⟩ d_Xinit_59 (fun H locs hP hD hS => ?_)
  have hP : va_P D classes [(h, .inr (0, [.ref q_1, .ref q_3, .ref q_5, .int 0, .int 0])), (q_1, .inl (k_2, 8, .inr (.inr (.inr (.inr (va_up (fun _ => none) 0 (some q_7))))))), (q_3, .inl (k_4, 4, .inr (.inr (.inr (.inr (fun _ => none)))))), (q_5, .inr (1, [.ref q2, .ref q3, .ref q4, .int 0, .int 0, .int 0])), (q2, .inl (kI, 16, .inl (fun _ => 0))), (q3, .inl (kI, 16, .inl (fun _ => 0))), (q4, .inl (kI, 16, .inl (fun _ => 0))), (q_7, .inr (2, [.int 1, .int 1, .int 0, .int 0, .int 0, .int 0, .int 0, .int 0, .int 0])), (q_9, .inr (2, [.int 1, .int 1, .int 0, .int 0, .int 0, .int 0, .int 0, .int 0, .int 0]))] H := hP
  have hD : va_D A [(h, .inr (0, [.ref q_1, .ref q_3, .ref q_5, .int 0, .int 0])), (q_1, .inl (k_2, 8, .inr (.inr (.inr (.inr (va_up (fun _ => none) 0 (some q_7))))))), (q_3, .inl (k_4, 4, .inr (.inr (.inr (.inr (fun _ => none)))))), (q_5, .inr (1, [.ref q2, .ref q3, .ref q4, .int 0, .int 0, .int 0])), (q2, .inl (kI, 16, .inl (fun _ => 0))), (q3, .inl (kI, 16, .inl (fun _ => 0))), (q4, .inl (kI, 16, .inl (fun _ => 0))), (q_7, .inr (2, [.int 1, .int 1, .int 0, .int 0, .int 0, .int 0, .int 0, .int 0, .int 0])), (q_9, .inr (2, [.int 1, .int 1, .int 0, .int 0, .int 0, .int 0, .int 0, .int 0, .int 0]))] := hD
  refine va_astq (i := 1) hx hb hK hP hD hS 1 0 8 2 rfl rfl rfl rfl (vp_in_nI (n := 1) (by decide) (by decide)) d_Xinit_62 (fun H locs hP hD hS => ?_)
  have hP : va_P D classes [(h, .inr (0, [.ref q_1, .ref q_3, .ref q_5, .int 0, .int 0])), (q_1, .inl (k_2, 8, .inr (.inr (.inr (.inr (va_up (va_up (fun _ => none) 0 (some q_7)) 1 (some q_9))))))), (q_3, .inl (k_4, 4, .inr (.inr (.inr (.inr (fun _ => none)))))), (q_5, .inr (1, [.ref q2, .ref q3, .ref q4, .int 0, .int 0, .int 0])), (q2, .inl (kI, 16, .inl (fun _ => 0))), (q3, .inl (kI, 16, .inl (fun _ => 0))), (q4, .inl (kI, 16, .inl (fun _ => 0))), (q_7, .inr (2, [.int 1, .int 1, .int 0, .int 0, .int 0, .int 0, .int 0, .int 0, .int 0])), (q_9, .inr (2, [.int 1, .int 1, .int 0, .int 0, .int 0, .int 0, .int 0, .int 0, .int 0]))] H := hP
  have hD : va_D A [(h, .inr (0, [.ref q_1, .ref q_3, .ref q_5, .int 0, .int 0])), (q_1, .inl (k_2, 8, .inr (.inr (.inr (.inr (va_up (va_up (fun _ => none) 0 (some q_7)) 1 (some q_9))))))), (q_3, .inl (k_4, 4, .inr (.inr (.inr (.inr (fun _ => none)))))), (q_5, .inr (1, [.ref q2, .ref q3, .ref q4, .int 0, .int 0, .int 0])), (q2, .inl (kI, 16, .inl (fun _ => 0))), (q3, .inl (kI, 16, .inl (fun _ => 0))), (q4, .inl (kI, 16, .inl (fun _ => 0))), (q_7, .inr (2, [.int 1, .int 1, .int 0, .int 0, .int 0, .int 0, .int 0, .int 0, .int 0])), (q_9, .inr (2, [.int 1, .int 1, .int 0, .int 0, .int 0, .int 0, .int 0, .int 0, .int 0]))] := hD
  refine lv_iinc (v := 2) (lv' := [(1, .int 2), (0, .ref h)]) hx hb d_Xinit_63 hl (k := 0) rfl (by decide) (by decide) rfl (fun ls hl => ?_)
  refine lv_goto (tgt := 44) hx hb d_Xinit_66 (by decide) ?_
  refine lv_iload_n hx hb d_Xinit_44 rfl (lv_at hl 0 rfl) ?_
  refine lv_bipush (v := 8) hx hb d_Xinit_45 (by decide) ?_
  refine lv_icmp_ge (tgt := 69) hx hb d_Xinit_47 (by decide) (fun c_10 => absurd c_10 (by decide)) (fun _ => ?_)
  refine lv_aload_n hx hb d_Xinit_50 rfl (lv_at hl 1 rfl) ?_
  refine va_get (v := .ref q_1) hx hb hG i_X hown hK hP 0 rfl rfl 0 (by decide) (hG _ L_X_11) (fun _ h9 => h9) rfl d_Xinit_51 ?_
  refine lv_iload_n hx hb d_Xinit_54 rfl (lv_at hl 0 rfl) ?_
  refine va_new (ci := 2) (fs := [.int 0, .int 0, .int 0, .int 0, .int 0, .int 0, .int 0, .int 0, .int 0]) hx hb hG i_T ft_T ft_T_ok hown (hG _ L_X_9) (hG _ inst_T) (hG _ ini_T) hK hP hD hS hA rfl (fun j hj => by rcases (show j = 0 ∨ j = 1 ∨ j = 2 ∨ j = 3 ∨ j = 4 ∨ j = 5 ∨ j = 6 ∨ j = 7 ∨ j = 8 by omega) with rfl | rfl | rfl | rfl | rfl | rfl | rfl | rfl | rfl <;> rfl) (by decide) (by decide) d_Xinit_55 (fun q_11 H hP hD hS => ?_)
  have hP : va_P D classes [(h, .inr (0, [.ref q_1, .ref q_3, .ref q_5, .int 0, .int 0])), (q_1, .inl (k_2, 8, .inr (.inr (.inr (.inr (va_up (va_up (fun _ => none) 0 (some q_7)) 1 (some q_9))))))), (q_3, .inl (k_4, 4, .inr (.inr (.inr (.inr (fun _ => none)))))), (q_5, .inr (1, [.ref q2, .ref q3, .ref q4, .int 0, .int 0, .int 0])), (q2, .inl (kI, 16, .inl (fun _ => 0))), (q3, .inl (kI, 16, .inl (fun _ => 0))), (q4, .inl (kI, 16, .inl (fun _ => 0))), (q_7, .inr (2, [.int 1, .int 1, .int 0, .int 0, .int 0, .int 0, .int 0, .int 0, .int 0])), (q_9, .inr (2, [.int 1, .int 1, .int 0, .int 0, .int 0, .int 0, .int 0, .int 0, .int 0])), (q_11, .inr (2, [.int 0, .int 0, .int 0, .int 0, .int 0, .int 0, .int 0, .int 0, .int 0]))] H := hP
  have hD : va_D A [(h, .inr (0, [.ref q_1, .ref q_3, .ref q_5, .int 0, .int 0])), (q_1, .inl (k_2, 8, .inr (.inr (.inr (.inr (va_up (va_up (fun _ => none) 0 (some q_7)) 1 (some q_9))))))), (q_3, .inl (k_4, 4, .inr (.inr (.inr (.inr (fun _ => none)))))), (q_5, .inr (1, [.ref q2, .ref q3, .ref q4, .int 0, .int 0, .int 0])), (q2, .inl (kI, 16, .inl (fun _ => 0))), (q3, .inl (kI, 16, .inl (fun _ => 0))), (q4, .inl (kI, 16, .inl (fun _ => 0))), (q_7, .inr (2, [.int 1, .int 1, .int 0, .int 0, .int 0, .int 0, .int 0, .int 0, .int 0])), (q_9, .inr (2, [.int 1, .int 1, .int 0, .int 0, .int 0, .int 0, .int 0, .int 0, .int 0])), (q_11, .inr (2, [.int 0, .int 0, .int 0, .int 0, .int 0, .int 0, .int 0, .int 0, .int 0]))] := hD
  refine W.widen (k := 9) (n := 93) (by decide) (by decide) ?_
  refine lv_dup hx hb d_Xinit_58 rfl ?_
  have hP : va_P D classes ([(h, .inr (0, [.ref q_1, .ref q_3, .ref q_5, .int 0, .int 0])), (q_1, .inl (k_2, 8, .inr (.inr (.inr (.inr (va_up (va_up (fun _ => none) 0 (some q_7)) 1 (some q_9))))))), (q_3, .inl (k_4, 4, .inr (.inr (.inr (.inr (fun _ => none)))))), (q_5, .inr (1, [.ref q2, .ref q3, .ref q4, .int 0, .int 0, .int 0])), (q2, .inl (kI, 16, .inl (fun _ => 0))), (q3, .inl (kI, 16, .inl (fun _ => 0))), (q4, .inl (kI, 16, .inl (fun _ => 0))), (q_7, .inr (2, [.int 1, .int 1, .int 0, .int 0, .int 0, .int 0, .int 0, .int 0, .int 0])), (q_9, .inr (2, [.int 1, .int 1, .int 0, .int 0, .int 0, .int 0, .int 0, .int 0, .int 0]))] ++ wT1 q_11 z0) H := hP
  have hD : va_D A ([(h, .inr (0, [.ref q_1, .ref q_3, .ref q_5, .int 0, .int 0])), (q_1, .inl (k_2, 8, .inr (.inr (.inr (.inr (va_up (va_up (fun _ => none) 0 (some q_7)) 1 (some q_9))))))), (q_3, .inl (k_4, 4, .inr (.inr (.inr (.inr (fun _ => none)))))), (q_5, .inr (1, [.ref q2, .ref q3, .ref q4, .int 0, .int 0, .int 0])), (q2, .inl (kI, 16, .inl (fun _ => 0))), (q3, .inl (kI, 16, .inl (fun _ => 0))), (q4, .inl (kI, 16, .inl (fun _ => 0))), (q_7, .inr (2, [.int 1, .int 1, .int 0, .int 0, .int 0, .int 0, .int 0, .int 0, .int 0])), (q_9, .inr (2, [.int 1, .int 1, .int 0, .int 0, .int 0, .int 0, .int 0, .int 0, .int 0]))] ++ wT1 q_11 z0) := hD
  refine k_fIN (rest := [.ref q_11, .int 2, .ref q_1]) hx hb hml hown hG hK hN hA hP hD hS (c_Tinit l D _ q_11 z0) ok_Tinit rfl oi_Tinit L_X_35 ⟨rfl, rfl, by decide, by decide⟩ rfl hl.1 rfl (Nat.le_of_ble_eq_true rfl) ⟨by decide, by decide⟩ d_Xinit_59 (fun H locs hP hD hS => ?_)
  have hP : va_P D classes [(h, .inr (0, [.ref q_1, .ref q_3, .ref q_5, .int 0, .int 0])), (q_1, .inl (k_2, 8, .inr (.inr (.inr (.inr (va_up (va_up (fun _ => none) 0 (some q_7)) 1 (some q_9))))))), (q_3, .inl (k_4, 4, .inr (.inr (.inr (.inr (fun _ => none)))))), (q_5, .inr (1, [.ref q2, .ref q3, .ref q4, .int 0, .int 0, .int 0])), (q2, .inl (kI, 16, .inl (fun _ => 0))), (q3, .inl (kI, 16, .inl (fun _ => 0))), (q4, .inl (kI, 16, .inl (fun _ => 0))), (q_7, .inr (2, [.int 1, .int 1, .int 0, .int 0, .int 0, .int 0, .int 0, .int 0, .int 0])), (q_9, .inr (2, [.int 1, .int 1, .int 0, .int 0, .int 0, .int 0, .int 0, .int 0, .int 0])), (q_11, .inr (2, [.int 1, .int 1, .int 0, .int 0, .int 0, .int 0, .int 0, .int 0, .int 0]))] H := hP
  have hD : va_D A [(h, .inr (0, [.ref q_1, .ref q_3, .ref q_5, .int 0, .int 0])), (q_1, .inl (k_2, 8, .inr (.inr (.inr (.inr (va_up (va_up (fun _ => none) 0 (some q_7)) 1 (some q_9))))))), (q_3, .inl (k_4, 4, .inr (.inr (.inr (.inr (fun _ => none)))))), (q_5, .inr (1, [.ref q2, .ref q3, .ref q4, .int 0, .int 0, .int 0])), (q2, .inl (kI, 16, .inl (fun _ => 0))), (q3, .inl (kI, 16, .inl (fun _ => 0))), (q4, .inl (kI, 16, .inl (fun _ => 0))), (q_7, .inr (2, [.int 1, .int 1, .int 0, .int 0, .int 0, .int 0, .int 0, .int 0, .int 0])), (q_9, .inr (2, [.int 1, .int 1, .int 0, .int 0, .int 0, .int 0, .int 0, .int 0, .int 0])), (q_11, .inr (2, [.int 1, .int 1, .int 0, .int 0, .int 0, .int 0, .int 0, .int 0, .int 0]))] := hD
  refine va_astq (i := 2) hx hb hK hP hD hS 1 0 9 2 rfl rfl rfl rfl (vp_in_nI (n := 2) (by decide) (by decide)) d_Xinit_62 (fun H locs hP hD hS => ?_)
  have hP : va_P D classes [(h, .inr (0, [.ref q_1, .ref q_3, .ref q_5, .int 0, .int 0])), (q_1, .inl (k_2, 8, .inr (.inr (.inr (.inr (va_up (va_up (va_up (fun _ => none) 0 (some q_7)) 1 (some q_9)) 2 (some q_11))))))), (q_3, .inl (k_4, 4, .inr (.inr (.inr (.inr (fun _ => none)))))), (q_5, .inr (1, [.ref q2, .ref q3, .ref q4, .int 0, .int 0, .int 0])), (q2, .inl (kI, 16, .inl (fun _ => 0))), (q3, .inl (kI, 16, .inl (fun _ => 0))), (q4, .inl (kI, 16, .inl (fun _ => 0))), (q_7, .inr (2, [.int 1, .int 1, .int 0, .int 0, .int 0, .int 0, .int 0, .int 0, .int 0])), (q_9, .inr (2, [.int 1, .int 1, .int 0, .int 0, .int 0, .int 0, .int 0, .int 0, .int 0])), (q_11, .inr (2, [.int 1, .int 1, .int 0, .int 0, .int 0, .int 0, .int 0, .int 0, .int 0]))] H := hP
  have hD : va_D A [(h, .inr (0, [.ref q_1, .ref q_3, .ref q_5, .int 0, .int 0])), (q_1, .inl (k_2, 8, .inr (.inr (.inr (.inr (va_up (va_up (va_up (fun _ => none) 0 (some q_7)) 1 (some q_9)) 2 (some q_11))))))), (q_3, .inl (k_4, 4, .inr (.inr (.inr (.inr (fun _ => none)))))), (q_5, .inr (1, [.ref q2, .ref q3, .ref q4, .int 0, .int 0, .int 0])), (q2, .inl (kI, 16, .inl (fun _ => 0))), (q3, .inl (kI, 16, .inl (fun _ => 0))), (q4, .inl (kI, 16, .inl (fun _ => 0))), (q_7, .inr (2, [.int 1, .int 1, .int 0, .int 0, .int 0, .int 0, .int 0, .int 0, .int 0])), (q_9, .inr (2, [.int 1, .int 1, .int 0, .int 0, .int 0, .int 0, .int 0, .int 0, .int 0])), (q_11, .inr (2, [.int 1, .int 1, .int 0, .int 0, .int 0, .int 0, .int 0, .int 0, .int 0]))] := hD
  refine lv_iinc (v := 3) (lv' := [(1, .int 3), (0, .ref h)]) hx hb d_Xinit_63 hl (k := 0) rfl (by decide) (by decide) rfl (fun ls hl => ?_)
  refine lv_goto (tgt := 44) hx hb d_Xinit_66 (by decide) ?_
  refine lv_iload_n hx hb d_Xinit_44 rfl (lv_at hl 0 rfl) ?_
  refine lv_bipush (v := 8) hx hb d_Xinit_45 (by decide) ?_
  refine lv_icmp_ge (tgt := 69) hx hb d_Xinit_47 (by decide) (fun c_12 => absurd c_12 (by decide)) (fun _ => ?_)
  refine lv_aload_n hx hb d_Xinit_50 rfl (lv_at hl 1 rfl) ?_
  refine va_get (v := .ref q_1) hx hb hG i_X hown hK hP 0 rfl rfl 0 (by decide) (hG _ L_X_11) (fun _ h9 => h9) rfl d_Xinit_51 ?_
  refine lv_iload_n hx hb d_Xinit_54 rfl (lv_at hl 0 rfl) ?_
  refine va_new (ci := 2) (fs := [.int 0, .int 0, .int 0, .int 0, .int 0, .int 0, .int 0, .int 0, .int 0]) hx hb hG i_T ft_T ft_T_ok hown (hG _ L_X_9) (hG _ inst_T) (hG _ ini_T) hK hP hD hS hA rfl (fun j hj => by rcases (show j = 0 ∨ j = 1 ∨ j = 2 ∨ j = 3 ∨ j = 4 ∨ j = 5 ∨ j = 6 ∨ j = 7 ∨ j = 8 by omega) with rfl | rfl | rfl | rfl | rfl | rfl | rfl | rfl | rfl <;> rfl) (by decide) (by decide) d_Xinit_55 (fun q_13 H hP hD hS => ?_)
  have hP : va_P D classes [(h, .inr (0, [.ref q_1, .ref q_3, .ref q_5, .int 0, .int 0])), (q_1, .inl (k_2, 8, .inr (.inr (.inr (.inr (va_up (va_up (va_up (fun _ => none) 0 (some q_7)) 1 (some q_9)) 2 (some q_11))))))), (q_3, .inl (k_4, 4, .inr (.inr (.inr (.inr (fun _ => none)))))), (q_5, .inr (1, [.ref q2, .ref q3, .ref q4, .int 0, .int 0, .int 0])), (q2, .inl (kI, 16, .inl (fun _ => 0))), (q3, .inl (kI, 16, .inl (fun _ => 0))), (q4, .inl (kI, 16, .inl (fun _ => 0))), (q_7, .inr (2, [.int 1, .int 1, .int 0, .int 0, .int 0, .int 0, .int 0, .int 0, .int 0])), (q_9, .inr (2, [.int 1, .int 1, .int 0, .int 0, .int 0, .int 0, .int 0, .int 0, .int 0])), (q_11, .inr (2, [.int 1, .int 1, .int 0, .int 0, .int 0, .int 0, .int 0, .int 0, .int 0])), (q_13, .inr (2, [.int 0, .int 0, .int 0, .int 0, .int 0, .int 0, .int 0, .int 0, .int 0]))] H := hP
  have hD : va_D A [(h, .inr (0, [.ref q_1, .ref q_3, .ref q_5, .int 0, .int 0])), (q_1, .inl (k_2, 8, .inr (.inr (.inr (.inr (va_up (va_up (va_up (fun _ => none) 0 (some q_7)) 1 (some q_9)) 2 (some q_11))))))), (q_3, .inl (k_4, 4, .inr (.inr (.inr (.inr (fun _ => none)))))), (q_5, .inr (1, [.ref q2, .ref q3, .ref q4, .int 0, .int 0, .int 0])), (q2, .inl (kI, 16, .inl (fun _ => 0))), (q3, .inl (kI, 16, .inl (fun _ => 0))), (q4, .inl (kI, 16, .inl (fun _ => 0))), (q_7, .inr (2, [.int 1, .int 1, .int 0, .int 0, .int 0, .int 0, .int 0, .int 0, .int 0])), (q_9, .inr (2, [.int 1, .int 1, .int 0, .int 0, .int 0, .int 0, .int 0, .int 0, .int 0])), (q_11, .inr (2, [.int 1, .int 1, .int 0, .int 0, .int 0, .int 0, .int 0, .int 0, .int 0])), (q_13, .inr (2, [.int 0, .int 0, .int 0, .int 0, .int 0, .int 0, .int 0, .int 0, .int 0]))] := hD
  refine W.widen (k := 10) (n := 102) (by decide) (by decide) ?_
  refine lv_dup hx hb d_Xinit_58 rfl ?_
  have hP : va_P D classes ([(h, .inr (0, [.ref q_1, .ref q_3, .ref q_5, .int 0, .int 0])), (q_1, .inl (k_2, 8, .inr (.inr (.inr (.inr (va_up (va_up (va_up (fun _ => none) 0 (some q_7)) 1 (some q_9)) 2 (some q_11))))))), (q_3, .inl (k_4, 4, .inr (.inr (.inr (.inr (fun _ => none)))))), (q_5, .inr (1, [.ref q2, .ref q3, .ref q4, .int 0, .int 0, .int 0])), (q2, .inl (kI, 16, .inl (fun _ => 0))), (q3, .inl (kI, 16, .inl (fun _ => 0))), (q4, .inl (kI, 16, .inl (fun _ => 0))), (q_7, .inr (2, [.int 1, .int 1, .int 0, .int 0, .int 0, .int 0, .int 0, .int 0, .int 0])), (q_9, .inr (2, [.int 1, .int 1, .int 0, .int 0, .int 0, .int 0, .int 0, .int 0, .int 0])), (q_11, .inr (2, [.int 1, .int 1, .int 0, .int 0, .int 0, .int 0, .int 0, .int 0, .int 0]))] ++ wT1 q_13 z0) H := hP
  have hD : va_D A ([(h, .inr (0, [.ref q_1, .ref q_3, .ref q_5, .int 0, .int 0])), (q_1, .inl (k_2, 8, .inr (.inr (.inr (.inr (va_up (va_up (va_up (fun _ => none) 0 (some q_7)) 1 (some q_9)) 2 (some q_11))))))), (q_3, .inl (k_4, 4, .inr (.inr (.inr (.inr (fun _ => none)))))), (q_5, .inr (1, [.ref q2, .ref q3, .ref q4, .int 0, .int 0, .int 0])), (q2, .inl (kI, 16, .inl (fun _ => 0))), (q3, .inl (kI, 16, .inl (fun _ => 0))), (q4, .inl (kI, 16, .inl (fun _ => 0))), (q_7, .inr (2, [.int 1, .int 1, .int 0, .int 0, .int 0, .int 0, .int 0, .int 0, .int 0])), (q_9, .inr (2, [.int 1, .int 1, .int 0, .int 0, .int 0, .int 0, .int 0, .int 0, .int 0])), (q_11, .inr (2, [.int 1, .int 1, .int 0, .int 0, .int 0, .int 0, .int 0, .int 0, .int 0]))] ++ wT1 q_13 z0) := hD
  refine k_fIN (rest := [.ref q_13, .int 3, .ref q_1]) hx hb hml hown hG hK hN hA hP hD hS (c_Tinit l D _ q_13 z0) ok_Tinit rfl oi_Tinit L_X_35 ⟨rfl, rfl, by decide, by decide⟩ rfl hl.1 rfl (Nat.le_of_ble_eq_true rfl) ⟨by decide, by decide⟩ d_Xinit_59 (fun H locs hP hD hS => ?_)
  have hP : va_P D classes [(h, .inr (0, [.ref q_1, .ref q_3, .ref q_5, .int 0, .int 0])), (q_1, .inl (k_2, 8, .inr (.inr (.inr (.inr (va_up (va_up (va_up (fun _ => none) 0 (some q_7)) 1 (some q_9)) 2 (some q_11))))))), (q_3, .inl (k_4, 4, .inr (.inr (.inr (.inr (fun _ => none)))))), (q_5, .inr (1, [.ref q2, .ref q3, .ref q4, .int 0, .int 0, .int 0])), (q2, .inl (kI, 16, .inl (fun _ => 0))), (q3, .inl (kI, 16, .inl (fun _ => 0))), (q4, .inl (kI, 16, .inl (fun _ => 0))), (q_7, .inr (2, [.int 1, .int 1, .int 0, .int 0, .int 0, .int 0, .int 0, .int 0, .int 0])), (q_9, .inr (2, [.int 1, .int 1, .int 0, .int 0, .int 0, .int 0, .int 0, .int 0, .int 0])), (q_11, .inr (2, [.int 1, .int 1, .int 0, .int 0, .int 0, .int 0, .int 0, .int 0, .int 0])), (q_13, .inr (2, [.int 1, .int 1, .int 0, .int 0, .int 0, .int 0, .int 0, .int 0, .int 0]))] H := hP
  have hD : va_D A [(h, .inr (0, [.ref q_1, .ref q_3, .ref q_5, .int 0, .int 0])), (q_1, .inl (k_2, 8, .inr (.inr (.inr (.inr (va_up (va_up (va_up (fun _ => none) 0 (some q_7)) 1 (some q_9)) 2 (some q_11))))))), (q_3, .inl (k_4, 4, .inr (.inr (.inr (.inr (fun _ => none)))))), (q_5, .inr (1, [.ref q2, .ref q3, .ref q4, .int 0, .int 0, .int 0])), (q2, .inl (kI, 16, .inl (fun _ => 0))), (q3, .inl (kI, 16, .inl (fun _ => 0))), (q4, .inl (kI, 16, .inl (fun _ => 0))), (q_7, .inr (2, [.int 1, .int 1, .int 0, .int 0, .int 0, .int 0, .int 0, .int 0, .int 0])), (q_9, .inr (2, [.int 1, .int 1, .int 0, .int 0, .int 0, .int 0, .int 0, .int 0, .int 0])), (q_11, .inr (2, [.int 1, .int 1, .int 0, .int 0, .int 0, .int 0, .int 0, .int 0, .int 0])), (q_13, .inr (2, [.int 1, .int 1, .int 0, .int 0, .int 0, .int 0, .int 0, .int 0, .int 0]))] := hD
  refine va_astq (i := 3) hx hb hK hP hD hS 1 0 10 2 rfl rfl rfl rfl (vp_in_nI (n := 3) (by decide) (by decide)) d_Xinit_62 (fun H locs hP hD hS => ?_)
  have hP : va_P D classes [(h, .inr (0, [.ref q_1, .ref q_3, .ref q_5, .int 0, .int 0])), (q_1, .inl (k_2, 8, .inr (.inr (.inr (.inr (va_up (va_up (va_up (va_up (fun _ => none) 0 (some q_7)) 1 (some q_9)) 2 (some q_11)) 3 (some q_13))))))), (q_3, .inl (k_4, 4, .inr (.inr (.inr (.inr (fun _ => none)))))), (q_5, .inr (1, [.ref q2, .ref q3, .ref q4, .int 0, .int 0, .int 0])), (q2, .inl (kI, 16, .inl (fun _ => 0))), (q3, .inl (kI, 16, .inl (fun _ => 0))), (q4, .inl (kI, 16, .inl (fun _ => 0))), (q_7, .inr (2, [.int 1, .int 1, .int 0, .int 0, .int 0, .int 0, .int 0, .int 0, .int 0])), (q_9, .inr (2, [.int 1, .int 1, .int 0, .int 0, .int 0, .int 0, .int 0, .int 0, .int 0])), (q_11, .inr (2, [.int 1, .int 1, .int 0, .int 0, .int 0, .int 0, .int 0, .int 0, .int 0])), (q_13, .inr (2, [.int 1, .int 1, .int 0, .int 0, .int 0, .int 0, .int 0, .int 0, .int 0]))] H := hP
  have hD : va_D A [(h, .inr (0, [.ref q_1, .ref q_3, .ref q_5, .int 0, .int 0])), (q_1, .inl (k_2, 8, .inr (.inr (.inr (.inr (va_up (va_up (va_up (va_up (fun _ => none) 0 (some q_7)) 1 (some q_9)) 2 (some q_11)) 3 (some q_13))))))), (q_3, .inl (k_4, 4, .inr (.inr (.inr (.inr (fun _ => none)))))), (q_5, .inr (1, [.ref q2, .ref q3, .ref q4, .int 0, .int 0, .int 0])), (q2, .inl (kI, 16, .inl (fun _ => 0))), (q3, .inl (kI, 16, .inl (fun _ => 0))), (q4, .inl (kI, 16, .inl (fun _ => 0))), (q_7, .inr (2, [.int 1, .int 1, .int 0, .int 0, .int 0, .int 0, .int 0, .int 0, .int 0])), (q_9, .inr (2, [.int 1, .int 1, .int 0, .int 0, .int 0, .int 0, .int 0, .int 0, .int 0])), (q_11, .inr (2, [.int 1, .int 1, .int 0, .int 0, .int 0, .int 0, .int 0, .int 0, .int 0])), (q_13, .inr (2, [.int 1, .int 1, .int 0, .int 0, .int 0, .int 0, .int 0, .int 0, .int 0]))] := hD
  refine lv_iinc (v := 4) (lv' := [(1, .int 4), (0, .ref h)]) hx hb d_Xinit_63 hl (k := 0) rfl (by decide) (by decide) rfl (fun ls hl => ?_)
  refine lv_goto (tgt := 44) hx hb d_Xinit_66 (by decide) ?_
  refine lv_iload_n hx hb d_Xinit_44 rfl (lv_at hl 0 rfl) ?_
  refine lv_bipush (v := 8) hx hb d_Xinit_45 (by decide) ?_
  refine lv_icmp_ge (tgt := 69) hx hb d_Xinit_47 (by decide) (fun c_14 => absurd c_14 (by decide)) (fun _ => ?_)
  refine lv_aload_n hx hb d_Xinit_50 rfl (lv_at hl 1 rfl) ?_
  refine va_get (v := .ref q_1) hx hb hG i_X hown hK hP 0 rfl rfl 0 (by decide) (hG _ L_X_11) (fun _ h9 => h9) rfl d_Xinit_51 ?_
  refine lv_iload_n hx hb d_Xinit_54 rfl (lv_at hl 0 rfl) ?_
  refine va_new (ci := 2) (fs := [.int 0, .int 0, .int 0, .int 0, .int 0, .int 0, .int 0, .int 0, .int 0]) hx hb hG i_T ft_T ft_T_ok hown (hG _ L_X_9) (hG _ inst_T) (hG _ ini_T) hK hP hD hS hA rfl (fun j hj => by rcases (show j = 0 ∨ j = 1 ∨ j = 2 ∨ j = 3 ∨ j = 4 ∨ j = 5 ∨ j = 6 ∨ j = 7 ∨ j = 8 by omega) with rfl | rfl | rfl | rfl | rfl | rfl | rfl | rfl | rfl <;> rfl) (by decide) (by decide) d_Xinit_55 (fun q_15 H hP hD hS => ?_)
  have hP : va_P D classes [(h, .inr (0, [.ref q_1, .ref q_3, .ref q_5, .int 0, .int 0])), (q_1, .inl (k_2, 8, .inr (.inr (.inr (.inr (va_up (va_up (va_up (va_up (fun _ => none) 0 (some q_7)) 1 (some q_9)) 2 (some q_11)) 3 (some q_13))))))), (q_3, .inl (k_4, 4, .inr (.inr (.inr (.inr (fun _ => none)))))), (q_5, .inr (1, [.ref q2, .ref q3, .ref q4, .int 0, .int 0, .int 0])), (q2, .inl (kI, 16, .inl (fun _ => 0))), (q3, .inl (kI, 16, .inl (fun _ => 0))), (q4, .inl (kI, 16, .inl (fun _ => 0))), (q_7, .inr (2, [.int 1, .int 1, .int 0, .int 0, .int 0, .int 0, .int 0, .int 0, .int 0])), (q_9, .inr (2, [.int 1, .int 1, .int 0, .int 0, .int 0, .int 0, .int 0, .int 0, .int 0])), (q_11, .inr (2, [.int 1, .int 1, .int 0, .int 0, .int 0, .int 0, .int 0, .int 0, .int 0])), (q_13, .inr (2, [.int 1, .int 1, .int 0, .int 0, .int 0, .int 0, .int 0, .int 0, .int 0])), (q_15, .inr (2, [.int 0, .int 0, .int 0, .int 0, .int 0, .int 0, .int 0, .int 0, .int 0]))] H := hP
  have hD : va_D A [(h, .inr (0, [.ref q_1, .ref q_3, .ref q_5, .int 0, .int 0])), (q_1, .inl (k_2, 8, .inr (.inr (.inr (.inr (va_up (va_up (va_up (va_up (fun _ => none) 0 (some q_7)) 1 (some q_9)) 2 (some q_11)) 3 (some q_13))))))), (q_3, .inl (k_4, 4, .inr (.inr (.inr (.inr (fun _ => none)))))), (q_5, .inr (1, [.ref q2, .ref q3, .ref q4, .int 0, .int 0, .int 0])), (q2, .inl (kI, 16, .inl (fun _ => 0))), (q3, .inl (kI, 16, .inl (fun _ => 0))), (q4, .inl (kI, 16, .inl (fun _ => 0))), (q_7, .inr (2, [.int 1, .int 1, .int 0, .int 0, .int 0, .int 0, .int 0, .int 0, .int 0])), (q_9, .inr (2, [.int 1, .int 1, .int 0, .int 0, .int 0, .int 0, .int 0, .int 0, .int 0])), (q_11, .inr (2, [.int 1, .int 1, .int 0, .int 0, .int 0, .int 0, .int 0, .int 0, .int 0])), (q_13, .inr (2, [.int 1, .int 1, .int 0, .int 0, .int 0, .int 0, .int 0, .int 0, .int 0])), (q_15, .inr (2, [.int 0, .int 0, .int 0, .int 0, .int 0, .int 0, .int 0, .int 0, .int 0]))] := hD
  refine W.widen (k := 11) (n := 111) (by decide) (by decide) ?_
  refine lv_dup hx hb d_Xinit_58 rfl ?_
  have hP : va_P D classes ([(h, .inr (0, [.ref q_1, .ref q_3, .ref q_5, .int 0, .int 0])), (q_1, .inl (k_2, 8, .inr (.inr (.inr (.inr (va_up (va_up (va_up (va_up (fun _ => none) 0 (some q_7)) 1 (some q_9)) 2 (some q_11)) 3 (some q_13))))))), (q_3, .inl (k_4, 4, .inr (.inr (.inr (.inr (fun _ => none)))))), (q_5, .inr (1, [.ref q2, .ref q3, .ref q4, .int 0, .int 0, .int 0])), (q2, .inl (kI, 16, .inl (fun _ => 0))), (q3, .inl (kI, 16, .inl (fun _ => 0))), (q4, .inl (kI, 16, .inl (fun _ => 0))), (q_7, .inr (2, [.int 1, .int 1, .int 0, .int 0, .int 0, .int 0, .int 0, .int 0, .int 0])), (q_9, .inr (2, [.int 1, .int 1, .int 0, .int 0, .int 0, .int 0, .int 0, .int 0, .int 0])), (q_11, .inr (2, [.int 1, .int 1, .int 0, .int 0, .int 0, .int 0, .int 0, .int 0, .int 0])), (q_13, .inr (2, [.int 1, .int 1, .int 0, .int 0, .int 0, .int 0, .int 0, .int 0, .int 0]))] ++ wT1 q_15 z0) H := hP
  have hD : va_D A ([(h, .inr (0, [.ref q_1, .ref q_3, .ref q_5, .int 0, .int 0])), (q_1, .inl (k_2, 8, .inr (.inr (.inr (.inr (va_up (va_up (va_up (va_up (fun _ => none) 0 (some q_7)) 1 (some q_9)) 2 (some q_11)) 3 (some q_13))))))), (q_3, .inl (k_4, 4, .inr (.inr (.inr (.inr (fun _ => none)))))), (q_5, .inr (1, [.ref q2, .ref q3, .ref q4, .int 0, .int 0, .int 0])), (q2, .inl (kI, 16, .inl (fun _ => 0))), (q3, .inl (kI, 16, .inl (fun _ => 0))), (q4, .inl (kI, 16, .inl (fun _ => 0))), (q_7, .inr (2, [.int 1, .int 1, .int 0, .int 0, .int 0, .int 0, .int 0, .int 0, .int 0])), (q_9, .inr (2, [.int 1, .int 1, .int 0, .int 0, .int 0, .int 0, .int 0, .int 0, .int 0])), (q_11, .inr (2, [.int 1, .int 1, .int 0, .int 0, .int 0, .int 0, .int 0, .int 0, .int 0])), (q_13, .inr (2, [.int 1, .int 1, .int 0, .int 0, .int 0, .int 0, .int 0, .int 0, .int 0]))] ++ wT1 q_15 z0) := hD
  refine k_fIN (rest := [.ref q_15, .int 4, .ref q_1]) hx hb hml hown hG hK hN hA hP hD hS (c_Tinit l D _ q_15 z0) ok_Tinit rfl oi_Tinit L_X_35 ⟨rfl, rfl, by decide, by decide⟩ rfl hl.1 rfl (Nat.le_of_ble_eq_true rfl) ⟨by decide, by decide⟩ d_Xinit_59 (fun H locs hP hD hS => ?_)
  have hP : va_P D classes [(h, .inr (0, [.ref q_1, .ref q_3, .ref q_5, .int 0, .int 0])), (q_1, .inl (k_2, 8, .inr (.inr (.inr (.inr (va_up (va_up (va_up (va_up (fun _ => none) 0 (some q_7)) 1 (some q_9)) 2 (some q_11)) 3 (some q_13))))))), (q_3, .inl (k_4, 4, .inr (.inr (.inr (.inr (fun _ => none)))))), (q_5, .inr (1, [.ref q2, .ref q3, .ref q4, .int 0, .int 0, .int 0])), (q2, .inl (kI, 16, .inl (fun _ => 0))), (q3, .inl (kI, 16, .inl (fun _ => 0))), (q4, .inl (kI, 16, .inl (fun _ => 0))), (q_7, .inr (2, [.int 1, .int 1, .int 0, .int 0, .int 0, .int 0, .int 0, .int 0, .int 0])), (q_9, .inr (2, [.int 1, .int 1, .int 0, .int 0, .int 0, .int 0, .int 0, .int 0, .int 0])), (q_11, .inr (2, [.int 1, .int 1, .int 0, .int 0, .int 0, .int 0, .int 0, .int 0, .int 0])), (q_13, .inr (2, [.int 1, .int 1, .int 0, .int 0, .int 0, .int 0, .int 0, .int 0, .int 0])), (q_15, .inr (2, [.int 1, .int 1, .int 0, .int 0, .int 0, .int 0, .int 0, .int 0, .int 0]))] H := hP
  have hD : va_D A [(h, .inr (0, [.ref q_1, .ref q_3, .ref q_5, .int 0, .int 0])), (q_1, .inl (k_2, 8, .inr (.inr (.inr (.inr (va_up (va_up (va_up (va_up (fun _ => none) 0 (some q_7)) 1 (some q_9)) 2 (some q_11)) 3 (some q_13))))))), (q_3, .inl (k_4, 4, .inr (.inr (.inr (.inr (fun _ => none)))))), (q_5, .inr (1, [.ref q2, .ref q3, .ref q4, .int 0, .int 0, .int 0])), (q2, .inl (kI, 16, .inl (fun _ => 0))), (q3, .inl (kI, 16, .inl (fun _ => 0))), (q4, .inl (kI, 16, .inl (fun _ => 0))), (q_7, .inr (2, [.int 1, .int 1, .int 0, .int 0, .int 0, .int 0, .int 0, .int 0, .int 0])), (q_9, .inr (2, [.int 1, .int 1, .int 0, .int 0, .int 0, .int 0, .int 0, .int 0, .int 0])), (q_11, .inr (2, [.int 1, .int 1, .int 0, .int 0, .int 0, .int 0, .int 0, .int 0, .int 0])), (q_13, .inr (2, [.int 1, .int 1, .int 0, .int 0, .int 0, .int 0, .int 0, .int 0, .int 0])), (q_15, .inr (2, [.int 1, .int 1, .int 0, .int 0, .int 0, .int 0, .int 0, .int 0, .int 0]))] := hD
  refine va_astq (i := 4) hx hb hK hP hD hS 1 0 11 2 rfl rfl rfl rfl (vp_in_nI (n := 4) (by decide) (by decide)) d_Xinit_62 (fun H locs hP hD hS => ?_)
  have hP : va_P D classes [(h, .inr (0, [.ref q_1, .ref q_3, .ref q_5, .int 0, .int 0])), (q_1, .inl (k_2, 8, .inr (.inr (.inr (.inr (va_up (va_up (va_up (va_up (va_up (fun _ => none) 0 (some q_7)) 1 (some q_9)) 2 (some q_11)) 3 (some q_13)) 4 (some q_15))))))), (q_3, .inl (k_4, 4, .inr (.inr (.inr (.inr (fun _ => none)))))), (q_5, .inr (1, [.ref q2, .ref q3, .ref q4, .int 0, .int 0, .int 0])), (q2, .inl (kI, 16, .inl (fun _ => 0))), (q3, .inl (kI, 16, .inl (fun _ => 0))), (q4, .inl (kI, 16, .inl (fun _ => 0))), (q_7, .inr (2, [.int 1, .int 1, .int 0, .int 0, .int 0, .int 0, .int 0, .int 0, .int 0])), (q_9, .inr (2, [.int 1, .int 1, .int 0, .int 0, .int 0, .int 0, .int 0, .int 0, .int 0])), (q_11, .inr (2, [.int 1, .int 1, .int 0, .int 0, .int 0, .int 0, .int 0, .int 0, .int 0])), (q_13, .inr (2, [.int 1, .int 1, .int 0, .int 0, .int 0, .int 0, .int 0, .int 0, .int 0])), (q_15, .inr (2, [.int 1, .int 1, .int 0, .int 0, .int 0, .int 0, .int 0, .int 0, .int 0]))] H := hP
  have hD : va_D A [(h, .inr (0, [.ref q_1, .ref q_3, .ref q_5, .int 0, .int 0])), (q_1, .inl (k_2, 8, .inr (.inr (.inr (.inr (va_up (va_up (va_up (va_up (va_up (fun _ => none) 0 (some q_7)) 1 (some q_9)) 2 (some q_11)) 3 (some q_13)) 4 (some q_15))))))), (q_3, .inl (k_4, 4, .inr (.inr (.inr (.inr (fun _ => none)))))), (q_5, .inr (1, [.ref q2, .ref q3, .ref q4, .int 0, .int 0, .int 0])), (q2, .inl (kI, 16, .inl (fun _ => 0))), (q3, .inl (kI, 16, .inl (fun _ => 0))), (q4, .inl (kI, 16, .inl (fun _ => 0))), (q_7, .inr (2, [.int 1, .int 1, .int 0, .int 0, .int 0, .int 0, .int 0, .int 0, .int 0])), (q_9, .inr (2, [.int 1, .int 1, .int 0, .int 0, .int 0, .int 0, .int 0, .int 0, .int 0])), (q_11, .inr (2, [.int 1, .int 1, .int 0, .int 0, .int 0, .int 0, .int 0, .int 0, .int 0])), (q_13, .inr (2, [.int 1, .int 1, .int 0, .int 0, .int 0, .int 0, .int 0, .int 0, .int 0])), (q_15, .inr (2, [.int 1, .int 1, .int 0, .int 0, .int 0, .int 0, .int 0, .int 0, .int 0]))] := hD
  refine lv_iinc (v := 5) (lv' := [(1, .int 5), (0, .ref h)]) hx hb d_Xinit_63 hl (k := 0) rfl (by decide) (by decide) rfl (fun ls hl => ?_)
  refine lv_goto (tgt := 44) hx hb d_Xinit_66 (by decide) ?_
  refine lv_iload_n hx hb d_Xinit_44 rfl (lv_at hl 0 rfl) ?_
  refine lv_bipush (v := 8) hx hb d_Xinit_45 (by decide) ?_
  refine lv_icmp_ge (tgt := 69) hx hb d_Xinit_47 (by decide) (fun c_16 => absurd c_16 (by decide)) (fun _ => ?_)
  refine lv_aload_n hx hb d_Xinit_50 rfl (lv_at hl 1 rfl) ?_
  refine va_get (v := .ref q_1) hx hb hG i_X hown hK hP 0 rfl rfl 0 (by decide) (hG _ L_X_11) (fun _ h9 => h9) rfl d_Xinit_51 ?_
  refine lv_iload_n hx hb d_Xinit_54 rfl (lv_at hl 0 rfl) ?_
  refine va_new (ci := 2) (fs := [.int 0, .int 0, .int 0, .int 0, .int 0, .int 0, .int 0, .int 0, .int 0]) hx hb hG i_T ft_T ft_T_ok hown (hG _ L_X_9) (hG _ inst_T) (hG _ ini_T) hK hP hD hS hA rfl (fun j hj => by rcases (show j = 0 ∨ j = 1 ∨ j = 2 ∨ j = 3 ∨ j = 4 ∨ j = 5 ∨ j = 6 ∨ j = 7 ∨ j = 8 by omega) with rfl | rfl | rfl | rfl | rfl | rfl | rfl | rfl | rfl <;> rfl) (by decide) (by decide) d_Xinit_55 (fun q_17 H hP hD hS => ?_)
  have hP : va_P D classes [(h, .inr (0, [.ref q_1, .ref q_3, .ref q_5, .int 0, .int 0])), (q_1, .inl (k_2, 8, .inr (.inr (.inr (.inr (va_up (va_up (va_up (va_up (va_up (fun _ => none) 0 (some q_7)) 1 (some q_9)) 2 (some q_11)) 3 (some q_13)) 4 (some q_15))))))), (q_3, .inl (k_4, 4, .inr (.inr (.inr (.inr (fun _ => none)))))), (q_5, .inr (1, [.ref q2, .ref q3, .ref q4, .int 0, .int 0, .int 0])), (q2, .inl (kI, 16, .inl (fun _ => 0))), (q3, .inl (kI, 16, .inl (fun _ => 0))), (q4, .inl (kI, 16, .inl (fun _ => 0))), (q_7, .inr (2, [.int 1, .int 1, .int 0, .int 0, .int 0, .int 0, .int 0, .int 0, .int 0])), (q_9, .inr (2, [.int 1, .int 1, .int 0, .int 0, .int 0, .int 0, .int 0, .int 0, .int 0])), (q_11, .inr (2, [.int 1, .int 1, .int 0, .int 0, .int 0, .int 0, .int 0, .int 0, .int 0])), (q_13, .inr (2, [.int 1, .int 1, .int 0, .int 0, .int 0, .int 0, .int 0, .int 0, .int 0])), (q_15, .inr (2, [.int 1, .int 1, .int 0, .int 0, .int 0, .int 0, .int 0, .int 0, .int 0])), (q_17, .inr (2, [.int 0, .int 0, .int 0, .int 0, .int 0, .int 0, .int 0, .int 0, .int 0]))] H := hP
  have hD : va_D A [(h, .inr (0, [.ref q_1, .ref q_3, .ref q_5, .int 0, .int 0])), (q_1, .inl (k_2, 8, .inr (.inr (.inr (.inr (va_up (va_up (va_up (va_up (va_up (fun _ => none) 0 (some q_7)) 1 (some q_9)) 2 (some q_11)) 3 (some q_13)) 4 (some q_15))))))), (q_3, .inl (k_4, 4, .inr (.inr (.inr (.inr (fun _ => none)))))), (q_5, .inr (1, [.ref q2, .ref q3, .ref q4, .int 0, .int 0, .int 0])), (q2, .inl (kI, 16, .inl (fun _ => 0))), (q3, .inl (kI, 16, .inl (fun _ => 0))), (q4, .inl (kI, 16, .inl (fun _ => 0))), (q_7, .inr (2, [.int 1, .int 1, .int 0, .int 0, .int 0, .int 0, .int 0, .int 0, .int 0])), (q_9, .inr (2, [.int 1, .int 1, .int 0, .int 0, .int 0, .int 0, .int 0, .int 0, .int 0])), (q_11, .inr (2, [.int 1, .int 1, .int 0, .int 0, .int 0, .int 0, .int 0, .int 0, .int 0])), (q_13, .inr (2, [.int 1, .int 1, .int 0, .int 0, .int 0, .int 0, .int 0, .int 0, .int 0])), (q_15, .inr (2, [.int 1, .int 1, .int 0, .int 0, .int 0, .int 0, .int 0, .int 0, .int 0])), (q_17, .inr (2, [.int 0, .int 0, .int 0, .int 0, .int 0, .int 0, .int 0, .int 0, .int 0]))] := hD
  refine W.widen (k := 12) (n := 120) (by decide) (by decide) ?_
  refine lv_dup hx hb d_Xinit_58 rfl ?_
  have hP : va_P D classes ([(h, .inr (0, [.ref q_1, .ref q_3, .ref q_5, .int 0, .int 0])), (q_1, .inl (k_2, 8, .inr (.inr (.inr (.inr (va_up (va_up (va_up (va_up (va_up (fun _ => none) 0 (some q_7)) 1 (some q_9)) 2 (some q_11)) 3 (some q_13)) 4 (some q_15))))))), (q_3, .inl (k_4, 4, .inr (.inr (.inr (.inr (fun _ => none)))))), (q_5, .inr (1, [.ref q2, .ref q3, .ref q4, .int 0, .int 0, .int 0])), (q2, .inl (kI, 16, .inl (fun _ => 0))), (q3, .inl (kI, 16, .inl (fun _ => 0))), (q4, .inl (kI, 16, .inl (fun _ => 0))), (q_7, .inr (2, [.int 1, .int 1, .int 0, .int 0, .int 0, .int 0, .int 0, .int 0, .int 0])), (q_9, .inr (2, [.int 1, .int 1, .int 0, .int 0, .int 0, .int 0, .int 0, .int 0, .int 0])), (q_11, .inr (2, [.int 1, .int 1, .int 0, .int 0, .int 0, .int 0, .int 0, .int 0, .int 0])), (q_13, .inr (2, [.int 1, .int 1, .int 0, .int 0, .int 0, .int 0, .int 0, .int 0, .int 0])), (q_15, .inr (2, [.int 1, .int 1, .int 0, .int 0, .int 0, .int 0, .int 0, .int 0, .int 0]))] ++ wT1 q_17 z0) H := hP
  have hD : va_D A ([(h, .inr (0, [.ref q_1, .ref q_3, .ref q_5, .int 0, .int 0])), (q_1, .inl (k_2, 8, .inr (.inr (.inr (.inr (va_up (va_up (va_up (va_up (va_up (fun _ => none) 0 (some q_7)) 1 (some q_9)) 2 (some q_11)) 3 (some q_13)) 4 (some q_15))))))), (q_3, .inl (k_4, 4, .inr (.inr (.inr (.inr (fun _ => none)))))), (q_5, .inr (1, [.ref q2, .ref q3, .ref q4, .int 0, .int 0, .int 0])), (q2, .inl (kI, 16, .inl (fun _ => 0))), (q3, .inl (kI, 16, .inl (fun _ => 0))), (q4, .inl (kI, 16, .inl (fun _ => 0))), (q_7, .inr (2, [.int 1, .int 1, .int 0, .int 0, .int 0, .int 0, .int 0, .int 0, .int 0])), (q_9, .inr (2, [.int 1, .int 1, .int 0, .int 0, .int 0, .int 0, .int 0, .int 0, .int 0])), (q_11, .inr (2, [.int 1, .int 1, .int 0, .int 0, .int 0, .int 0, .int 0, .int 0, .int 0])), (q_13, .inr (2, [.int 1, .int 1, .int 0, .int 0, .int 0, .int 0, .int 0, .int 0, .int 0])), (q_15, .inr (2, [.int 1, .int 1, .int 0, .int 0, .int 0, .int 0, .int 0, .int 0, .int 0]))] ++ wT1 q_17 z0) := hD
  refine k_fIN (rest := [.ref q_17, .int 5, .ref q_1]) hx hb hml hown hG hK hN hA hP hD hS (c_Tinit l D _ q_17 z0) ok_Tinit rfl oi_Tinit L_X_35 ⟨rfl, rfl, by decide, by decide⟩ rfl hl.1 rfl (Nat.le_of_ble_eq_true rfl) ⟨by decide, by decide⟩ d_Xinit_59 (fun H locs hP hD hS => ?_)
  have hP : va_P D classes [(h, .inr (0, [.ref q_1, .ref q_3, .ref q_5, .int 0, .int 0])), (q_1, .inl (k_2, 8, .inr (.inr (.inr (.inr (va_up (va_up (va_up (va_up (va_up (fun _ => none) 0 (some q_7)) 1 (some q_9)) 2 (some q_11)) 3 (some q_13)) 4 (some q_15))))))), (q_3, .inl (k_4, 4, .inr (.inr (.inr (.inr (fun _ => none)))))), (q_5, .inr (1, [.ref q2, .ref q3, .ref q4, .int 0, .int 0, .int 0])), (q2, .inl (kI, 16, .inl (fun _ => 0))), (q3, .inl (kI, 16, .inl (fun _ => 0))), (q4, .inl (kI, 16, .inl (fun _ => 0))), (q_7, .inr (2, [.int 1, .int 1, .int 0, .int 0, .int 0, .int 0, .int 0, .int 0, .int 0])), (q_9, .inr (2, [.int 1, .int 1, .int 0, .int 0, .int 0, .int 0, .int 0, .int 0, .int 0])), (q_11, .inr (2, [.int 1, .int 1, .int 0, .int 0, .int 0, .int 0, .int 0, .int 0, .int 0])), (q_13, .inr (2, [.int 1, .int 1, .int 0, .int 0, .int 0, .int 0, .int 0, .int 0, .int 0])), (q_15, .inr (2, [.int 1, .int 1, .int 0, .int 0, .int 0, .int 0, .int 0, .int 0, .int 0])), (q_17, .inr (2, [.int 1, .int 1, .int 0, .int 0, .int 0, .int 0, .int 0, .int 0, .int 0]))] H := hP
  have hD : va_D A [(h, .inr (0, [.ref q_1, .ref q_3, .ref q_5, .int 0, .int 0])), (q_1, .inl (k_2, 8, .inr (.inr (.inr (.inr (va_up (va_up (va_up (va_up (va_up (fun _ => none) 0 (some q_7)) 1 (some q_9)) 2 (some q_11)) 3 (some q_13)) 4 (some q_15))))))), (q_3, .inl (k_4, 4, .inr (.inr (.inr (.inr (fun _ => none)))))), (q_5, .inr (1, [.ref q2, .ref q3, .ref q4, .int 0, .int 0, .int 0])), (q2, .inl (kI, 16, .inl (fun _ => 0))), (q3, .inl (kI, 16, .inl (fun _ => 0))), (q4, .inl (kI, 16, .inl (fun _ => 0))), (q_7, .inr (2, [.int 1, .int 1, .int 0, .int 0, .int 0, .int 0, .int 0, .int 0, .int 0])), (q_9, .inr (2, [.int 1, .int 1, .int 0, .int 0, .int 0, .int 0, .int 0, .int 0, .int 0])), (q_11, .inr (2, [.int 1, .int 1, .int 0, .int 0, .int 0, .int 0, .int 0, .int 0, .int 0])), (q_13, .inr (2, [.int 1, .int 1, .int 0, .int 0, .int 0, .int 0, .int 0, .int 0, .int 0])), (q_15, .inr (2, [.int 1, .int 1, .int 0, .int 0, .int 0, .int 0, .int 0, .int 0, .int 0])), (q_17, .inr (2, [.int 1, .int 1, .int 0, .int 0, .int 0, .int 0, .int 0, .int 0, .int 0]))] := hD
  refine va_astq (i := 5) hx hb hK hP hD hS 1 0 12 2 rfl rfl rfl rfl (vp_in_nI (n := 5) (by decide) (by decide)) d_Xinit_62 (fun H locs hP hD hS => ?_)
  have hP : va_P D classes [(h, .inr (0, [.ref q_1, .ref q_3, .ref q_5, .int 0, .int 0])), (q_1, .inl (k_2, 8, .inr (.inr (.inr (.inr (va_up (va_up (va_up (va_up (va_up (va_up (fun _ => none) 0 (some q_7)) 1 (some q_9)) 2 (some q_11)) 3 (some q_13)) 4 (some q_15)) 5 (some q_17))))))), (q_3, .inl (k_4, 4, .inr (.inr (.inr (.inr (fun _ => none)))))), (q_5, .inr (1, [.ref q2, .ref q3, .ref q4, .int 0, .int 0, .int 0])), (q2, .inl (kI, 16, .inl (fun _ => 0))), (q3, .inl (kI, 16, .inl (fun _ => 0))), (q4, .inl (kI, 16, .inl (fun _ => 0))), (q_7, .inr (2, [.int 1, .int 1, .int 0, .int 0, .int 0, .int 0, .int 0, .int 0, .int 0])), (q_9, .inr (2, [.int 1, .int 1, .int 0, .int 0, .int 0, .int 0, .int 0, .int 0, .int 0])), (q_11, .inr (2, [.int 1, .int 1, .int 0, .int 0, .int 0, .int 0, .int 0, .int 0, .int 0])), (q_13, .inr (2, [.int 1, .int 1, .int 0, .int 0, .int 0, .int 0, .int 0, .int 0, .int 0])), (q_15, .inr (2, [.int 1, .int 1, .int 0, .int 0, .int 0, .int 0, .int 0, .int 0, .int 0])), (q_17, .inr (2, [.int 1, .int 1, .int 0, .int 0, .int 0, .int 0, .int 0, .int 0, .int 0]))] H := hP
  have hD : va_D A [(h, .inr (0, [.ref q_1, .ref q_3, .ref q_5, .int 0, .int 0])), (q_1, .inl (k_2, 8, .inr (.inr (.inr (.inr (va_up (va_up (va_up (va_up (va_up (va_up (fun _ => none) 0 (some q_7)) 1 (some q_9)) 2 (some q_11)) 3 (some q_13)) 4 (some q_15)) 5 (some q_17))))))), (q_3, .inl (k_4, 4, .inr (.inr (.inr (.inr (fun _ => none)))))), (q_5, .inr (1, [.ref q2, .ref q3, .ref q4, .int 0, .int 0, .int 0])), (q2, .inl (kI, 16, .inl (fun _ => 0))), (q3, .inl (kI, 16, .inl (fun _ => 0))), (q4, .inl (kI, 16, .inl (fun _ => 0))), (q_7, .inr (2, [.int 1, .int 1, .int 0, .int 0, .int 0, .int 0, .int 0, .int 0, .int 0])), (q_9, .inr (2, [.int 1, .int 1, .int 0, .int 0, .int 0, .int 0, .int 0, .int 0, .int 0])), (q_11, .inr (2, [.int 1, .int 1, .int 0, .int 0, .int 0, .int 0, .int 0, .int 0, .int 0])), (q_13, .inr (2, [.int 1, .int 1, .int 0, .int 0, .int 0, .int 0, .int 0, .int 0, .int 0])), (q_15, .inr (2, [.int 1, .int 1, .int 0, .int 0, .int 0, .int 0, .int 0, .int 0, .int 0])), (q_17, .inr (2, [.int 1, .int 1, .int 0, .int 0, .int 0, .int 0, .int 0, .int 0, .int 0]))] := hD
  refine lv_iinc (v := 6) (lv' := [(1, .int 6), (0, .ref h)]) hx hb d_Xinit_63 hl (k := 0) rfl (by decide) (by decide) rfl (fun ls hl => ?_)
  refine lv_goto (tgt := 44) hx hb d_Xinit_66 (by decide) ?_
  refine lv_iload_n hx hb d_Xinit_44 rfl (lv_at hl 0 rfl) ?_
  refine lv_bipush (v := 8) hx hb d_Xinit_45 (by decide) ?_
  refine lv_icmp_ge (tgt := 69) hx hb d_Xinit_47 (by decide) (fun c_18 => absurd c_18 (by decide)) (fun _ => ?_)
  refine lv_aload_n hx hb d_Xinit_50 rfl (lv_at hl 1 rfl) ?_
  refine va_get (v := .ref q_1) hx hb hG i_X hown hK hP 0 rfl rfl 0 (by decide) (hG _ L_X_11) (fun _ h9 => h9) rfl d_Xinit_51 ?_
  refine lv_iload_n hx hb d_Xinit_54 rfl (lv_at hl 0 rfl) ?_
  refine va_new (ci := 2) (fs := [.int 0, .int 0, .int 0, .int 0, .int 0, .int 0, .int 0, .int 0, .int 0]) hx hb hG i_T ft_T ft_T_ok hown (hG _ L_X_9) (hG _ inst_T) (hG _ ini_T) hK hP hD hS hA rfl (fun j hj => by rcases (show j = 0 ∨ j = 1 ∨ j = 2 ∨ j = 3 ∨ j = 4 ∨ j = 5 ∨ j = 6 ∨ j = 7 ∨ j = 8 by omega) with rfl | rfl | rfl | rfl | rfl | rfl | rfl | rfl | rfl <;> rfl) (by decide) (by decide) d_Xinit_55 (fun q_19 H hP hD hS => ?_)
  have hP : va_P D classes [(h, .inr (0, [.ref q_1, .ref q_3, .ref q_5, .int 0, .int 0])), (q_1, .inl (k_2, 8, .inr (.inr (.inr (.inr (va_up (va_up (va_up (va_up (va_up (va_up (fun _ => none) 0 (some q_7)) 1 (some q_9)) 2 (some q_11)) 3 (some q_13)) 4 (some q_15)) 5 (some q_17))))))), (q_3, .inl (k_4, 4, .inr (.inr (.inr (.inr (fun _ => none)))))), (q_5, .inr (1, [.ref q2, .ref q3, .ref q4, .int 0, .int 0, .int 0])), (q2, .inl (kI, 16, .inl (fun _ => 0))), (q3, .inl (kI, 16, .inl (fun _ => 0))), (q4, .inl (kI, 16, .inl (fun _ => 0))), (q_7, .inr (2, [.int 1, .int 1, .int 0, .int 0, .int 0, .int 0, .int 0, .int 0, .int 0])), (q_9, .inr (2, [.int 1, .int 1, .int 0, .int 0, .int 0, .int 0, .int 0, .int 0, .int 0])), (q_11, .inr (2, [.int 1, .int 1, .int 0, .int 0, .int 0, .int 0, .int 0, .int 0, .int 0])), (q_13, .inr (2, [.int 1, .int 1, .int 0, .int 0, .int 0, .int 0, .int 0, .int 0, .int 0])), (q_15, .inr (2, [.int 1, .int 1, .int 0, .int 0, .int 0, .int 0, .int 0, .int 0, .int 0])), (q_17, .inr (2, [.int 1, .int 1, .int 0, .int 0, .int 0, .int 0, .int 0, .int 0, .int 0])), (q_19, .inr (2, [.int 0, .int 0, .int 0, .int 0, .int 0, .int 0, .int 0, .int 0, .int 0]))] H := hP
  have hD : va_D A [(h, .inr (0, [.ref q_1, .ref q_3, .ref q_5, .int 0, .int 0])), (q_1, .inl (k_2, 8, .inr (.inr (.inr (.inr (va_up (va_up (va_up (va_up (va_up (va_up (fun _ => none) 0 (some q_7)) 1 (some q_9)) 2 (some q_11)) 3 (some q_13)) 4 (some q_15)) 5 (some q_17))))))), (q_3, .inl (k_4, 4, .inr (.inr (.inr (.inr (fun _ => none)))))), (q_5, .inr (1, [.ref q2, .ref q3, .ref q4, .int 0, .int 0, .int 0])), (q2, .inl (kI, 16, .inl (fun _ => 0))), (q3, .inl (kI, 16, .inl (fun _ => 0))), (q4, .inl (kI, 16, .inl (fun _ => 0))), (q_7, .inr (2, [.int 1, .int 1, .int 0, .int 0, .int 0, .int 0, .int 0, .int 0, .int 0])), (q_9, .inr (2, [.int 1, .int 1, .int 0, .int 0, .int 0, .int 0, .int 0, .int 0, .int 0])), (q_11, .inr (2, [.int 1, .int 1, .int 0, .int 0, .int 0, .int 0, .int 0, .int 0, .int 0])), (q_13, .inr (2, [.int 1, .int 1, .int 0, .int 0, .int 0, .int 0, .int 0, .int 0, .int 0])), (q_15, .inr (2, [.int 1, .int 1, .int 0, .int 0, .int 0, .int 0, .int 0, .int 0, .int 0])), (q_17, .inr (2, [.int 1, .int 1, .int 0, .int 0, .int 0, .int 0, .int 0, .int 0, .int 0])), (q_19, .inr (2, [.int 0, .int 0, .int 0, .int 0, .int 0, .int 0, .int 0, .int 0, .int 0]))] := hD
  refine W.widen (k := 13) (n := 129) (by decide) (by decide) ?_
  refine lv_dup hx hb d_Xinit_58 rfl ?_
  have hP : va_P D classes ([(h, .inr (0, [.ref q_1, .ref q_3, .ref q_5, .int 0, .int 0])), (q_1, .inl (k_2, 8, .inr (.inr (.inr (.inr (va_up (va_up (va_up (va_up (va_up (va_up (fun _ => none) 0 (some q_7)) 1 (some q_9)) 2 (some q_11)) 3 (some q_13)) 4 (some q_15)) 5 (some q_17))))))), (q_3, .inl (k_4, 4, .inr (.inr (.inr (.inr (fun _ => none)))))), (q_5, .inr (1, [.ref q2, .ref q3, .ref q4, .int 0, .int 0, .int 0])), (q2, .inl (kI, 16, .inl (fun _ => 0))), (q3, .inl (kI, 16, .inl (fun _ => 0))), (q4, .inl (kI, 16, .inl (fun _ => 0))), (q_7, .inr (2, [.int 1, .int 1, .int 0, .int 0, .int 0, .int 0, .int 0, .int 0, .int 0])), (q_9, .inr (2, [.int 1, .int 1, .int 0, .int 0, .int 0, .int 0, .int 0, .int 0, .int 0])), (q_11, .inr (2, [.int 1, .int 1, .int 0, .int 0, .int 0, .int 0, .int 0, .int 0, .int 0])), (q_13, .inr (2, [.int 1, .int 1, .int 0, .int 0, .int 0, .int 0, .int 0, .int 0, .int 0])), (q_15, .inr (2, [.int 1, .int 1, .int 0, .int 0, .int 0, .int 0, .int 0, .int 0, .int 0])), (q_17, .inr (2, [.int 1, .int 1, .int 0, .int 0, .int 0, .int 0, .int 0, .int 0, .int 0]))] ++ wT1 q_19 z0) H := hP
  have hD : va_D A ([(h, .inr (0, [.ref q_1, .ref q_3, .ref q_5, .int 0, .int 0])), (q_1, .inl (k_2, 8, .inr (.inr (.inr (.inr (va_up (va_up (va_up (va_up (va_up (va_up (fun _ => none) 0 (some q_7)) 1 (some q_9)) 2 (some q_11)) 3 (some q_13)) 4 (some q_15)) 5 (some q_17))))))), (q_3, .inl (k_4, 4, .inr (.inr (.inr (.inr (fun _ => none)))))), (q_5, .inr (1, [.ref q2, .ref q3, .ref q4, .int 0, .int 0, .int 0])), (q2, .inl (kI, 16, .inl (fun _ => 0))), (q3, .inl (kI, 16, .inl (fun _ => 0))), (q4, .inl (kI, 16, .inl (fun _ => 0))), (q_7, .inr (2, [.int 1, .int 1, .int 0, .int 0, .int 0, .int 0, .int 0, .int 0, .int 0])), (q_9, .inr (2, [.int 1, .int 1, .int 0, .int 0, .int 0, .int 0, .int 0, .int 0, .int 0])), (q_11, .inr (2, [.int 1, .int 1, .int 0, .int 0, .int 0, .int 0, .int 0, .int 0, .int 0])), (q_13, .inr (2, [.int 1, .int 1, .int 0, .int 0, .int 0, .int 0, .int 0, .int 0, .int 0])), (q_15, .inr (2, [.int 1, .int 1, .int 0, .int 0, .int 0, .int 0, .int 0, .int 0, .int 0])), (q_17, .inr (2, [.int 1, .int 1, .int 0, .int 0, .int 0, .int 0, .int 0, .int 0, .int 0]))] ++ wT1 q_19 z0) := hD
  refine k_fIN (rest := [.ref q_19, .int 6, .ref q_1]) hx hb hml hown hG hK hN hA hP hD hS (c_Tinit l D _ q_19 z0) ok_Tinit rfl oi_Tinit L_X_35 ⟨rfl, rfl, by decide, by decide⟩ rfl hl.1 rfl (Nat.le_of_ble_eq_true rfl) ⟨by decide, by decide⟩ d_Xinit_59 (fun H locs hP hD hS => ?_)
  have hP : va_P D classes [(h, .inr (0, [.ref q_1, .ref q_3, .ref q_5, .int 0, .int 0])), (q_1, .inl (k_2, 8, .inr (.inr (.inr (.inr (va_up (va_up (va_up (va_up (va_up (va_up (fun _ => none) 0 (some q_7)) 1 (some q_9)) 2 (some q_11)) 3 (some q_13)) 4 (some q_15)) 5 (some q_17))))))), (q_3, .inl (k_4, 4, .inr (.inr (.inr (.inr (fun _ => none)))))), (q_5, .inr (1, [.ref q2, .ref q3, .ref q4, .int 0, .int 0, .int 0])), (q2, .inl (kI, 16, .inl (fun _ => 0))), (q3, .inl (kI, 16, .inl (fun _ => 0))), (q4, .inl (kI, 16, .inl (fun _ => 0))), (q_7, .inr (2, [.int 1, .int 1, .int 0, .int 0, .int 0, .int 0, .int 0, .int 0, .int 0])), (q_9, .inr (2, [.int 1, .int 1, .int 0, .int 0, .int 0, .int 0, .int 0, .int 0, .int 0])), (q_11, .inr (2, [.int 1, .int 1, .int 0, .int 0, .int 0, .int 0, .int 0, .int 0, .int 0])), (q_13, .inr (2, [.int 1, .int 1, .int 0, .int 0, .int 0, .int 0, .int 0, .int 0, .int 0])), (q_15, .inr (2, [.int 1, .int 1, .int 0, .int 0, .int 0, .int 0, .int 0, .int 0, .int 0])), (q_17, .inr (2, [.int 1, .int 1, .int 0, .int 0, .int 0, .int 0, .int 0, .int 0, .int 0])), (q_19, .inr (2, [.int 1, .int 1, .int 0, .int 0, .int 0, .int 0, .int 0, .int 0, .int 0]))] H := hP
  have hD : va_D A [(h, .inr (0, [.ref q_1, .ref q_3, .ref q_5, .int 0, .int 0])), (q_1, .inl (k_2, 8, .inr (.inr (.inr (.inr (va_up (va_up (va_up (va_up (va_up (va_up (fun _ => none) 0 (some q_7)) 1 (some q_9)) 2 (some q_11)) 3 (some q_13)) 4 (some q_15)) 5 (some q_17))))))), (q_3, .inl (k_4, 4, .inr (.inr (.inr (.inr (fun _ => none)))))), (q_5, .inr (1, [.ref q2, .ref q3, .ref q4, .int 0, .int 0, .int 0])), (q2, .inl (kI, 16, .inl (fun _ => 0))), (q3, .inl (kI, 16, .inl (fun _ => 0))), (q4, .inl (kI, 16, .inl (fun _ => 0))), (q_7, .inr (2, [.int 1, .int 1, .int 0, .int 0, .int 0, .int 0, .int 0, .int 0, .int 0])), (q_9, .inr (2, [.int 1, .int 1, .int 0, .int 0, .int 0, .int 0, .int 0, .int 0, .int 0])), (q_11, .inr (2, [.int 1, .int 1, .int 0, .int 0, .int 0, .int 0, .int 0, .int 0, .int 0])), (q_13, .inr (2, [.int 1, .int 1, .int 0, .int 0, .int 0, .int 0, .int 0, .int 0, .int 0])), (q_15, .inr (2, [.int 1, .int 1, .int 0, .int 0, .int 0, .int 0, .int 0, .int 0, .int 0])), (q_17, .inr (2, [.int 1, .int 1, .int 0, .int 0, .int 0, .int 0, .int 0, .int 0, .int 0])), (q_19, .inr (2, [.int 1, .int 1, .int 0, .int 0, .int 0, .int 0, .int 0, .int 0, .int 0]))] := hD
  refine va_astq (i := 6) hx hb hK hP hD hS 1 0 13 2 rfl rfl rfl rfl (vp_in_nI (n := 6) (by decide) (by decide)) d_Xinit_62 (fun H locs hP hD hS => ?_)
  have hP : va_P D classes [(h, .inr (0, [.ref q_1, .ref q_3, .ref q_5, .int 0, .int 0])), (q_1, .inl (k_2, 8, .inr (.inr (.inr (.inr (va_up (va_up (va_up (va_up (va_up (va_up (va_up (fun _ => none) 0 (some q_7)) 1 (some q_9)) 2 (some q_11)) 3 (some q_13)) 4 (some q_15)) 5 (some q_17)) 6 (some q_19))))))), (q_3, .inl (k_4, 4, .inr (.inr (.inr (.inr (fun _ => none)))))), (q_5, .inr (1, [.ref q2, .ref q3, .ref q4, .int 0, .int 0, .int 0])), (q2, .inl (kI, 16, .inl (fun _ => 0))), (q3, .inl (kI, 16, .inl (fun _ => 0))), (q4, .inl (kI, 16, .inl (fun _ => 0))), (q_7, .inr (2, [.int 1, .int 1, .int 0, .int 0, .int 0, .int 0, .int 0, .int 0, .int 0])), (q_9, .inr (2, [.int 1, .int 1, .int 0, .int 0, .int 0, .int 0, .int 0, .int 0, .int 0])), (q_11, .inr (2, [.int 1, .int 1, .int 0, .int 0, .int 0, .int 0, .int 0, .int 0, .int 0])), (q_13, .inr (2, [.int 1, .int 1, .int 0, .int 0, .int 0, .int 0, .int 0, .int 0, .int 0])), (q_15, .inr (2, [.int 1, .int 1, .int 0, .int 0, .int 0, .int 0, .int 0, .int 0, .int 0])), (q_17, .inr (2, [.int 1, .int 1, .int 0, .int 0, .int 0, .int 0, .int 0, .int 0, .int 0])), (q_19, .inr (2, [.int 1, .int 1, .int 0, .int 0, .int 0, .int 0, .int 0, .int 0, .int 0]))] H := hP
  have hD : va_D A [(h, .inr (0, [.ref q_1, .ref q_3, .ref q_5, .int 0, .int 0])), (q_1, .inl (k_2, 8, .inr (.inr (.inr (.inr (va_up (va_up (va_up (va_up (va_up (va_up (va_up (fun _ => none) 0 (some q_7)) 1 (some q_9)) 2 (some q_11)) 3 (some q_13)) 4 (some q_15)) 5 (some q_17)) 6 (some q_19))))))), (q_3, .inl (k_4, 4, .inr (.inr (.inr (.inr (fun _ => none)))))), (q_5, .inr (1, [.ref q2, .ref q3, .ref q4, .int 0, .int 0, .int 0])), (q2, .inl (kI, 16, .inl (fun _ => 0))), (q3, .inl (kI, 16, .inl (fun _ => 0))), (q4, .inl (kI, 16, .inl (fun _ => 0))), (q_7, .inr (2, [.int 1, .int 1, .int 0, .int 0, .int 0, .int 0, .int 0, .int 0, .int 0])), (q_9, .inr (2, [.int 1, .int 1, .int 0, .int 0, .int 0, .int 0, .int 0, .int 0, .int 0])), (q_11, .inr (2, [.int 1, .int 1, .int 0, .int 0, .int 0, .int 0, .int 0, .int 0, .int 0])), (q_13, .inr (2, [.int 1, .int 1, .int 0, .int 0, .int 0, .int 0, .int 0, .int 0, .int 0])), (q_15, .inr (2, [.int 1, .int 1, .int 0, .int 0, .int 0, .int 0, .int 0, .int 0, .int 0])), (q_17, .inr (2, [.int 1, .int 1, .int 0, .int 0, .int 0, .int 0, .int 0, .int 0, .int 0])), (q_19, .inr (2, [.int 1, .int 1, .int 0, .int 0, .int 0, .int 0, .int 0, .int 0, .int 0]))] := hD
  refine lv_iinc (v := 7) (lv' := [(1, .int 7), (0, .ref h)]) hx hb d_Xinit_63 hl (k := 0) rfl (by decide) (by decide) rfl (fun ls hl => ?_)
  refine lv_goto (tgt := 44) hx hb d_Xinit_66 (by decide) ?_
  refine lv_iload_n hx hb d_Xinit_44 rfl (lv_at hl 0 rfl) ?_
  refine lv_bipush (v := 8) hx hb d_Xinit_45 (by decide) ?_
  refine lv_icmp_ge (tgt := 69) hx hb d_Xinit_47 (by decide) (fun c_20 => absurd c_20 (by decide)) (fun _ => ?_)
  refine lv_aload_n hx hb d_Xinit_50 rfl (lv_at hl 1 rfl) ?_
  refine va_get (v := .ref q_1) hx hb hG i_X hown hK hP 0 rfl rfl 0 (by decide) (hG _ L_X_11) (fun _ h9 => h9) rfl d_Xinit_51 ?_
  refine lv_iload_n hx hb d_Xinit_54 rfl (lv_at hl 0 rfl) ?_
  refine va_new (ci := 2) (fs := [.int 0, .int 0, .int 0, .int 0, .int 0, .int 0, .int 0, .int 0, .int 0]) hx hb hG i_T ft_T ft_T_ok hown (hG _ L_X_9) (hG _ inst_T) (hG _ ini_T) hK hP hD hS hA rfl (fun j hj => by rcases (show j = 0 ∨ j = 1 ∨ j = 2 ∨ j = 3 ∨ j = 4 ∨ j = 5 ∨ j = 6 ∨ j = 7 ∨ j = 8 by omega) with rfl | rfl | rfl | rfl | rfl | rfl | rfl | rfl | rfl <;> rfl) (by decide) (by decide) d_Xinit_55 (fun q_21 H hP hD hS => ?_)
  have hP : va_P D classes [(h, .inr (0, [.ref q_1, .ref q_3, .ref q_5, .int 0, .int 0])), (q_1, .inl (k_2, 8, .inr (.inr (.inr (.inr (va_up (va_up (va_up (va_up (va_up (va_up (va_up (fun _ => none) 0 (some q_7)) 1 (some q_9)) 2 (some q_11)) 3 (some q_13)) 4 (some q_15)) 5 (some q_17)) 6 (some q_19))))))), (q_3, .inl (k_4, 4, .inr (.inr (.inr (.inr (fun _ => none)))))), (q_5, .inr (1, [.ref q2, .ref q3, .ref q4, .int 0, .int 0, .int 0])), (q2, .inl (kI, 16, .inl (fun _ => 0))), (q3, .inl (kI, 16, .inl (fun _ => 0))), (q4, .inl (kI, 16, .inl (fun _ => 0))), (q_7, .inr (2, [.int 1, .int 1, .int 0, .int 0, .int 0, .int 0, .int 0, .int 0, .int 0])), (q_9, .inr (2, [.int 1, .int 1, .int 0, .int 0, .int 0, .int 0, .int 0, .int 0, .int 0])), (q_11, .inr (2, [.int 1, .int 1, .int 0, .int 0, .int 0, .int 0, .int 0, .int 0, .int 0])), (q_13, .inr (2, [.int 1, .int 1, .int 0, .int 0, .int 0, .int 0, .int 0, .int 0, .int 0])), (q_15, .inr (2, [.int 1, .int 1, .int 0, .int 0, .int 0, .int 0, .int 0, .int 0, .int 0])), (q_17, .inr (2, [.int 1, .int 1, .int 0, .int 0, .int 0, .int 0, .int 0, .int 0, .int 0])), (q_19, .inr (2, [.int 1, .int 1, .int 0, .int 0, .int 0, .int 0, .int 0, .int 0, .int 0])), (q_21, .inr (2, [.int 0, .int 0, .int 0, .int 0, .int 0, .int 0, .int 0, .int 0, .int 0]))] H := hP
  have hD : va_D A [(h, .inr (0, [.ref q_1, .ref q_3, .ref q_5, .int 0, .int 0])), (q_1, .inl (k_2, 8, .inr (.inr (.inr (.inr (va_up (va_up (va_up (va_up (va_up (va_up (va_up (fun _ => none) 0 (some q_7)) 1 (some q_9)) 2 (some q_11)) 3 (some q_13)) 4 (some q_15)) 5 (some q_17)) 6 (some q_19))))))), (q_3, .inl (k_4, 4, .inr (.inr (.inr (.inr (fun _ => none)))))), (q_5, .inr (1, [.ref q2, .ref q3, .ref q4, .int 0, .int 0, .int 0])), (q2, .inl (kI, 16, .inl (fun _ => 0))), (q3, .inl (kI, 16, .inl (fun _ => 0))), (q4, .inl (kI, 16, .inl (fun _ => 0))), (q_7, .inr (2, [.int 1, .int 1, .int 0, .int 0, .int 0, .int 0, .int 0, .int 0, .int 0])), (q_9, .inr (2, [.int 1, .int 1, .int 0, .int 0, .int 0, .int 0, .int 0, .int 0, .int 0])), (q_11, .inr (2, [.int 1, .int 1, .int 0, .int 0, .int 0, .int 0, .int 0, .int 0, .int 0])), (q_13, .inr (2, [.int 1, .int 1, .int 0, .int 0, .int 0, .int 0, .int 0, .int 0, .int 0])), (q_15, .inr (2, [.int 1, .int 1, .int 0, .int 0, .int 0, .int 0, .int 0, .int 0, .int 0])), (q_17, .inr (2, [.int 1, .int 1, .int 0, .int 0, .int 0, .int 0, .int 0, .int 0, .int 0])), (q_19, .inr (2, [.int 1, .int 1, .int 0, .int 0, .int 0, .int 0, .int 0, .int 0, .int 0])), (q_21, .inr (2, [.int 0, .int 0, .int 0, .int 0, .int 0, .int 0, .int 0, .int 0, .int 0]))] := hD
  refine W.widen (k := 14) (n := 138) (by decide) (by decide) ?_
  refine lv_dup hx hb d_Xinit_58 rfl ?_
  have hP : va_P D classes ([(h, .inr (0, [.ref q_1, .ref q_3, .ref q_5, .int 0, .int 0])), (q_1, .inl (k_2, 8, .inr (.inr (.inr (.inr (va_up (va_up (va_up (va_up (va_up (va_up (va_up (fun _ => none) 0 (some q_7)) 1 (some q_9)) 2 (some q_11)) 3 (some q_13)) 4 (some q_15)) 5 (some q_17)) 6 (some q_19))))))), (q_3, .inl (k_4, 4, .inr (.inr (.inr (.inr (fun _ => none)))))), (q_5, .inr (1, [.ref q2, .ref q3, .ref q4, .int 0, .int 0, .int 0])), (q2, .inl (kI, 16, .inl (fun _ => 0))), (q3, .inl (kI, 16, .inl (fun _ => 0))), (q4, .inl (kI, 16, .inl (fun _ => 0))), (q_7, .inr (2, [.int 1, .int 1, .int 0, .int 0, .int 0, .int 0, .int 0, .int 0, .int 0])), (q_9, .inr (2, [.int 1, .int 1, .int 0, .int 0, .int 0, .int 0, .int 0, .int 0, .int 0])), (q_11, .inr (2, [.int 1, .int 1, .int 0, .int 0, .int 0, .int 0, .int 0, .int 0, .int 0])), (q_13, .inr (2, [.int 1, .int 1, .int 0, .int 0, .int 0, .int 0, .int 0, .int 0, .int 0])), (q_15, .inr (2, [.int 1, .int 1, .int 0, .int 0, .int 0, .int 0, .int 0, .int 0, .int 0])), (q_17, .inr (2, [.int 1, .int 1, .int 0, .int 0, .int 0, .int 0, .int 0, .int 0, .int 0])), (q_19, .inr (2, [.int 1, .int 1, .int 0, .int 0, .int 0, .int 0, .int 0, .int 0, .int 0]))] ++ wT1 q_21 z0) H := hP
  have hD : va_D A ([(h, .inr (0, [.ref q_1, .ref q_3, .ref q_5, .int 0, .int 0])), (q_1, .inl (k_2, 8, .inr (.inr (.inr (.inr (va_up (va_up (va_up (va_up (va_up (va_up (va_up (fun _ => none) 0 (some q_7)) 1 (some q_9)) 2 (some q_11)) 3 (some q_13)) 4 (some q_15)) 5 (some q_17)) 6 (some q_19))))))), (q_3, .inl (k_4, 4, .inr (.inr (.inr (.inr (fun _ => none)))))), (q_5, .inr (1, [.ref q2, .ref q3, .ref q4, .int 0, .int 0, .int 0])), (q2, .inl (kI, 16, .inl (fun _ => 0))), (q3, .inl (kI, 16, .inl (fun _ => 0))), (q4, .inl (kI, 16, .inl (fun _ => 0))), (q_7, .inr (2, [.int 1, .int 1, .int 0, .int 0, .int 0, .int 0, .int 0, .int 0, .int 0])), (q_9, .inr (2, [.int 1, .int 1, .int 0, .int 0, .int 0, .int 0, .int 0, .int 0, .int 0])), (q_11, .inr (2, [.int 1, .int 1, .int 0, .int 0, .int 0, .int 0, .int 0, .int 0, .int 0])), (q_13, .inr (2, [.int 1, .int 1, .int 0, .int 0, .int 0, .int 0, .int 0, .int 0, .int 0])), (q_15, .inr (2, [.int 1, .int 1, .int 0, .int 0, .int 0, .int 0, .int 0, .int 0, .int 0])), (q_17, .inr (2, [.int 1, .int 1, .int 0, .int 0, .int 0, .int 0, .int 0, .int 0, .int 0])), (q_19, .inr (2, [.int 1, .int 1, .int 0, .int 0, .int 0, .int 0, .int 0, .int 0, .int 0]))] ++ wT1 q_21 z0) := hD
  refine k_fIN (rest := [.ref q_21, .int 7, .ref q_1]) hx hb hml hown hG hK hN hA hP hD hS (c_Tinit l D _ q_21 z0) ok_Tinit rfl oi_Tinit L_X_35 ⟨rfl, rfl, by decide, by decide⟩ rfl hl.1 rfl (Nat.le_of_ble_eq_true rfl) ⟨by decide, by decide⟩ d_Xinit_59 (fun H locs hP hD hS => ?_)
  have hP : va_P D classes [(h, .inr (0, [.ref q_1, .ref q_3, .ref q_5, .int 0, .int 0])), (q_1, .inl (k_2, 8, .inr (.inr (.inr (.inr (va_up (va_up (va_up (va_up (va_up (va_up (va_up (fun _ => none) 0 (some q_7)) 1 (some q_9)) 2 (some q_11)) 3 (some q_13)) 4 (some q_15)) 5 (some q_17)) 6 (some q_19))))))), (q_3, .inl (k_4, 4, .inr (.inr (.inr (.inr (fun _ => none)))))), (q_5, .inr (1, [.ref q2, .ref q3, .ref q4, .int 0, .int 0, .int 0])), (q2, .inl (kI, 16, .inl (fun _ => 0))), (q3, .inl (kI, 16, .inl (fun _ => 0))), (q4, .inl (kI, 16, .inl (fun _ => 0))), (q_7, .inr (2, [.int 1, .int 1, .int 0, .int 0, .int 0, .int 0, .int 0, .int 0, .int 0])), (q_9, .inr (2, [.int 1, .int 1, .int 0, .int 0, .int 0, .int 0, .int 0, .int 0, .int 0])), (q_11, .inr (2, [.int 1, .int 1, .int 0, .int 0, .int 0, .int 0, .int 0, .int 0, .int 0])), (q_13, .inr (2, [.int 1, .int 1, .int 0, .int 0, .int 0, .int 0, .int 0, .int 0, .int 0])), (q_15, .inr (2, [.int 1, .int 1, .int 0, .int 0, .int 0, .int 0, .int 0, .int 0, .int 0])), (q_17, .inr (2, [.int 1, .int 1, .int 0, .int 0, .int 0, .int 0, .int 0, .int 0, .int 0])), (q_19, .inr (2, [.int 1, .int 1, .int 0, .int 0, .int 0, .int 0, .int 0, .int 0, .int 0])), (q_21, .inr (2, [.int 1, .int 1, .int 0, .int 0, .int 0, .int 0, .int 0, .int 0, .int 0]))] H := hP
  have hD : va_D A [(h, .inr (0, [.ref q_1, .ref q_3, .ref q_5, .int 0, .int 0])), (q_1, .inl (k_2, 8, .inr (.inr (.inr (.inr (va_up (va_up (va_up (va_up (va_up (va_up (va_up (fun _ => none) 0 (some q_7)) 1 (some q_9)) 2 (some q_11)) 3 (some q_13)) 4 (some q_15)) 5 (some q_17)) 6 (some q_19))))))), (q_3, .inl (k_4, 4, .inr (.inr (.inr (.inr (fun _ => none)))))), (q_5, .inr (1, [.ref q2, .ref q3, .ref q4, .int 0, .int 0, .int 0])), (q2, .inl (kI, 16, .inl (fun _ => 0))), (q3, .inl (kI, 16, .inl (fun _ => 0))), (q4, .inl (kI, 16, .inl (fun _ => 0))), (q_7, .inr (2, [.int 1, .int 1, .int 0, .int 0, .int 0, .int 0, .int 0, .int 0, .int 0])), (q_9, .inr (2, [.int 1, .int 1, .int 0, .int 0, .int 0, .int 0, .int 0, .int 0, .int 0])), (q_11, .inr (2, [.int 1, .int 1, .int 0, .int 0, .int 0, .int 0, .int 0, .int 0, .int 0])), (q_13, .inr (2, [.int 1, .int 1, .int 0, .int 0, .int 0, .int 0, .int 0, .int 0, .int 0])), (q_15, .inr (2, [.int 1, .int 1, .int 0, .int 0, .int 0, .int 0, .int 0, .int 0, .int 0])), (q_17, .inr (2, [.int 1, .int 1, .int 0, .int 0, .int 0, .int 0, .int 0, .int 0, .int 0])), (q_19, .inr (2, [.int 1, .int 1, .int 0, .int 0, .int 0, .int 0, .int 0, .int 0, .int 0])), (q_21, .inr (2, [.int 1, .int 1, .int 0, .int 0, .int 0, .int 0, .int 0, .int 0, .int 0]))] := hD
  refine va_astq (i := 7) hx hb hK hP hD hS 1 0 14 2 rfl rfl rfl rfl (vp_in_nI (n := 7) (by decide) (by decide)) d_Xinit_62 (fun H locs hP hD hS => ?_)
  have hP : va_P D classes [(h, .inr (0, [.ref q_1, .ref q_3, .ref q_5, .int 0, .int 0])), (q_1, .inl (k_2, 8, .inr (.inr (.inr (.inr (va_up (va_up (va_up (va_up (va_up (va_up (va_up (va_up (fun _ => none) 0 (some q_7)) 1 (some q_9)) 2 (some q_11)) 3 (some q_13)) 4 (some q_15)) 5 (some q_17)) 6 (some q_19)) 7 (some q_21))))))), (q_3, .inl (k_4, 4, .inr (.inr (.inr (.inr (fun _ => none)))))), (q_5, .inr (1, [.ref q2, .ref q3, .ref q4, .int 0, .int 0, .int 0])), (q2, .inl (kI, 16, .inl (fun _ => 0))), (q3, .inl (kI, 16, .inl (fun _ => 0))), (q4, .inl (kI, 16, .inl (fun _ => 0))), (q_7, .inr (2, [.int 1, .int 1, .int 0, .int 0, .int 0, .int 0, .int 0, .int 0, .int 0])), (q_9, .inr (2, [.int 1, .int 1, .int 0, .int 0, .int 0, .int 0, .int 0, .int 0, .int 0])), (q_11, .inr (2, [.int 1, .int 1, .int 0, .int 0, .int 0, .int 0, .int 0, .int 0, .int 0])), (q_13, .inr (2, [.int 1, .int 1, .int 0, .int 0, .int 0, .int 0, .int 0, .int 0, .int 0])), (q_15, .inr (2, [.int 1, .int 1, .int 0, .int 0, .int 0, .int 0, .int 0, .int 0, .int 0])), (q_17, .inr (2, [.int 1, .int 1, .int 0, .int 0, .int 0, .int 0, .int 0, .int 0, .int 0])), (q_19, .inr (2, [.int 1, .int 1, .int 0, .int 0, .int 0, .int 0, .int 0, .int 0, .int 0])), (q_21, .inr (2, [.int 1, .int 1, .int 0, .int 0, .int 0, .int 0, .int 0, .int 0, .int 0]))] H := hP
  have hD : va_D A [(h, .inr (0, [.ref q_1, .ref q_3, .ref q_5, .int 0, .int 0])), (q_1, .inl (k_2, 8, .inr (.inr (.inr (.inr (va_up (va_up (va_up (va_up (va_up (va_up (va_up (va_up (fun _ => none) 0 (some q_7)) 1 (some q_9)) 2 (some q_11)) 3 (some q_13)) 4 (some q_15)) 5 (some q_17)) 6 (some q_19)) 7 (some q_21))))))), (q_3, .inl (k_4, 4, .inr (.inr (.inr (.inr (fun _ => none)))))), (q_5, .inr (1, [.ref q2, .ref q3, .ref q4, .int 0, .int 0, .int 0])), (q2, .inl (kI, 16, .inl (fun _ => 0))), (q3, .inl (kI, 16, .inl (fun _ => 0))), (q4, .inl (kI, 16, .inl (fun _ => 0))), (q_7, .inr (2, [.int 1, .int 1, .int 0, .int 0, .int 0, .int 0, .int 0, .int 0, .int 0])), (q_9, .inr (2, [.int 1, .int 1, .int 0, .int 0, .int 0, .int 0, .int 0, .int 0, .int 0])), (q_11, .inr (2, [.int 1, .int 1, .int 0, .int 0, .int 0, .int 0, .int 0, .int 0, .int 0])), (q_13, .inr (2, [.int 1, .int 1, .int 0, .int 0, .int 0, .int 0, .int 0, .int 0, .int 0])), (q_15, .inr (2, [.int 1, .int 1, .int 0, .int 0, .int 0, .int 0, .int 0, .int 0, .int 0])), (q_17, .inr (2, [.int 1, .int 1, .int 0, .int 0, .int 0, .int 0, .int 0, .int 0, .int 0])), (q_19, .inr (2, [.int 1, .int 1, .int 0, .int 0, .int 0, .int 0, .int 0, .int 0, .int 0])), (q_21, .inr (2, [.int 1, .int 1, .int 0, .int 0, .int 0, .int 0, .int 0, .int 0, .int 0]))] := hD
  refine lv_iinc (v := 8) (lv' := [(1, .int 8), (0, .ref h)]) hx hb d_Xinit_63 hl (k := 0) rfl (by decide) (by decide) rfl (fun ls hl => ?_)
  refine lv_goto (tgt := 44) hx hb d_Xinit_66 (by decide) ?_
  refine lv_iload_n hx hb d_Xinit_44 rfl (lv_at hl 0 rfl) ?_
  refine lv_bipush (v := 8) hx hb d_Xinit_45 (by decide) ?_
  refine lv_icmp_ge (tgt := 69) hx hb d_Xinit_47 (by decide) (fun _ => ?_) (fun c_22 => absurd (by decide) c_22)
  refine lv_iconst (v := 0) hx hb d_Xinit_69 (by decide) ?_
  refine lv_istore_n (lv' := [(1, .int 0), (0, .ref h)]) hx hb d_Xinit_70 rfl hl (by decide) rfl (fun ls hl => ?_)
  refine lv_iload_n hx hb d_Xinit_71 rfl (lv_at hl 0 rfl) ?_
  refine lv_iconst (v := 4) hx hb d_Xinit_72 (by decide) ?_
  refine lv_icmp_ge (tgt := 95) hx hb d_Xinit_73 (by decide) (fun c_23 => absurd c_23 (by decide)) (fun _ => ?_)
  refine lv_aload_n hx hb d_Xinit_76 rfl (lv_at hl 1 rfl) ?_
  refine va_get (v := .ref q_3) hx hb hG i_X hown hK hP 0 rfl rfl 1 (by decide) (hG _ L_X_17) (fun _ h9 => h9) rfl d_Xinit_77 ?_
  refine lv_iload_n hx hb d_Xinit_80 rfl (lv_at hl 0 rfl) ?_
  refine va_new (ci := 3) (fs := [.int 0, .int 0, .int 0, .int 0, .int 0, .int 0]) hx hb hG i_G ft_G ft_G_ok hown (hG _ L_X_15) (hG _ inst_G) (hG _ ini_G) hK hP hD hS hA rfl (fun j hj => by rcases (show j = 0 ∨ j = 1 ∨ j = 2 ∨ j = 3 ∨ j = 4 ∨ j = 5 by omega) with rfl | rfl | rfl | rfl | rfl | rfl <;> rfl) (by decide) (by decide) d_Xinit_81 (fun q_24 H hP hD hS => ?_)
  have hP : va_P D classes [(h, .inr (0, [.ref q_1, .ref q_3, .ref q_5, .int 0, .int 0])), (q_1, .inl (k_2, 8, .inr (.inr (.inr (.inr (va_up (va_up (va_up (va_up (va_up (va_up (va_up (va_up (fun _ => none) 0 (some q_7)) 1 (some q_9)) 2 (some q_11)) 3 (some q_13)) 4 (some q_15)) 5 (some q_17)) 6 (some q_19)) 7 (some q_21))))))), (q_3, .inl (k_4, 4, .inr (.inr (.inr (.inr (fun _ => none)))))), (q_5, .inr (1, [.ref q2, .ref q3, .ref q4, .int 0, .int 0, .int 0])), (q2, .inl (kI, 16, .inl (fun _ => 0))), (q3, .inl (kI, 16, .inl (fun _ => 0))), (q4, .inl (kI, 16, .inl (fun _ => 0))), (q_7, .inr (2, [.int 1, .int 1, .int 0, .int 0, .int 0, .int 0, .int 0, .int 0, .int 0])), (q_9, .inr (2, [.int 1, .int 1, .int 0, .int 0, .int 0, .int 0, .int 0, .int 0, .int 0])), (q_11, .inr (2, [.int 1, .int 1, .int 0, .int 0, .int 0, .int 0, .int 0, .int 0, .int 0])), (q_13, .inr (2, [.int 1, .int 1, .int 0, .int 0, .int 0, .int 0, .int 0, .int 0, .int 0])), (q_15, .inr (2, [.int 1, .int 1, .int 0, .int 0, .int 0, .int 0, .int 0, .int 0, .int 0])), (q_17, .inr (2, [.int 1, .int 1, .int 0, .int 0, .int 0, .int 0, .int 0, .int 0, .int 0])), (q_19, .inr (2, [.int 1, .int 1, .int 0, .int 0, .int 0, .int 0, .int 0, .int 0, .int 0])), (q_21, .inr (2, [.int 1, .int 1, .int 0, .int 0, .int 0, .int 0, .int 0, .int 0, .int 0])), (q_24, .inr (3, [.int 0, .int 0, .int 0, .int 0, .int 0, .int 0]))] H := hP
  have hD : va_D A [(h, .inr (0, [.ref q_1, .ref q_3, .ref q_5, .int 0, .int 0])), (q_1, .inl (k_2, 8, .inr (.inr (.inr (.inr (va_up (va_up (va_up (va_up (va_up (va_up (va_up (va_up (fun _ => none) 0 (some q_7)) 1 (some q_9)) 2 (some q_11)) 3 (some q_13)) 4 (some q_15)) 5 (some q_17)) 6 (some q_19)) 7 (some q_21))))))), (q_3, .inl (k_4, 4, .inr (.inr (.inr (.inr (fun _ => none)))))), (q_5, .inr (1, [.ref q2, .ref q3, .ref q4, .int 0, .int 0, .int 0])), (q2, .inl (kI, 16, .inl (fun _ => 0))), (q3, .inl (kI, 16, .inl (fun _ => 0))), (q4, .inl (kI, 16, .inl (fun _ => 0))), (q_7, .inr (2, [.int 1, .int 1, .int 0, .int 0, .int 0, .int 0, .int 0, .int 0, .int 0])), (q_9, .inr (2, [.int 1, .int 1, .int 0, .int 0, .int 0, .int 0, .int 0, .int 0, .int 0])), (q_11, .inr (2, [.int 1, .int 1, .int 0, .int 0, .int 0, .int 0, .int 0, .int 0, .int 0])), (q_13, .inr (2, [.int 1, .int 1, .int 0, .int 0, .int 0, .int 0, .int 0, .int 0, .int 0])), (q_15, .inr (2, [.int 1, .int 1, .int 0, .int 0, .int 0, .int 0, .int 0, .int 0, .int 0])), (q_17, .inr (2, [.int 1, .int 1, .int 0, .int 0, .int 0, .int 0, .int 0, .int 0, .int 0])), (q_19, .inr (2, [.int 1, .int 1, .int 0, .int 0, .int 0, .int 0, .int 0, .int 0, .int 0])), (q_21, .inr (2, [.int 1, .int 1, .int 0, .int 0, .int 0, .int 0, .int 0, .int 0, .int 0])), (q_24, .inr (3, [.int 0, .int 0, .int 0, .int 0, .int 0, .int 0]))] := hD
  refine W.widen (k := 15) (n := 144) (by decide) (by decide) ?_
  refine lv_dup hx hb d_Xinit_84 rfl ?_
  have hP : va_P D classes ([(h, .inr (0, [.ref q_1, .ref q_3, .ref q_5, .int 0, .int 0])), (q_1, .inl (k_2, 8, .inr (.inr (.inr (.inr (va_up (va_up (va_up (va_up (va_up (va_up (va_up (va_up (fun _ => none) 0 (some q_7)) 1 (some q_9)) 2 (some q_11)) 3 (some q_13)) 4 (some q_15)) 5 (some q_17)) 6 (some q_19)) 7 (some q_21))))))), (q_3, .inl (k_4, 4, .inr (.inr (.inr (.inr (fun _ => none)))))), (q_5, .inr (1, [.ref q2, .ref q3, .ref q4, .int 0, .int 0, .int 0])), (q2, .inl (kI, 16, .inl (fun _ => 0))), (q3, .inl (kI, 16, .inl (fun _ => 0))), (q4, .inl (kI, 16, .inl (fun _ => 0))), (q_7, .inr (2, [.int 1, .int 1, .int 0, .int 0, .int 0, .int 0, .int 0, .int 0, .int 0])), (q_9, .inr (2, [.int 1, .int 1, .int 0, .int 0, .int 0, .int 0, .int 0, .int 0, .int 0])), (q_11, .inr (2, [.int 1, .int 1, .int 0, .int 0, .int 0, .int 0, .int 0, .int 0, .int 0])), (q_13, .inr (2, [.int 1, .int 1, .int 0, .int 0, .int 0, .int 0, .int 0, .int 0, .int 0])), (q_15, .inr (2, [.int 1, .int 1, .int 0, .int 0, .int 0, .int 0, .int 0, .int 0, .int 0])), (q_17, .inr (2, [.int 1, .int 1, .int 0, .int 0, .int 0, .int 0, .int 0, .int 0, .int 0])), (q_19, .inr (2, [.int 1, .int 1, .int 0, .int 0, .int 0, .int 0, .int 0, .int 0, .int 0])), (q_21, .inr (2, [.int 1, .int 1, .int 0, .int 0, .int 0, .int 0, .int 0, .int 0, .int 0]))] ++ wG1 q_24 z0) H := hP
  have hD : va_D A ([(h, .inr (0, [.ref q_1, .ref q_3, .ref q_5, .int 0, .int 0])), (q_1, .inl (k_2, 8, .inr (.inr (.inr (.inr (va_up (va_up (va_up (va_up (va_up (va_up (va_up (va_up (fun _ => none) 0 (some q_7)) 1 (some q_9)) 2 (some q_11)) 3 (some q_13)) 4 (some q_15)) 5 (some q_17)) 6 (some q_19)) 7 (some q_21))))))), (q_3, .inl (k_4, 4, .inr (.inr (.inr (.inr (fun _ => none)))))), (q_5, .inr (1, [.ref q2, .ref q3, .ref q4, .int 0, .int 0, .int 0])), (q2, .inl (kI, 16, .inl (fun _ => 0))), (q3, .inl (kI, 16, .inl (fun _ => 0))), (q4, .inl (kI, 16, .inl (fun _ => 0))), (q_7, .inr (2, [.int 1, .int 1, .int 0, .int 0, .int 0, .int 0, .int 0, .int 0, .int 0])), (q_9, .inr (2, [.int 1, .int 1, .int 0, .int 0, .int 0, .int 0, .int 0, .int 0, .int 0])), (q_11, .inr (2, [.int 1, .int 1, .int 0, .int 0, .int 0, .int 0, .int 0, .int 0, .int 0])), (q_13, .inr (2, [.int 1, .int 1, .int 0, .int 0, .int 0, .int 0, .int 0, .int 0, .int 0])), (q_15, .inr (2, [.int 1, .int 1, .int 0, .int 0, .int 0, .int 0, .int 0, .int 0, .int 0])), (q_17, .inr (2, [.int 1, .int 1, .int 0, .int 0, .int 0, .int 0, .int 0, .int 0, .int 0])), (q_19, .inr (2, [.int 1, .int 1, .int 0, .int 0, .int 0, .int 0, .int 0, .int 0, .int 0])), (q_21, .inr (2, [.int 1, .int 1, .int 0, .int 0, .int 0, .int 0, .int 0, .int 0, .int 0]))] ++ wG1 q_24 z0) := hD
  refine k_fIN (rest := [.ref q_24, .int 0, .ref q_3]) hx hb hml hown hG hK hN hA hP hD hS (c_Ginit l D _ q_24 z0) ok_Ginit rfl oi_Ginit L_X_36 ⟨rfl, rfl, by decide, by decide⟩ rfl hl.1 rfl (Nat.le_of_ble_eq_true rfl) ⟨by decide, by decide⟩ d_Xinit_85 (fun H locs hP hD hS => ?_)
  have hP : va_P D classes [(h, .inr (0, [.ref q_1, .ref q_3, .ref q_5, .int 0, .int 0])), (q_1, .inl (k_2, 8, .inr (.inr (.inr (.inr (va_up (va_up (va_up (va_up (va_up (va_up (va_up (va_up (fun _ => none) 0 (some q_7)) 1 (some q_9)) 2 (some q_11)) 3 (some q_13)) 4 (some q_15)) 5 (some q_17)) 6 (some q_19)) 7 (some q_21))))))), (q_3, .inl (k_4, 4, .inr (.inr (.inr (.inr (fun _ => none)))))), (q_5, .inr (1, [.ref q2, .ref q3, .ref q4, .int 0, .int 0, .int 0])), (q2, .inl (kI, 16, .inl (fun _ => 0))), (q3, .inl (kI, 16, .inl (fun _ => 0))), (q4, .inl (kI, 16, .inl (fun _ => 0))), (q_7, .inr (2, [.int 1, .int 1, .int 0, .int 0, .int 0, .int 0, .int 0, .int 0, .int 0])), (q_9, .inr (2, [.int 1, .int 1, .int 0, .int 0, .int 0, .int 0, .int 0, .int 0, .int 0])), (q_11, .inr (2, [.int 1, .int 1, .int 0, .int 0, .int 0, .int 0, .int 0, .int 0, .int 0])), (q_13, .inr (2, [.int 1, .int 1, .int 0, .int 0, .int 0, .int 0, .int 0, .int 0, .int 0])), (q_15, .inr (2, [.int 1, .int 1, .int 0, .int 0, .int 0, .int 0, .int 0, .int 0, .int 0])), (q_17, .inr (2, [.int 1, .int 1, .int 0, .int 0, .int 0, .int 0, .int 0, .int 0, .int 0])), (q_19, .inr (2, [.int 1, .int 1, .int 0, .int 0, .int 0, .int 0, .int 0, .int 0, .int 0])), (q_21, .inr (2, [.int 1, .int 1, .int 0, .int 0, .int 0, .int 0, .int 0, .int 0, .int 0])), (q_24, .inr (3, [.int 0, .int 1, .int 0, .int 0, .int 0, .int (-1)]))] H := hP
  have hD : va_D A [(h, .inr (0, [.ref q_1, .ref q_3, .ref q_5, .int 0, .int 0])), (q_1, .inl (k_2, 8, .inr (.inr (.inr (.inr (va_up (va_up (va_up (va_up (va_up (va_up (va_up (va_up (fun _ => none) 0 (some q_7)) 1 (some q_9)) 2 (some q_11)) 3 (some q_13)) 4 (some q_15)) 5 (some q_17)) 6 (some q_19)) 7 (some q_21))))))), (q_3, .inl (k_4, 4, .inr (.inr (.inr (.inr (fun _ => none)))))), (q_5, .inr (1, [.ref q2, .ref q3, .ref q4, .int 0, .int 0, .int 0])), (q2, .inl (kI, 16, .inl (fun _ => 0))), (q3, .inl (kI, 16, .inl (fun _ => 0))), (q4, .inl (kI, 16, .inl (fun _ => 0))), (q_7, .inr (2, [.int 1, .int 1, .int 0, .int 0, .int 0, .int 0, .int 0, .int 0, .int 0])), (q_9, .inr (2, [.int 1, .int 1, .int 0, .int 0, .int 0, .int 0, .int 0, .int 0, .int 0])), (q_11, .inr (2, [.int 1, .int 1, .int 0, .int 0, .int 0, .int 0, .int 0, .int 0, .int 0])), (q_13, .inr (2, [.int 1, .int 1, .int 0, .int 0, .int 0, .int 0, .int 0, .int 0, .int 0])), (q_15, .inr (2, [.int 1, .int 1, .int 0, .int 0, .int 0, .int 0, .int 0, .int 0, .int 0])), (q_17, .inr (2, [.int 1, .int 1, .int 0, .int 0, .int 0, .int 0, .int 0, .int 0, .int 0])), (q_19, .inr (2, [.int 1, .int 1, .int 0, .int 0, .int 0, .int 0, .int 0, .int 0, .int 0])), (q_21, .inr (2, [.int 1, .int 1, .int 0, .int 0, .int 0, .int 0, .int 0, .int 0, .int 0])), (q_24, .inr (3, [.int 0, .int 1, .int 0, .int 0, .int 0, .int (-1)]))] := hD
  refine va_astq (i := 0) hx hb hK hP hD hS 2 1 15 3 rfl rfl rfl rfl (vp_in_nI (n := 0) (by decide) (by decide)) d_Xinit_88 (fun H locs hP hD hS => ?_)
  have hP : va_P D classes [(h, .inr (0, [.ref q_1, .ref q_3, .ref q_5, .int 0, .int 0])), (q_1, .inl (k_2, 8, .inr (.inr (.inr (.inr (va_up (va_up (va_up (va_up (va_up (va_up (va_up (va_up (fun _ => none) 0 (some q_7)) 1 (some q_9)) 2 (some q_11)) 3 (some q_13)) 4 (some q_15)) 5 (some q_17)) 6 (some q_19)) 7 (some q_21))))))), (q_3, .inl (k_4, 4, .inr (.inr (.inr (.inr (va_up (fun _ => none) 0 (some q_24))))))), (q_5, .inr (1, [.ref q2, .ref q3, .ref q4, .int 0, .int 0, .int 0])), (q2, .inl (kI, 16, .inl (fun _ => 0))), (q3, .inl (kI, 16, .inl (fun _ => 0))), (q4, .inl (kI, 16, .inl (fun _ => 0))), (q_7, .inr (2, [.int 1, .int 1, .int 0, .int 0, .int 0, .int 0, .int 0, .int 0, .int 0])), (q_9, .inr (2, [.int 1, .int 1, .int 0, .int 0, .int 0, .int 0, .int 0, .int 0, .int 0])), (q_11, .inr (2, [.int 1, .int 1, .int 0, .int 0, .int 0, .int 0, .int 0, .int 0, .int 0])), (q_13, .inr (2, [.int 1, .int 1, .int 0, .int 0, .int 0, .int 0, .int 0, .int 0, .int 0])), (q_15, .inr (2, [.int 1, .int 1, .int 0, .int 0, .int 0, .int 0, .int 0, .int 0, .int 0])), (q_17, .inr (2, [.int 1, .int 1, .int 0, .int 0, .int 0, .int 0, .int 0, .int 0, .int 0])), (q_19, .inr (2, [.int 1, .int 1, .int 0, .int 0, .int 0, .int 0, .int 0, .int 0, .int 0])), (q_21, .inr (2, [.int 1, .int 1, .int 0, .int 0, .int 0, .int 0, .int 0, .int 0, .int 0])), (q_24, .inr (3, [.int 0, .int 1, .int 0, .int 0, .int 0, .int (-1)]))] H := hP
  have hD : va_D A [(h, .inr (0, [.ref q_1, .ref q_3, .ref q_5, .int 0, .int 0])), (q_1, .inl (k_2, 8, .inr (.inr (.inr (.inr (va_up (va_up (va_up (va_up (va_up (va_up (va_up (va_up (fun _ => none) 0 (some q_7)) 1 (some q_9)) 2 (some q_11)) 3 (some q_13)) 4 (some q_15)) 5 (some q_17)) 6 (some q_19)) 7 (some q_21))))))), (q_3, .inl (k_4, 4, .inr (.inr (.inr (.inr (va_up (fun _ => none) 0 (some q_24))))))), (q_5, .inr (1, [.ref q2, .ref q3, .ref q4, .int 0, .int 0, .int 0])), (q2, .inl (kI, 16, .inl (fun _ => 0))), (q3, .inl (kI, 16, .inl (fun _ => 0))), (q4, .inl (kI, 16, .inl (fun _ => 0))), (q_7, .inr (2, [.int 1, .int 1, .int 0, .int 0, .int 0, .int 0, .int 0, .int 0, .int 0])), (q_9, .inr (2, [.int 1, .int 1, .int 0, .int 0, .int 0, .int 0, .int 0, .int 0, .int 0])), (q_11, .inr (2, [.int 1, .int 1, .int 0, .int 0, .int 0, .int 0, .int 0, .int 0, .int 0])), (q_13, .inr (2, [.int 1, .int 1, .int 0, .int 0, .int 0, .int 0, .int 0, .int 0, .int 0])), (q_15, .inr (2, [.int 1, .int 1, .int 0, .int 0, .int 0, .int 0, .int 0, .int 0, .int 0])), (q_17, .inr (2, [.int 1, .int 1, .int 0, .int 0, .int 0, .int 0, .int 0, .int 0, .int 0])), (q_19, .inr (2, [.int 1, .int 1, .int 0, .int 0, .int 0, .int 0, .int 0, .int 0, .int 0])), (q_21, .inr (2, [.int 1, .int 1, .int 0, .int 0, .int 0, .int 0, .int 0, .int 0, .int 0])), (q_24, .inr (3, [.int 0, .int 1, .int 0, .int 0, .int 0, .int (-1)]))] := hD
  refine lv_iinc (v := 1) (lv' := [(1, .int 1), (0, .ref h)]) hx hb d_Xinit_89 hl (k := 0) rfl (by decide) (by decide) rfl (fun ls hl => ?_)
  refine lv_goto (tgt := 71) hx hb d_Xinit_92 (by decide) ?_
  refine lv_iload_n hx hb d_Xinit_71 rfl (lv_at hl 0 rfl) ?_
  refine lv_iconst (v := 4) hx hb d_Xinit_72 (by decide) ?_
  refine lv_icmp_ge (tgt := 95) hx hb d_Xinit_73 (by decide) (fun c_25 => absurd c_25 (by decide)) (fun _ => ?_)
  refine lv_aload_n hx hb d_Xinit_76 rfl (lv_at hl 1 rfl) ?_
  refine va_get (v := .ref q_3) hx hb hG i_X hown hK hP 0 rfl rfl 1 (by decide) (hG _ L_X_17) (fun _ h9 => h9) rfl d_Xinit_77 ?_
  refine lv_iload_n hx hb d_Xinit_80 rfl (lv_at hl 0 rfl) ?_
  refine va_new (ci := 3) (fs := [.int 0, .int 0, .int 0, .int 0, .int 0, .int 0]) hx hb hG i_G ft_G ft_G_ok hown (hG _ L_X_15) (hG _ inst_G) (hG _ ini_G) hK hP hD hS hA rfl (fun j hj => by rcases (show j = 0 ∨ j = 1 ∨ j = 2 ∨ j = 3 ∨ j = 4 ∨ j = 5 by omega) with rfl | rfl | rfl | rfl | rfl | rfl <;> rfl) (by decide) (by decide) d_Xinit_81 (fun q_26 H hP hD hS => ?_)
  have hP : va_P D classes [(h, .inr (0, [.ref q_1, .ref q_3, .ref q_5, .int 0, .int 0])), (q_1, .inl (k_2, 8, .inr (.inr (.inr (.inr (va_up (va_up (va_up (va_up (va_up (va_up (va_up (va_up (fun _ => none) 0 (some q_7)) 1 (some q_9)) 2 (some q_11)) 3 (some q_13)) 4 (some q_15)) 5 (some q_17)) 6 (some q_19)) 7 (some q_21))))))), (q_3, .inl (k_4, 4, .inr (.inr (.inr (.inr (va_up (fun _ => none) 0 (some q_24))))))), (q_5, .inr (1, [.ref q2, .ref q3, .ref q4, .int 0, .int 0, .int 0])), (q2, .inl (kI, 16, .inl (fun _ => 0))), (q3, .inl (kI, 16, .inl (fun _ => 0))), (q4, .inl (kI, 16, .inl (fun _ => 0))), (q_7, .inr (2, [.int 1, .int 1, .int 0, .int 0, .int 0, .int 0, .int 0, .int 0, .int 0])), (q_9, .inr (2, [.int 1, .int 1, .int 0, .int 0, .int 0, .int 0, .int 0, .int 0, .int 0])), (q_11, .inr (2, [.int 1, .int 1, .int 0, .int 0, .int 0, .int 0, .int 0, .int 0, .int 0])), (q_13, .inr (2, [.int 1, .int 1, .int 0, .int 0, .int 0, .int 0, .int 0, .int 0, .int 0])), (q_15, .inr (2, [.int 1, .int 1, .int 0, .int 0, .int 0, .int 0, .int 0, .int 0, .int 0])), (q_17, .inr (2, [.int 1, .int 1, .int 0, .int 0, .int 0, .int 0, .int 0, .int 0, .int 0])), (q_19, .inr (2, [.int 1, .int 1, .int 0, .int 0, .int 0, .int 0, .int 0, .int 0, .int 0])), (q_21, .inr (2, [.int 1, .int 1, .int 0, .int 0, .int 0, .int 0, .int 0, .int 0, .int 0])), (q_24, .inr (3, [.int 0, .int 1, .int 0, .int 0, .int 0, .int (-1)])), (q_26, .inr (3, [.int 0, .int 0, .int 0, .int 0, .int 0, .int 0]))] H := hP
  have hD : va_D A [(h, .inr (0, [.ref q_1, .ref q_3, .ref q_5, .int 0, .int 0])), (q_1, .inl (k_2, 8, .inr (.inr (.inr (.inr (va_up (va_up (va_up (va_up (va_up (va_up (va_up (va_up (fun _ => none) 0 (some q_7)) 1 (some q_9)) 2 (some q_11)) 3 (some q_13)) 4 (some q_15)) 5 (some q_17)) 6 (some q_19)) 7 (some q_21))))))), (q_3, .inl (k_4, 4, .inr (.inr (.inr (.inr (va_up (fun _ => none) 0 (some q_24))))))), (q_5, .inr (1, [.ref q2, .ref q3, .ref q4, .int 0, .int 0, .int 0])), (q2, .inl (kI, 16, .inl (fun _ => 0))), (q3, .inl (kI, 16, .inl (fun _ => 0))), (q4, .inl (kI, 16, .inl (fun _ => 0))), (q_7, .inr (2, [.int 1, .int 1, .int 0, .int 0, .int 0, .int 0, .int 0, .int 0, .int 0])), (q_9, .inr (2, [.int 1, .int 1, .int 0, .int 0, .int 0, .int 0, .int 0, .int 0, .int 0])), (q_11, .inr (2, [.int 1, .int 1, .int 0, .int 0, .int 0, .int 0, .int 0, .int 0, .int 0])), (q_13, .inr (2, [.int 1, .int 1, .int 0, .int 0, .int 0, .int 0, .int 0, .int 0, .int 0])), (q_15, .inr (2, [.int 1, .int 1, .int 0, .int 0, .int 0, .int 0, .int 0, .int 0, .int 0])), (q_17, .inr (2, [.int 1, .int 1, .int 0, .int 0, .int 0, .int 0, .int 0, .int 0, .int 0])), (q_19, .inr (2, [.int 1, .int 1, .int 0, .int 0, .int 0, .int 0, .int 0, .int 0, .int 0])), (q_21, .inr (2, [.int 1, .int 1, .int 0, .int 0, .int 0, .int 0, .int 0, .int 0, .int 0])), (q_24, .inr (3, [.int 0, .int 1, .int 0, .int 0, .int 0, .int (-1)])), (q_26, .inr (3, [.int 0, .int 0, .int 0, .int 0, .int 0, .int 0]))] := hD
  refine W.widen (k := 16) (n := 150) (by decide) (by decide) ?_
  refine lv_dup hx hb d_Xinit_84 rfl ?_
  have hP : va_P D classes ([(h, .inr (0, [.ref q_1, .ref q_3, .ref q_5, .int 0, .int 0])), (q_1, .inl (k_2, 8, .inr (.inr (.inr (.inr (va_up (va_up (va_up (va_up (va_up (va_up (va_up (va_up (fun _ => none) 0 (some q_7)) 1 (some q_9)) 2 (some q_11)) 3 (some q_13)) 4 (some q_15)) 5 (some q_17)) 6 (some q_19)) 7 (some q_21))))))), (q_3, .inl (k_4, 4, .inr (.inr (.inr (.inr (va_up (fun _ => none) 0 (some q_24))))))), (q_5, .inr (1, [.ref q2, .ref q3, .ref q4, .int 0, .int 0, .int 0])), (q2, .inl (kI, 16, .inl (fun _ => 0))), (q3, .inl (kI, 16, .inl (fun _ => 0))), (q4, .inl (kI, 16, .inl (fun _ => 0))), (q_7, .inr (2, [.int 1, .int 1, .int 0, .int 0, .int 0, .int 0, .int 0, .int 0, .int 0])), (q_9, .inr (2, [.int 1, .int 1, .int 0, .int 0, .int 0, .int 0, .int 0, .int 0, .int 0])), (q_11, .inr (2, [.int 1, .int 1, .int 0, .int 0, .int 0, .int 0, .int 0, .int 0, .int 0])), (q_13, .inr (2, [.int 1, .int 1, .int 0, .int 0, .int 0, .int 0, .int 0, .int 0, .int 0])), (q_15, .inr (2, [.int 1, .int 1, .int 0, .int 0, .int 0, .int 0, .int 0, .int 0, .int 0])), (q_17, .inr (2, [.int 1, .int 1, .int 0, .int 0, .int 0, .int 0, .int 0, .int 0, .int 0])), (q_19, .inr (2, [.int 1, .int 1, .int 0, .int 0, .int 0, .int 0, .int 0, .int 0, .int 0])), (q_21, .inr (2, [.int 1, .int 1, .int 0, .int 0, .int 0, .int 0, .int 0, .int 0, .int 0])), (q_24, .inr (3, [.int 0, .int 1, .int 0, .int 0, .int 0, .int (-1)]))] ++ wG1 q_26 z0) H := hP
  have hD : va_D A ([(h, .inr (0, [.ref q_1, .ref q_3, .ref q_5, .int 0, .int 0])), (q_1, .inl (k_2, 8, .inr (.inr (.inr (.inr (va_up (va_up (va_up (va_up (va_up (va_up (va_up (va_up (fun _ => none) 0 (some q_7)) 1 (some q_9)) 2 (some q_11)) 3 (some q_13)) 4 (some q_15)) 5 (some q_17)) 6 (some q_19)) 7 (some q_21))))))), (q_3, .inl (k_4, 4, .inr (.inr (.inr (.inr (va_up (fun _ => none) 0 (some q_24))))))), (q_5, .inr (1, [.ref q2, .ref q3, .ref q4, .int 0, .int 0, .int 0])), (q2, .inl (kI, 16, .inl (fun _ => 0))), (q3, .inl (kI, 16, .inl (fun _ => 0))), (q4, .inl (kI, 16, .inl (fun _ => 0))), (q_7, .inr (2, [.int 1, .int 1, .int 0, .int 0, .int 0, .int 0, .int 0, .int 0, .int 0])), (q_9, .inr (2, [.int 1, .int 1, .int 0, .int 0, .int 0, .int 0, .int 0, .int 0, .int 0])), (q_11, .inr (2, [.int 1, .int 1, .int 0, .int 0, .int 0, .int 0, .int 0, .int 0, .int 0])), (q_13, .inr (2, [.int 1, .int 1, .int 0, .int 0, .int 0, .int 0, .int 0, .int 0, .int 0])), (q_15, .inr (2, [.int 1, .int 1, .int 0, .int 0, .int 0, .int 0, .int 0, .int 0, .int 0])), (q_17, .inr (2, [.int 1, .int 1, .int 0, .int 0, .int 0, .int 0, .int 0, .int 0, .int 0])), (q_19, .inr (2, [.int 1, .int 1, .int 0, .int 0, .int 0, .int 0, .int 0, .int 0, .int 0])), (q_21, .inr (2, [.int 1, .int 1, .int 0, .int 0, .int 0, .int 0, .int 0, .int 0, .int 0])), (q_24, .inr (3, [.int 0, .int 1, .int 0, .int 0, .int 0, .int (-1)]))] ++ wG1 q_26 z0) := hD
  refine k_fIN (rest := [.ref q_26, .int 1, .ref q_3]) hx hb hml hown hG hK hN hA hP hD hS (c_Ginit l D _ q_26 z0) ok_Ginit rfl oi_Ginit L_X_36 ⟨rfl, rfl, by decide, by decide⟩ rfl hl.1 rfl (Nat.le_of_ble_eq_true rfl) ⟨by decide, by decide⟩ d_Xinit_85 (fun H locs hP hD hS => ?_)
  have hP : va_P D classes [(h, .inr (0, [.ref q_1, .ref q_3, .ref q_5, .int 0, .int 0])), (q_1, .inl (k_2, 8, .inr (.inr (.inr (.inr (va_up (va_up (va_up (va_up (va_up (va_up (va_up (va_up (fun _ => none) 0 (some q_7)) 1 (some q_9)) 2 (some q_11)) 3 (some q_13)) 4 (some q_15)) 5 (some q_17)) 6 (some q_19)) 7 (some q_21))))))), (q_3, .inl (k_4, 4, .inr (.inr (.inr (.inr (va_up (fun _ => none) 0 (some q_24))))))), (q_5, .inr (1, [.ref q2, .ref q3, .ref q4, .int 0, .int 0, .int 0])), (q2, .inl (kI, 16, .inl (fun _ => 0))), (q3, .inl (kI, 16, .inl (fun _ => 0))), (q4, .inl (kI, 16, .inl (fun _ => 0))), (q_7, .inr (2, [.int 1, .int 1, .int 0, .int 0, .int 0, .int 0, .int 0, .int 0, .int 0])), (q_9, .inr (2, [.int 1, .int 1, .int 0, .int 0, .int 0, .int 0, .int 0, .int 0, .int 0])), (q_11, .inr (2, [.int 1, .int 1, .int 0, .int 0, .int 0, .int 0, .int 0, .int 0, .int 0])), (q_13, .inr (2, [.int 1, .int 1, .int 0, .int 0, .int 0, .int 0, .int 0, .int 0, .int 0])), (q_15, .inr (2, [.int 1, .int 1, .int 0, .int 0, .int 0, .int 0, .int 0, .int 0, .int 0])), (q_17, .inr (2, [.int 1, .int 1, .int 0, .int 0, .int 0, .int 0, .int 0, .int 0, .int 0])), (q_19, .inr (2, [.int 1, .int 1, .int 0, .int 0, .int 0, .int 0, .int 0, .int 0, .int 0])), (q_21, .inr (2, [.int 1, .int 1, .int 0, .int 0, .int 0, .int 0, .int 0, .int 0, .int 0])), (q_24, .inr (3, [.int 0, .int 1, .int 0, .int 0, .int 0, .int (-1)])), (q_26, .inr (3, [.int 0, .int 1, .int 0, .int 0, .int 0, .int (-1)]))] H := hP
  have hD : va_D A [(h, .inr (0, [.ref q_1, .ref q_3, .ref q_5, .int 0, .int 0])), (q_1, .inl (k_2, 8, .inr (.inr (.inr (.inr (va_up (va_up (va_up (va_up (va_up (va_up (va_up (va_up (fun _ => none) 0 (some q_7)) 1 (some q_9)) 2 (some q_11)) 3 (some q_13)) 4 (some q_15)) 5 (some q_17)) 6 (some q_19)) 7 (some q_21))))))), (q_3, .inl (k_4, 4, .inr (.inr (.inr (.inr (va_up (fun _ => none) 0 (some q_24))))))), (q_5, .inr (1, [.ref q2, .ref q3, .ref q4, .int 0, .int 0, .int 0])), (q2, .inl (kI, 16, .inl (fun _ => 0))), (q3, .inl (kI, 16, .inl (fun _ => 0))), (q4, .inl (kI, 16, .inl (fun _ => 0))), (q_7, .inr (2, [.int 1, .int 1, .int 0, .int 0, .int 0, .int 0, .int 0, .int 0, .int 0])), (q_9, .inr (2, [.int 1, .int 1, .int 0, .int 0, .int 0, .int 0, .int 0, .int 0, .int 0])), (q_11, .inr (2, [.int 1, .int 1, .int 0, .int 0, .int 0, .int 0, .int 0, .int 0, .int 0])), (q_13, .inr (2, [.int 1, .int 1, .int 0, .int 0, .int 0, .int 0, .int 0, .int 0, .int 0])), (q_15, .inr (2, [.int 1, .int 1, .int 0, .int 0, .int 0, .int 0, .int 0, .int 0, .int 0])), (q_17, .inr (2, [.int 1, .int 1, .int 0, .int 0, .int 0, .int 0, .int 0, .int 0, .int 0])), (q_19, .inr (2, [.int 1, .int 1, .int 0, .int 0, .int 0, .int 0, .int 0, .int 0, .int 0])), (q_21, .inr (2, [.int 1, .int 1, .int 0, .int 0, .int 0, .int 0, .int 0, .int 0, .int 0])), (q_24, .inr (3, [.int 0, .int 1, .int 0, .int 0, .int 0, .int (-1)])), (q_26, .inr (3, [.int 0, .int 1, .int 0, .int 0, .int 0, .int (-1)]))] := hD
  refine va_astq (i := 1) hx hb hK hP hD hS 2 1 16 3 rfl rfl rfl rfl (vp_in_nI (n := 1) (by decide) (by decide)) d_Xinit_88 (fun H locs hP hD hS => ?_)
  have hP : va_P D classes [(h, .inr (0, [.ref q_1, .ref q_3, .ref q_5, .int 0, .int 0])), (q_1, .inl (k_2, 8, .inr (.inr (.inr (.inr (va_up (va_up (va_up (va_up (va_up (va_up (va_up (va_up (fun _ => none) 0 (some q_7)) 1 (some q_9)) 2 (some q_11)) 3 (some q_13)) 4 (some q_15)) 5 (some q_17)) 6 (some q_19)) 7 (some q_21))))))), (q_3, .inl (k_4, 4, .inr (.inr (.inr (.inr (va_up (va_up (fun _ => none) 0 (some q_24)) 1 (some q_26))))))), (q_5, .inr (1, [.ref q2, .ref q3, .ref q4, .int 0, .int 0, .int 0])), (q2, .inl (kI, 16, .inl (fun _ => 0))), (q3, .inl (kI, 16, .inl (fun _ => 0))), (q4, .inl (kI, 16, .inl (fun _ => 0))), (q_7, .inr (2, [.int 1, .int 1, .int 0, .int 0, .int 0, .int 0, .int 0, .int 0, .int 0])), (q_9, .inr (2, [.int 1, .int 1, .int 0, .int 0, .int 0, .int 0, .int 0, .int 0, .int 0])), (q_11, .inr (2, [.int 1, .int 1, .int 0, .int 0, .int 0, .int 0, .int 0, .int 0, .int 0])), (q_13, .inr (2, [.int 1, .int 1, .int 0, .int 0, .int 0, .int 0, .int 0, .int 0, .int 0])), (q_15, .inr (2, [.int 1, .int 1, .int 0, .int 0, .int 0, .int 0, .int 0, .int 0, .int 0])), (q_17, .inr (2, [.int 1, .int 1, .int 0, .int 0, .int 0, .int 0, .int 0, .int 0, .int 0])), (q_19, .inr (2, [.int 1, .int 1, .int 0, .int 0, .int 0, .int 0, .int 0, .int 0, .int 0])), (q_21, .inr (2, [.int 1, .int 1, .int 0, .int 0, .int 0, .int 0, .int 0, .int 0, .int 0])), (q_24, .inr (3, [.int 0, .int 1, .int 0, .int 0, .int 0, .int (-1)])), (q_26, .inr (3, [.int 0, .int 1, .int 0, .int 0, .int 0, .int (-1)]))] H := hP
  have hD : va_D A [(h, .inr (0, [.ref q_1, .ref q_3, .ref q_5, .int 0, .int 0])), (q_1, .inl (k_2, 8, .inr (.inr (.inr (.inr (va_up (va_up (va_up (va_up (va_up (va_up (va_up (va_up (fun _ => none) 0 (some q_7)) 1 (some q_9)) 2 (some q_11)) 3 (some q_13)) 4 (some q_15)) 5 (some q_17)) 6 (some q_19)) 7 (some q_21))))))), (q_3, .inl (k_4, 4, .inr (.inr (.inr (.inr (va_up (va_up (fun _ => none) 0 (some q_24)) 1 (some q_26))))))), (q_5, .inr (1, [.ref q2, .ref q3, .ref q4, .int 0, .int 0, .int 0])), (q2, .inl (kI, 16, .inl (fun _ => 0))), (q3, .inl (kI, 16, .inl (fun _ => 0))), (q4, .inl (kI, 16, .inl (fun _ => 0))), (q_7, .inr (2, [.int 1, .int 1, .int 0, .int 0, .int 0, .int 0, .int 0, .int 0, .int 0])), (q_9, .inr (2, [.int 1, .int 1, .int 0, .int 0, .int 0, .int 0, .int 0, .int 0, .int 0])), (q_11, .inr (2, [.int 1, .int 1, .int 0, .int 0, .int 0, .int 0, .int 0, .int 0, .int 0])), (q_13, .inr (2, [.int 1, .int 1, .int 0, .int 0, .int 0, .int 0, .int 0, .int 0, .int 0])), (q_15, .inr (2, [.int 1, .int 1, .int 0, .int 0, .int 0, .int 0, .int 0, .int 0, .int 0])), (q_17, .inr (2, [.int 1, .int 1, .int 0, .int 0, .int 0, .int 0, .int 0, .int 0, .int 0])), (q_19, .inr (2, [.int 1, .int 1, .int 0, .int 0, .int 0, .int 0, .int 0, .int 0, .int 0])), (q_21, .inr (2, [.int 1, .int 1, .int 0, .int 0, .int 0, .int 0, .int 0, .int 0, .int 0])), (q_24, .inr (3, [.int 0, .int 1, .int 0, .int 0, .int 0, .int (-1)])), (q_26, .inr (3, [.int 0, .int 1, .int 0, .int 0, .int 0, .int (-1)]))] := hD
  refine lv_iinc (v := 2) (lv' := [(1, .int 2), (0, .ref h)]) hx hb d_Xinit_89 hl (k := 0) rfl (by decide) (by decide) rfl (fun ls hl => ?_)
  refine lv_goto (tgt := 71) hx hb d_Xinit_92 (by decide) ?_
  refine lv_iload_n hx hb d_Xinit_71 rfl (lv_at hl 0 rfl) ?_
  refine lv_iconst (v := 4) hx hb d_Xinit_72 (by decide) ?_
  refine lv_icmp_ge (tgt := 95) hx hb d_Xinit_73 (by decide) (fun c_27 => absurd c_27 (by decide)) (fun _ => ?_)
  refine lv_aload_n hx hb d_Xinit_76 rfl (lv_at hl 1 rfl) ?_
  refine va_get (v := .ref q_3) hx hb hG i_X hown hK hP 0 rfl rfl 1 (by decide) (hG _ L_X_17) (fun _ h9 => h9) rfl d_Xinit_77 ?_
  refine lv_iload_n hx hb d_Xinit_80 rfl (lv_at hl 0 rfl) ?_
  refine va_new (ci := 3) (fs := [.int 0, .int 0, .int 0, .int 0, .int 0, .int 0]) hx hb hG i_G ft_G ft_G_ok hown (hG _ L_X_15) (hG _ inst_G) (hG _ ini_G) hK hP hD hS hA rfl (fun j hj => by rcases (show j = 0 ∨ j = 1 ∨ j = 2 ∨ j = 3 ∨ j = 4 ∨ j = 5 by omega) with rfl | rfl | rfl | rfl | rfl | rfl <;> rfl) (by decide) (by decide) d_Xinit_81 (fun q_28 H hP hD hS => ?_)
  have hP : va_P D classes [(h, .inr (0, [.ref q_1, .ref q_3, .ref q_5, .int 0, .int 0])), (q_1, .inl (k_2, 8, .inr (.inr (.inr (.inr (va_up (va_up (va_up (va_up (va_up (va_up (va_up (va_up (fun _ => none) 0 (some q_7)) 1 (some q_9)) 2 (some q_11)) 3 (some q_13)) 4 (some q_15)) 5 (some q_17)) 6 (some q_19)) 7 (some q_21))))))), (q_3, .inl (k_4, 4, .inr (.inr (.inr (.inr (va_up (va_up (fun _ => none) 0 (some q_24)) 1 (some q_26))))))), (q_5, .inr (1, [.ref q2, .ref q3, .ref q4, .int 0, .int 0, .int 0])), (q2, .inl (kI, 16, .inl (fun _ => 0))), (q3, .inl (kI, 16, .inl (fun _ => 0))), (q4, .inl (kI, 16, .inl (fun _ => 0))), (q_7, .inr (2, [.int 1, .int 1, .int 0, .int 0, .int 0, .int 0, .int 0, .int 0, .int 0])), (q_9, .inr (2, [.int 1, .int 1, .int 0, .int 0, .int 0, .int 0, .int 0, .int 0, .int 0])), (q_11, .inr (2, [.int 1, .int 1, .int 0, .int 0, .int 0, .int 0, .int 0, .int 0, .int 0])), (q_13, .inr (2, [.int 1, .int 1, .int 0, .int 0, .int 0, .int 0, .int 0, .int 0, .int 0])), (q_15, .inr (2, [.int 1, .int 1, .int 0, .int 0, .int 0, .int 0, .int 0, .int 0, .int 0])), (q_17, .inr (2, [.int 1, .int 1, .int 0, .int 0, .int 0, .int 0, .int 0, .int 0, .int 0])), (q_19, .inr (2, [.int 1, .int 1, .int 0, .int 0, .int 0, .int 0, .int 0, .int 0, .int 0])), (q_21, .inr (2, [.int 1, .int 1, .int 0, .int 0, .int 0, .int 0, .int 0, .int 0, .int 0])), (q_24, .inr (3, [.int 0, .int 1, .int 0, .int 0, .int 0, .int (-1)])), (q_26, .inr (3, [.int 0, .int 1, .int 0, .int 0, .int 0, .int (-1)])), (q_28, .inr (3, [.int 0, .int 0, .int 0, .int 0, .int 0, .int 0]))] H := hP
  have hD : va_D A [(h, .inr (0, [.ref q_1, .ref q_3, .ref q_5, .int 0, .int 0])), (q_1, .inl (k_2, 8, .inr (.inr (.inr (.inr (va_up (va_up (va_up (va_up (va_up (va_up (va_up (va_up (fun _ => none) 0 (some q_7)) 1 (some q_9)) 2 (some q_11)) 3 (some q_13)) 4 (some q_15)) 5 (some q_17)) 6 (some q_19)) 7 (some q_21))))))), (q_3, .inl (k_4, 4, .inr (.inr (.inr (.inr (va_up (va_up (fun _ => none) 0 (some q_24)) 1 (some q_26))))))), (q_5, .inr (1, [.ref q2, .ref q3, .ref q4, .int 0, .int 0, .int 0])), (q2, .inl (kI, 16, .inl (fun _ => 0))), (q3, .inl (kI, 16, .inl (fun _ => 0))), (q4, .inl (kI, 16, .inl (fun _ => 0))), (q_7, .inr (2, [.int 1, .int 1, .int 0, .int 0, .int 0, .int 0, .int 0, .int 0, .int 0])), (q_9, .inr (2, [.int 1, .int 1, .int 0, .int 0, .int 0, .int 0, .int 0, .int 0, .int 0])), (q_11, .inr (2, [.int 1, .int 1, .int 0, .int 0, .int 0, .int 0, .int 0, .int 0, .int 0])), (q_13, .inr (2, [.int 1, .int 1, .int 0, .int 0, .int 0, .int 0, .int 0, .int 0, .int 0])), (q_15, .inr (2, [.int 1, .int 1, .int 0, .int 0, .int 0, .int 0, .int 0, .int 0, .int 0])), (q_17, .inr (2, [.int 1, .int 1, .int 0, .int 0, .int 0, .int 0, .int 0, .int 0, .int 0])), (q_19, .inr (2, [.int 1, .int 1, .int 0, .int 0, .int 0, .int 0, .int 0, .int 0, .int 0])), (q_21, .inr (2, [.int 1, .int 1, .int 0, .int 0, .int 0, .int 0, .int 0, .int 0, .int 0])), (q_24, .inr (3, [.int 0, .int 1, .int 0, .int 0, .int 0, .int (-1)])), (q_26, .inr (3, [.int 0, .int 1, .int 0, .int 0, .int 0, .int (-1)])), (q_28, .inr (3, [.int 0, .int 0, .int 0, .int 0, .int 0, .int 0]))] := hD
  refine W.widen (k := 17) (n := 156) (by decide) (by decide) ?_
  refine lv_dup hx hb d_Xinit_84 rfl ?_
  have hP : va_P D classes ([(h, .inr (0, [.ref q_1, .ref q_3, .ref q_5, .int 0, .int 0])), (q_1, .inl (k_2, 8, .inr (.inr (.inr (.inr (va_up (va_up (va_up (va_up (va_up (va_up (va_up (va_up (fun _ => none) 0 (some q_7)) 1 (some q_9)) 2 (some q_11)) 3 (some q_13)) 4 (some q_15)) 5 (some q_17)) 6 (some q_19)) 7 (some q_21))))))), (q_3, .inl (k_4, 4, .inr (.inr (.inr (.inr (va_up (va_up (fun _ => none) 0 (some q_24)) 1 (some q_26))))))), (q_5, .inr (1, [.ref q2, .ref q3, .ref q4, .int 0, .int 0, .int 0])), (q2, .inl (kI, 16, .inl (fun _ => 0))), (q3, .inl (kI, 16, .inl (fun _ => 0))), (q4, .inl (kI, 16, .inl (fun _ => 0))), (q_7, .inr (2, [.int 1, .int 1, .int 0, .int 0, .int 0, .int 0, .int 0, .int 0, .int 0])), (q_9, .inr (2, [.int 1, .int 1, .int 0, .int 0, .int 0, .int 0, .int 0, .int 0, .int 0])), (q_11, .inr (2, [.int 1, .int 1, .int 0, .int 0, .int 0, .int 0, .int 0, .int 0, .int 0])), (q_13, .inr (2, [.int 1, .int 1, .int 0, .int 0, .int 0, .int 0, .int 0, .int 0, .int 0])), (q_15, .inr (2, [.int 1, .int 1, .int 0, .int 0, .int 0, .int 0, .int 0, .int 0, .int 0])), (q_17, .inr (2, [.int 1, .int 1, .int 0, .int 0, .int 0, .int 0, .int 0, .int 0, .int 0])), (q_19, .inr (2, [.int 1, .int 1, .int 0, .int 0, .int 0, .int 0, .int 0, .int 0, .int 0])), (q_21, .inr (2, [.int 1, .int 1, .int 0, .int 0, .int 0, .int 0, .int 0, .int 0, .int 0])), (q_24, .inr (3, [.int 0, .int 1, .int 0, .int 0, .int 0, .int (-1)])), (q_26, .inr (3, [.int 0, .int 1, .int 0, .int 0, .int 0, .int (-1)]))] ++ wG1 q_28 z0) H := hP
  have hD : va_D A ([(h, .inr (0, [.ref q_1, .ref q_3, .ref q_5, .int 0, .int 0])), (q_1, .inl (k_2, 8, .inr (.inr (.inr (.inr (va_up (va_up (va_up (va_up (va_up (va_up (va_up (va_up (fun _ => none) 0 (some q_7)) 1 (some q_9)) 2 (some q_11)) 3 (some q_13)) 4 (some q_15)) 5 (some q_17)) 6 (some q_19)) 7 (some q_21))))))), (q_3, .inl (k_4, 4, .inr (.inr (.inr (.inr (va_up (va_up (fun _ => none) 0 (some q_24)) 1 (some q_26))))))), (q_5, .inr (1, [.ref q2, .ref q3, .ref q4, .int 0, .int 0, .int 0])), (q2, .inl (kI, 16, .inl (fun _ => 0))), (q3, .inl (kI, 16, .inl (fun _ => 0))), (q4, .inl (kI, 16, .inl (fun _ => 0))), (q_7, .inr (2, [.int 1, .int 1, .int 0, .int 0, .int 0, .int 0, .int 0, .int 0, .int 0])), (q_9, .inr (2, [.int 1, .int 1, .int 0, .int 0, .int 0, .int 0, .int 0, .int 0, .int 0])), (q_11, .inr (2, [.int 1, .int 1, .int 0, .int 0, .int 0, .int 0, .int 0, .int 0, .int 0])), (q_13, .inr (2, [.int 1, .int 1, .int 0, .int 0, .int 0, .int 0, .int 0, .int 0, .int 0])), (q_15, .inr (2, [.int 1, .int 1, .int 0, .int 0, .int 0, .int 0, .int 0, .int 0, .int 0])), (q_17, .inr (2, [.int 1, .int 1, .int 0, .int 0, .int 0, .int 0, .int 0, .int 0, .int 0])), (q_19, .inr (2, [.int 1, .int 1, .int 0, .int 0, .int 0, .int 0, .int 0, .int 0, .int 0])), (q_21, .inr (2, [.int 1, .int 1, .int 0, .int 0, .int 0, .int 0, .int 0, .int 0, .int 0])), (q_24, .inr (3, [.int 0, .int 1, .int 0, .int 0, .int 0, .int (-1)])), (q_26, .inr (3, [.int 0, .int 1, .int 0, .int 0, .int 0, .int (-1)]))] ++ wG1 q_28 z0) := hD
  refine k_fIN (rest := [.ref q_28, .int 2, .ref q_3]) hx hb hml hown hG hK hN hA hP hD hS (c_Ginit l D _ q_28 z0) ok_Ginit rfl oi_Ginit L_X_36 ⟨rfl, rfl, by decide, by decide⟩ rfl hl.1 rfl (Nat.le_of_ble_eq_true rfl) ⟨by decide, by decide⟩ d_Xinit_85 (fun H locs hP hD hS => ?_)
  have hP : va_P D classes [(h, .inr (0, [.ref q_1, .ref q_3, .ref q_5, .int 0, .int 0])), (q_1, .inl (k_2, 8, .inr (.inr (.inr (.inr (va_up (va_up (va_up (va_up (va_up (va_up (va_up (va_up (fun _ => none) 0 (some q_7)) 1 (some q_9)) 2 (some q_11)) 3 (some q_13)) 4 (some q_15)) 5 (some q_17)) 6 (some q_19)) 7 (some q_21))))))), (q_3, .inl (k_4, 4, .inr (.inr (.inr (.inr (va_up (va_up (fun _ => none) 0 (some q_24)) 1 (some q_26))))))), (q_5, .inr (1, [.ref q2, .ref q3, .ref q4, .int 0, .int 0, .int 0])), (q2, .inl (kI, 16, .inl (fun _ => 0))), (q3, .inl (kI, 16, .inl (fun _ => 0))), (q4, .inl (kI, 16, .inl (fun _ => 0))), (q_7, .inr (2, [.int 1, .int 1, .int 0, .int 0, .int 0, .int 0, .int 0, .int 0, .int 0])), (q_9, .inr (2, [.int 1, .int 1, .int 0, .int 0, .int 0, .int 0, .int 0, .int 0, .int 0])), (q_11, .inr (2, [.int 1, .int 1, .int 0, .int 0, .int 0, .int 0, .int 0, .int 0, .int 0])), (q_13, .inr (2, [.int 1, .int 1, .int 0, .int 0, .int 0, .int 0, .int 0, .int 0, .int 0])), (q_15, .inr (2, [.int 1, .int 1, .int 0, .int 0, .int 0, .int 0, .int 0, .int 0, .int 0])), (q_17, .inr (2, [.int 1, .int 1, .int 0, .int 0, .int 0, .int 0, .int 0, .int 0, .int 0])), (q_19, .inr (2, [.int 1, .int 1, .int 0, .int 0, .int 0, .int 0, .int 0, .int 0, .int 0])), (q_21, .inr (2, [.int 1, .int 1, .int 0, .int 0, .int 0, .int 0, .int 0, .int 0, .int 0])), (q_24, .inr (3, [.int 0, .int 1, .int 0, .int 0, .int 0, .int (-1)])), (q_26, .inr (3, [.int 0, .int 1, .int 0, .int 0, .int 0, .int (-1)])), (q_28, .inr (3, [.int 0, .int 1, .int 0, .int 0, .int 0, .int (-1)]))] H := hP
  have hD : va_D A [(h, .inr (0, [.ref q_1, .ref q_3, .ref q_5, .int 0, .int 0])), (q_1, .inl (k_2, 8, .inr (.inr (.inr (.inr (va_up (va_up (va_up (va_up (va_up (va_up (va_up (va_up (fun _ => none) 0 (some q_7)) 1 (some q_9)) 2 (some q_11)) 3 (some q_13)) 4 (some q_15)) 5 (some q_17)) 6 (some q_19)) 7 (some q_21))))))), (q_3, .inl (k_4, 4, .inr (.inr (.inr (.inr (va_up (va_up (fun _ => none) 0 (some q_24)) 1 (some q_26))))))), (q_5, .inr (1, [.ref q2, .ref q3, .ref q4, .int 0, .int 0, .int 0])), (q2, .inl (kI, 16, .inl (fun _ => 0))), (q3, .inl (kI, 16, .inl (fun _ => 0))), (q4, .inl (kI, 16, .inl (fun _ => 0))), (q_7, .inr (2, [.int 1, .int 1, .int 0, .int 0, .int 0, .int 0, .int 0, .int 0, .int 0])), (q_9, .inr (2, [.int 1, .int 1, .int 0, .int 0, .int 0, .int 0, .int 0, .int 0, .int 0])), (q_11, .inr (2, [.int 1, .int 1, .int 0, .int 0, .int 0, .int 0, .int 0, .int 0, .int 0])), (q_13, .inr (2, [.int 1, .int 1, .int 0, .int 0, .int 0, .int 0, .int 0, .int 0, .int 0])), (q_15, .inr (2, [.int 1, .int 1, .int 0, .int 0, .int 0, .int 0, .int 0, .int 0, .int 0])), (q_17, .inr (2, [.int 1, .int 1, .int 0, .int 0, .int 0, .int 0, .int 0, .int 0, .int 0])), (q_19, .inr (2, [.int 1, .int 1, .int 0, .int 0, .int 0, .int 0, .int 0, .int 0, .int 0])), (q_21, .inr (2, [.int 1, .int 1, .int 0, .int 0, .int 0, .int 0, .int 0, .int 0, .int 0])), (q_24, .inr (3, [.int 0, .int 1, .int 0, .int 0, .int 0, .int (-1)])), (q_26, .inr (3, [.int 0, .int 1, .int 0, .int 0, .int 0, .int (-1)])), (q_28, .inr (3, [.int 0, .int 1, .int 0, .int 0, .int 0, .int (-1)]))] := hD
  refine va_astq (i := 2) hx hb hK hP hD hS 2 1 17 3 rfl rfl rfl rfl (vp_in_nI (n := 2) (by decide) (by decide)) d_Xinit_88 (fun H locs hP hD hS => ?_)
  have hP : va_P D classes [(h, .inr (0, [.ref q_1, .ref q_3, .ref q_5, .int 0, .int 0])), (q_1, .inl (k_2, 8, .inr (.inr (.inr (.inr (va_up (va_up (va_up (va_up (va_up (va_up (va_up (va_up (fun _ => none) 0 (some q_7)) 1 (some q_9)) 2 (some q_11)) 3 (some q_13)) 4 (some q_15)) 5 (some q_17)) 6 (some q_19)) 7 (some q_21))))))), (q_3, .inl (k_4, 4, .inr (.inr (.inr (.inr (va_up (va_up (va_up (fun _ => none) 0 (some q_24)) 1 (some q_26)) 2 (some q_28))))))), (q_5, .inr (1, [.ref q2, .ref q3, .ref q4, .int 0, .int 0, .int 0])), (q2, .inl (kI, 16, .inl (fun _ => 0))), (q3, .inl (kI, 16, .inl (fun _ => 0))), (q4, .inl (kI, 16, .inl (fun _ => 0))), (q_7, .inr (2, [.int 1, .int 1, .int 0, .int 0, .int 0, .int 0, .int 0, .int 0, .int 0])), (q_9, .inr (2, [.int 1, .int 1, .int 0, .int 0, .int 0, .int 0, .int 0, .int 0, .int 0])), (q_11, .inr (2, [.int 1, .int 1, .int 0, .int 0, .int 0, .int 0, .int 0, .int 0, .int 0])), (q_13, .inr (2, [.int 1, .int 1, .int 0, .int 0, .int 0, .int 0, .int 0, .int 0, .int 0])), (q_15, .inr (2, [.int 1, .int 1, .int 0, .int 0, .int 0, .int 0, .int 0, .int 0, .int 0])), (q_17, .inr (2, [.int 1, .int 1, .int 0, .int 0, .int 0, .int 0, .int 0, .int 0, .int 0])), (q_19, .inr (2, [.int 1, .int 1, .int 0, .int 0, .int 0, .int 0, .int 0, .int 0, .int 0])), (q_21, .inr (2, [.int 1, .int 1, .int 0, .int 0, .int 0, .int 0, .int 0, .int 0, .int 0])), (q_24, .inr (3, [.int 0, .int 1, .int 0, .int 0, .int 0, .int (-1)])), (q_26, .inr (3, [.int 0, .int 1, .int 0, .int 0, .int 0, .int (-1)])), (q_28, .inr (3, [.int 0, .int 1, .int 0, .int 0, .int 0, .int (-1)]))] H := hP
  have hD : va_D A [(h, .inr (0, [.ref q_1, .ref q_3, .ref q_5, .int 0, .int 0])), (q_1, .inl (k_2, 8, .inr (.inr (.inr (.inr (va_up (va_up (va_up (va_up (va_up (va_up (va_up (va_up (fun _ => none) 0 (some q_7)) 1 (some q_9)) 2 (some q_11)) 3 (some q_13)) 4 (some q_15)) 5 (some q_17)) 6 (some q_19)) 7 (some q_21))))))), (q_3, .inl (k_4, 4, .inr (.inr (.inr (.inr (va_up (va_up (va_up (fun _ => none) 0 (some q_24)) 1 (some q_26)) 2 (some q_28))))))), (q_5, .inr (1, [.ref q2, .ref q3, .ref q4, .int 0, .int 0, .int 0])), (q2, .inl (kI, 16, .inl (fun _ => 0))), (q3, .inl (kI, 16, .inl (fun _ => 0))), (q4, .inl (kI, 16, .inl (fun _ => 0))), (q_7, .inr (2, [.int 1, .int 1, .int 0, .int 0, .int 0, .int 0, .int 0, .int 0, .int 0])), (q_9, .inr (2, [.int 1, .int 1, .int 0, .int 0, .int 0, .int 0, .int 0, .int 0, .int 0])), (q_11, .inr (2, [.int 1, .int 1, .int 0, .int 0, .int 0, .int 0, .int 0, .int 0, .int 0])), (q_13, .inr (2, [.int 1, .int 1, .int 0, .int 0, .int 0, .int 0, .int 0, .int 0, .int 0])), (q_15, .inr (2, [.int 1, .int 1, .int 0, .int 0, .int 0, .int 0, .int 0, .int 0, .int 0])), (q_17, .inr (2, [.int 1, .int 1, .int 0, .int 0, .int 0, .int 0, .int 0, .int 0, .int 0])), (q_19, .inr (2, [.int 1, .int 1, .int 0, .int 0, .int 0, .int 0, .int 0, .int 0, .int 0])), (q_21, .inr (2, [.int 1, .int 1, .int 0, .int 0, .int 0, .int 0, .int 0, .int 0, .int 0])), (q_24, .inr (3, [.int 0, .int 1, .int 0, .int 0, .int 0, .int (-1)])), (q_26, .inr (3, [.int 0, .int 1, .int 0, .int 0, .int 0, .int (-1)])), (q_28, .inr (3, [.int 0, .int 1, .int 0, .int 0, .int 0, .int (-1)]))] := hD
  refine lv_iinc (v := 3) (lv' := [(1, .int 3), (0, .ref h)]) hx hb d_Xinit_89 hl (k := 0) rfl (by decide) (by decide) rfl (fun ls hl => ?_)
  refine lv_goto (tgt := 71) hx hb d_Xinit_92 (by decide) ?_
  refine lv_iload_n hx hb d_Xinit_71 rfl (lv_at hl 0 rfl) ?_
  refine lv_iconst (v := 4) hx hb d_Xinit_72 (by decide) ?_
  refine lv_icmp_ge (tgt := 95) hx hb d_Xinit_73 (by decide) (fun c_29 => absurd c_29 (by decide)) (fun _ => ?_)
  refine lv_aload_n hx hb d_Xinit_76 rfl (lv_at hl 1 rfl) ?_
  refine va_get (v := .ref q_3) hx hb hG i_X hown hK hP 0 rfl rfl 1 (by decide) (hG _ L_X_17) (fun _ h9 => h9) rfl d_Xinit_77 ?_
  refine lv_iload_n hx hb d_Xinit_80 rfl (lv_at hl 0 rfl) ?_
  refine va_new (ci := 3) (fs := [.int 0, .int 0, .int 0, .int 0, .int 0, .int 0]) hx hb hG i_G ft_G ft_G_ok hown (hG _ L_X_15) (hG _ inst_G) (hG _ ini_G) hK hP hD hS hA rfl (fun j hj => by rcases (show j = 0 ∨ j = 1 ∨ j = 2 ∨ j = 3 ∨ j = 4 ∨ j = 5 by omega) with rfl | rfl | rfl | rfl | rfl | rfl <;> rfl) (by decide) (by decide) d_Xinit_81 (fun q_30 H hP hD hS => ?_)
  have hP : va_P D classes [(h, .inr (0, [.ref q_1, .ref q_3, .ref q_5, .int 0, .int 0])), (q_1, .inl (k_2, 8, .inr (.inr (.inr (.inr (va_up (va_up (va_up (va_up (va_up (va_up (va_up (va_up (fun _ => none) 0 (some q_7)) 1 (some q_9)) 2 (some q_11)) 3 (some q_13)) 4 (some q_15)) 5 (some q_17)) 6 (some q_19)) 7 (some q_21))))))), (q_3, .inl (k_4, 4, .inr (.inr (.inr (.inr (va_up (va_up (va_up (fun _ => none) 0 (some q_24)) 1 (some q_26)) 2 (some q_28))))))), (q_5, .inr (1, [.ref q2, .ref q3, .ref q4, .int 0, .int 0, .int 0])), (q2, .inl (kI, 16, .inl (fun _ => 0))), (q3, .inl (kI, 16, .inl (fun _ => 0))), (q4, .inl (kI, 16, .inl (fun _ => 0))), (q_7, .inr (2, [.int 1, .int 1, .int 0, .int 0, .int 0, .int 0, .int 0, .int 0, .int 0])), (q_9, .inr (2, [.int 1, .int 1, .int 0, .int 0, .int 0, .int 0, .int 0, .int 0, .int 0])), (q_11, .inr (2, [.int 1, .int 1, .int 0, .int 0, .int 0, .int 0, .int 0, .int 0, .int 0])), (q_13, .inr (2, [.int 1, .int 1, .int 0, .int 0, .int 0, .int 0, .int 0, .int 0, .int 0])), (q_15, .inr (2, [.int 1, .int 1, .int 0, .int 0, .int 0, .int 0, .int 0, .int 0, .int 0])), (q_17, .inr (2, [.int 1, .int 1, .int 0, .int 0, .int 0, .int 0, .int 0, .int 0, .int 0])), (q_19, .inr (2, [.int 1, .int 1, .int 0, .int 0, .int 0, .int 0, .int 0, .int 0, .int 0])), (q_21, .inr (2, [.int 1, .int 1, .int 0, .int 0, .int 0, .int 0, .int 0, .int 0, .int 0])), (q_24, .inr (3, [.int 0, .int 1, .int 0, .int 0, .int 0, .int (-1)])), (q_26, .inr (3, [.int 0, .int 1, .int 0, .int 0, .int 0, .int (-1)])), (q_28, .inr (3, [.int 0, .int 1, .int 0, .int 0, .int 0, .int (-1)])), (q_30, .inr (3, [.int 0, .int 0, .int 0, .int 0, .int 0, .int 0]))] H := hP
  have hD : va_D A [(h, .inr (0, [.ref q_1, .ref q_3, .ref q_5, .int 0, .int 0])), (q_1, .inl (k_2, 8, .inr (.inr (.inr (.inr (va_up (va_up (va_up (va_up (va_up (va_up (va_up (va_up (fun _ => none) 0 (some q_7)) 1 (some q_9)) 2 (some q_11)) 3 (some q_13)) 4 (some q_15)) 5 (some q_17)) 6 (some q_19)) 7 (some q_21))))))), (q_3, .inl (k_4, 4, .inr (.inr (.inr (.inr (va_up (va_up (va_up (fun _ => none) 0 (some q_24)) 1 (some q_26)) 2 (some q_28))))))), (q_5, .inr (1, [.ref q2, .ref q3, .ref q4, .int 0, .int 0, .int 0])), (q2, .inl (kI, 16, .inl (fun _ => 0))), (q3, .inl (kI, 16, .inl (fun _ => 0))), (q4, .inl (kI, 16, .inl (fun _ => 0))), (q_7, .inr (2, [.int 1, .int 1, .int 0, .int 0, .int 0, .int 0, .int 0, .int 0, .int 0])), (q_9, .inr (2, [.int 1, .int 1, .int 0, .int 0, .int 0, .int 0, .int 0, .int 0, .int 0])), (q_11, .inr (2, [.int 1, .int 1, .int 0, .int 0, .int 0, .int 0, .int 0, .int 0, .int 0])), (q_13, .inr (2, [.int 1, .int 1, .int 0, .int 0, .int 0, .int 0, .int 0, .int 0, .int 0])), (q_15, .inr (2, [.int 1, .int 1, .int 0, .int 0, .int 0, .int 0, .int 0, .int 0, .int 0])), (q_17, .inr (2, [.int 1, .int 1, .int 0, .int 0, .int 0, .int 0, .int 0, .int 0, .int 0])), (q_19, .inr (2, [.int 1, .int 1, .int 0, .int 0, .int 0, .int 0, .int 0, .int 0, .int 0])), (q_21, .inr (2, [.int 1, .int 1, .int 0, .int 0, .int 0, .int 0, .int 0, .int 0, .int 0])), (q_24, .inr (3, [.int 0, .int 1, .int 0, .int 0, .int 0, .int (-1)])), (q_26, .inr (3, [.int 0, .int 1, .int 0, .int 0, .int 0, .int (-1)])), (q_28, .inr (3, [.int 0, .int 1, .int 0, .int 0, .int 0, .int (-1)])), (q_30, .inr (3, [.int 0, .int 0, .int 0, .int 0, .int 0, .int 0]))] := hD
  refine W.widen (k := 18) (n := 162) (by decide) (by decide) ?_
  refine lv_dup hx hb d_Xinit_84 rfl ?_
  have hP : va_P D classes ([(h, .inr (0, [.ref q_1, .ref q_3, .ref q_5, .int 0, .int 0])), (q_1, .inl (k_2, 8, .inr (.inr (.inr (.inr (va_up (va_up (va_up (va_up (va_up (va_up (va_up (va_up (fun _ => none) 0 (some q_7)) 1 (some q_9)) 2 (some q_11)) 3 (some q_13)) 4 (some q_15)) 5 (some q_17)) 6 (some q_19)) 7 (some q_21))))))), (q_3, .inl (k_4, 4, .inr (.inr (.inr (.inr (va_up (va_up (va_up (fun _ => none) 0 (some q_24)) 1 (some q_26)) 2 (some q_28))))))), (q_5, .inr (1, [.ref q2, .ref q3, .ref q4, .int 0, .int 0, .int 0])), (q2, .inl (kI, 16, .inl (fun _ => 0))), (q3, .inl (kI, 16, .inl (fun _ => 0))), (q4, .inl (kI, 16, .inl (fun _ => 0))), (q_7, .inr (2, [.int 1, .int 1, .int 0, .int 0, .int 0, .int 0, .int 0, .int 0, .int 0])), (q_9, .inr (2, [.int 1, .int 1, .int 0, .int 0, .int 0, .int 0, .int 0, .int 0, .int 0])), (q_11, .inr (2, [.int 1, .int 1, .int 0, .int 0, .int 0, .int 0, .int 0, .int 0, .int 0])), (q_13, .inr (2, [.int 1, .int 1, .int 0, .int 0, .int 0, .int 0, .int 0, .int 0, .int 0])), (q_15, .inr (2, [.int 1, .int 1, .int 0, .int 0, .int 0, .int 0, .int 0, .int 0, .int 0])), (q_17, .inr (2, [.int 1, .int 1, .int 0, .int 0, .int 0, .int 0, .int 0, .int 0, .int 0])), (q_19, .inr (2, [.int 1, .int 1, .int 0, .int 0, .int 0, .int 0, .int 0, .int 0, .int 0])), (q_21, .inr (2, [.int 1, .int 1, .int 0, .int 0, .int 0, .int 0, .int 0, .int 0, .int 0])), (q_24, .inr (3, [.int 0, .int 1, .int 0, .int 0, .int 0, .int (-1)])), (q_26, .inr (3, [.int 0, .int 1, .int 0, .int 0, .int 0, .int (-1)])), (q_28, .inr (3, [.int 0, .int 1, .int 0, .int 0, .int 0, .int (-1)]))] ++ wG1 q_30 z0) H := hP
  have hD : va_D A ([(h, .inr (0, [.ref q_1, .ref q_3, .ref q_5, .int 0, .int 0])), (q_1, .inl (k_2, 8, .inr (.inr (.inr (.inr (va_up (va_up (va_up (va_up (va_up (va_up (va_up (va_up (fun _ => none) 0 (some q_7)) 1 (some q_9)) 2 (some q_11)) 3 (some q_13)) 4 (some q_15)) 5 (some q_17)) 6 (some q_19)) 7 (some q_21))))))), (q_3, .inl (k_4, 4, .inr (.inr (.inr (.inr (va_up (va_up (va_up (fun _ => none) 0 (some q_24)) 1 (some q_26)) 2 (some q_28))))))), (q_5, .inr (1, [.ref q2, .ref q3, .ref q4, .int 0, .int 0, .int 0])), (q2, .inl (kI, 16, .inl (fun _ => 0))), (q3, .inl (kI, 16, .inl (fun _ => 0))), (q4, .inl (kI, 16, .inl (fun _ => 0))), (q_7, .inr (2, [.int 1, .int 1, .int 0, .int 0, .int 0, .int 0, .int 0, .int 0, .int 0])), (q_9, .inr (2, [.int 1, .int 1, .int 0, .int 0, .int 0, .int 0, .int 0, .int 0, .int 0])), (q_11, .inr (2, [.int 1, .int 1, .int 0, .int 0, .int 0, .int 0, .int 0, .int 0, .int 0])), (q_13, .inr (2, [.int 1, .int 1, .int 0, .int 0, .int 0, .int 0, .int 0, .int 0, .int 0])), (q_15, .inr (2, [.int 1, .int 1, .int 0, .int 0, .int 0, .int 0, .int 0, .int 0, .int 0])), (q_17, .inr (2, [.int 1, .int 1, .int 0, .int 0, .int 0, .int 0, .int 0, .int 0, .int 0])), (q_19, .inr (2, [.int 1, .int 1, .int 0, .int 0, .int 0, .int 0, .int 0, .int 0, .int 0])), (q_21, .inr (2, [.int 1, .int 1, .int 0, .int 0, .int 0, .int 0, .int 0, .int 0, .int 0])), (q_24, .inr (3, [.int 0, .int 1, .int 0, .int 0, .int 0, .int (-1)])), (q_26, .inr (3, [.int 0, .int 1, .int 0, .int 0, .int 0, .int (-1)])), (q_28, .inr (3, [.int 0, .int 1, .int 0, .int 0, .int 0, .int (-1)]))] ++ wG1 q_30 z0) := hD
  refine k_fIN (rest := [.ref q_30, .int 3, .ref q_3]) hx hb hml hown hG hK hN hA hP hD hS (c_Ginit l D _ q_30 z0) ok_Ginit rfl oi_Ginit L_X_36 ⟨rfl, rfl, by decide, by decide⟩ rfl hl.1 rfl (Nat.le_of_ble_eq_true rfl) ⟨by decide, by decide⟩ d_Xinit_85 (fun H locs hP hD hS => ?_)
  have hP : va_P D classes [(h, .inr (0, [.ref q_1, .ref q_3, .ref q_5, .int 0, .int 0])), (q_1, .inl (k_2, 8, .inr (.inr (.inr (.inr (va_up (va_up (va_up (va_up (va_up (va_up (va_up (va_up (fun _ => none) 0 (some q_7)) 1 (some q_9)) 2 (some q_11)) 3 (some q_13)) 4 (some q_15)) 5 (some q_17)) 6 (some q_19)) 7 (some q_21))))))), (q_3, .inl (k_4, 4, .inr (.inr (.inr (.inr (va_up (va_up (va_up (fun _ => none) 0 (some q_24)) 1 (some q_26)) 2 (some q_28))))))), (q_5, .inr (1, [.ref q2, .ref q3, .ref q4, .int 0, .int 0, .int 0])), (q2, .inl (kI, 16, .inl (fun _ => 0))), (q3, .inl (kI, 16, .inl (fun _ => 0))), (q4, .inl (kI, 16, .inl (fun _ => 0))), (q_7, .inr (2, [.int 1, .int 1, .int 0, .int 0, .int 0, .int 0, .int 0, .int 0, .int 0])), (q_9, .inr (2, [.int 1, .int 1, .int 0, .int 0, .int 0, .int 0, .int 0, .int 0, .int 0])), (q_11, .inr (2, [.int 1, .int 1, .int 0, .int 0, .int 0, .int 0, .int 0, .int 0, .int 0])), (q_13, .inr (2, [.int 1, .int 1, .int 0, .int 0, .int 0, .int 0, .int 0, .int 0, .int 0])), (q_15, .inr (2, [.int 1, .int 1, .int 0, .int 0, .int 0, .int 0, .int 0, .int 0, .int 0])), (q_17, .inr (2, [.int 1, .int 1, .int 0, .int 0, .int 0, .int 0, .int 0, .int 0, .int 0])), (q_19, .inr (2, [.int 1, .int 1, .int 0, .int 0, .int 0, .int 0, .int 0, .int 0, .int 0])), (q_21, .inr (2, [.int 1, .int 1, .int 0, .int 0, .int 0, .int 0, .int 0, .int 0, .int 0])), (q_24, .inr (3, [.int 0, .int 1, .int 0, .int 0, .int 0, .int (-1)])), (q_26, .inr (3, [.int 0, .int 1, .int 0, .int 0, .int 0, .int (-1)])), (q_28, .inr (3, [.int 0, .int 1, .int 0, .int 0, .int 0, .int (-1)])), (q_30, .inr (3, [.int 0, .int 1, .int 0, .int 0, .int 0, .int (-1)]))] H := hP
  have hD : va_D A [(h, .inr (0, [.ref q_1, .ref q_3, .ref q_5, .int 0, .int 0])), (q_1, .inl (k_2, 8, .inr (.inr (.inr (.inr (va_up (va_up (va_up (va_up (va_up (va_up (va_up (va_up (fun _ => none) 0 (some q_7)) 1 (some q_9)) 2 (some q_11)) 3 (some q_13)) 4 (some q_15)) 5 (some q_17)) 6 (some q_19)) 7 (some q_21))))))), (q_3, .inl (k_4, 4, .inr (.inr (.inr (.inr (va_up (va_up (va_up (fun _ => none) 0 (some q_24)) 1 (some q_26)) 2 (some q_28))))))), (q_5, .inr (1, [.ref q2, .ref q3, .ref q4, .int 0, .int 0, .int 0])), (q2, .inl (kI, 16, .inl (fun _ => 0))), (q3, .inl (kI, 16, .inl (fun _ => 0))), (q4, .inl (kI, 16, .inl (fun _ => 0))), (q_7, .inr (2, [.int 1, .int 1, .int 0, .int 0, .int 0, .int 0, .int 0, .int 0, .int 0])), (q_9, .inr (2, [.int 1, .int 1, .int 0, .int 0, .int 0, .int 0, .int 0, .int 0, .int 0])), (q_11, .inr (2, [.int 1, .int 1, .int 0, .int 0, .int 0, .int 0, .int 0, .int 0, .int 0])), (q_13, .inr (2, [.int 1, .int 1, .int 0, .int 0, .int 0, .int 0, .int 0, .int 0, .int 0])), (q_15, .inr (2, [.int 1, .int 1, .int 0, .int 0, .int 0, .int 0, .int 0, .int 0, .int 0])), (q_17, .inr (2, [.int 1, .int 1, .int 0, .int 0, .int 0, .int 0, .int 0, .int 0, .int 0])), (q_19, .inr (2, [.int 1, .int 1, .int 0, .int 0, .int 0, .int 0, .int 0, .int 0, .int 0])), (q_21, .inr (2, [.int 1, .int 1, .int 0, .int 0, .int 0, .int 0, .int 0, .int 0, .int 0])), (q_24, .inr (3, [.int 0, .int 1, .int 0, .int 0, .int 0, .int (-1)])), (q_26, .inr (3, [.int 0, .int 1, .int 0, .int 0, .int 0, .int (-1)])), (q_28, .inr (3, [.int 0, .int 1, .int 0, .int 0, .int 0, .int (-1)])), (q_30, .inr (3, [.int 0, .int 1, .int 0, .int 0, .int 0, .int (-1)]))] := hD
  refine va_astq (i := 3) hx hb hK hP hD hS 2 1 18 3 rfl rfl rfl rfl (vp_in_nI (n := 3) (by decide) (by decide)) d_Xinit_88 (fun H locs hP hD hS => ?_)
  have hP : va_P D classes [(h, .inr (0, [.ref q_1, .ref q_3, .ref q_5, .int 0, .int 0])), (q_1, .inl (k_2, 8, .inr (.inr (.inr (.inr (va_up (va_up (va_up (va_up (va_up (va_up (va_up (va_up (fun _ => none) 0 (some q_7)) 1 (some q_9)) 2 (some q_11)) 3 (some q_13)) 4 (some q_15)) 5 (some q_17)) 6 (some q_19)) 7 (some q_21))))))), (q_3, .inl (k_4, 4, .inr (.inr (.inr (.inr (va_up (va_up (va_up (va_up (fun _ => none) 0 (some q_24)) 1 (some q_26)) 2 (some q_28)) 3 (some q_30))))))), (q_5, .inr (1, [.ref q2, .ref q3, .ref q4, .int 0, .int 0, .int 0])), (q2, .inl (kI, 16, .inl (fun _ => 0))), (q3, .inl (kI, 16, .inl (fun _ => 0))), (q4, .inl (kI, 16, .inl (fun _ => 0))), (q_7, .inr (2, [.int 1, .int 1, .int 0, .int 0, .int 0, .int 0, .int 0, .int 0, .int 0])), (q_9, .inr (2, [.int 1, .int 1, .int 0, .int 0, .int 0, .int 0, .int 0, .int 0, .int 0])), (q_11, .inr (2, [.int 1, .int 1, .int 0, .int 0, .int 0, .int 0, .int 0, .int 0, .int 0])), (q_13, .inr (2, [.int 1, .int 1, .int 0, .int 0, .int 0, .int 0, .int 0, .int 0, .int 0])), (q_15, .inr (2, [.int 1, .int 1, .int 0, .int 0, .int 0, .int 0, .int 0, .int 0, .int 0])), (q_17, .inr (2, [.int 1, .int 1, .int 0, .int 0, .int 0, .int 0, .int 0, .int 0, .int 0])), (q_19, .inr (2, [.int 1, .int 1, .int 0, .int 0, .int 0, .int 0, .int 0, .int 0, .int 0])), (q_21, .inr (2, [.int 1, .int 1, .int 0, .int 0, .int 0, .int 0, .int 0, .int 0, .int 0])), (q_24, .inr (3, [.int 0, .int 1, .int 0, .int 0, .int 0, .int (-1)])), (q_26, .inr (3, [.int 0, .int 1, .int 0, .int 0, .int 0, .int (-1)])), (q_28, .inr (3, [.int 0, .int 1, .int 0, .int 0, .int 0, .int (-1)])), (q_30, .inr (3, [.int 0, .int 1, .int 0, .int 0, .int 0, .int (-1)]))] H := hP
  have hD : va_D A [(h, .inr (0, [.ref q_1, .ref q_3, .ref q_5, .int 0, .int 0])), (q_1, .inl (k_2, 8, .inr (.inr (.inr (.inr (va_up (va_up (va_up (va_up (va_up (va_up (va_up (va_up (fun _ => none) 0 (some q_7)) 1 (some q_9)) 2 (some q_11)) 3 (some q_13)) 4 (some q_15)) 5 (some q_17)) 6 (some q_19)) 7 (some q_21))))))), (q_3, .inl (k_4, 4, .inr (.inr (.inr (.inr (va_up (va_up (va_up (va_up (fun _ => none) 0 (some q_24)) 1 (some q_26)) 2 (some q_28)) 3 (some q_30))))))), (q_5, .inr (1, [.ref q2, .ref q3, .ref q4, .int 0, .int 0, .int 0])), (q2, .inl (kI, 16, .inl (fun _ => 0))), (q3, .inl (kI, 16, .inl (fun _ => 0))), (q4, .inl (kI, 16, .inl (fun _ => 0))), (q_7, .inr (2, [.int 1, .int 1, .int 0, .int 0, .int 0, .int 0, .int 0, .int 0, .int 0])), (q_9, .inr (2, [.int 1, .int 1, .int 0, .int 0, .int 0, .int 0, .int 0, .int 0, .int 0])), (q_11, .inr (2, [.int 1, .int 1, .int 0, .int 0, .int 0, .int 0, .int 0, .int 0, .int 0])), (q_13, .inr (2, [.int 1, .int 1, .int 0, .int 0, .int 0, .int 0, .int 0, .int 0, .int 0])), (q_15, .inr (2, [.int 1, .int 1, .int 0, .int 0, .int 0, .int 0, .int 0, .int 0, .int 0])), (q_17, .inr (2, [.int 1, .int 1, .int 0, .int 0, .int 0, .int 0, .int 0, .int 0, .int 0])), (q_19, .inr (2, [.int 1, .int 1, .int 0, .int 0, .int 0, .int 0, .int 0, .int 0, .int 0])), (q_21, .inr (2, [.int 1, .int 1, .int 0, .int 0, .int 0, .int 0, .int 0, .int 0, .int 0])), (q_24, .inr (3, [.int 0, .int 1, .int 0, .int 0, .int 0, .int (-1)])), (q_26, .inr (3, [.int 0, .int 1, .int 0, .int 0, .int 0, .int (-1)])), (q_28, .inr (3, [.int 0, .int 1, .int 0, .int 0, .int 0, .int (-1)])), (q_30, .inr (3, [.int 0, .int 1, .int 0, .int 0, .int 0, .int (-1)]))] := hD
  refine lv_iinc (v := 4) (lv' := [(1, .int 4), (0, .ref h)]) hx hb d_Xinit_89 hl (k := 0) rfl (by decide) (by decide) rfl (fun ls hl => ?_)
  refine lv_goto (tgt := 71) hx hb d_Xinit_92 (by decide) ?_
  refine lv_iload_n hx hb d_Xinit_71 rfl (lv_at hl 0 rfl) ?_
  refine lv_iconst (v := 4) hx hb d_Xinit_72 (by decide) ?_
  refine lv_icmp_ge (tgt := 95) hx hb d_Xinit_73 (by decide) (fun _ => ?_) (fun c_31 => absurd (by decide) c_31)
  obtain ⟨a, ea⟩ : ∃ a : Nat → Nat, a = aOf [h, q_5, q2, q3, q4, q_7, q_9, q_11, q_13, q_15, q_17, q_19, q_21, q_24, q_26, q_28, q_30, q_1, q_3] := ⟨_, rfl⟩
  have hP := P_arr hP 1 (fun i => some (a (5 + i))) rfl (fun j hj => by rw [ea]; rcases (show j = 0 ∨ j = 1 ∨ j = 2 ∨ j = 3 ∨ j = 4 ∨ j = 5 ∨ j = 6 ∨ j = 7 by omega) with rfl | rfl | rfl | rfl | rfl | rfl | rfl | rfl <;> rfl)
  have hD := hD.set (p := 1) (e := .inl (k_2, 8, .inr (.inr (.inr (.inr (fun i => some (a (5 + i)))))))) rfl
  have hP := P_arr hP 2 (fun i => some (a (13 + i))) rfl (fun j hj => by rw [ea]; rcases (show j = 0 ∨ j = 1 ∨ j = 2 ∨ j = 3 by omega) with rfl | rfl | rfl | rfl <;> rfl)
  have hD := hD.set (p := 2) (e := .inl (k_4, 4, .inr (.inr (.inr (.inr (fun i => some (a (13 + i)))))))) rfl
  have hP := hP.sub (ws' := wX a (cOf kI k_2 k_4) s0) [0, 3, 4, 5, 6, 7, 8, 9, 10, 11, 12, 13, 14, 15, 16, 17, 18, 1, 2] (by rw [ea]; rfl)
  have hD := hD.sub (ws' := wX a (cOf kI k_2 k_4) s0) [0, 3, 4, 5, 6, 7, 8, 9, 10, 11, 12, 13, 14, 15, 16, 17, 18, 1, 2] (by decide) (by rw [ea]; rfl)
  exact hret _ _ _ 95 (fun t ht hvm => ⟨a, cOf kI k_2 k_4, by rw [ea]; rfl, by rw [ht]; exact hP, va_K.moved hvm (hK.sub (tys' := tX (cOf kI k_2 k_4)) [2, 0, 1] rfl), hD⟩) hS d_Xinit_95
end
section
theorem d_Minit_0 : decode b_Minit 0 = .ok (.aload_n 0, 1) := by decide +kernel
theorem d_Minit_1 : decode b_Minit 1 = .ok (.invokespecial 1, 3) := by decide +kernel
theorem d_Minit_4 : decode b_Minit 4 = .ok (.aload_n 0, 1) := by decide +kernel
theorem d_Minit_5 : decode b_Minit 5 = .ok (.bipush 8, 2) := by decide +kernel
theorem d_Minit_7 : decode b_Minit 7 = .ok (.newarray .int, 2) := by decide +kernel
theorem d_Minit_9 : decode b_Minit 9 = .ok (.dup, 1) := by decide +kernel
theorem d_Minit_10 : decode b_Minit 10 = .ok (.iconst 0, 1) := by decide +kernel
theorem d_Minit_11 : decode b_Minit 11 = .ok (.iconst 1, 1) := by decide +kernel
theorem d_Minit_12 : decode b_Minit 12 = .ok (.iastore, 1) := by decide +kernel
theorem d_Minit_13 : decode b_Minit 13 = .ok (.dup, 1) := by decide +kernel
theorem d_Minit_14 : decode b_Minit 14 = .ok (.iconst 1, 1) := by decide +kernel
theorem d_Minit_15 : decode b_Minit 15 = .ok (.iconst 1, 1) := by decide +kernel
theorem d_Minit_16 : decode b_Minit 16 = .ok (.iastore, 1) := by decide +kernel
theorem d_Minit_17 : decode b_Minit 17 = .ok (.dup, 1) := by decide +kernel
theorem d_Minit_18 : decode b_Minit 18 = .ok (.iconst 2, 1) := by decide +kernel
theorem d_Minit_19 : decode b_Minit 19 = .ok (.iconst 1, 1) := by decide +kernel
theorem d_Minit_20 : decode b_Minit 20 = .ok (.iastore, 1) := by decide +kernel
theorem d_Minit_21 : decode b_Minit 21 = .ok (.dup, 1) := by decide +kernel
theorem d_Minit_22 : decode b_Minit 22 = .ok (.iconst 3, 1) := by decide +kernel
theorem d_Minit_23 : decode b_Minit 23 = .ok (.iconst 1, 1) := by decide +kernel
theorem d_Minit_24 : decode b_Minit 24 = .ok (.iastore, 1) := by decide +kernel
theorem d_Minit_25 : decode b_Minit 25 = .ok (.dup, 1) := by decide +kernel
theorem d_Minit_26 : decode b_Minit 26 = .ok (.iconst 4, 1) := by decide +kernel
theorem d_Minit_27 : decode b_Minit 27 = .ok (.iconst 1, 1) := by decide +kernel
theorem d_Minit_28 : decode b_Minit 28 = .ok (.iastore, 1) := by decide +kernel
theorem d_Minit_29 : decode b_Minit 29 = .ok (.dup, 1) := by decide +kernel
theorem d_Minit_30 : decode b_Minit 30 = .ok (.iconst 5, 1) := by decide +kernel
theorem d_Minit_31 : decode b_Minit 31 = .ok (.iconst 1, 1) := by decide +kernel
theorem d_Minit_32 : decode b_Minit 32 = .ok (.iastore, 1) := by decide +kernel
theorem d_Minit_33 : decode b_Minit 33 = .ok (.dup, 1) := by decide +kernel
theorem d_Minit_34 : decode b_Minit 34 = .ok (.bipush 6, 2) := by decide +kernel
theorem d_Minit_36 : decode b_Minit 36 = .ok (.iconst 1, 1) := by decide +kernel
theorem d_Minit_37 : decode b_Minit 37 = .ok (.iastore, 1) := by decide +kernel
theorem d_Minit_38 : decode b_Minit 38 = .ok (.dup, 1) := by decide +kernel
theorem d_Minit_39 : decode b_Minit 39 = .ok (.bipush 7, 2) := by decide +kernel
theorem d_Minit_41 : decode b_Minit 41 = .ok (.iconst 1, 1) := by decide +kernel
theorem d_Minit_42 : decode b_Minit 42 = .ok (.iastore, 1) := by decide +kernel
theorem d_Minit_43 : decode b_Minit 43 = .ok (.putfield 7, 3) := by decide +kernel
theorem d_Minit_46 : decode b_Minit 46 = .ok (.aload_n 0, 1) := by decide +kernel
theorem d_Minit_47 : decode b_Minit 47 = .ok (.bipush 8, 2) := by decide +kernel
theorem d_Minit_49 : decode b_Minit 49 = .ok (.newarray .int, 2) := by decide +kernel
theorem d_Minit_51 : decode b_Minit 51 = .ok (.dup, 1) := by decide +kernel
theorem d_Minit_52 : decode b_Minit 52 = .ok (.iconst 0, 1) := by decide +kernel
theorem d_Minit_53 : decode b_Minit 53 = .ok (.iconst 1, 1) := by decide +kernel
theorem d_Minit_54 : decode b_Minit 54 = .ok (.iastore, 1) := by decide +kernel
theorem d_Minit_55 : decode b_Minit 55 = .ok (.dup, 1) := by decide +kernel
theorem d_Minit_56 : decode b_Minit 56 = .ok (.iconst 1, 1) := by decide +kernel
theorem d_Minit_57 : decode b_Minit 57 = .ok (.iconst 1, 1) := by decide +kernel
theorem d_Minit_58 : decode b_Minit 58 = .ok (.iastore, 1) := by decide +kernel
theorem d_Minit_59 : decode b_Minit 59 = .ok (.dup, 1) := by decide +kernel
theorem d_Minit_60 : decode b_Minit 60 = .ok (.iconst 2, 1) := by decide +kernel
theorem d_Minit_61 : decode b_Minit 61 = .ok (.iconst 1, 1) := by decide +kernel
theorem d_Minit_62 : decode b_Minit 62 = .ok (.iastore, 1) := by decide +kernel
theorem d_Minit_63 : decode b_Minit 63 = .ok (.dup, 1) := by decide +kernel
theorem d_Minit_64 : decode b_Minit 64 = .ok (.iconst 3, 1) := by decide +kernel
theorem d_Minit_65 : decode b_Minit 65 = .ok (.iconst 1, 1) := by decide +kernel
theorem d_Minit_66 : decode b_Minit 66 = .ok (.iastore, 1) := by decide +kernel
theorem d_Minit_67 : decode b_Minit 67 = .ok (.dup, 1) := by decide +kernel
theorem d_Minit_68 : decode b_Minit 68 = .ok (.iconst 4, 1) := by decide +kernel
theorem d_Minit_69 : decode b_Minit 69 = .ok (.iconst 1, 1) := by decide +kernel
theorem d_Minit_70 : decode b_Minit 70 = .ok (.iastore, 1) := by decide +kernel
theorem d_Minit_71 : decode b_Minit 71 = .ok (.dup, 1) := by decide +kernel
theorem d_Minit_72 : decode b_Minit 72 = .ok (.iconst 5, 1) := by decide +kernel
theorem d_Minit_73 : decode b_Minit 73 = .ok (.iconst 1, 1) := by decide +kernel
theorem d_Minit_74 : decode b_Minit 74 = .ok (.iastore, 1) := by decide +kernel
theorem d_Minit_75 : decode b_Minit 75 = .ok (.dup, 1) := by decide +kernel
theorem d_Minit_76 : decode b_Minit 76 = .ok (.bipush 6, 2) := by decide +kernel
theorem d_Minit_78 : decode b_Minit 78 = .ok (.iconst 1, 1) := by decide +kernel
theorem d_Minit_79 : decode b_Minit 79 = .ok (.iastore, 1) := by decide +kernel
theorem d_Minit_80 : decode b_Minit 80 = .ok (.dup, 1) := by decide +kernel
theorem d_Minit_81 : decode b_Minit 81 = .ok (.bipush 7, 2) := by decide +kernel
theorem d_Minit_83 : decode b_Minit 83 = .ok (.iconst 1, 1) := by decide +kernel
theorem d_Minit_84 : decode b_Minit 84 = .ok (.iastore, 1) := by decide +kernel
theorem d_Minit_85 : decode b_Minit 85 = .ok (.putfield 13, 3) := by decide +kernel
theorem d_Minit_88 : decode b_Minit 88 = .ok (.aload_n 0, 1) := by decide +kernel
theorem d_Minit_89 : decode b_Minit 89 = .ok (.bipush 8, 2) := by decide +kernel
theorem d_Minit_91 : decode b_Minit 91 = .ok (.newarray .int, 2) := by decide +kernel
theorem d_Minit_93 : decode b_Minit 93 = .ok (.putfield 16, 3) := by decide +kernel
theorem d_Minit_96 : decode b_Minit 96 = .ok (.aload_n 0, 1) := by decide +kernel
theorem d_Minit_97 : decode b_Minit 97 = .ok (.bipush 8, 2) := by decide +kernel
theorem d_Minit_99 : decode b_Minit 99 = .ok (.newarray .boolean, 2) := by decide +kernel
theorem d_Minit_101 : decode b_Minit 101 = .ok (.putfield 19, 3) := by decide +kernel
theorem d_Minit_104 : decode b_Minit 104 = .ok (.aload_n 0, 1) := by decide +kernel
theorem d_Minit_105 : decode b_Minit 105 = .ok (.bipush 8, 2) := by decide +kernel
theorem d_Minit_107 : decode b_Minit 107 = .ok (.newarray .boolean, 2) := by decide +kernel
theorem d_Minit_109 : decode b_Minit 109 = .ok (.putfield 23, 3) := by decide +kernel
theorem d_Minit_112 : decode b_Minit 112 = .ok (.aload_n 0, 1) := by decide +kernel
theorem d_Minit_113 : decode b_Minit 113 = .ok (.bipush 32, 2) := by decide +kernel
theorem d_Minit_115 : decode b_Minit 115 = .ok (.newarray .int, 2) := by decide +kernel
theorem d_Minit_117 : decode b_Minit 117 = .ok (.putfield 26, 3) := by decide +kernel
theorem d_Minit_120 : decode b_Minit 120 = .ok (.aload_n 0, 1) := by decide +kernel
theorem d_Minit_121 : decode b_Minit 121 = .ok (.iconst 4, 1) := by decide +kernel
theorem d_Minit_122 : decode b_Minit 122 = .ok (.newarray .int, 2) := by decide +kernel
theorem d_Minit_124 : decode b_Minit 124 = .ok (.putfield 29, 3) := by decide +kernel
theorem d_Minit_127 : decode b_Minit 127 = .ok (.aload_n 0, 1) := by decide +kernel
theorem d_Minit_128 : decode b_Minit 128 = .ok (.iconst 4, 1) := by decide +kernel
theorem d_Minit_129 : decode b_Minit 129 = .ok (.newarray .int, 2) := by decide +kernel
theorem d_Minit_131 : decode b_Minit 131 = .ok (.dup, 1) := by decide +kernel
theorem d_Minit_132 : decode b_Minit 132 = .ok (.iconst 0, 1) := by decide +kernel
theorem d_Minit_133 : decode b_Minit 133 = .ok (.iconst 1, 1) := by decide +kernel
theorem d_Minit_134 : decode b_Minit 134 = .ok (.iastore, 1) := by decide +kernel
theorem d_Minit_135 : decode b_Minit 135 = .ok (.dup, 1) := by decide +kernel
theorem d_Minit_136 : decode b_Minit 136 = .ok (.iconst 1, 1) := by decide +kernel
theorem d_Minit_137 : decode b_Minit 137 = .ok (.iconst 1, 1) := by decide +kernel
theorem d_Minit_138 : decode b_Minit 138 = .ok (.iastore, 1) := by decide +kernel
theorem d_Minit_139 : decode b_Minit 139 = .ok (.dup, 1) := by decide +kernel
theorem d_Minit_140 : decode b_Minit 140 = .ok (.iconst 2, 1) := by decide +kernel
theorem d_Minit_141 : decode b_Minit 141 = .ok (.iconst 1, 1) := by decide +kernel
theorem d_Minit_142 : decode b_Minit 142 = .ok (.iastore, 1) := by decide +kernel
theorem d_Minit_143 : decode b_Minit 143 = .ok (.dup, 1) := by decide +kernel
theorem d_Minit_144 : decode b_Minit 144 = .ok (.iconst 3, 1) := by decide +kernel
theorem d_Minit_145 : decode b_Minit 145 = .ok (.iconst 1, 1) := by decide +kernel
theorem d_Minit_146 : decode b_Minit 146 = .ok (.iastore, 1) := by decide +kernel
theorem d_Minit_147 : decode b_Minit 147 = .ok (.putfield 32, 3) := by decide +kernel
theorem d_Minit_150 : decode b_Minit 150 = .ok (.aload_n 0, 1) := by decide +kernel
theorem d_Minit_151 : decode b_Minit 151 = .ok (.iconst 4, 1) := by decide +kernel
theorem d_Minit_152 : decode b_Minit 152 = .ok (.newarray .int, 2) := by decide +kernel
theorem d_Minit_154 : decode b_Minit 154 = .ok (.putfield 35, 3) := by decide +kernel
theorem d_Minit_157 : decode b_Minit 157 = .ok (.aload_n 0, 1) := by decide +kernel
theorem d_Minit_158 : decode b_Minit 158 = .ok (.iconst 4, 1) := by decide +kernel
theorem d_Minit_159 : decode b_Minit 159 = .ok (.newarray .boolean, 2) := by decide +kernel
theorem d_Minit_161 : decode b_Minit 161 = .ok (.putfield 38, 3) := by decide +kernel
theorem d_Minit_164 : decode b_Minit 164 = .ok (.aload_n 0, 1) := by decide +kernel
theorem d_Minit_165 : decode b_Minit 165 = .ok (.iconst 4, 1) := by decide +kernel
theorem d_Minit_166 : decode b_Minit 166 = .ok (.newarray .int, 2) := by decide +kernel
theorem d_Minit_168 : decode b_Minit 168 = .ok (.putfield 41, 3) := by decide +kernel
theorem d_Minit_171 : decode b_Minit 171 = .ok (.aload_n 0, 1) := by decide +kernel
theorem d_Minit_172 : decode b_Minit 172 = .ok (.iconst 4, 1) := by decide +kernel
theorem d_Minit_173 : decode b_Minit 173 = .ok (.newarray .int, 2) := by decide +kernel
theorem d_Minit_175 : decode b_Minit 175 = .ok (.putfield 44, 3) := by decide +kernel
theorem d_Minit_178 : decode b_Minit 178 = .ok (.aload_n 0, 1) := by decide +kernel
theorem d_Minit_179 : decode b_Minit 179 = .ok (.iconst 4, 1) := by decide +kernel
theorem d_Minit_180 : decode b_Minit 180 = .ok (.newarray .int, 2) := by decide +kernel
theorem d_Minit_182 : decode b_Minit 182 = .ok (.dup, 1) := by decide +kernel
theorem d_Minit_183 : decode b_Minit 183 = .ok (.iconst 0, 1) := by decide +kernel
theorem d_Minit_184 : decode b_Minit 184 = .ok (.iconst (-1), 1) := by decide +kernel
theorem d_Minit_185 : decode b_Minit 185 = .ok (.iastore, 1) := by decide +kernel
theorem d_Minit_186 : decode b_Minit 186 = .ok (.dup, 1) := by decide +kernel
theorem d_Minit_187 : decode b_Minit 187 = .ok (.iconst 1, 1) := by decide +kernel
theorem d_Minit_188 : decode b_Minit 188 = .ok (.iconst (-1), 1) := by decide +kernel
theorem d_Minit_189 : decode b_Minit 189 = .ok (.iastore, 1) := by decide +kernel
theorem d_Minit_190 : decode b_Minit 190 = .ok (.dup, 1) := by decide +kernel
theorem d_Minit_191 : decode b_Minit 191 = .ok (.iconst 2, 1) := by decide +kernel
theorem d_Minit_192 : decode b_Minit 192 = .ok (.iconst (-1), 1) := by decide +kernel
theorem d_Minit_193 : decode b_Minit 193 = .ok (.iastore, 1) := by decide +kernel
theorem d_Minit_194 : decode b_Minit 194 = .ok (.dup, 1) := by decide +kernel
theorem d_Minit_195 : decode b_Minit 195 = .ok (.iconst 3, 1) := by decide +kernel
theorem d_Minit_196 : decode b_Minit 196 = .ok (.iconst (-1), 1) := by decide +kernel
theorem d_Minit_197 : decode b_Minit 197 = .ok (.iastore, 1) := by decide +kernel
theorem d_Minit_198 : decode b_Minit 198 = .ok (.putfield 47, 3) := by decide +kernel
theorem d_Minit_201 : decode b_Minit 201 = .ok (.aload_n 0, 1) := by decide +kernel
theorem d_Minit_202 : decode b_Minit 202 = .ok (.bipush 48, 2) := by decide +kernel
theorem d_Minit_204 : decode b_Minit 204 = .ok (.newarray .int, 2) := by decide +kernel
theorem d_Minit_206 : decode b_Minit 206 = .ok (.putfield 50, 3) := by decide +kernel
theorem d_Minit_209 : decode b_Minit 209 = .ok (.return_, 1) := by decide +kernel
theorem d_m_isIn_0 : decode b_m_isIn 0 = .ok (.iload_n 0, 1) := by decide +kernel
theorem d_m_isIn_1 : decode b_m_isIn 1 = .ok (.iload_n 1, 1) := by decide +kernel
theorem d_m_isIn_2 : decode b_m_isIn 2 = .ok (.if_icmp .lt 12, 3) := by decide +kernel
theorem d_m_isIn_5 : decode b_m_isIn 5 = .ok (.iload_n 0, 1) := by decide +kernel
theorem d_m_isIn_6 : decode b_m_isIn 6 = .ok (.iload_n 2, 1) := by decide +kernel
theorem d_m_isIn_7 : decode b_m_isIn 7 = .ok (.if_icmp .gt 7, 3) := by decide +kernel
theorem d_m_isIn_10 : decode b_m_isIn 10 = .ok (.iconst 1, 1) := by decide +kernel
theorem d_m_isIn_11 : decode b_m_isIn 11 = .ok (.goto 4, 3) := by decide +kernel
theorem d_m_isIn_14 : decode b_m_isIn 14 = .ok (.iconst 0, 1) := by decide +kernel
theorem d_m_isIn_15 : decode b_m_isIn 15 = .ok (.ireturn, 1) := by decide +kernel
theorem d_m_set_0 : decode b_m_set 0 = .ok (.iload_n 1, 1) := by decide +kernel
theorem d_m_set_1 : decode b_m_set 1 = .ok (.iconst 0, 1) := by decide +kernel
theorem d_m_set_2 : decode b_m_set 2 = .ok (.bipush 7, 2) := by decide +kernel
theorem d_m_set_4 : decode b_m_set 4 = .ok (.invokestatic 57, 3) := by decide +kernel
theorem d_m_set_7 : decode b_m_set 7 = .ok (.ifCond .eq 30, 3) := by decide +kernel
theorem d_m_set_10 : decode b_m_set 10 = .ok (.iload_n 2, 1) := by decide +kernel
theorem d_m_set_11 : decode b_m_set 11 = .ok (.iconst 0, 1) := by decide +kernel
theorem d_m_set_12 : decode b_m_set 12 = .ok (.iload_n 1, 1) := by decide +kernel
theorem d_m_set_13 : decode b_m_set 13 = .ok (.ifCond .ne 7, 3) := by decide +kernel
theorem d_m_set_16 : decode b_m_set 16 = .ok (.iconst 0, 1) := by decide +kernel
theorem d_m_set_17 : decode b_m_set 17 = .ok (.goto 4, 3) := by decide +kernel
theorem d_m_set_20 : decode b_m_set 20 = .ok (.iconst 1, 1) := by decide +kernel
theorem d_m_set_21 : decode b_m_set 21 = .ok (.invokestatic 57, 3) := by decide +kernel
theorem d_m_set_24 : decode b_m_set 24 = .ok (.ifCond .eq 13, 3) := by decide +kernel
theorem d_m_set_27 : decode b_m_set 27 = .ok (.iload_n 3, 1) := by decide +kernel
theorem d_m_set_28 : decode b_m_set 28 = .ok (.iconst 1, 1) := by decide +kernel
theorem d_m_set_29 : decode b_m_set 29 = .ok (.ldc 61, 2) := by decide +kernel
theorem d_m_set_31 : decode b_m_set 31 = .ok (.invokestatic 57, 3) := by decide +kernel
theorem d_m_set_34 : decode b_m_set 34 = .ok (.ifCond .ne 5, 3) := by decide +kernel
theorem d_m_set_37 : decode b_m_set 37 = .ok (.iconst 0, 1) := by decide +kernel
theorem d_m_set_38 : decode b_m_set 38 = .ok (.ireturn, 1) := by decide +kernel
theorem d_m_set_39 : decode b_m_set 39 = .ok (.aload_n 0, 1) := by decide +kernel
theorem d_m_set_40 : decode b_m_set 40 = .ok (.getfield 16, 3) := by decide +kernel
theorem d_m_set_43 : decode b_m_set 43 = .ok (.iload_n 1, 1) := by decide +kernel
theorem d_m_set_44 : decode b_m_set 44 = .ok (.iload_n 2, 1) := by decide +kernel
theorem d_m_set_45 : decode b_m_set 45 = .ok (.iastore, 1) := by decide +kernel
theorem d_m_set_46 : decode b_m_set 46 = .ok (.aload_n 0, 1) := by decide +kernel
theorem d_m_set_47 : decode b_m_set 47 = .ok (.getfield 7, 3) := by decide +kernel
theorem d_m_set_50 : decode b_m_set 50 = .ok (.iload_n 1, 1) := by decide +kernel
theorem d_m_set_51 : decode b_m_set 51 = .ok (.iload_n 3, 1) := by decide +kernel
theorem d_m_set_52 : decode b_m_set 52 = .ok (.iastore, 1) := by decide +kernel
theorem d_m_set_53 : decode b_m_set 53 = .ok (.aload_n 0, 1) := by decide +kernel
theorem d_m_set_54 : decode b_m_set 54 = .ok (.getfield 13, 3) := by decide +kernel
theorem d_m_set_57 : decode b_m_set 57 = .ok (.iload_n 1, 1) := by decide +kernel
theorem d_m_set_58 : decode b_m_set 58 = .ok (.iload_n 3, 1) := by decide +kernel
theorem d_m_set_59 : decode b_m_set 59 = .ok (.iastore, 1) := by decide +kernel
theorem d_m_set_60 : decode b_m_set 60 = .ok (.aload_n 0, 1) := by decide +kernel
theorem d_m_set_61 : decode b_m_set 61 = .ok (.getfield 19, 3) := by decide +kernel
theorem d_m_set_64 : decode b_m_set 64 = .ok (.iload_n 1, 1) := by decide +kernel
theorem d_m_set_65 : decode b_m_set 65 = .ok (.iload 4, 2) := by decide +kernel
theorem d_m_set_67 : decode b_m_set 67 = .ok (.bastore, 1) := by decide +kernel
theorem d_m_set_68 : decode b_m_set 68 = .ok (.aload_n 0, 1) := by decide +kernel
theorem d_m_set_69 : decode b_m_set 69 = .ok (.getfield 23, 3) := by decide +kernel
theorem d_m_set_72 : decode b_m_set 72 = .ok (.iload_n 1, 1) := by decide +kernel
theorem d_m_set_73 : decode b_m_set 73 = .ok (.iconst 0, 1) := by decide +kernel
theorem d_m_set_74 : decode b_m_set 74 = .ok (.bastore, 1) := by decide +kernel
theorem d_m_set_75 : decode b_m_set 75 = .ok (.iconst 1, 1) := by decide +kernel
theorem d_m_set_76 : decode b_m_set 76 = .ok (.ireturn, 1) := by decide +kernel
theorem d_m_turn_0 : decode b_m_turn 0 = .ok (.iload_n 1, 1) := by decide +kernel
theorem d_m_turn_1 : decode b_m_turn 1 = .ok (.iconst 0, 1) := by decide +kernel
theorem d_m_turn_2 : decode b_m_turn 2 = .ok (.bipush 7, 2) := by decide +kernel
theorem d_m_turn_4 : decode b_m_turn 4 = .ok (.invokestatic 57, 3) := by decide +kernel
theorem d_m_turn_7 : decode b_m_turn 7 = .ok (.ifCond .eq 13, 3) := by decide +kernel
theorem d_m_turn_10 : decode b_m_turn 10 = .ok (.aload_n 0, 1) := by decide +kernel
theorem d_m_turn_11 : decode b_m_turn 11 = .ok (.getfield 23, 3) := by decide +kernel
theorem d_m_turn_14 : decode b_m_turn 14 = .ok (.iload_n 1, 1) := by decide +kernel
theorem d_m_turn_15 : decode b_m_turn 15 = .ok (.baload, 1) := by decide +kernel
theorem d_m_turn_16 : decode b_m_turn 16 = .ok (.iload_n 2, 1) := by decide +kernel
theorem d_m_turn_17 : decode b_m_turn 17 = .ok (.if_icmp .ne 5, 3) := by decide +kernel
theorem d_m_turn_20 : decode b_m_turn 20 = .ok (.iconst 0, 1) := by decide +kernel
theorem d_m_turn_21 : decode b_m_turn 21 = .ok (.ireturn, 1) := by decide +kernel
theorem d_m_turn_22 : decode b_m_turn 22 = .ok (.aload_n 0, 1) := by decide +kernel
theorem d_m_turn_23 : decode b_m_turn 23 = .ok (.getfield 23, 3) := by decide +kernel
theorem d_m_turn_26 : decode b_m_turn 26 = .ok (.iload_n 1, 1) := by decide +kernel
theorem d_m_turn_27 : decode b_m_turn 27 = .ok (.iload_n 2, 1) := by decide +kernel
theorem d_m_turn_28 : decode b_m_turn 28 = .ok (.bastore, 1) := by decide +kernel
theorem d_m_turn_29 : decode b_m_turn 29 = .ok (.iconst 1, 1) := by decide +kernel
theorem d_m_turn_30 : decode b_m_turn 30 = .ok (.ireturn, 1) := by decide +kernel
theorem d_m_gate_0 : decode b_m_gate 0 = .ok (.iload_n 1, 1) := by decide +kernel
theorem d_m_gate_1 : decode b_m_gate 1 = .ok (.iconst 0, 1) := by decide +kernel
theorem d_m_gate_2 : decode b_m_gate 2 = .ok (.iconst 3, 1) := by decide +kernel
theorem d_m_gate_3 : decode b_m_gate 3 = .ok (.invokestatic 57, 3) := by decide +kernel
theorem d_m_gate_6 : decode b_m_gate 6 = .ok (.ifCond .eq 25, 3) := by decide +kernel
theorem d_m_gate_9 : decode b_m_gate 9 = .ok (.iload_n 2, 1) := by decide +kernel
theorem d_m_gate_10 : decode b_m_gate 10 = .ok (.iconst 0, 1) := by decide +kernel
theorem d_m_gate_11 : decode b_m_gate 11 = .ok (.sipush 255, 3) := by decide +kernel
theorem d_m_gate_14 : decode b_m_gate 14 = .ok (.invokestatic 57, 3) := by decide +kernel
theorem d_m_gate_17 : decode b_m_gate 17 = .ok (.ifCond .eq 14, 3) := by decide +kernel
theorem d_m_gate_20 : decode b_m_gate 20 = .ok (.iload_n 3, 1) := by decide +kernel
theorem d_m_gate_21 : decode b_m_gate 21 = .ok (.iconst 1, 1) := by decide +kernel
theorem d_m_gate_22 : decode b_m_gate 22 = .ok (.sipush 1000, 3) := by decide +kernel
theorem d_m_gate_25 : decode b_m_gate 25 = .ok (.invokestatic 57, 3) := by decide +kernel
theorem d_m_gate_28 : decode b_m_gate 28 = .ok (.ifCond .ne 5, 3) := by decide +kernel
theorem d_m_gate_31 : decode b_m_gate 31 = .ok (.iconst 0, 1) := by decide +kernel
theorem d_m_gate_32 : decode b_m_gate 32 = .ok (.ireturn, 1) := by decide +kernel
theorem d_m_gate_33 : decode b_m_gate 33 = .ok (.aload_n 0, 1) := by decide +kernel
theorem d_m_gate_34 : decode b_m_gate 34 = .ok (.getfield 29, 3) := by decide +kernel
theorem d_m_gate_37 : decode b_m_gate 37 = .ok (.iload_n 1, 1) := by decide +kernel
theorem d_m_gate_38 : decode b_m_gate 38 = .ok (.iload_n 2, 1) := by decide +kernel
theorem d_m_gate_39 : decode b_m_gate 39 = .ok (.iastore, 1) := by decide +kernel
theorem d_m_gate_40 : decode b_m_gate 40 = .ok (.aload_n 0, 1) := by decide +kernel
theorem d_m_gate_41 : decode b_m_gate 41 = .ok (.getfield 32, 3) := by decide +kernel
theorem d_m_gate_44 : decode b_m_gate 44 = .ok (.iload_n 1, 1) := by decide +kernel
theorem d_m_gate_45 : decode b_m_gate 45 = .ok (.iload_n 3, 1) := by decide +kernel
theorem d_m_gate_46 : decode b_m_gate 46 = .ok (.iastore, 1) := by decide +kernel
theorem d_m_gate_47 : decode b_m_gate 47 = .ok (.iconst 1, 1) := by decide +kernel
theorem d_m_gate_48 : decode b_m_gate 48 = .ok (.ireturn, 1) := by decide +kernel
theorem d_m_clear_0 : decode b_m_clear 0 = .ok (.iload_n 1, 1) := by decide +kernel
theorem d_m_clear_1 : decode b_m_clear 1 = .ok (.iconst 0, 1) := by decide +kernel
theorem d_m_clear_2 : decode b_m_clear 2 = .ok (.sipush 255, 3) := by decide +kernel
theorem d_m_clear_5 : decode b_m_clear 5 = .ok (.invokestatic 57, 3) := by decide +kernel
theorem d_m_clear_8 : decode b_m_clear 8 = .ok (.ifCond .ne 5, 3) := by decide +kernel
theorem d_m_clear_11 : decode b_m_clear 11 = .ok (.iconst (-1), 1) := by decide +kernel
theorem d_m_clear_12 : decode b_m_clear 12 = .ok (.ireturn, 1) := by decide +kernel
theorem d_m_clear_13 : decode b_m_clear 13 = .ok (.aload_n 0, 1) := by decide +kernel
theorem d_m_clear_14 : decode b_m_clear 14 = .ok (.getfield 62, 3) := by decide +kernel
theorem d_m_clear_17 : decode b_m_clear 17 = .ok (.iload_n 1, 1) := by decide +kernel
theorem d_m_clear_18 : decode b_m_clear 18 = .ok (.iand, 1) := by decide +kernel
theorem d_m_clear_19 : decode b_m_clear 19 = .ok (.istore_n 2, 1) := by decide +kernel
theorem d_m_clear_20 : decode b_m_clear 20 = .ok (.iconst 0, 1) := by decide +kernel
theorem d_m_clear_21 : decode b_m_clear 21 = .ok (.istore_n 3, 1) := by decide +kernel
theorem d_m_clear_22 : decode b_m_clear 22 = .ok (.iload_n 3, 1) := by decide +kernel
theorem d_m_clear_23 : decode b_m_clear 23 = .ok (.bipush 8, 2) := by decide +kernel
theorem d_m_clear_25 : decode b_m_clear 25 = .ok (.if_icmp .ge 27, 3) := by decide +kernel
theorem d_m_clear_28 : decode b_m_clear 28 = .ok (.aload_n 0, 1) := by decide +kernel
theorem d_m_clear_29 : decode b_m_clear 29 = .ok (.getfield 26, 3) := by decide +kernel
theorem d_m_clear_32 : decode b_m_clear 32 = .ok (.iconst 4, 1) := by decide +kernel
theorem d_m_clear_33 : decode b_m_clear 33 = .ok (.iload_n 3, 1) := by decide +kernel
theorem d_m_clear_34 : decode b_m_clear 34 = .ok (.imul, 1) := by decide +kernel
theorem d_m_clear_35 : decode b_m_clear 35 = .ok (.iconst 3, 1) := by decide +kernel
theorem d_m_clear_36 : decode b_m_clear 36 = .ok (.iadd, 1) := by decide +kernel
theorem d_m_clear_37 : decode b_m_clear 37 = .ok (.dup2, 1) := by decide +kernel
theorem d_m_clear_38 : decode b_m_clear 38 = .ok (.iaload, 1) := by decide +kernel
theorem d_m_clear_39 : decode b_m_clear 39 = .ok (.iload_n 2, 1) := by decide +kernel
theorem d_m_clear_40 : decode b_m_clear 40 = .ok (.iload_n 3, 1) := by decide +kernel
theorem d_m_clear_41 : decode b_m_clear 41 = .ok (.ishr, 1) := by decide +kernel
theorem d_m_clear_42 : decode b_m_clear 42 = .ok (.iconst 1, 1) := by decide +kernel
theorem d_m_clear_43 : decode b_m_clear 43 = .ok (.iand, 1) := by decide +kernel
theorem d_m_clear_44 : decode b_m_clear 44 = .ok (.iadd, 1) := by decide +kernel
theorem d_m_clear_45 : decode b_m_clear 45 = .ok (.iastore, 1) := by decide +kernel
theorem d_m_clear_46 : decode b_m_clear 46 = .ok (.iinc 3 1, 3) := by decide +kernel
theorem d_m_clear_49 : decode b_m_clear 49 = .ok (.goto (-27), 3) := by decide +kernel
theorem d_m_clear_52 : decode b_m_clear 52 = .ok (.aload_n 0, 1) := by decide +kernel
theorem d_m_clear_53 : decode b_m_clear 53 = .ok (.dup, 1) := by decide +kernel
theorem d_m_clear_54 : decode b_m_clear 54 = .ok (.getfield 62, 3) := by decide +kernel
theorem d_m_clear_57 : decode b_m_clear 57 = .ok (.iload_n 2, 1) := by decide +kernel
theorem d_m_clear_58 : decode b_m_clear 58 = .ok (.isub, 1) := by decide +kernel
theorem d_m_clear_59 : decode b_m_clear 59 = .ok (.putfield 62, 3) := by decide +kernel
theorem d_m_clear_62 : decode b_m_clear 62 = .ok (.iload_n 2, 1) := by decide +kernel
theorem d_m_clear_63 : decode b_m_clear 63 = .ok (.ireturn, 1) := by decide +kernel
theorem d_m_event_0 : decode b_m_event 0 = .ok (.aload_n 0, 1) := by decide +kernel
theorem d_m_event_1 : decode b_m_event 1 = .ok (.getfield 23, 3) := by decide +kernel
theorem d_m_event_4 : decode b_m_event 4 = .ok (.iload_n 1, 1) := by decide +kernel
theorem d_m_event_5 : decode b_m_event 5 = .ok (.baload, 1) := by decide +kernel
theorem d_m_event_6 : decode b_m_event 6 = .ok (.ifCond .ne 5, 3) := by decide +kernel
theorem d_m_event_9 : decode b_m_event 9 = .ok (.iconst 0, 1) := by decide +kernel
theorem d_m_event_10 : decode b_m_event 10 = .ok (.ireturn, 1) := by decide +kernel
theorem d_m_event_11 : decode b_m_event 11 = .ok (.aload_n 0, 1) := by decide +kernel
theorem d_m_event_12 : decode b_m_event 12 = .ok (.getfield 13, 3) := by decide +kernel
theorem d_m_event_15 : decode b_m_event 15 = .ok (.iload_n 1, 1) := by decide +kernel
theorem d_m_event_16 : decode b_m_event 16 = .ok (.dup2, 1) := by decide +kernel
theorem d_m_event_17 : decode b_m_event 17 = .ok (.iaload, 1) := by decide +kernel
theorem d_m_event_18 : decode b_m_event 18 = .ok (.iconst 1, 1) := by decide +kernel
theorem d_m_event_19 : decode b_m_event 19 = .ok (.isub, 1) := by decide +kernel
theorem d_m_event_20 : decode b_m_event 20 = .ok (.iastore, 1) := by decide +kernel
theorem d_m_event_21 : decode b_m_event 21 = .ok (.aload_n 0, 1) := by decide +kernel
theorem d_m_event_22 : decode b_m_event 22 = .ok (.getfield 13, 3) := by decide +kernel
theorem d_m_event_25 : decode b_m_event 25 = .ok (.iload_n 1, 1) := by decide +kernel
theorem d_m_event_26 : decode b_m_event 26 = .ok (.iaload, 1) := by decide +kernel
theorem d_m_event_27 : decode b_m_event 27 = .ok (.ifCond .le 5, 3) := by decide +kernel
theorem d_m_event_30 : decode b_m_event 30 = .ok (.iconst 0, 1) := by decide +kernel
theorem d_m_event_31 : decode b_m_event 31 = .ok (.ireturn, 1) := by decide +kernel
theorem d_m_event_32 : decode b_m_event 32 = .ok (.aload_n 0, 1) := by decide +kernel
theorem d_m_event_33 : decode b_m_event 33 = .ok (.getfield 13, 3) := by decide +kernel
theorem d_m_event_36 : decode b_m_event 36 = .ok (.iload_n 1, 1) := by decide +kernel
theorem d_m_event_37 : decode b_m_event 37 = .ok (.aload_n 0, 1) := by decide +kernel
theorem d_m_event_38 : decode b_m_event 38 = .ok (.getfield 7, 3) := by decide +kernel
theorem d_m_event_41 : decode b_m_event 41 = .ok (.iload_n 1, 1) := by decide +kernel
theorem d_m_event_42 : decode b_m_event 42 = .ok (.iaload, 1) := by decide +kernel
theorem d_m_event_43 : decode b_m_event 43 = .ok (.iastore, 1) := by decide +kernel
theorem d_m_event_44 : decode b_m_event 44 = .ok (.aload_n 0, 1) := by decide +kernel
theorem d_m_event_45 : decode b_m_event 45 = .ok (.getfield 23, 3) := by decide +kernel
theorem d_m_event_48 : decode b_m_event 48 = .ok (.iload_n 1, 1) := by decide +kernel
theorem d_m_event_49 : decode b_m_event 49 = .ok (.aload_n 0, 1) := by decide +kernel
theorem d_m_event_50 : decode b_m_event 50 = .ok (.getfield 19, 3) := by decide +kernel
theorem d_m_event_53 : decode b_m_event 53 = .ok (.iload_n 1, 1) := by decide +kernel
theorem d_m_event_54 : decode b_m_event 54 = .ok (.baload, 1) := by decide +kernel
theorem d_m_event_55 : decode b_m_event 55 = .ok (.ifCond .ne 7, 3) := by decide +kernel
theorem d_m_event_58 : decode b_m_event 58 = .ok (.iconst 1, 1) := by decide +kernel
theorem d_m_event_59 : decode b_m_event 59 = .ok (.goto 4, 3) := by decide +kernel
theorem d_m_event_62 : decode b_m_event 62 = .ok (.iconst 0, 1) := by decide +kernel
theorem d_m_event_63 : decode b_m_event 63 = .ok (.bastore, 1) := by decide +kernel
theorem d_m_event_64 : decode b_m_event 64 = .ok (.aload_n 0, 1) := by decide +kernel
theorem d_m_event_65 : decode b_m_event 65 = .ok (.getfield 26, 3) := by decide +kernel
theorem d_m_event_68 : decode b_m_event 68 = .ok (.iconst 4, 1) := by decide +kernel
theorem d_m_event_69 : decode b_m_event 69 = .ok (.iload_n 1, 1) := by decide +kernel
theorem d_m_event_70 : decode b_m_event 70 = .ok (.imul, 1) := by decide +kernel
theorem d_m_event_71 : decode b_m_event 71 = .ok (.dup2, 1) := by decide +kernel
theorem d_m_event_72 : decode b_m_event 72 = .ok (.iaload, 1) := by decide +kernel
theorem d_m_event_73 : decode b_m_event 73 = .ok (.iconst 1, 1) := by decide +kernel
theorem d_m_event_74 : decode b_m_event 74 = .ok (.iadd, 1) := by decide +kernel
theorem d_m_event_75 : decode b_m_event 75 = .ok (.iastore, 1) := by decide +kernel
theorem d_m_event_76 : decode b_m_event 76 = .ok (.aload_n 0, 1) := by decide +kernel
theorem d_m_event_77 : decode b_m_event 77 = .ok (.getfield 26, 3) := by decide +kernel
theorem d_m_event_80 : decode b_m_event 80 = .ok (.iconst 4, 1) := by decide +kernel
theorem d_m_event_81 : decode b_m_event 81 = .ok (.iload_n 1, 1) := by decide +kernel
theorem d_m_event_82 : decode b_m_event 82 = .ok (.imul, 1) := by decide +kernel
theorem d_m_event_83 : decode b_m_event 83 = .ok (.iconst 1, 1) := by decide +kernel
theorem d_m_event_84 : decode b_m_event 84 = .ok (.iadd, 1) := by decide +kernel
theorem d_m_event_85 : decode b_m_event 85 = .ok (.dup2, 1) := by decide +kernel
theorem d_m_event_86 : decode b_m_event 86 = .ok (.iaload, 1) := by decide +kernel
theorem d_m_event_87 : decode b_m_event 87 = .ok (.aload_n 0, 1) := by decide +kernel
theorem d_m_event_88 : decode b_m_event 88 = .ok (.getfield 62, 3) := by decide +kernel
theorem d_m_event_91 : decode b_m_event 91 = .ok (.iload_n 1, 1) := by decide +kernel
theorem d_m_event_92 : decode b_m_event 92 = .ok (.ishr, 1) := by decide +kernel
theorem d_m_event_93 : decode b_m_event 93 = .ok (.iconst 1, 1) := by decide +kernel
theorem d_m_event_94 : decode b_m_event 94 = .ok (.iand, 1) := by decide +kernel
theorem d_m_event_95 : decode b_m_event 95 = .ok (.iadd, 1) := by decide +kernel
theorem d_m_event_96 : decode b_m_event 96 = .ok (.iastore, 1) := by decide +kernel
theorem d_m_event_97 : decode b_m_event 97 = .ok (.aload_n 0, 1) := by decide +kernel
theorem d_m_event_98 : decode b_m_event 98 = .ok (.dup, 1) := by decide +kernel
theorem d_m_event_99 : decode b_m_event 99 = .ok (.getfield 62, 3) := by decide +kernel
theorem d_m_event_102 : decode b_m_event 102 = .ok (.iconst 1, 1) := by decide +kernel
theorem d_m_event_103 : decode b_m_event 103 = .ok (.iload_n 1, 1) := by decide +kernel
theorem d_m_event_104 : decode b_m_event 104 = .ok (.ishl, 1) := by decide +kernel
theorem d_m_event_105 : decode b_m_event 105 = .ok (.ior, 1) := by decide +kernel
theorem d_m_event_106 : decode b_m_event 106 = .ok (.putfield 62, 3) := by decide +kernel
theorem d_m_event_109 : decode b_m_event 109 = .ok (.iconst 1, 1) := by decide +kernel
theorem d_m_event_110 : decode b_m_event 110 = .ok (.ireturn, 1) := by decide +kernel
theorem d_m_asks_0 : decode b_m_asks 0 = .ok (.aload_n 0, 1) := by decide +kernel
theorem d_m_asks_1 : decode b_m_asks 1 = .ok (.getfield 62, 3) := by decide +kernel
theorem d_m_asks_4 : decode b_m_asks 4 = .ok (.aload_n 0, 1) := by decide +kernel
theorem d_m_asks_5 : decode b_m_asks 5 = .ok (.getfield 29, 3) := by decide +kernel
theorem d_m_asks_8 : decode b_m_asks 8 = .ok (.iload_n 1, 1) := by decide +kernel
theorem d_m_asks_9 : decode b_m_asks 9 = .ok (.iaload, 1) := by decide +kernel
theorem d_m_asks_10 : decode b_m_asks 10 = .ok (.iand, 1) := by decide +kernel
theorem d_m_asks_11 : decode b_m_asks 11 = .ok (.ifCond .eq 7, 3) := by decide +kernel
theorem d_m_asks_14 : decode b_m_asks 14 = .ok (.iconst 1, 1) := by decide +kernel
theorem d_m_asks_15 : decode b_m_asks 15 = .ok (.goto 4, 3) := by decide +kernel
theorem d_m_asks_18 : decode b_m_asks 18 = .ok (.iconst 0, 1) := by decide +kernel
theorem d_m_asks_19 : decode b_m_asks 19 = .ok (.ireturn, 1) := by decide +kernel
theorem d_m_serve_0 : decode b_m_serve 0 = .ok (.aload_n 0, 1) := by decide +kernel
theorem d_m_serve_1 : decode b_m_serve 1 = .ok (.iload_n 1, 1) := by decide +kernel
theorem d_m_serve_2 : decode b_m_serve 2 = .ok (.invokevirtual 65, 3) := by decide +kernel
theorem d_m_serve_5 : decode b_m_serve 5 = .ok (.ifCond .ne 14, 3) := by decide +kernel
theorem d_m_serve_8 : decode b_m_serve 8 = .ok (.aload_n 0, 1) := by decide +kernel
theorem d_m_serve_9 : decode b_m_serve 9 = .ok (.getfield 44, 3) := by decide +kernel
theorem d_m_serve_12 : decode b_m_serve 12 = .ok (.iload_n 1, 1) := by decide +kernel
theorem d_m_serve_13 : decode b_m_serve 13 = .ok (.dup2, 1) := by decide +kernel
theorem d_m_serve_14 : decode b_m_serve 14 = .ok (.iaload, 1) := by decide +kernel
theorem d_m_serve_15 : decode b_m_serve 15 = .ok (.iconst 1, 1) := by decide +kernel
theorem d_m_serve_16 : decode b_m_serve 16 = .ok (.iadd, 1) := by decide +kernel
theorem d_m_serve_17 : decode b_m_serve 17 = .ok (.iastore, 1) := by decide +kernel
theorem d_m_serve_18 : decode b_m_serve 18 = .ok (.return_, 1) := by decide +kernel
theorem d_m_serve_19 : decode b_m_serve 19 = .ok (.iconst 0, 1) := by decide +kernel
theorem d_m_serve_20 : decode b_m_serve 20 = .ok (.istore_n 2, 1) := by decide +kernel
theorem d_m_serve_21 : decode b_m_serve 21 = .ok (.aload_n 0, 1) := by decide +kernel
theorem d_m_serve_22 : decode b_m_serve 22 = .ok (.getfield 62, 3) := by decide +kernel
theorem d_m_serve_25 : decode b_m_serve 25 = .ok (.aload_n 0, 1) := by decide +kernel
theorem d_m_serve_26 : decode b_m_serve 26 = .ok (.getfield 29, 3) := by decide +kernel
theorem d_m_serve_29 : decode b_m_serve 29 = .ok (.iload_n 1, 1) := by decide +kernel
theorem d_m_serve_30 : decode b_m_serve 30 = .ok (.iaload, 1) := by decide +kernel
theorem d_m_serve_31 : decode b_m_serve 31 = .ok (.iand, 1) := by decide +kernel
theorem d_m_serve_32 : decode b_m_serve 32 = .ok (.iconst 1, 1) := by decide +kernel
theorem d_m_serve_33 : decode b_m_serve 33 = .ok (.iload_n 2, 1) := by decide +kernel
theorem d_m_serve_34 : decode b_m_serve 34 = .ok (.ishl, 1) := by decide +kernel
theorem d_m_serve_35 : decode b_m_serve 35 = .ok (.iand, 1) := by decide +kernel
theorem d_m_serve_36 : decode b_m_serve 36 = .ok (.ifCond .ne 9, 3) := by decide +kernel
theorem d_m_serve_39 : decode b_m_serve 39 = .ok (.iinc 2 1, 3) := by decide +kernel
theorem d_m_serve_42 : decode b_m_serve 42 = .ok (.goto (-21), 3) := by decide +kernel
theorem d_m_serve_45 : decode b_m_serve 45 = .ok (.aload_n 0, 1) := by decide +kernel
theorem d_m_serve_46 : decode b_m_serve 46 = .ok (.dup, 1) := by decide +kernel
theorem d_m_serve_47 : decode b_m_serve 47 = .ok (.getfield 62, 3) := by decide +kernel
theorem d_m_serve_50 : decode b_m_serve 50 = .ok (.iconst 1, 1) := by decide +kernel
theorem d_m_serve_51 : decode b_m_serve 51 = .ok (.iload_n 2, 1) := by decide +kernel
theorem d_m_serve_52 : decode b_m_serve 52 = .ok (.ishl, 1) := by decide +kernel
theorem d_m_serve_53 : decode b_m_serve 53 = .ok (.isub, 1) := by decide +kernel
theorem d_m_serve_54 : decode b_m_serve 54 = .ok (.putfield 62, 3) := by decide +kernel
theorem d_m_serve_57 : decode b_m_serve 57 = .ok (.aload_n 0, 1) := by decide +kernel
theorem d_m_serve_58 : decode b_m_serve 58 = .ok (.getfield 26, 3) := by decide +kernel
theorem d_m_serve_61 : decode b_m_serve 61 = .ok (.iconst 4, 1) := by decide +kernel
theorem d_m_serve_62 : decode b_m_serve 62 = .ok (.iload_n 2, 1) := by decide +kernel
theorem d_m_serve_63 : decode b_m_serve 63 = .ok (.imul, 1) := by decide +kernel
theorem d_m_serve_64 : decode b_m_serve 64 = .ok (.iconst 2, 1) := by decide +kernel
theorem d_m_serve_65 : decode b_m_serve 65 = .ok (.iadd, 1) := by decide +kernel
theorem d_m_serve_66 : decode b_m_serve 66 = .ok (.dup2, 1) := by decide +kernel
theorem d_m_serve_67 : decode b_m_serve 67 = .ok (.iaload, 1) := by decide +kernel
theorem d_m_serve_68 : decode b_m_serve 68 = .ok (.iconst 1, 1) := by decide +kernel
theorem d_m_serve_69 : decode b_m_serve 69 = .ok (.iadd, 1) := by decide +kernel
theorem d_m_serve_70 : decode b_m_serve 70 = .ok (.iastore, 1) := by decide +kernel
theorem d_m_serve_71 : decode b_m_serve 71 = .ok (.aload_n 0, 1) := by decide +kernel
theorem d_m_serve_72 : decode b_m_serve 72 = .ok (.getfield 41, 3) := by decide +kernel
theorem d_m_serve_75 : decode b_m_serve 75 = .ok (.iload_n 1, 1) := by decide +kernel
theorem d_m_serve_76 : decode b_m_serve 76 = .ok (.dup2, 1) := by decide +kernel
theorem d_m_serve_77 : decode b_m_serve 77 = .ok (.iaload, 1) := by decide +kernel
theorem d_m_serve_78 : decode b_m_serve 78 = .ok (.iconst 1, 1) := by decide +kernel
theorem d_m_serve_79 : decode b_m_serve 79 = .ok (.iadd, 1) := by decide +kernel
theorem d_m_serve_80 : decode b_m_serve 80 = .ok (.iastore, 1) := by decide +kernel
theorem d_m_serve_81 : decode b_m_serve 81 = .ok (.aload_n 0, 1) := by decide +kernel
theorem d_m_serve_82 : decode b_m_serve 82 = .ok (.getfield 47, 3) := by decide +kernel
theorem d_m_serve_85 : decode b_m_serve 85 = .ok (.iload_n 1, 1) := by decide +kernel
theorem d_m_serve_86 : decode b_m_serve 86 = .ok (.aload_n 0, 1) := by decide +kernel
theorem d_m_serve_87 : decode b_m_serve 87 = .ok (.getfield 69, 3) := by decide +kernel
theorem d_m_serve_90 : decode b_m_serve 90 = .ok (.iastore, 1) := by decide +kernel
theorem d_m_serve_91 : decode b_m_serve 91 = .ok (.iconst 3, 1) := by decide +kernel
theorem d_m_serve_92 : decode b_m_serve 92 = .ok (.aload_n 0, 1) := by decide +kernel
theorem d_m_serve_93 : decode b_m_serve 93 = .ok (.getfield 72, 3) := by decide +kernel
theorem d_m_serve_96 : decode b_m_serve 96 = .ok (.bipush 16, 2) := by decide +kernel
theorem d_m_serve_98 : decode b_m_serve 98 = .ok (.irem, 1) := by decide +kernel
theorem d_m_serve_99 : decode b_m_serve 99 = .ok (.imul, 1) := by decide +kernel
theorem d_m_serve_100 : decode b_m_serve 100 = .ok (.istore_n 3, 1) := by decide +kernel
theorem d_m_serve_101 : decode b_m_serve 101 = .ok (.aload_n 0, 1) := by decide +kernel
theorem d_m_serve_102 : decode b_m_serve 102 = .ok (.getfield 50, 3) := by decide +kernel
theorem d_m_serve_105 : decode b_m_serve 105 = .ok (.iload_n 3, 1) := by decide +kernel
theorem d_m_serve_106 : decode b_m_serve 106 = .ok (.iload_n 2, 1) := by decide +kernel
theorem d_m_serve_107 : decode b_m_serve 107 = .ok (.iastore, 1) := by decide +kernel
theorem d_m_serve_108 : decode b_m_serve 108 = .ok (.aload_n 0, 1) := by decide +kernel
theorem d_m_serve_109 : decode b_m_serve 109 = .ok (.getfield 50, 3) := by decide +kernel
theorem d_m_serve_112 : decode b_m_serve 112 = .ok (.iload_n 3, 1) := by decide +kernel
theorem d_m_serve_113 : decode b_m_serve 113 = .ok (.iconst 1, 1) := by decide +kernel
theorem d_m_serve_114 : decode b_m_serve 114 = .ok (.iadd, 1) := by decide +kernel
theorem d_m_serve_115 : decode b_m_serve 115 = .ok (.iload_n 1, 1) := by decide +kernel
theorem d_m_serve_116 : decode b_m_serve 116 = .ok (.iastore, 1) := by decide +kernel
theorem d_m_serve_117 : decode b_m_serve 117 = .ok (.aload_n 0, 1) := by decide +kernel
theorem d_m_serve_118 : decode b_m_serve 118 = .ok (.getfield 50, 3) := by decide +kernel
theorem d_m_serve_121 : decode b_m_serve 121 = .ok (.iload_n 3, 1) := by decide +kernel
theorem d_m_serve_122 : decode b_m_serve 122 = .ok (.iconst 2, 1) := by decide +kernel
theorem d_m_serve_123 : decode b_m_serve 123 = .ok (.iadd, 1) := by decide +kernel
theorem d_m_serve_124 : decode b_m_serve 124 = .ok (.aload_n 0, 1) := by decide +kernel
theorem d_m_serve_125 : decode b_m_serve 125 = .ok (.getfield 69, 3) := by decide +kernel
theorem d_m_serve_128 : decode b_m_serve 128 = .ok (.iastore, 1) := by decide +kernel
theorem d_m_serve_129 : decode b_m_serve 129 = .ok (.aload_n 0, 1) := by decide +kernel
theorem d_m_serve_130 : decode b_m_serve 130 = .ok (.dup, 1) := by decide +kernel
theorem d_m_serve_131 : decode b_m_serve 131 = .ok (.getfield 72, 3) := by decide +kernel
theorem d_m_serve_134 : decode b_m_serve 134 = .ok (.iconst 1, 1) := by decide +kernel
theorem d_m_serve_135 : decode b_m_serve 135 = .ok (.iadd, 1) := by decide +kernel
theorem d_m_serve_136 : decode b_m_serve 136 = .ok (.putfield 72, 3) := by decide +kernel
theorem d_m_serve_139 : decode b_m_serve 139 = .ok (.return_, 1) := by decide +kernel
theorem d_m_tick_0 : decode b_m_tick 0 = .ok (.aload_n 0, 1) := by decide +kernel
theorem d_m_tick_1 : decode b_m_tick 1 = .ok (.dup, 1) := by decide +kernel
theorem d_m_tick_2 : decode b_m_tick 2 = .ok (.getfield 69, 3) := by decide +kernel
theorem d_m_tick_5 : decode b_m_tick 5 = .ok (.iconst 1, 1) := by decide +kernel
theorem d_m_tick_6 : decode b_m_tick 6 = .ok (.iadd, 1) := by decide +kernel
theorem d_m_tick_7 : decode b_m_tick 7 = .ok (.putfield 69, 3) := by decide +kernel
theorem d_m_tick_10 : decode b_m_tick 10 = .ok (.iconst 0, 1) := by decide +kernel
theorem d_m_tick_11 : decode b_m_tick 11 = .ok (.istore_n 1, 1) := by decide +kernel
theorem d_m_tick_12 : decode b_m_tick 12 = .ok (.iconst 0, 1) := by decide +kernel
theorem d_m_tick_13 : decode b_m_tick 13 = .ok (.istore_n 2, 1) := by decide +kernel
theorem d_m_tick_14 : decode b_m_tick 14 = .ok (.iload_n 2, 1) := by decide +kernel
theorem d_m_tick_15 : decode b_m_tick 15 = .ok (.bipush 8, 2) := by decide +kernel
theorem d_m_tick_17 : decode b_m_tick 17 = .ok (.if_icmp .ge 36, 3) := by decide +kernel
theorem d_m_tick_20 : decode b_m_tick 20 = .ok (.aload_n 0, 1) := by decide +kernel
theorem d_m_tick_21 : decode b_m_tick 21 = .ok (.getfield 16, 3) := by decide +kernel
theorem d_m_tick_24 : decode b_m_tick 24 = .ok (.iload_n 2, 1) := by decide +kernel
theorem d_m_tick_25 : decode b_m_tick 25 = .ok (.iaload, 1) := by decide +kernel
theorem d_m_tick_26 : decode b_m_tick 26 = .ok (.ifCond .eq 7, 3) := by decide +kernel
theorem d_m_tick_29 : decode b_m_tick 29 = .ok (.iload_n 1, 1) := by decide +kernel
theorem d_m_tick_30 : decode b_m_tick 30 = .ok (.ifCond .eq 15, 3) := by decide +kernel
theorem d_m_tick_33 : decode b_m_tick 33 = .ok (.aload_n 0, 1) := by decide +kernel
theorem d_m_tick_34 : decode b_m_tick 34 = .ok (.iload_n 2, 1) := by decide +kernel
theorem d_m_tick_35 : decode b_m_tick 35 = .ok (.invokevirtual 75, 3) := by decide +kernel
theorem d_m_tick_38 : decode b_m_tick 38 = .ok (.ifCond .eq 7, 3) := by decide +kernel
theorem d_m_tick_41 : decode b_m_tick 41 = .ok (.iconst 1, 1) := by decide +kernel
theorem d_m_tick_42 : decode b_m_tick 42 = .ok (.goto 4, 3) := by decide +kernel
theorem d_m_tick_45 : decode b_m_tick 45 = .ok (.iconst 0, 1) := by decide +kernel
theorem d_m_tick_46 : decode b_m_tick 46 = .ok (.istore_n 1, 1) := by decide +kernel
theorem d_m_tick_47 : decode b_m_tick 47 = .ok (.iinc 2 1, 3) := by decide +kernel
theorem d_m_tick_50 : decode b_m_tick 50 = .ok (.goto (-36), 3) := by decide +kernel
theorem d_m_tick_53 : decode b_m_tick 53 = .ok (.iconst 0, 1) := by decide +kernel
theorem d_m_tick_54 : decode b_m_tick 54 = .ok (.istore_n 2, 1) := by decide +kernel
theorem d_m_tick_55 : decode b_m_tick 55 = .ok (.iload_n 2, 1) := by decide +kernel
theorem d_m_tick_56 : decode b_m_tick 56 = .ok (.iconst 4, 1) := by decide +kernel
theorem d_m_tick_57 : decode b_m_tick 57 = .ok (.if_icmp .ge 63, 3) := by decide +kernel
theorem d_m_tick_60 : decode b_m_tick 60 = .ok (.aload_n 0, 1) := by decide +kernel
theorem d_m_tick_61 : decode b_m_tick 61 = .ok (.getfield 38, 3) := by decide +kernel
theorem d_m_tick_64 : decode b_m_tick 64 = .ok (.iload_n 2, 1) := by decide +kernel
theorem d_m_tick_65 : decode b_m_tick 65 = .ok (.aload_n 0, 1) := by decide +kernel
theorem d_m_tick_66 : decode b_m_tick 66 = .ok (.getfield 35, 3) := by decide +kernel
theorem d_m_tick_69 : decode b_m_tick 69 = .ok (.iload_n 2, 1) := by decide +kernel
theorem d_m_tick_70 : decode b_m_tick 70 = .ok (.iaload, 1) := by decide +kernel
theorem d_m_tick_71 : decode b_m_tick 71 = .ok (.iconst 1, 1) := by decide +kernel
theorem d_m_tick_72 : decode b_m_tick 72 = .ok (.if_icmp .ne 7, 3) := by decide +kernel
theorem d_m_tick_75 : decode b_m_tick 75 = .ok (.iconst 1, 1) := by decide +kernel
theorem d_m_tick_76 : decode b_m_tick 76 = .ok (.goto 4, 3) := by decide +kernel
theorem d_m_tick_79 : decode b_m_tick 79 = .ok (.iconst 0, 1) := by decide +kernel
theorem d_m_tick_80 : decode b_m_tick 80 = .ok (.bastore, 1) := by decide +kernel
theorem d_m_tick_81 : decode b_m_tick 81 = .ok (.aload_n 0, 1) := by decide +kernel
theorem d_m_tick_82 : decode b_m_tick 82 = .ok (.getfield 35, 3) := by decide +kernel
theorem d_m_tick_85 : decode b_m_tick 85 = .ok (.iload_n 2, 1) := by decide +kernel
theorem d_m_tick_86 : decode b_m_tick 86 = .ok (.iaload, 1) := by decide +kernel
theorem d_m_tick_87 : decode b_m_tick 87 = .ok (.ifCond .le 13, 3) := by decide +kernel
theorem d_m_tick_90 : decode b_m_tick 90 = .ok (.aload_n 0, 1) := by decide +kernel
theorem d_m_tick_91 : decode b_m_tick 91 = .ok (.getfield 35, 3) := by decide +kernel
theorem d_m_tick_94 : decode b_m_tick 94 = .ok (.iload_n 2, 1) := by decide +kernel
theorem d_m_tick_95 : decode b_m_tick 95 = .ok (.dup2, 1) := by decide +kernel
theorem d_m_tick_96 : decode b_m_tick 96 = .ok (.iaload, 1) := by decide +kernel
theorem d_m_tick_97 : decode b_m_tick 97 = .ok (.iconst 1, 1) := by decide +kernel
theorem d_m_tick_98 : decode b_m_tick 98 = .ok (.isub, 1) := by decide +kernel
theorem d_m_tick_99 : decode b_m_tick 99 = .ok (.iastore, 1) := by decide +kernel
theorem d_m_tick_100 : decode b_m_tick 100 = .ok (.aload_n 0, 1) := by decide +kernel
theorem d_m_tick_101 : decode b_m_tick 101 = .ok (.getfield 38, 3) := by decide +kernel
theorem d_m_tick_104 : decode b_m_tick 104 = .ok (.iload_n 2, 1) := by decide +kernel
theorem d_m_tick_105 : decode b_m_tick 105 = .ok (.baload, 1) := by decide +kernel
theorem d_m_tick_106 : decode b_m_tick 106 = .ok (.ifCond .eq 8, 3) := by decide +kernel
theorem d_m_tick_109 : decode b_m_tick 109 = .ok (.aload_n 0, 1) := by decide +kernel
theorem d_m_tick_110 : decode b_m_tick 110 = .ok (.iload_n 2, 1) := by decide +kernel
theorem d_m_tick_111 : decode b_m_tick 111 = .ok (.invokevirtual 78, 3) := by decide +kernel
theorem d_m_tick_114 : decode b_m_tick 114 = .ok (.iinc 2 1, 3) := by decide +kernel
theorem d_m_tick_117 : decode b_m_tick 117 = .ok (.goto (-62), 3) := by decide +kernel
theorem d_m_tick_120 : decode b_m_tick 120 = .ok (.iconst 0, 1) := by decide +kernel
theorem d_m_tick_121 : decode b_m_tick 121 = .ok (.istore_n 2, 1) := by decide +kernel
theorem d_m_tick_122 : decode b_m_tick 122 = .ok (.iload_n 2, 1) := by decide +kernel
theorem d_m_tick_123 : decode b_m_tick 123 = .ok (.iconst 4, 1) := by decide +kernel
theorem d_m_tick_124 : decode b_m_tick 124 = .ok (.if_icmp .ge 38, 3) := by decide +kernel
theorem d_m_tick_127 : decode b_m_tick 127 = .ok (.aload_n 0, 1) := by decide +kernel
theorem d_m_tick_128 : decode b_m_tick 128 = .ok (.getfield 35, 3) := by decide +kernel
theorem d_m_tick_131 : decode b_m_tick 131 = .ok (.iload_n 2, 1) := by decide +kernel
theorem d_m_tick_132 : decode b_m_tick 132 = .ok (.iaload, 1) := by decide +kernel
theorem d_m_tick_133 : decode b_m_tick 133 = .ok (.ifCond .ne 23, 3) := by decide +kernel
theorem d_m_tick_136 : decode b_m_tick 136 = .ok (.aload_n 0, 1) := by decide +kernel
theorem d_m_tick_137 : decode b_m_tick 137 = .ok (.iload_n 2, 1) := by decide +kernel
theorem d_m_tick_138 : decode b_m_tick 138 = .ok (.invokevirtual 65, 3) := by decide +kernel
theorem d_m_tick_141 : decode b_m_tick 141 = .ok (.ifCond .eq 15, 3) := by decide +kernel
theorem d_m_tick_144 : decode b_m_tick 144 = .ok (.aload_n 0, 1) := by decide +kernel
theorem d_m_tick_145 : decode b_m_tick 145 = .ok (.getfield 35, 3) := by decide +kernel
theorem d_m_tick_148 : decode b_m_tick 148 = .ok (.iload_n 2, 1) := by decide +kernel
theorem d_m_tick_149 : decode b_m_tick 149 = .ok (.aload_n 0, 1) := by decide +kernel
theorem d_m_tick_150 : decode b_m_tick 150 = .ok (.getfield 32, 3) := by decide +kernel
theorem d_m_tick_153 : decode b_m_tick 153 = .ok (.iload_n 2, 1) := by decide +kernel
theorem d_m_tick_154 : decode b_m_tick 154 = .ok (.iaload, 1) := by decide +kernel
theorem d_m_tick_155 : decode b_m_tick 155 = .ok (.iastore, 1) := by decide +kernel
theorem d_m_tick_156 : decode b_m_tick 156 = .ok (.iinc 2 1, 3) := by decide +kernel
theorem d_m_tick_159 : decode b_m_tick 159 = .ok (.goto (-37), 3) := by decide +kernel
theorem d_m_tick_162 : decode b_m_tick 162 = .ok (.return_, 1) := by decide +kernel
theorem d_m_advance_0 : decode b_m_advance 0 = .ok (.iload_n 1, 1) := by decide +kernel
theorem d_m_advance_1 : decode b_m_advance 1 = .ok (.iconst 0, 1) := by decide +kernel
theorem d_m_advance_2 : decode b_m_advance 2 = .ok (.sipush 20000, 3) := by decide +kernel
theorem d_m_advance_5 : decode b_m_advance 5 = .ok (.invokestatic 57, 3) := by decide +kernel
theorem d_m_advance_8 : decode b_m_advance 8 = .ok (.ifCond .ne 5, 3) := by decide +kernel
theorem d_m_advance_11 : decode b_m_advance 11 = .ok (.iconst (-1), 1) := by decide +kernel
theorem d_m_advance_12 : decode b_m_advance 12 = .ok (.ireturn, 1) := by decide +kernel
theorem d_m_advance_13 : decode b_m_advance 13 = .ok (.aload_n 0, 1) := by decide +kernel
theorem d_m_advance_14 : decode b_m_advance 14 = .ok (.getfield 72, 3) := by decide +kernel
theorem d_m_advance_17 : decode b_m_advance 17 = .ok (.istore_n 2, 1) := by decide +kernel
theorem d_m_advance_18 : decode b_m_advance 18 = .ok (.iconst 0, 1) := by decide +kernel
theorem d_m_advance_19 : decode b_m_advance 19 = .ok (.istore_n 3, 1) := by decide +kernel
theorem d_m_advance_20 : decode b_m_advance 20 = .ok (.iload_n 3, 1) := by decide +kernel
theorem d_m_advance_21 : decode b_m_advance 21 = .ok (.iload_n 1, 1) := by decide +kernel
theorem d_m_advance_22 : decode b_m_advance 22 = .ok (.if_icmp .ge 13, 3) := by decide +kernel
theorem d_m_advance_25 : decode b_m_advance 25 = .ok (.aload_n 0, 1) := by decide +kernel
theorem d_m_advance_26 : decode b_m_advance 26 = .ok (.invokevirtual 82, 3) := by decide +kernel
theorem d_m_advance_29 : decode b_m_advance 29 = .ok (.iinc 3 1, 3) := by decide +kernel
theorem d_m_advance_32 : decode b_m_advance 32 = .ok (.goto (-12), 3) := by decide +kernel
theorem d_m_advance_35 : decode b_m_advance 35 = .ok (.aload_n 0, 1) := by decide +kernel
theorem d_m_advance_36 : decode b_m_advance 36 = .ok (.getfield 72, 3) := by decide +kernel
theorem d_m_advance_39 : decode b_m_advance 39 = .ok (.iload_n 2, 1) := by decide +kernel
theorem d_m_advance_40 : decode b_m_advance 40 = .ok (.isub, 1) := by decide +kernel
theorem d_m_advance_41 : decode b_m_advance 41 = .ok (.ireturn, 1) := by decide +kernel
theorem d_m_next_0 : decode b_m_next 0 = .ok (.iload_n 1, 1) := by decide +kernel
theorem d_m_next_1 : decode b_m_next 1 = .ok (.iconst 0, 1) := by decide +kernel
theorem d_m_next_2 : decode b_m_next 2 = .ok (.sipush 20000, 3) := by decide +kernel
theorem d_m_next_5 : decode b_m_next 5 = .ok (.invokestatic 57, 3) := by decide +kernel
theorem d_m_next_8 : decode b_m_next 8 = .ok (.ifCond .ne 5, 3) := by decide +kernel
theorem d_m_next_11 : decode b_m_next 11 = .ok (.iconst (-1), 1) := by decide +kernel
theorem d_m_next_12 : decode b_m_next 12 = .ok (.ireturn, 1) := by decide +kernel
theorem d_m_next_13 : decode b_m_next 13 = .ok (.aload_n 0, 1) := by decide +kernel
theorem d_m_next_14 : decode b_m_next 14 = .ok (.getfield 72, 3) := by decide +kernel
theorem d_m_next_17 : decode b_m_next 17 = .ok (.istore_n 2, 1) := by decide +kernel
theorem d_m_next_18 : decode b_m_next 18 = .ok (.iconst 0, 1) := by decide +kernel
theorem d_m_next_19 : decode b_m_next 19 = .ok (.istore_n 3, 1) := by decide +kernel
theorem d_m_next_20 : decode b_m_next 20 = .ok (.iload_n 3, 1) := by decide +kernel
theorem d_m_next_21 : decode b_m_next 21 = .ok (.iload_n 1, 1) := by decide +kernel
theorem d_m_next_22 : decode b_m_next 22 = .ok (.if_icmp .ge 21, 3) := by decide +kernel
theorem d_m_next_25 : decode b_m_next 25 = .ok (.aload_n 0, 1) := by decide +kernel
theorem d_m_next_26 : decode b_m_next 26 = .ok (.getfield 72, 3) := by decide +kernel
theorem d_m_next_29 : decode b_m_next 29 = .ok (.iload_n 2, 1) := by decide +kernel
theorem d_m_next_30 : decode b_m_next 30 = .ok (.if_icmp .ne 13, 3) := by decide +kernel
theorem d_m_next_33 : decode b_m_next 33 = .ok (.aload_n 0, 1) := by decide +kernel
theorem d_m_next_34 : decode b_m_next 34 = .ok (.invokevirtual 82, 3) := by decide +kernel
theorem d_m_next_37 : decode b_m_next 37 = .ok (.iinc 3 1, 3) := by decide +kernel
theorem d_m_next_40 : decode b_m_next 40 = .ok (.goto (-20), 3) := by decide +kernel
theorem d_m_next_43 : decode b_m_next 43 = .ok (.iload_n 3, 1) := by decide +kernel
theorem d_m_next_44 : decode b_m_next 44 = .ok (.ireturn, 1) := by decide +kernel
theorem d_m_timer_0 : decode b_m_timer 0 = .ok (.iload_n 1, 1) := by decide +kernel
theorem d_m_timer_1 : decode b_m_timer 1 = .ok (.iconst 0, 1) := by decide +kernel
theorem d_m_timer_2 : decode b_m_timer 2 = .ok (.bipush 7, 2) := by decide +kernel
theorem d_m_timer_4 : decode b_m_timer 4 = .ok (.invokestatic 57, 3) := by decide +kernel
theorem d_m_timer_7 : decode b_m_timer 7 = .ok (.ifCond .ne 5, 3) := by decide +kernel
theorem d_m_timer_10 : decode b_m_timer 10 = .ok (.iconst (-1), 1) := by decide +kernel
theorem d_m_timer_11 : decode b_m_timer 11 = .ok (.ireturn, 1) := by decide +kernel
theorem d_m_timer_12 : decode b_m_timer 12 = .ok (.iload_n 2, 1) := by decide +kernel
theorem d_m_timer_13 : decode b_m_timer 13 = .ok (.tableswitch 144 0 8 #[51, 58, 65, 72, 87, 102, 111, 122, 133], 51) := by decide +kernel
theorem d_m_timer_64 : decode b_m_timer 64 = .ok (.aload_n 0, 1) := by decide +kernel
theorem d_m_timer_65 : decode b_m_timer 65 = .ok (.getfield 13, 3) := by decide +kernel
theorem d_m_timer_68 : decode b_m_timer 68 = .ok (.iload_n 1, 1) := by decide +kernel
theorem d_m_timer_69 : decode b_m_timer 69 = .ok (.iaload, 1) := by decide +kernel
theorem d_m_timer_70 : decode b_m_timer 70 = .ok (.ireturn, 1) := by decide +kernel
theorem d_m_timer_71 : decode b_m_timer 71 = .ok (.aload_n 0, 1) := by decide +kernel
theorem d_m_timer_72 : decode b_m_timer 72 = .ok (.getfield 7, 3) := by decide +kernel
theorem d_m_timer_75 : decode b_m_timer 75 = .ok (.iload_n 1, 1) := by decide +kernel
theorem d_m_timer_76 : decode b_m_timer 76 = .ok (.iaload, 1) := by decide +kernel
theorem d_m_timer_77 : decode b_m_timer 77 = .ok (.ireturn, 1) := by decide +kernel
theorem d_m_timer_78 : decode b_m_timer 78 = .ok (.aload_n 0, 1) := by decide +kernel
theorem d_m_timer_79 : decode b_m_timer 79 = .ok (.getfield 16, 3) := by decide +kernel
theorem d_m_timer_82 : decode b_m_timer 82 = .ok (.iload_n 1, 1) := by decide +kernel
theorem d_m_timer_83 : decode b_m_timer 83 = .ok (.iaload, 1) := by decide +kernel
theorem d_m_timer_84 : decode b_m_timer 84 = .ok (.ireturn, 1) := by decide +kernel
theorem d_m_timer_85 : decode b_m_timer 85 = .ok (.aload_n 0, 1) := by decide +kernel
theorem d_m_timer_86 : decode b_m_timer 86 = .ok (.getfield 23, 3) := by decide +kernel
theorem d_m_timer_89 : decode b_m_timer 89 = .ok (.iload_n 1, 1) := by decide +kernel
theorem d_m_timer_90 : decode b_m_timer 90 = .ok (.baload, 1) := by decide +kernel
theorem d_m_timer_91 : decode b_m_timer 91 = .ok (.ifCond .eq 7, 3) := by decide +kernel
theorem d_m_timer_94 : decode b_m_timer 94 = .ok (.iconst 1, 1) := by decide +kernel
theorem d_m_timer_95 : decode b_m_timer 95 = .ok (.goto 4, 3) := by decide +kernel
theorem d_m_timer_98 : decode b_m_timer 98 = .ok (.iconst 0, 1) := by decide +kernel
theorem d_m_timer_99 : decode b_m_timer 99 = .ok (.ireturn, 1) := by decide +kernel
theorem d_m_timer_100 : decode b_m_timer 100 = .ok (.aload_n 0, 1) := by decide +kernel
theorem d_m_timer_101 : decode b_m_timer 101 = .ok (.getfield 19, 3) := by decide +kernel
theorem d_m_timer_104 : decode b_m_timer 104 = .ok (.iload_n 1, 1) := by decide +kernel
theorem d_m_timer_105 : decode b_m_timer 105 = .ok (.baload, 1) := by decide +kernel
theorem d_m_timer_106 : decode b_m_timer 106 = .ok (.ifCond .eq 7, 3) := by decide +kernel
theorem d_m_timer_109 : decode b_m_timer 109 = .ok (.iconst 1, 1) := by decide +kernel
theorem d_m_timer_110 : decode b_m_timer 110 = .ok (.goto 4, 3) := by decide +kernel
theorem d_m_timer_113 : decode b_m_timer 113 = .ok (.iconst 0, 1) := by decide +kernel
theorem d_m_timer_114 : decode b_m_timer 114 = .ok (.ireturn, 1) := by decide +kernel
theorem d_m_timer_115 : decode b_m_timer 115 = .ok (.aload_n 0, 1) := by decide +kernel
theorem d_m_timer_116 : decode b_m_timer 116 = .ok (.getfield 26, 3) := by decide +kernel
theorem d_m_timer_119 : decode b_m_timer 119 = .ok (.iconst 4, 1) := by decide +kernel
theorem d_m_timer_120 : decode b_m_timer 120 = .ok (.iload_n 1, 1) := by decide +kernel
theorem d_m_timer_121 : decode b_m_timer 121 = .ok (.imul, 1) := by decide +kernel
theorem d_m_timer_122 : decode b_m_timer 122 = .ok (.iaload, 1) := by decide +kernel
theorem d_m_timer_123 : decode b_m_timer 123 = .ok (.ireturn, 1) := by decide +kernel
theorem d_m_timer_124 : decode b_m_timer 124 = .ok (.aload_n 0, 1) := by decide +kernel
theorem d_m_timer_125 : decode b_m_timer 125 = .ok (.getfield 26, 3) := by decide +kernel
theorem d_m_timer_128 : decode b_m_timer 128 = .ok (.iconst 4, 1) := by decide +kernel
theorem d_m_timer_129 : decode b_m_timer 129 = .ok (.iload_n 1, 1) := by decide +kernel
theorem d_m_timer_130 : decode b_m_timer 130 = .ok (.imul, 1) := by decide +kernel
theorem d_m_timer_131 : decode b_m_timer 131 = .ok (.iconst 1, 1) := by decide +kernel
theorem d_m_timer_132 : decode b_m_timer 132 = .ok (.iadd, 1) := by decide +kernel
theorem d_m_timer_133 : decode b_m_timer 133 = .ok (.iaload, 1) := by decide +kernel
theorem d_m_timer_134 : decode b_m_timer 134 = .ok (.ireturn, 1) := by decide +kernel
theorem d_m_timer_135 : decode b_m_timer 135 = .ok (.aload_n 0, 1) := by decide +kernel
theorem d_m_timer_136 : decode b_m_timer 136 = .ok (.getfield 26, 3) := by decide +kernel
theorem d_m_timer_139 : decode b_m_timer 139 = .ok (.iconst 4, 1) := by decide +kernel
theorem d_m_timer_140 : decode b_m_timer 140 = .ok (.iload_n 1, 1) := by decide +kernel
theorem d_m_timer_141 : decode b_m_timer 141 = .ok (.imul, 1) := by decide +kernel
theorem d_m_timer_142 : decode b_m_timer 142 = .ok (.iconst 2, 1) := by decide +kernel
theorem d_m_timer_143 : decode b_m_timer 143 = .ok (.iadd, 1) := by decide +kernel
theorem d_m_timer_144 : decode b_m_timer 144 = .ok (.iaload, 1) := by decide +kernel
theorem d_m_timer_145 : decode b_m_timer 145 = .ok (.ireturn, 1) := by decide +kernel
theorem d_m_timer_146 : decode b_m_timer 146 = .ok (.aload_n 0, 1) := by decide +kernel
theorem d_m_timer_147 : decode b_m_timer 147 = .ok (.getfield 26, 3) := by decide +kernel
theorem d_m_timer_150 : decode b_m_timer 150 = .ok (.iconst 4, 1) := by decide +kernel
theorem d_m_timer_151 : decode b_m_timer 151 = .ok (.iload_n 1, 1) := by decide +kernel
theorem d_m_timer_152 : decode b_m_timer 152 = .ok (.imul, 1) := by decide +kernel
theorem d_m_timer_153 : decode b_m_timer 153 = .ok (.iconst 3, 1) := by decide +kernel
theorem d_m_timer_154 : decode b_m_timer 154 = .ok (.iadd, 1) := by decide +kernel
theorem d_m_timer_155 : decode b_m_timer 155 = .ok (.iaload, 1) := by decide +kernel
theorem d_m_timer_156 : decode b_m_timer 156 = .ok (.ireturn, 1) := by decide +kernel
theorem d_m_timer_157 : decode b_m_timer 157 = .ok (.iconst (-1), 1) := by decide +kernel
theorem d_m_timer_158 : decode b_m_timer 158 = .ok (.ireturn, 1) := by decide +kernel
theorem d_m_gateOf_0 : decode b_m_gateOf 0 = .ok (.iload_n 1, 1) := by decide +kernel
theorem d_m_gateOf_1 : decode b_m_gateOf 1 = .ok (.iconst 0, 1) := by decide +kernel
theorem d_m_gateOf_2 : decode b_m_gateOf 2 = .ok (.iconst 3, 1) := by decide +kernel
theorem d_m_gateOf_3 : decode b_m_gateOf 3 = .ok (.invokestatic 57, 3) := by decide +kernel
theorem d_m_gateOf_6 : decode b_m_gateOf 6 = .ok (.ifCond .ne 5, 3) := by decide +kernel
theorem d_m_gateOf_9 : decode b_m_gateOf 9 = .ok (.iconst (-1), 1) := by decide +kernel
theorem d_m_gateOf_10 : decode b_m_gateOf 10 = .ok (.ireturn, 1) := by decide +kernel
theorem d_m_gateOf_11 : decode b_m_gateOf 11 = .ok (.iload_n 2, 1) := by decide +kernel
theorem d_m_gateOf_12 : decode b_m_gateOf 12 = .ok (.tableswitch 100 0 6 #[44, 58, 65, 72, 79, 86, 93], 44) := by decide +kernel
theorem d_m_gateOf_56 : decode b_m_gateOf 56 = .ok (.aload_n 0, 1) := by decide +kernel
theorem d_m_gateOf_57 : decode b_m_gateOf 57 = .ok (.iload_n 1, 1) := by decide +kernel
theorem d_m_gateOf_58 : decode b_m_gateOf 58 = .ok (.invokevirtual 65, 3) := by decide +kernel
theorem d_m_gateOf_61 : decode b_m_gateOf 61 = .ok (.ifCond .eq 7, 3) := by decide +kernel
theorem d_m_gateOf_64 : decode b_m_gateOf 64 = .ok (.iconst 1, 1) := by decide +kernel
theorem d_m_gateOf_65 : decode b_m_gateOf 65 = .ok (.goto 4, 3) := by decide +kernel
theorem d_m_gateOf_68 : decode b_m_gateOf 68 = .ok (.iconst 0, 1) := by decide +kernel
theorem d_m_gateOf_69 : decode b_m_gateOf 69 = .ok (.ireturn, 1) := by decide +kernel
theorem d_m_gateOf_70 : decode b_m_gateOf 70 = .ok (.aload_n 0, 1) := by decide +kernel
theorem d_m_gateOf_71 : decode b_m_gateOf 71 = .ok (.getfield 35, 3) := by decide +kernel
theorem d_m_gateOf_74 : decode b_m_gateOf 74 = .ok (.iload_n 1, 1) := by decide +kernel
theorem d_m_gateOf_75 : decode b_m_gateOf 75 = .ok (.iaload, 1) := by decide +kernel
theorem d_m_gateOf_76 : decode b_m_gateOf 76 = .ok (.ireturn, 1) := by decide +kernel
theorem d_m_gateOf_77 : decode b_m_gateOf 77 = .ok (.aload_n 0, 1) := by decide +kernel
theorem d_m_gateOf_78 : decode b_m_gateOf 78 = .ok (.getfield 29, 3) := by decide +kernel
theorem d_m_gateOf_81 : decode b_m_gateOf 81 = .ok (.iload_n 1, 1) := by decide +kernel
theorem d_m_gateOf_82 : decode b_m_gateOf 82 = .ok (.iaload, 1) := by decide +kernel
theorem d_m_gateOf_83 : decode b_m_gateOf 83 = .ok (.ireturn, 1) := by decide +kernel
theorem d_m_gateOf_84 : decode b_m_gateOf 84 = .ok (.aload_n 0, 1) := by decide +kernel
theorem d_m_gateOf_85 : decode b_m_gateOf 85 = .ok (.getfield 32, 3) := by decide +kernel
theorem d_m_gateOf_88 : decode b_m_gateOf 88 = .ok (.iload_n 1, 1) := by decide +kernel
theorem d_m_gateOf_89 : decode b_m_gateOf 89 = .ok (.iaload, 1) := by decide +kernel
theorem d_m_gateOf_90 : decode b_m_gateOf 90 = .ok (.ireturn, 1) := by decide +kernel
theorem d_m_gateOf_91 : decode b_m_gateOf 91 = .ok (.aload_n 0, 1) := by decide +kernel
theorem d_m_gateOf_92 : decode b_m_gateOf 92 = .ok (.getfield 41, 3) := by decide +kernel
theorem d_m_gateOf_95 : decode b_m_gateOf 95 = .ok (.iload_n 1, 1) := by decide +kernel
theorem d_m_gateOf_96 : decode b_m_gateOf 96 = .ok (.iaload, 1) := by decide +kernel
theorem d_m_gateOf_97 : decode b_m_gateOf 97 = .ok (.ireturn, 1) := by decide +kernel
theorem d_m_gateOf_98 : decode b_m_gateOf 98 = .ok (.aload_n 0, 1) := by decide +kernel
theorem d_m_gateOf_99 : decode b_m_gateOf 99 = .ok (.getfield 44, 3) := by decide +kernel
theorem d_m_gateOf_102 : decode b_m_gateOf 102 = .ok (.iload_n 1, 1) := by decide +kernel
theorem d_m_gateOf_103 : decode b_m_gateOf 103 = .ok (.iaload, 1) := by decide +kernel
theorem d_m_gateOf_104 : decode b_m_gateOf 104 = .ok (.ireturn, 1) := by decide +kernel
theorem d_m_gateOf_105 : decode b_m_gateOf 105 = .ok (.aload_n 0, 1) := by decide +kernel
theorem d_m_gateOf_106 : decode b_m_gateOf 106 = .ok (.getfield 47, 3) := by decide +kernel
theorem d_m_gateOf_109 : decode b_m_gateOf 109 = .ok (.iload_n 1, 1) := by decide +kernel
theorem d_m_gateOf_110 : decode b_m_gateOf 110 = .ok (.iaload, 1) := by decide +kernel
theorem d_m_gateOf_111 : decode b_m_gateOf 111 = .ok (.ireturn, 1) := by decide +kernel
theorem d_m_gateOf_112 : decode b_m_gateOf 112 = .ok (.iconst (-1), 1) := by decide +kernel
theorem d_m_gateOf_113 : decode b_m_gateOf 113 = .ok (.ireturn, 1) := by decide +kernel
theorem d_m_look_0 : decode b_m_look 0 = .ok (.iload_n 1, 1) := by decide +kernel
theorem d_m_look_1 : decode b_m_look 1 = .ok (.ifCond .ne 8, 3) := by decide +kernel
theorem d_m_look_4 : decode b_m_look 4 = .ok (.aload_n 0, 1) := by decide +kernel
theorem d_m_look_5 : decode b_m_look 5 = .ok (.getfield 62, 3) := by decide +kernel
theorem d_m_look_8 : decode b_m_look 8 = .ok (.ireturn, 1) := by decide +kernel
theorem d_m_look_9 : decode b_m_look 9 = .ok (.iload_n 1, 1) := by decide +kernel
theorem d_m_look_10 : decode b_m_look 10 = .ok (.iconst 1, 1) := by decide +kernel
theorem d_m_look_11 : decode b_m_look 11 = .ok (.if_icmp .ne 8, 3) := by decide +kernel
theorem d_m_look_14 : decode b_m_look 14 = .ok (.aload_n 0, 1) := by decide +kernel
theorem d_m_look_15 : decode b_m_look 15 = .ok (.getfield 69, 3) := by decide +kernel
theorem d_m_look_18 : decode b_m_look 18 = .ok (.ireturn, 1) := by decide +kernel
theorem d_m_look_19 : decode b_m_look 19 = .ok (.iload_n 1, 1) := by decide +kernel
theorem d_m_look_20 : decode b_m_look 20 = .ok (.iconst 2, 1) := by decide +kernel
theorem d_m_look_21 : decode b_m_look 21 = .ok (.if_icmp .ne 8, 3) := by decide +kernel
theorem d_m_look_24 : decode b_m_look 24 = .ok (.aload_n 0, 1) := by decide +kernel
theorem d_m_look_25 : decode b_m_look 25 = .ok (.getfield 72, 3) := by decide +kernel
theorem d_m_look_28 : decode b_m_look 28 = .ok (.ireturn, 1) := by decide +kernel
theorem d_m_look_29 : decode b_m_look 29 = .ok (.iload_n 1, 1) := by decide +kernel
theorem d_m_look_30 : decode b_m_look 30 = .ok (.iconst 3, 1) := by decide +kernel
theorem d_m_look_31 : decode b_m_look 31 = .ok (.if_icmp .eq 5, 3) := by decide +kernel
theorem d_m_look_34 : decode b_m_look 34 = .ok (.iconst (-1), 1) := by decide +kernel
theorem d_m_look_35 : decode b_m_look 35 = .ok (.ireturn, 1) := by decide +kernel
theorem d_m_look_36 : decode b_m_look 36 = .ok (.iconst 0, 1) := by decide +kernel
theorem d_m_look_37 : decode b_m_look 37 = .ok (.istore_n 2, 1) := by decide +kernel
theorem d_m_look_38 : decode b_m_look 38 = .ok (.iconst 0, 1) := by decide +kernel
theorem d_m_look_39 : decode b_m_look 39 = .ok (.istore_n 3, 1) := by decide +kernel
theorem d_m_look_40 : decode b_m_look 40 = .ok (.iload_n 3, 1) := by decide +kernel
theorem d_m_look_41 : decode b_m_look 41 = .ok (.bipush 8, 2) := by decide +kernel
theorem d_m_look_43 : decode b_m_look 43 = .ok (.if_icmp .ge 48, 3) := by decide +kernel
theorem d_m_look_46 : decode b_m_look 46 = .ok (.aload_n 0, 1) := by decide +kernel
theorem d_m_look_47 : decode b_m_look 47 = .ok (.getfield 23, 3) := by decide +kernel
theorem d_m_look_50 : decode b_m_look 50 = .ok (.iload_n 3, 1) := by decide +kernel
theorem d_m_look_51 : decode b_m_look 51 = .ok (.baload, 1) := by decide +kernel
theorem d_m_look_52 : decode b_m_look 52 = .ok (.ifCond .eq 33, 3) := by decide +kernel
theorem d_m_look_55 : decode b_m_look 55 = .ok (.aload_n 0, 1) := by decide +kernel
theorem d_m_look_56 : decode b_m_look 56 = .ok (.getfield 16, 3) := by decide +kernel
theorem d_m_look_59 : decode b_m_look 59 = .ok (.iload_n 3, 1) := by decide +kernel
theorem d_m_look_60 : decode b_m_look 60 = .ok (.iaload, 1) := by decide +kernel
theorem d_m_look_61 : decode b_m_look 61 = .ok (.ifCond .ne 24, 3) := by decide +kernel
theorem d_m_look_64 : decode b_m_look 64 = .ok (.iload_n 2, 1) := by decide +kernel
theorem d_m_look_65 : decode b_m_look 65 = .ok (.ifCond .eq 13, 3) := by decide +kernel
theorem d_m_look_68 : decode b_m_look 68 = .ok (.aload_n 0, 1) := by decide +kernel
theorem d_m_look_69 : decode b_m_look 69 = .ok (.getfield 13, 3) := by decide +kernel
theorem d_m_look_72 : decode b_m_look 72 = .ok (.iload_n 3, 1) := by decide +kernel
theorem d_m_look_73 : decode b_m_look 73 = .ok (.iaload, 1) := by decide +kernel
theorem d_m_look_74 : decode b_m_look 74 = .ok (.iload_n 2, 1) := by decide +kernel
theorem d_m_look_75 : decode b_m_look 75 = .ok (.if_icmp .ge 10, 3) := by decide +kernel
theorem d_m_look_78 : decode b_m_look 78 = .ok (.aload_n 0, 1) := by decide +kernel
theorem d_m_look_79 : decode b_m_look 79 = .ok (.getfield 13, 3) := by decide +kernel
theorem d_m_look_82 : decode b_m_look 82 = .ok (.iload_n 3, 1) := by decide +kernel
theorem d_m_look_83 : decode b_m_look 83 = .ok (.iaload, 1) := by decide +kernel
theorem d_m_look_84 : decode b_m_look 84 = .ok (.istore_n 2, 1) := by decide +kernel
theorem d_m_look_85 : decode b_m_look 85 = .ok (.iinc 3 1, 3) := by decide +kernel
theorem d_m_look_88 : decode b_m_look 88 = .ok (.goto (-48), 3) := by decide +kernel
theorem d_m_look_91 : decode b_m_look 91 = .ok (.iload_n 2, 1) := by decide +kernel
theorem d_m_look_92 : decode b_m_look 92 = .ok (.ireturn, 1) := by decide +kernel
theorem d_m_served_0 : decode b_m_served 0 = .ok (.iload_n 1, 1) := by decide +kernel
theorem d_m_served_1 : decode b_m_served 1 = .ok (.iconst 0, 1) := by decide +kernel
theorem d_m_served_2 : decode b_m_served 2 = .ok (.bipush 15, 2) := by decide +kernel
theorem d_m_served_4 : decode b_m_served 4 = .ok (.invokestatic 57, 3) := by decide +kernel
theorem d_m_served_7 : decode b_m_served 7 = .ok (.ifCond .eq 20, 3) := by decide +kernel
theorem d_m_served_10 : decode b_m_served 10 = .ok (.iload_n 1, 1) := by decide +kernel
theorem d_m_served_11 : decode b_m_served 11 = .ok (.aload_n 0, 1) := by decide +kernel
theorem d_m_served_12 : decode b_m_served 12 = .ok (.getfield 72, 3) := by decide +kernel
theorem d_m_served_15 : decode b_m_served 15 = .ok (.if_icmp .ge 12, 3) := by decide +kernel
theorem d_m_served_18 : decode b_m_served 18 = .ok (.iload_n 2, 1) := by decide +kernel
theorem d_m_served_19 : decode b_m_served 19 = .ok (.iconst 0, 1) := by decide +kernel
theorem d_m_served_20 : decode b_m_served 20 = .ok (.iconst 2, 1) := by decide +kernel
theorem d_m_served_21 : decode b_m_served 21 = .ok (.invokestatic 57, 3) := by decide +kernel
theorem d_m_served_24 : decode b_m_served 24 = .ok (.ifCond .ne 5, 3) := by decide +kernel
theorem d_m_served_27 : decode b_m_served 27 = .ok (.iconst (-1), 1) := by decide +kernel
theorem d_m_served_28 : decode b_m_served 28 = .ok (.ireturn, 1) := by decide +kernel
theorem d_m_served_29 : decode b_m_served 29 = .ok (.aload_n 0, 1) := by decide +kernel
theorem d_m_served_30 : decode b_m_served 30 = .ok (.getfield 50, 3) := by decide +kernel
theorem d_m_served_33 : decode b_m_served 33 = .ok (.iconst 3, 1) := by decide +kernel
theorem d_m_served_34 : decode b_m_served 34 = .ok (.aload_n 0, 1) := by decide +kernel
theorem d_m_served_35 : decode b_m_served 35 = .ok (.getfield 72, 3) := by decide +kernel
theorem d_m_served_38 : decode b_m_served 38 = .ok (.iconst 1, 1) := by decide +kernel
theorem d_m_served_39 : decode b_m_served 39 = .ok (.isub, 1) := by decide +kernel
theorem d_m_served_40 : decode b_m_served 40 = .ok (.iload_n 1, 1) := by decide +kernel
theorem d_m_served_41 : decode b_m_served 41 = .ok (.isub, 1) := by decide +kernel
theorem d_m_served_42 : decode b_m_served 42 = .ok (.bipush 16, 2) := by decide +kernel
theorem d_m_served_44 : decode b_m_served 44 = .ok (.irem, 1) := by decide +kernel
theorem d_m_served_45 : decode b_m_served 45 = .ok (.imul, 1) := by decide +kernel
theorem d_m_served_46 : decode b_m_served 46 = .ok (.iload_n 2, 1) := by decide +kernel
theorem d_m_served_47 : decode b_m_served 47 = .ok (.iadd, 1) := by decide +kernel
theorem d_m_served_48 : decode b_m_served 48 = .ok (.iaload, 1) := by decide +kernel
theorem d_m_served_49 : decode b_m_served 49 = .ok (.ireturn, 1) := by decide +kernel
end
section
/-! THE REFERENCE'S WORLD. State: 0 the object (0 thrown, 1 now, 2 status, 3 served); rows 4 .. 17 its arrays (4 period, 5 count, 6 source, 7 once, 8 runs, 9 often, 10 mask, 11 delay, 12 waits, 13 done, 14 servedBy, 15 idle, 16 latest, 17 row) -/
def cMf (b : Nat → Nat) (μ : St) : List Value := [.int (μ 0 0), .int (μ 0 1), .int (μ 0 2), .int (μ 0 3), .ref (b 4), .ref (b 5), .ref (b 6), .ref (b 7), .ref (b 8), .ref (b 9), .ref (b 10), .ref (b 11), .ref (b 12), .ref (b 13), .ref (b 14), .ref (b 15), .ref (b 16), .ref (b 17)]
def wM (b : Nat → Nat) (cb : Nat → ClassId) (μ : St) : va_W := [(b 0, .inr (4, cMf b μ)), (b 4, .inl (cb 0, 8, .inl (μ 4))), (b 5, .inl (cb 0, 8, .inl (μ 5))), (b 6, .inl (cb 0, 8, .inl (μ 6))), (b 7, .inl (cb 1, 8, .inl (μ 7))), (b 8, .inl (cb 1, 8, .inl (μ 8))), (b 9, .inl (cb 0, 32, .inl (μ 9))), (b 10, .inl (cb 0, 4, .inl (μ 10))), (b 11, .inl (cb 0, 4, .inl (μ 11))), (b 12, .inl (cb 0, 4, .inl (μ 12))), (b 13, .inl (cb 1, 4, .inl (μ 13))), (b 14, .inl (cb 0, 4, .inl (μ 14))), (b 15, .inl (cb 0, 4, .inl (μ 15))), (b 16, .inl (cb 0, 4, .inl (μ 16))), (b 17, .inl (cb 0, 48, .inl (μ 17)))]
def tM (cb : Nat → ClassId) : List (ClassId × FieldType) := [(cb 0, .int), (cb 1, .boolean)]
theorem wM_M {b : Nat → Nat} {cb : Nat → ClassId} {μ : St} : (wM b cb μ)[0]? = some (b 0, .inr (4, cMf b μ)) := rfl
theorem wM_4 {b : Nat → Nat} {cb : Nat → ClassId} {μ : St} : (wM b cb μ)[1]? = some (b 4, .inl (cb 0, 8, .inl (μ 4))) := rfl
theorem wM_p4 {b : Nat → Nat} {cb : Nat → ClassId} {μ : St} (j : Nat) (v : Int32) : (wM b cb μ).set 1 (b 4, .inl (cb 0, 8, .inl (upd (μ 4) j v))) = wM b cb (up2 μ 4 j v) := rfl
theorem wM_5 {b : Nat → Nat} {cb : Nat → ClassId} {μ : St} : (wM b cb μ)[2]? = some (b 5, .inl (cb 0, 8, .inl (μ 5))) := rfl
theorem wM_p5 {b : Nat → Nat} {cb : Nat → ClassId} {μ : St} (j : Nat) (v : Int32) : (wM b cb μ).set 2 (b 5, .inl (cb 0, 8, .inl (upd (μ 5) j v))) = wM b cb (up2 μ 5 j v) := rfl
theorem wM_6 {b : Nat → Nat} {cb : Nat → ClassId} {μ : St} : (wM b cb μ)[3]? = some (b 6, .inl (cb 0, 8, .inl (μ 6))) := rfl
theorem wM_p6 {b : Nat → Nat} {cb : Nat → ClassId} {μ : St} (j : Nat) (v : Int32) : (wM b cb μ).set 3 (b 6, .inl (cb 0, 8, .inl (upd (μ 6) j v))) = wM b cb (up2 μ 6 j v) := rfl
theorem wM_7 {b : Nat → Nat} {cb : Nat → ClassId} {μ : St} : (wM b cb μ)[4]? = some (b 7, .inl (cb 1, 8, .inl (μ 7))) := rfl
theorem wM_p7 {b : Nat → Nat} {cb : Nat → ClassId} {μ : St} (j : Nat) (v : Int32) : (wM b cb μ).set 4 (b 7, .inl (cb 1, 8, .inl (upd (μ 7) j v))) = wM b cb (up2 μ 7 j v) := rfl
theorem wM_8 {b : Nat → Nat} {cb : Nat → ClassId} {μ : St} : (wM b cb μ)[5]? = some (b 8, .inl (cb 1, 8, .inl (μ 8))) := rfl
theorem wM_p8 {b : Nat → Nat} {cb : Nat → ClassId} {μ : St} (j : Nat) (v : Int32) : (wM b cb μ).set 5 (b 8, .inl (cb 1, 8, .inl (upd (μ 8) j v))) = wM b cb (up2 μ 8 j v) := rfl
theorem wM_9 {b : Nat → Nat} {cb : Nat → ClassId} {μ : St} : (wM b cb μ)[6]? = some (b 9, .inl (cb 0, 32, .inl (μ 9))) := rfl
theorem wM_p9 {b : Nat → Nat} {cb : Nat → ClassId} {μ : St} (j : Nat) (v : Int32) : (wM b cb μ).set 6 (b 9, .inl (cb 0, 32, .inl (upd (μ 9) j v))) = wM b cb (up2 μ 9 j v) := rfl
theorem wM_10 {b : Nat → Nat} {cb : Nat → ClassId} {μ : St} : (wM b cb μ)[7]? = some (b 10, .inl (cb 0, 4, .inl (μ 10))) := rfl
theorem wM_p10 {b : Nat → Nat} {cb : Nat → ClassId} {μ : St} (j : Nat) (v : Int32) : (wM b cb μ).set 7 (b 10, .inl (cb 0, 4, .inl (upd (μ 10) j v))) = wM b cb (up2 μ 10 j v) := rfl
theorem wM_11 {b : Nat → Nat} {cb : Nat → ClassId} {μ : St} : (wM b cb μ)[8]? = some (b 11, .inl (cb 0, 4, .inl (μ 11))) := rfl
theorem wM_p11 {b : Nat → Nat} {cb : Nat → ClassId} {μ : St} (j : Nat) (v : Int32) : (wM b cb μ).set 8 (b 11, .inl (cb 0, 4, .inl (upd (μ 11) j v))) = wM b cb (up2 μ 11 j v) := rfl
theorem wM_12 {b : Nat → Nat} {cb : Nat → ClassId} {μ : St} : (wM b cb μ)[9]? = some (b 12, .inl (cb 0, 4, .inl (μ 12))) := rfl
theorem wM_p12 {b : Nat → Nat} {cb : Nat → ClassId} {μ : St} (j : Nat) (v : Int32) : (wM b cb μ).set 9 (b 12, .inl (cb 0, 4, .inl (upd (μ 12) j v))) = wM b cb (up2 μ 12 j v) := rfl
theorem wM_13 {b : Nat → Nat} {cb : Nat → ClassId} {μ : St} : (wM b cb μ)[10]? = some (b 13, .inl (cb 1, 4, .inl (μ 13))) := rfl
theorem wM_p13 {b : Nat → Nat} {cb : Nat → ClassId} {μ : St} (j : Nat) (v : Int32) : (wM b cb μ).set 10 (b 13, .inl (cb 1, 4, .inl (upd (μ 13) j v))) = wM b cb (up2 μ 13 j v) := rfl
theorem wM_14 {b : Nat → Nat} {cb : Nat → ClassId} {μ : St} : (wM b cb μ)[11]? = some (b 14, .inl (cb 0, 4, .inl (μ 14))) := rfl
theorem wM_p14 {b : Nat → Nat} {cb : Nat → ClassId} {μ : St} (j : Nat) (v : Int32) : (wM b cb μ).set 11 (b 14, .inl (cb 0, 4, .inl (upd (μ 14) j v))) = wM b cb (up2 μ 14 j v) := rfl
theorem wM_15 {b : Nat → Nat} {cb : Nat → ClassId} {μ : St} : (wM b cb μ)[12]? = some (b 15, .inl (cb 0, 4, .inl (μ 15))) := rfl
theorem wM_p15 {b : Nat → Nat} {cb : Nat → ClassId} {μ : St} (j : Nat) (v : Int32) : (wM b cb μ).set 12 (b 15, .inl (cb 0, 4, .inl (upd (μ 15) j v))) = wM b cb (up2 μ 15 j v) := rfl
theorem wM_16 {b : Nat → Nat} {cb : Nat → ClassId} {μ : St} : (wM b cb μ)[13]? = some (b 16, .inl (cb 0, 4, .inl (μ 16))) := rfl
theorem wM_p16 {b : Nat → Nat} {cb : Nat → ClassId} {μ : St} (j : Nat) (v : Int32) : (wM b cb μ).set 13 (b 16, .inl (cb 0, 4, .inl (upd (μ 16) j v))) = wM b cb (up2 μ 16 j v) := rfl
theorem wM_17 {b : Nat → Nat} {cb : Nat → ClassId} {μ : St} : (wM b cb μ)[14]? = some (b 17, .inl (cb 0, 48, .inl (μ 17))) := rfl
theorem wM_p17 {b : Nat → Nat} {cb : Nat → ClassId} {μ : St} (j : Nat) (v : Int32) : (wM b cb μ).set 14 (b 17, .inl (cb 0, 48, .inl (upd (μ 17) j v))) = wM b cb (up2 μ 17 j v) := rfl
theorem wM_putM0 {b : Nat → Nat} {cb : Nat → ClassId} {μ : St} (v : Int32) : (wM b cb μ).set 0 (b 0, .inr (4, (cMf b μ).set 0 (.int v))) = wM b cb (up2 μ 0 0 v) := rfl
theorem wM_putM1 {b : Nat → Nat} {cb : Nat → ClassId} {μ : St} (v : Int32) : (wM b cb μ).set 0 (b 0, .inr (4, (cMf b μ).set 1 (.int v))) = wM b cb (up2 μ 0 1 v) := rfl
theorem wM_putM2 {b : Nat → Nat} {cb : Nat → ClassId} {μ : St} (v : Int32) : (wM b cb μ).set 0 (b 0, .inr (4, (cMf b μ).set 2 (.int v))) = wM b cb (up2 μ 0 2 v) := rfl
theorem wM_putM3 {b : Nat → Nat} {cb : Nat → ClassId} {μ : St} (v : Int32) : (wM b cb μ).set 0 (b 0, .inr (4, (cMf b μ).set 3 (.int v))) = wM b cb (up2 μ 0 3 v) := rfl
section WML
variable {p : Program} {l : Launch} {e : Env} {R : Room} {s : State} {m : MethodId} {args : Array Value} {below : List Frame} {meth : Method} {c : Code} {H : Heap} {locs : List Loc} {cells slots : Nat} {Q : State → Prop} {cc : ByteArray} {pc : Nat} {ls : Array Slot} {rest : List Value} {D : va_G} {b : Nat → Nat} {cb : Nat → ClassId} {μ : St} {A : Nat → Prop} {H0 : Heap}
theorem m_ild (hx : p.tables.exec = Jvm.exec) (hb : c.code = cc) (hK : va_K D classes (tM cb) s) (hP : va_P D classes (wM b cb μ) H) {k q0 n : Nat} (ha : (wM b cb μ)[q0]? = some (b k, .inl (cb 0, n, .inl (μ k)))) (j : Nat) (hj : j < n) (hn : n ≤ 48) {v : Int32} (hv : v = nI j) (hdg : decode cc pc = .ok (.iaload, 1))
    (kk : W p l e R s m args below meth c H locs cells slots Q (F0 m (pc + 1) ls (.int (μ k j) :: rest))) : W p l e R s m args below meth c H locs cells slots Q (F0 m pc ls (.int v :: .ref (b k) :: rest)) := by
  subst hv
  refine va_iald hx hb hK hP q0 0 ha rfl (vp_in_nI hj (by omega)) hdg ?_
  rw [nI_clamp (by omega)]
  exact kk
theorem m_zld (hx : p.tables.exec = Jvm.exec) (hb : c.code = cc) (hK : va_K D classes (tM cb) s) (hP : va_P D classes (wM b cb μ) H) {k q0 n : Nat} (ha : (wM b cb μ)[q0]? = some (b k, .inl (cb 1, n, .inl (μ k)))) (j : Nat) (hj : j < n) (hn : n ≤ 48) {v : Int32} (hv : v = nI j) (hdg : decode cc pc = .ok (.baload, 1))
    (kk : W p l e R s m args below meth c H locs cells slots Q (F0 m (pc + 1) ls (.int (μ k j) :: rest))) : W p l e R s m args below meth c H locs cells slots Q (F0 m pc ls (.int v :: .ref (b k) :: rest)) := by
  subst hv
  refine va_zald hx hb hK hP q0 1 ha rfl (vp_in_nI hj (by omega)) hdg ?_
  rw [nI_clamp (by omega)]
  exact kk
theorem m_ist (hx : p.tables.exec = Jvm.exec) (hb : c.code = cc) (hK : va_K D classes (tM cb) s) (hP : va_P D classes (wM b cb μ) H) (hD : va_D A (wM b cb μ)) (hS : va_S A H0 H locs) {k q0 n : Nat} (ha : (wM b cb μ)[q0]? = some (b k, .inl (cb 0, n, .inl (μ k)))) (hst : ∀ (j : Nat) (v : Int32), (wM b cb μ).set q0 (b k, .inl (cb 0, n, .inl (upd (μ k) j v))) = wM b cb (up2 μ k j v)) (j : Nat) (hj : j < n) (hn : n ≤ 48) {v x : Int32} (hv : v = nI j) (hdg : decode cc pc = .ok (.iastore, 1))
    (kk : ∀ (H1 : Heap) (locs1 : List Loc), va_P D classes (wM b cb (up2 μ k j x)) H1 → va_D A (wM b cb (up2 μ k j x)) → va_S A H0 H1 locs1 → W p l e R s m args below meth c H1 locs1 cells slots Q (F0 m (pc + 1) ls rest)) : W p l e R s m args below meth c H locs cells slots Q (F0 m pc ls (.int x :: .int v :: .ref (b k) :: rest)) := by
  subst hv
  refine va_iast hx hb hK hP hD hS q0 0 ha rfl (vp_in_nI hj (by omega)) hdg (fun H1 locs1 h1 h2 h3 => ?_)
  rw [nI_clamp (by omega), hst] at h1 h2
  exact kk H1 locs1 h1 h2 h3
theorem m_zst (hx : p.tables.exec = Jvm.exec) (hb : c.code = cc) (hK : va_K D classes (tM cb) s) (hP : va_P D classes (wM b cb μ) H) (hD : va_D A (wM b cb μ)) (hS : va_S A H0 H locs) {k q0 n : Nat} (ha : (wM b cb μ)[q0]? = some (b k, .inl (cb 1, n, .inl (μ k)))) (hst : ∀ (j : Nat) (v : Int32), (wM b cb μ).set q0 (b k, .inl (cb 1, n, .inl (upd (μ k) j v))) = wM b cb (up2 μ k j v)) (j : Nat) (hj : j < n) (hn : n ≤ 48) {v x : Int32} (hx2 : vp_nar .boolean x = x) (hv : v = nI j) (hdg : decode cc pc = .ok (.bastore, 1))
    (kk : ∀ (H1 : Heap) (locs1 : List Loc), va_P D classes (wM b cb (up2 μ k j x)) H1 → va_D A (wM b cb (up2 μ k j x)) → va_S A H0 H1 locs1 → W p l e R s m args below meth c H1 locs1 cells slots Q (F0 m (pc + 1) ls rest)) : W p l e R s m args below meth c H locs cells slots Q (F0 m pc ls (.int x :: .int v :: .ref (b k) :: rest)) := by
  subst hv
  refine va_zast hx hb hK hP hD hS q0 1 ha rfl (vp_in_nI hj (by omega)) hdg (fun H1 locs1 h1 h2 h3 => ?_)
  rw [nI_clamp (by omega), hx2, hst] at h1 h2
  exact kk H1 locs1 h1 h2 h3
end WML
theorem bI_v (x : Bool) : vp_nar .boolean (bI x) = bI x := by cases x <;> rfl
theorem m_ix (j c : Nat) : (4 : Int32) * nI j + nI c = nI (4 * j + c) := by rw [show (4 : Int32) = nI 4 from rfl, pk_mul, nI_add]
theorem m_ix0 (j : Nat) : (4 : Int32) * nI j = nI (4 * j) := by rw [show (4 : Int32) = nI 4 from rfl, pk_mul]
theorem m_at {S : Int32} {n : Nat} (h : S = nI n) (hn : n < 2 ^ 31) : (3 : Int32) * (S - S / 16 * 16) = nI (3 * (n % 16)) := by
  subst h
  have e : nI n - nI n / 16 * 16 = nI (n % 16) := rm16_nI hn
  rw [e, show (3 : Int32) = nI 3 from rfl, pk_mul]
theorem m_at2 {S : Int32} {n j k : Nat} (h : S = nI n) (hn : n < 2 ^ 31) (hj : j < n) : (3 : Int32) * (S - 1 - nI j - (S - 1 - nI j) / 16 * 16) + nI k = nI (3 * ((n - 1 - j) % 16) + k) := by
  subst h
  have e0 : nI n - 1 - nI j = nI (n - 1 - j) := by
    rw [show (1 : Int32) = nI 1 from rfl, pk_sub (by omega), pk_sub (by omega)]
  have e : nI (n - 1 - j) - nI (n - 1 - j) / 16 * 16 = nI ((n - 1 - j) % 16) := rm16_nI (by omega)
  rw [e0, e, show (3 : Int32) = nI 3 from rfl, pk_mul, nI_add]
end
section
/-! WHAT THE REFERENCE'S METHODS DO -/
theorem lit_1_0 : ((1 : Int32) = 0) = False := eq_false (by decide)
theorem lit_2_0 : ((2 : Int32) = 0) = False := eq_false (by decide)
theorem lit_2_1 : ((2 : Int32) = 1) = False := eq_false (by decide)
theorem lit_3_0 : ((3 : Int32) = 0) = False := eq_false (by decide)
theorem lit_3_1 : ((3 : Int32) = 1) = False := eq_false (by decide)
theorem lit_3_2 : ((3 : Int32) = 2) = False := eq_false (by decide)
def nn (μ : St) : Nat := (μ 0 3).toNatClampNeg
def f_isIn (v lo hi : Int32) : Int32 := if v < lo then 0 else if hi < v then 0 else 1
def g_put (μ : St) (t : Nat) (src per : Int32) (x : Bool) : St := up2 (up2 (up2 (up2 (up2 μ 6 t src) 4 t per) 5 t per) 7 t (bI x)) 8 t 0
def g_set (μ : St) (t src per : Int32) (x : Bool) : Int32 × St :=
  if f_isIn t 0 7 = 0 then (0, μ) else if t = 0 then
    (if f_isIn src 0 0 = 0 then (0, μ) else if f_isIn per 1 65535 = 0 then (0, μ) else (1, g_put μ t.toNatClampNeg src per x))
  else (if f_isIn src 0 1 = 0 then (0, μ) else if f_isIn per 1 65535 = 0 then (0, μ) else (1, g_put μ t.toNatClampNeg src per x))
def g_turn (μ : St) (t : Int32) (x : Bool) : Int32 × St :=
  if f_isIn t 0 7 = 0 then (0, μ) else if μ 8 t.toNatClampNeg = bI x then (0, μ) else (1, up2 μ 8 t.toNatClampNeg (bI x))
def g_gate (μ : St) (g mask delay : Int32) : Int32 × St :=
  if f_isIn g 0 3 = 0 then (0, μ) else if f_isIn mask 0 255 = 0 then (0, μ) else if f_isIn delay 1 1000 = 0 then (0, μ) else (1, up2 (up2 μ 10 g.toNatClampNeg mask) 11 g.toNatClampNeg delay)
def clrM (c : Int32) : Nat → Nat → St → St
  | 0, _, μ => μ
  | n + 1, t, μ => clrM c n (t + 1) (up2 μ 9 (4 * t + 3) (μ 9 (4 * t + 3) + (c >>> (nI t &&& 31) &&& 1)))
def g_clear (μ : St) (x : Int32) : Int32 × St :=
  if f_isIn x 0 255 = 0 then (-1, μ) else (μ 0 2 &&& x, up2 (clrM (μ 0 2 &&& x) 8 0 μ) 0 2 (clrM (μ 0 2 &&& x) 8 0 μ 0 2 - (μ 0 2 &&& x)))
def g_end (μ : St) (t : Nat) (r : Int32) : St :=
  let μ1 := up2 μ 5 t (μ 5 t - 1)
  let μ2 := up2 μ1 5 t (μ1 4 t)
  let μ3 := up2 μ2 8 t r
  let μ4 := up2 μ3 9 (4 * t) (μ3 9 (4 * t) + 1)
  let μ5 := up2 μ4 9 (4 * t + 1) (μ4 9 (4 * t + 1) + (μ4 0 2 >>> (nI t &&& 31) &&& 1))
  up2 μ5 0 2 (μ5 0 2 ||| bit1 (nI t))
def g_event (μ : St) (t : Nat) : Int32 × St :=
  if μ 8 t = 0 then (0, μ) else if up2 μ 5 t (μ 5 t - 1) 5 t ≤ 0 then
    (if up2 (up2 μ 5 t (μ 5 t - 1)) 5 t (up2 μ 5 t (μ 5 t - 1) 4 t) 7 t = 0 then (1, g_end μ t 1) else (1, g_end μ t 0))
  else (0, up2 μ 5 t (μ 5 t - 1))
def g_asks (μ : St) (g : Nat) : Int32 := if μ 0 2 &&& μ 10 g = 0 then 0 else 1
def g_serve (μ : St) (g : Nat) : St :=
  if g_asks μ g = 0 then up2 μ 15 g (μ 15 g + 1) else
    let t := lbN (μ 0 2 &&& μ 10 g) 7 0
    let p := 3 * (nn μ % 16)
    let μ1 := up2 μ 0 2 (μ 0 2 - bit1 (nI t))
    let μ2 := up2 μ1 9 (4 * t + 2) (μ1 9 (4 * t + 2) + 1)
    let μ3 := up2 μ2 14 g (μ2 14 g + 1)
    let μ4 := up2 μ3 16 g (μ3 0 1)
    let μ5 := up2 μ4 17 p (nI t)
    let μ6 := up2 μ5 17 (p + 1) (nI g)
    let μ7 := up2 μ6 17 (p + 2) (μ6 0 1)
    up2 μ7 0 3 (μ7 0 3 + 1)
def smT (e : Int32) (t : Nat) (μ : St) : Int32 × St :=
  if μ 6 t = 0 then (if (g_event μ t).1 = 0 then (0, (g_event μ t).2) else (1, (g_event μ t).2))
  else if e = 0 then (0, μ) else (if (g_event μ t).1 = 0 then (0, (g_event μ t).2) else (1, (g_event μ t).2))
def mkT : Nat → Nat → Int32 → St → St
  | 0, _, _, μ => μ
  | n + 1, t, e, μ => mkT n (t + 1) (smT e t μ).1 (smT e t μ).2
def g_dn (μ : St) (g : Nat) (d : Int32) : St := let μ1 := up2 μ 13 g d; if μ1 12 g ≤ 0 then μ1 else up2 μ1 12 g (μ1 12 g - 1)
def smG (g : Nat) (μ : St) : St :=
  if μ 12 g = 1 then (if g_dn μ g 1 13 g = 0 then g_dn μ g 1 else g_serve (g_dn μ g 1) g) else (if g_dn μ g 0 13 g = 0 then g_dn μ g 0 else g_serve (g_dn μ g 0) g)
def mkG : Nat → Nat → St → St
  | 0, _, μ => μ
  | n + 1, g, μ => mkG n (g + 1) (smG g μ)
def smW (g : Nat) (μ : St) : St := if μ 12 g = 0 then (if g_asks μ g = 0 then μ else up2 μ 12 g (μ 11 g)) else μ
def mkW : Nat → Nat → St → St
  | 0, _, μ => μ
  | n + 1, g, μ => mkW n (g + 1) (smW g μ)
def g_tick (μ : St) : St := mkW 4 0 (mkG 4 0 (mkT 8 0 0 (up2 μ 0 1 (μ 0 1 + 1))))
def advM : Nat → St → St
  | 0, μ => μ
  | n + 1, μ => advM n (g_tick μ)
def g_advance (μ : St) (n : Int32) : Int32 × St := if f_isIn n 0 20000 = 0 then (-1, μ) else (advM n.toNatClampNeg μ 0 3 - μ 0 3, advM n.toNatClampNeg μ)
def nxtM (B : Int32) : Nat → Nat → St → Int32 × St
  | 0, i, μ => (nI i, μ)
  | n + 1, i, μ => if μ 0 3 = B then nxtM B n (i + 1) (g_tick μ) else (nI i, μ)
def g_next (μ : St) (n : Int32) : Int32 × St := if f_isIn n 0 20000 = 0 then (-1, μ) else nxtM (μ 0 3) n.toNatClampNeg 0 μ
def g_Tread (μ : St) (t : Nat) (w : Int32) : Int32 :=
  if w = 0 then μ 5 t else if w = 1 then μ 4 t else if w = 2 then μ 6 t else if w = 3 then (if μ 8 t = 0 then 0 else 1) else if w = 4 then (if μ 7 t = 0 then 0 else 1)
  else if w = 5 then μ 9 (4 * t) else if w = 6 then μ 9 (4 * t + 1) else if w = 7 then μ 9 (4 * t + 2) else if w = 8 then μ 9 (4 * t + 3) else -1
def g_timer (μ : St) (t w : Int32) : Int32 := if f_isIn t 0 7 = 0 then -1 else g_Tread μ t.toNatClampNeg w
def g_Gread (μ : St) (g : Nat) (w : Int32) : Int32 :=
  if w = 0 then (if g_asks μ g = 0 then 0 else 1) else if w = 1 then μ 12 g else if w = 2 then μ 10 g else if w = 3 then μ 11 g else if w = 4 then μ 14 g else if w = 5 then μ 15 g else if w = 6 then μ 16 g else -1
def g_gateOf (μ : St) (g w : Int32) : Int32 := if f_isIn g 0 3 = 0 then -1 else g_Gread μ g.toNatClampNeg w
def smN (μ : St) (t : Nat) (x : Int32) : Int32 :=
  if μ 8 t = 0 then x else if μ 6 t = 0 then (if x = 0 then μ 5 t else if x ≤ μ 5 t then x else μ 5 t) else x
def mnL (μ : St) : Nat → Nat → Int32 → Int32
  | 0, _, x => x
  | n + 1, t, x => mnL μ n (t + 1) (smN μ t x)
def g_look (μ : St) (w : Int32) : Int32 := if w = 0 then μ 0 2 else if w = 1 then μ 0 1 else if w = 2 then μ 0 3 else if w = 3 then mnL μ 8 0 0 else -1
def g_served (μ : St) (i w : Int32) : Int32 :=
  if f_isIn i 0 15 = 0 then -1 else if μ 0 3 ≤ i then -1 else if f_isIn w 0 2 = 0 then -1 else μ 17 (3 * ((nn μ - 1 - i.toNatClampNeg) % 16) + w.toNatClampNeg)
end
section
/-! pure rows about the reference's functions (nx_and, wb_of32: starting texts of the kit's BITS) -/
theorem nx_and (a b : Nat) : nI a &&& nI b = nI (a &&& b) := by
  apply Int32.toBitVec_inj.1
  show BitVec.ofNat 32 a &&& BitVec.ofNat 32 b = BitVec.ofNat 32 (a &&& b)
  apply BitVec.eq_of_getLsbD_eq
  intro i hi
  simp [hi]
theorem wb_of32 (x : Int32) : ∃ n, n < 2 ^ 32 ∧ x = nI n := ⟨x.toBitVec.toNat, x.toBitVec.isLt, Int32.toBitVec_inj.mp (by show _ = BitVec.ofNat 32 _; simp)⟩
theorem and_lt {s : Nat} (hs : s < 256) (k : Int32) : ∃ m, m < 256 ∧ nI s &&& k = nI m := by
  obtain ⟨q, -, rfl⟩ := wb_of32 k
  exact ⟨s &&& q, Nat.lt_of_le_of_lt Nat.and_le_left hs, nx_and s q⟩
theorem isIn_in {t : Int32} {n : Nat} (hn : n < 2 ^ 30) (h : ¬ f_isIn t 0 (nI n) = 0) : ∃ j : Nat, j < n + 1 ∧ t = nI j := by
  unfold f_isIn at h
  by_cases h1 : t < 0
  · rw [if_pos h1] at h; exact absurd rfl h
  · rw [if_neg h1] at h
    by_cases h2 : nI n < t
    · rw [if_pos h2] at h; exact absurd rfl h
    · refine in_of (by omega) h1 (fun h3 => h2 ?_)
      rw [Int32.le_iff_toInt_le, nI_toInt (by omega)] at h3
      rw [Int32.lt_iff_toInt_lt, nI_toInt (by omega)]
      omega
theorem lo8_all : ∀ m, m < 256 → (∀ i, i < 8 → nI m &&& bit1 (nI i) = 0) → m = 0 := by decide +kernel
theorem lb_hit0 : ∀ m, m < 256 → m ≠ 0 → ¬ nI m &&& bit1 (nI (lbN (nI m) 7 0)) = 0 := by decide +kernel
theorem sub_bit0 : ∀ s, s < 256 → ∀ t, t < 8 → ¬ nI s &&& bit1 (nI t) = 0 → 2 ^ t ≤ s ∧ nI s - bit1 (nI t) = nI (s - 2 ^ t) := by decide +kernel
theorem or_bit0 : ∀ s, s < 256 → ∀ t, t < 8 → (s ||| 2 ^ t) < 256 ∧ nI s ||| bit1 (nI t) = nI (s ||| 2 ^ t) := by decide +kernel
theorem ne0_of {m : Nat} (h : ¬ nI m = 0) : m ≠ 0 := fun e => h (by rw [e]; rfl)
def mOK (μ : St) (n : Nat) : Prop := μ 0 3 = nI n ∧ ∃ s : Nat, s < 256 ∧ μ 0 2 = nI s
theorem mOK_nn {μ : St} {n : Nat} (h : mOK μ n) (hn : n < 2 ^ 30) : nn μ = n := by unfold nn; rw [h.1]; exact nI_clamp (by omega)
/-- the least bit that the loop finds -/
theorem lb_last {μ : St} {n g : Nat} (h : mOK μ n) (hz : ¬ g_asks μ g = 0) (h7 : ∀ i, i < 7 → (μ 0 2 &&& μ 10 g) &&& bit1 (nI i) = 0) : ¬ (μ 0 2 &&& μ 10 g) &&& bit1 (nI 7) = 0 := by
  intro h8
  obtain ⟨-, s, hs, e⟩ := h
  unfold g_asks at hz
  rw [e] at hz h7 h8
  obtain ⟨m, hm, e2⟩ := and_lt hs (μ 10 g)
  rw [e2] at hz h7 h8
  have h0 : m = 0 := lo8_all m hm (fun i hi => by
    rcases Nat.lt_or_ge i 7 with q | q
    · exact h7 i q
    · rw [show i = 7 by omega]; exact h8)
  subst h0
  exact hz rfl
theorem lb_lastk {μ : St} {n g k : Nat} (h : mOK μ n) (hz : ¬ g_asks μ g = 0) (hk : k + 0 = 7) (h7 : ∀ i, i < k → (μ 0 2 &&& μ 10 g) &&& bit1 (nI i) = 0) : ¬ (μ 0 2 &&& μ 10 g) &&& bit1 (nI k) = 0 := by
  have e : k = 7 := hk
  subst e
  exact lb_last h hz h7
theorem lb_hit {μ : St} {n g : Nat} (h : mOK μ n) (hz : ¬ g_asks μ g = 0) : ¬ μ 0 2 &&& bit1 (nI (lbN (μ 0 2 &&& μ 10 g) 7 0)) = 0 := by
  obtain ⟨-, s, hs, e⟩ := h
  unfold g_asks at hz
  rw [e] at hz ⊢
  obtain ⟨m, hm, e2⟩ := and_lt hs (μ 10 g)
  rw [e2] at hz ⊢
  have hm0 : m ≠ 0 := by intro h; subst h; exact hz rfl
  have h1 := lb_hit0 m hm hm0
  intro h2
  apply h1
  generalize bit1 (nI (lbN (nI m) 7 0)) = B at h2 ⊢
  rw [← e2]
  obtain ⟨q, -, eq⟩ := wb_of32 (μ 10 g)
  obtain ⟨r, -, er⟩ := wb_of32 B
  rw [er] at h2 ⊢
  rw [eq, nx_and, nx_and, Nat.and_assoc, Nat.and_comm q r, ← Nat.and_assoc, ← nx_and, ← nx_and, h2]
  rw [show (0 : Int32) = nI 0 from rfl, nx_and]; simp
theorem ok_other {μ : St} {n i k : Nat} {v : Int32} (h : mOK μ n) (hi : i ≠ 0) : mOK (up2 μ i k v) n := by
  unfold mOK; rw [up2_n _ _ _ (Ne.symm hi)]; exact h
theorem ok_now {μ : St} {n : Nat} {v : Int32} (h : mOK μ n) : mOK (up2 μ 0 1 v) n := h
theorem ok_status {μ : St} {n r : Nat} {v : Int32} (h : mOK μ n) (hr : r < 256) (e : v = nI r) : mOK (up2 μ 0 2 v) n := ⟨h.1, r, hr, e⟩
theorem end_ok {μ : St} {n t : Nat} {r : Int32} (ht : t < 8) (h : mOK μ n) : mOK (g_end μ t r) n := by
  obtain ⟨h1, s, hs, e⟩ := h
  have h2 := or_bit0 s hs t ht
  exact ⟨h1, s ||| 2 ^ t, h2.1, by rw [← h2.2, ← e]; rfl⟩
theorem event_ok {μ : St} {n t : Nat} (ht : t < 8) (h : mOK μ n) : mOK (g_event μ t).2 n := by
  unfold g_event
  split
  · exact h
  · split
    · split
      · exact end_ok ht h
      · exact end_ok ht h
    · exact ok_other h (by decide)
theorem smT_ok {μ : St} {n t : Nat} {e : Int32} (ht : t < 8) (h : mOK μ n) : mOK (smT e t μ).2 n := by
  have h1 := event_ok ht h
  unfold smT
  split
  · split
    · exact h1
    · exact h1
  · split
    · exact h
    · split
      · exact h1
      · exact h1
theorem mkT_ok : ∀ (k t : Nat) (e : Int32) {μ : St} {n : Nat}, t + k ≤ 8 → mOK μ n → mOK (mkT k t e μ) n
  | 0, _, _, _, _, _, h => h
  | k + 1, t, _, _, _, h8, h => mkT_ok k (t + 1) _ (by omega) (smT_ok (by omega) h)
theorem serve_ok {μ : St} {n g : Nat} (h : mOK μ n) : ∃ n', n ≤ n' ∧ n' ≤ n + 1 ∧ mOK (g_serve μ g) n' := by
  by_cases hz : g_asks μ g = 0
  · refine ⟨n, Nat.le_refl n, Nat.le_succ n, ?_⟩
    unfold g_serve; rw [if_pos hz]
    exact ok_other h (by decide)
  · refine ⟨n + 1, Nat.le_succ n, Nat.le_refl _, ?_⟩
    have h1 := lb_hit h hz
    unfold g_serve; rw [if_neg hz]
    have h8 := lbN_lt (μ 0 2 &&& μ 10 g) 7 0 (by decide)
    generalize lbN (μ 0 2 &&& μ 10 g) 7 0 = t at h1 h8
    obtain ⟨e3, s, hs, e⟩ := h
    rw [e] at h1
    have h2 := sub_bit0 s hs t h8 h1
    refine ⟨?_, s - 2 ^ t, Nat.lt_of_le_of_lt (Nat.sub_le _ _) hs, ?_⟩
    · show μ 0 3 + 1 = nI (n + 1)
      rw [e3, nI_1]
    · show μ 0 2 - bit1 (nI t) = _
      rw [e, h2.2]
theorem dn_ok {μ : St} {n g : Nat} {d : Int32} (h : mOK μ n) : mOK (g_dn μ g d) n := by
  unfold g_dn
  dsimp only
  split
  · exact ok_other h (by decide)
  · exact ok_other (ok_other h (by decide)) (by decide)
theorem smG_ok {μ : St} {n g : Nat} (h : mOK μ n) : ∃ n', n ≤ n' ∧ n' ≤ n + 1 ∧ mOK (smG g μ) n' := by
  unfold smG
  split
  · split
    · exact ⟨n, Nat.le_refl n, Nat.le_succ n, dn_ok h⟩
    · exact serve_ok (dn_ok h)
  · split
    · exact ⟨n, Nat.le_refl n, Nat.le_succ n, dn_ok h⟩
    · exact serve_ok (dn_ok h)
theorem mkG_ok : ∀ (k g : Nat) {μ : St} {n : Nat}, mOK μ n → ∃ n', n ≤ n' ∧ n' ≤ n + k ∧ mOK (mkG k g μ) n'
  | 0, _, _, n, h => ⟨n, Nat.le_refl n, Nat.le_refl n, h⟩
  | k + 1, g, _, n, h => by
    obtain ⟨n1, a1, b1, h1⟩ := smG_ok (g := g) h
    obtain ⟨n2, a2, b2, h2⟩ := mkG_ok k (g + 1) h1
    exact ⟨n2, by omega, by omega, h2⟩
theorem smW_ok {μ : St} {n g : Nat} (h : mOK μ n) : mOK (smW g μ) n := by
  unfold smW
  split
  · split
    · exact h
    · exact ok_other h (by decide)
  · exact h
theorem mkW_ok : ∀ (k g : Nat) {μ : St} {n : Nat}, mOK μ n → mOK (mkW k g μ) n
  | 0, _, _, _, h => h
  | k + 1, g, _, _, h => mkW_ok k (g + 1) (smW_ok h)
theorem tick_ok0 {μ : St} {n : Nat} (h : mOK μ n) : mOK (mkT 8 0 0 (up2 μ 0 1 (μ 0 1 + 1))) n := mkT_ok 8 0 0 (by decide) (ok_now h)
theorem tick_ok {μ : St} {n : Nat} (h : mOK μ n) : ∃ n', n ≤ n' ∧ n' ≤ n + 4 ∧ mOK (g_tick μ) n' := by
  obtain ⟨n1, a1, b1, h1⟩ := mkG_ok 4 0 (tick_ok0 h)
  have h2 := mkW_ok 4 0 h1
  unfold g_tick
  exact ⟨n1, a1, b1, h2⟩
end
section
set_option maxHeartbeats 4000000 in
set_option maxRecDepth 100000 in
theorem c_m_isIn (l : Launch) (D : va_G) (b : Nat → Nat) (cb : Nat → ClassId) (μ : St) (v : Int32) (lo : Int32) (hi : Int32) : KI l D (tM cb) (wM b cb) rm_m_isIn y_m_isIn b_m_isIn 3 .boolean [.int v, .int lo, .int hi] μ (f_isIn v lo hi) μ := by
  refine KI.of (by decide) (Nat.le_of_ble_eq_true rfl) ?_
  intro p e s m args below meth c A Q ls hx hb hml hown hG hK hN hA hP hD hS hl hret
  have hown : s.vm.findClass R_M = some m.cls := hown
  have hl : lv_has ls 3 [(0, .int v), (1, .int lo), (2, .int hi)] := hl
  refine lv_iload_n hx hb d_m_isIn_0 rfl (lv_at hl 0 rfl) ?_
  refine lv_iload_n hx hb d_m_isIn_1 rfl (lv_at hl 1 rfl) ?_
  refine lv_icmp_lt (tgt := 14) hx hb d_m_isIn_2 (by decide) (fun c_1 => ?_) (fun c_1 => ?_)
  · refine lv_iconst (v := 0) hx hb d_m_isIn_14 (by decide) ?_
    exact hret _ _ _ 15 0 μ hP hD hS rfl d_m_isIn_15 (by simp only [f_isIn, c_1, ↓reduceIte]) (rfl)
  · refine lv_iload_n hx hb d_m_isIn_5 rfl (lv_at hl 0 rfl) ?_
    refine lv_iload_n hx hb d_m_isIn_6 rfl (lv_at hl 2 rfl) ?_
    refine lv_icmp_gt (tgt := 14) hx hb d_m_isIn_7 (by decide) (fun c_2 => ?_) (fun c_2 => ?_)
    · refine lv_iconst (v := 0) hx hb d_m_isIn_14 (by decide) ?_
      exact hret _ _ _ 15 0 μ hP hD hS rfl d_m_isIn_15 (by simp only [f_isIn, c_1, c_2, ↓reduceIte]) (rfl)
    · refine lv_iconst (v := 1) hx hb d_m_isIn_10 (by decide) ?_
      refine lv_goto (tgt := 15) hx hb d_m_isIn_11 (by decide) ?_
      exact hret _ _ _ 15 1 μ hP hD hS rfl d_m_isIn_15 (by simp only [f_isIn, c_1, c_2, ↓reduceIte]) (rfl)
set_option maxHeartbeats 4000000 in
set_option maxRecDepth 100000 in
theorem c_m_asks (l : Launch) (D : va_G) (b : Nat → Nat) (cb : Nat → ClassId) (μ : St) (j : Nat) (hj : j < 4) : KI l D (tM cb) (wM b cb) rm_m_asks y_m_asks b_m_asks 2 .boolean [.ref (b 0), .int (nI j)] μ (g_asks μ j) μ := by
  refine KI.of (by decide) (Nat.le_of_ble_eq_true rfl) ?_
  intro p e s m args below meth c A Q ls hx hb hml hown hG hK hN hA hP hD hS hl hret
  have hown : s.vm.findClass R_M = some m.cls := hown
  have hl : lv_has ls 2 [(0, .ref (b 0)), (1, .int (nI j))] := hl
  refine lv_aload_n hx hb d_m_asks_0 rfl (lv_at hl 0 rfl) ?_
  refine va_get (v := .int (μ 0 2)) hx hb hG i_M hown hK hP 0 wM_M rfl 2 (by decide) (hG _ L_M_62) (fun _ h9 => h9) rfl d_m_asks_1 ?_
  refine lv_aload_n hx hb d_m_asks_4 rfl (lv_at hl 0 rfl) ?_
  refine va_get (v := .ref (b 10)) hx hb hG i_M hown hK hP 0 wM_M rfl 10 (by decide) (hG _ L_M_29) (fun _ h9 => h9) rfl d_m_asks_5 ?_
  refine lv_iload_n hx hb d_m_asks_8 rfl (lv_at hl 1 rfl) ?_
  refine m_ild hx hb hK hP wM_10 (j) hj (by decide) (rfl) d_m_asks_9 ?_
  refine lv_iand hx hb d_m_asks_10 ?_
  refine lv_if_eq (tgt := 18) hx hb d_m_asks_11 (by decide) (fun c_1 => ?_) (fun c_1 => ?_)
  · refine lv_iconst (v := 0) hx hb d_m_asks_18 (by decide) ?_
    exact hret _ _ _ 19 0 μ hP hD hS rfl d_m_asks_19 (by simp only [g_asks, c_1, ↓reduceIte]) (rfl)
  · refine lv_iconst (v := 1) hx hb d_m_asks_14 (by decide) ?_
    refine lv_goto (tgt := 19) hx hb d_m_asks_15 (by decide) ?_
    exact hret _ _ _ 19 1 μ hP hD hS rfl d_m_asks_19 (by simp only [g_asks, c_1, ↓reduceIte]) (rfl)
set_option maxHeartbeats 4000000 in
set_option maxRecDepth 100000 in
theorem c_m_event (l : Launch) (D : va_G) (b : Nat → Nat) (cb : Nat → ClassId) (μ : St) (j : Nat) (hj : j < 8) : KI l D (tM cb) (wM b cb) rm_m_event y_m_event b_m_event 2 .boolean [.ref (b 0), .int (nI j)] μ ((g_event μ j).1) ((g_event μ j).2) := by
  refine KI.of (by decide) (Nat.le_of_ble_eq_true rfl) ?_
  intro p e s m args below meth c A Q ls hx hb hml hown hG hK hN hA hP hD hS hl hret
  have hown : s.vm.findClass R_M = some m.cls := hown
  have hl : lv_has ls 2 [(0, .ref (b 0)), (1, .int (nI j))] := hl
  refine lv_aload_n hx hb d_m_event_0 rfl (lv_at hl 0 rfl) ?_
  refine va_get (v := .ref (b 8)) hx hb hG i_M hown hK hP 0 wM_M rfl 8 (by decide) (hG _ L_M_23) (fun _ h9 => h9) rfl d_m_event_1 ?_
  refine lv_iload_n hx hb d_m_event_4 rfl (lv_at hl 1 rfl) ?_
  refine m_zld hx hb hK hP wM_8 (j) hj (by decide) (rfl) d_m_event_5 ?_
  refine lv_if_ne (tgt := 11) hx hb d_m_event_6 (by decide) (fun c_1 => ?_) (fun c_1 => ?_)
  · refine lv_aload_n hx hb d_m_event_11 rfl (lv_at hl 0 rfl) ?_
    refine va_get (v := .ref (b 5)) hx hb hG i_M hown hK hP 0 wM_M rfl 5 (by decide) (hG _ L_M_13) (fun _ h9 => h9) rfl d_m_event_12 ?_
    refine lv_iload_n hx hb d_m_event_15 rfl (lv_at hl 1 rfl) ?_
    refine lv_dup2_11 hx hb d_m_event_16 rfl rfl ?_
    refine m_ild hx hb hK hP wM_5 (j) hj (by decide) (rfl) d_m_event_17 ?_
    refine lv_iconst (v := 1) hx hb d_m_event_18 (by decide) ?_
    refine lv_isub hx hb d_m_event_19 ?_
    refine m_ist (x := (μ 5 j) - 1) hx hb hK hP hD hS wM_5 wM_p5 (j) hj (by decide) (rfl) d_m_event_20 (fun H locs hP hD hS => ?_)
    refine lv_aload_n hx hb d_m_event_21 rfl (lv_at hl 0 rfl) ?_
    refine va_get (v := .ref (b 5)) hx hb hG i_M hown hK hP 0 wM_M rfl 5 (by decide) (hG _ L_M_13) (fun _ h9 => h9) rfl d_m_event_22 ?_
    refine lv_iload_n hx hb d_m_event_25 rfl (lv_at hl 1 rfl) ?_
    refine m_ild hx hb hK hP wM_5 (j) hj (by decide) (rfl) d_m_event_26 ?_
    refine lv_if_le (tgt := 32) hx hb d_m_event_27 (by decide) (fun c_2 => ?_) (fun c_2 => ?_)
    · refine lv_aload_n hx hb d_m_event_32 rfl (lv_at hl 0 rfl) ?_
      refine va_get (v := .ref (b 5)) hx hb hG i_M hown hK hP 0 wM_M rfl 5 (by decide) (hG _ L_M_13) (fun _ h9 => h9) rfl d_m_event_33 ?_
      refine lv_iload_n hx hb d_m_event_36 rfl (lv_at hl 1 rfl) ?_
      refine lv_aload_n hx hb d_m_event_37 rfl (lv_at hl 0 rfl) ?_
      refine va_get (v := .ref (b 4)) hx hb hG i_M hown hK hP 0 wM_M rfl 4 (by decide) (hG _ L_M_7) (fun _ h9 => h9) rfl d_m_event_38 ?_
      refine lv_iload_n hx hb d_m_event_41 rfl (lv_at hl 1 rfl) ?_
      refine m_ild hx hb hK hP wM_4 (j) hj (by decide) (rfl) d_m_event_42 ?_
      refine m_ist (x := (up2 μ 5 j ((μ 5 j) - 1)) 4 j) hx hb hK hP hD hS wM_5 wM_p5 (j) hj (by decide) (rfl) d_m_event_43 (fun H locs hP hD hS => ?_)
      refine lv_aload_n hx hb d_m_event_44 rfl (lv_at hl 0 rfl) ?_
      refine va_get (v := .ref (b 8)) hx hb hG i_M hown hK hP 0 wM_M rfl 8 (by decide) (hG _ L_M_23) (fun _ h9 => h9) rfl d_m_event_45 ?_
      refine lv_iload_n hx hb d_m_event_48 rfl (lv_at hl 1 rfl) ?_
      refine lv_aload_n hx hb d_m_event_49 rfl (lv_at hl 0 rfl) ?_
      refine va_get (v := .ref (b 7)) hx hb hG i_M hown hK hP 0 wM_M rfl 7 (by decide) (hG _ L_M_19) (fun _ h9 => h9) rfl d_m_event_50 ?_
      refine lv_iload_n hx hb d_m_event_53 rfl (lv_at hl 1 rfl) ?_
      refine m_zld hx hb hK hP wM_7 (j) hj (by decide) (rfl) d_m_event_54 ?_
      refine lv_if_ne (tgt := 62) hx hb d_m_event_55 (by decide) (fun c_3 => ?_) (fun c_3 => ?_)
      · refine lv_iconst (v := 0) hx hb d_m_event_62 (by decide) ?_
        refine m_zst (x := 0) hx hb hK hP hD hS wM_8 wM_p8 (j) hj (by decide) (rfl) (rfl) d_m_event_63 (fun H locs hP hD hS => ?_)
        refine lv_aload_n hx hb d_m_event_64 rfl (lv_at hl 0 rfl) ?_
        refine va_get (v := .ref (b 9)) hx hb hG i_M hown hK hP 0 wM_M rfl 9 (by decide) (hG _ L_M_26) (fun _ h9 => h9) rfl d_m_event_65 ?_
        refine lv_iconst (v := 4) hx hb d_m_event_68 (by decide) ?_
        refine lv_iload_n hx hb d_m_event_69 rfl (lv_at hl 1 rfl) ?_
        refine lv_imul hx hb d_m_event_70 ?_
        refine lv_dup2_11 hx hb d_m_event_71 rfl rfl ?_
        refine m_ild hx hb hK hP wM_9 (4 * j) (show 4 * j < 32 by have := hj; omega) (by decide) (m_ix0 j) d_m_event_72 ?_
        refine lv_iconst (v := 1) hx hb d_m_event_73 (by decide) ?_
        refine lv_iadd hx hb d_m_event_74 ?_
        refine m_ist (x := ((up2 (up2 (up2 μ 5 j ((μ 5 j) - 1)) 5 j ((up2 μ 5 j ((μ 5 j) - 1)) 4 j)) 8 j 0) 9 (4 * j)) + 1) hx hb hK hP hD hS wM_9 wM_p9 (4 * j) (show 4 * j < 32 by have := hj; omega) (by decide) (m_ix0 j) d_m_event_75 (fun H locs hP hD hS => ?_)
        refine lv_aload_n hx hb d_m_event_76 rfl (lv_at hl 0 rfl) ?_
        refine va_get (v := .ref (b 9)) hx hb hG i_M hown hK hP 0 wM_M rfl 9 (by decide) (hG _ L_M_26) (fun _ h9 => h9) rfl d_m_event_77 ?_
        refine lv_iconst (v := 4) hx hb d_m_event_80 (by decide) ?_
        refine lv_iload_n hx hb d_m_event_81 rfl (lv_at hl 1 rfl) ?_
        refine lv_imul hx hb d_m_event_82 ?_
        refine lv_iconst (v := 1) hx hb d_m_event_83 (by decide) ?_
        refine lv_iadd hx hb d_m_event_84 ?_
        refine lv_dup2_11 hx hb d_m_event_85 rfl rfl ?_
        refine m_ild hx hb hK hP wM_9 (4 * j + 1) (show 4 * j + 1 < 32 by have := hj; omega) (by decide) (m_ix j 1) d_m_event_86 ?_
        refine lv_aload_n hx hb d_m_event_87 rfl (lv_at hl 0 rfl) ?_
        refine va_get (v := .int ((up2 (up2 (up2 (up2 μ 5 j ((μ 5 j) - 1)) 5 j ((up2 μ 5 j ((μ 5 j) - 1)) 4 j)) 8 j 0) 9 (4 * j) (((up2 (up2 (up2 μ 5 j ((μ 5 j) - 1)) 5 j ((up2 μ 5 j ((μ 5 j) - 1)) 4 j)) 8 j 0) 9 (4 * j)) + 1)) 0 2)) hx hb hG i_M hown hK hP 0 wM_M rfl 2 (by decide) (hG _ L_M_62) (fun _ h9 => h9) rfl d_m_event_88 ?_
        refine lv_iload_n hx hb d_m_event_91 rfl (lv_at hl 1 rfl) ?_
        refine lv_ishr hx hb d_m_event_92 ?_
        refine lv_iconst (v := 1) hx hb d_m_event_93 (by decide) ?_
        refine lv_iand hx hb d_m_event_94 ?_
        refine lv_iadd hx hb d_m_event_95 ?_
        refine m_ist (x := ((up2 (up2 (up2 (up2 μ 5 j ((μ 5 j) - 1)) 5 j ((up2 μ 5 j ((μ 5 j) - 1)) 4 j)) 8 j 0) 9 (4 * j) (((up2 (up2 (up2 μ 5 j ((μ 5 j) - 1)) 5 j ((up2 μ 5 j ((μ 5 j) - 1)) 4 j)) 8 j 0) 9 (4 * j)) + 1)) 9 (4 * j + 1)) + ((((up2 (up2 (up2 (up2 μ 5 j ((μ 5 j) - 1)) 5 j ((up2 μ 5 j ((μ 5 j) - 1)) 4 j)) 8 j 0) 9 (4 * j) (((up2 (up2 (up2 μ 5 j ((μ 5 j) - 1)) 5 j ((up2 μ 5 j ((μ 5 j) - 1)) 4 j)) 8 j 0) 9 (4 * j)) + 1)) 0 2) >>> ((nI j) &&& 31)) &&& 1)) hx hb hK hP hD hS wM_9 wM_p9 (4 * j + 1) (show 4 * j + 1 < 32 by have := hj; omega) (by decide) (m_ix j 1) d_m_event_96 (fun H locs hP hD hS => ?_)
        refine lv_aload_n hx hb d_m_event_97 rfl (lv_at hl 0 rfl) ?_
        refine lv_dup hx hb d_m_event_98 rfl ?_
        refine va_get (v := .int ((up2 (up2 (up2 (up2 (up2 μ 5 j ((μ 5 j) - 1)) 5 j ((up2 μ 5 j ((μ 5 j) - 1)) 4 j)) 8 j 0) 9 (4 * j) (((up2 (up2 (up2 μ 5 j ((μ 5 j) - 1)) 5 j ((up2 μ 5 j ((μ 5 j) - 1)) 4 j)) 8 j 0) 9 (4 * j)) + 1)) 9 (4 * j + 1) (((up2 (up2 (up2 (up2 μ 5 j ((μ 5 j) - 1)) 5 j ((up2 μ 5 j ((μ 5 j) - 1)) 4 j)) 8 j 0) 9 (4 * j) (((up2 (up2 (up2 μ 5 j ((μ 5 j) - 1)) 5 j ((up2 μ 5 j ((μ 5 j) - 1)) 4 j)) 8 j 0) 9 (4 * j)) + 1)) 9 (4 * j + 1)) + ((((up2 (up2 (up2 (up2 μ 5 j ((μ 5 j) - 1)) 5 j ((up2 μ 5 j ((μ 5 j) - 1)) 4 j)) 8 j 0) 9 (4 * j) (((up2 (up2 (up2 μ 5 j ((μ 5 j) - 1)) 5 j ((up2 μ 5 j ((μ 5 j) - 1)) 4 j)) 8 j 0) 9 (4 * j)) + 1)) 0 2) >>> ((nI j) &&& 31)) &&& 1))) 0 2)) hx hb hG i_M hown hK hP 0 wM_M rfl 2 (by decide) (hG _ L_M_62) (fun _ h9 => h9) rfl d_m_event_99 ?_
        refine lv_iconst (v := 1) hx hb d_m_event_102 (by decide) ?_
        refine lv_iload_n hx hb d_m_event_103 rfl (lv_at hl 1 rfl) ?_
        refine lv_ishl hx hb d_m_event_104 ?_
        refine lv_ior hx hb d_m_event_105 ?_
        refine va_put (ty := .int) (v := .int (((up2 (up2 (up2 (up2 (up2 μ 5 j ((μ 5 j) - 1)) 5 j ((up2 μ 5 j ((μ 5 j) - 1)) 4 j)) 8 j 0) 9 (4 * j) (((up2 (up2 (up2 μ 5 j ((μ 5 j) - 1)) 5 j ((up2 μ 5 j ((μ 5 j) - 1)) 4 j)) 8 j 0) 9 (4 * j)) + 1)) 9 (4 * j + 1) (((up2 (up2 (up2 (up2 μ 5 j ((μ 5 j) - 1)) 5 j ((up2 μ 5 j ((μ 5 j) - 1)) 4 j)) 8 j 0) 9 (4 * j) (((up2 (up2 (up2 μ 5 j ((μ 5 j) - 1)) 5 j ((up2 μ 5 j ((μ 5 j) - 1)) 4 j)) 8 j 0) 9 (4 * j)) + 1)) 9 (4 * j + 1)) + ((((up2 (up2 (up2 (up2 μ 5 j ((μ 5 j) - 1)) 5 j ((up2 μ 5 j ((μ 5 j) - 1)) 4 j)) 8 j 0) 9 (4 * j) (((up2 (up2 (up2 μ 5 j ((μ 5 j) - 1)) 5 j ((up2 μ 5 j ((μ 5 j) - 1)) 4 j)) 8 j 0) 9 (4 * j)) + 1)) 0 2) >>> ((nI j) &&& 31)) &&& 1))) 0 2) ||| ((1 : Int32) <<< ((nI j) &&& 31)))) hx hb hG i_M ft_M ft_M_ok n_M hown hK hP hD hS 0 wM_M rfl 2 (by decide) (hG _ L_M_62) (fun _ h9 => h9) rfl (by decide +kernel) rfl rfl (Nat.le_of_ble_eq_true rfl) d_m_event_106 (fun H locs hP hD hS => ?_)
        rw [wM_putM2] at hP hD
        refine lv_iconst (v := 1) hx hb d_m_event_109 (by decide) ?_
        exact hret _ _ _ 110 1 (up2 (up2 (up2 (up2 (up2 (up2 μ 5 j ((μ 5 j) - 1)) 5 j ((up2 μ 5 j ((μ 5 j) - 1)) 4 j)) 8 j 0) 9 (4 * j) (((up2 (up2 (up2 μ 5 j ((μ 5 j) - 1)) 5 j ((up2 μ 5 j ((μ 5 j) - 1)) 4 j)) 8 j 0) 9 (4 * j)) + 1)) 9 (4 * j + 1) (((up2 (up2 (up2 (up2 μ 5 j ((μ 5 j) - 1)) 5 j ((up2 μ 5 j ((μ 5 j) - 1)) 4 j)) 8 j 0) 9 (4 * j) (((up2 (up2 (up2 μ 5 j ((μ 5 j) - 1)) 5 j ((up2 μ 5 j ((μ 5 j) - 1)) 4 j)) 8 j 0) 9 (4 * j)) + 1)) 9 (4 * j + 1)) + ((((up2 (up2 (up2 (up2 μ 5 j ((μ 5 j) - 1)) 5 j ((up2 μ 5 j ((μ 5 j) - 1)) 4 j)) 8 j 0) 9 (4 * j) (((up2 (up2 (up2 μ 5 j ((μ 5 j) - 1)) 5 j ((up2 μ 5 j ((μ 5 j) - 1)) 4 j)) 8 j 0) 9 (4 * j)) + 1)) 0 2) >>> ((nI j) &&& 31)) &&& 1))) 0 2 (((up2 (up2 (up2 (up2 (up2 μ 5 j ((μ 5 j) - 1)) 5 j ((up2 μ 5 j ((μ 5 j) - 1)) 4 j)) 8 j 0) 9 (4 * j) (((up2 (up2 (up2 μ 5 j ((μ 5 j) - 1)) 5 j ((up2 μ 5 j ((μ 5 j) - 1)) 4 j)) 8 j 0) 9 (4 * j)) + 1)) 9 (4 * j + 1) (((up2 (up2 (up2 (up2 μ 5 j ((μ 5 j) - 1)) 5 j ((up2 μ 5 j ((μ 5 j) - 1)) 4 j)) 8 j 0) 9 (4 * j) (((up2 (up2 (up2 μ 5 j ((μ 5 j) - 1)) 5 j ((up2 μ 5 j ((μ 5 j) - 1)) 4 j)) 8 j 0) 9 (4 * j)) + 1)) 9 (4 * j + 1)) + ((((up2 (up2 (up2 (up2 μ 5 j ((μ 5 j) - 1)) 5 j ((up2 μ 5 j ((μ 5 j) - 1)) 4 j)) 8 j 0) 9 (4 * j) (((up2 (up2 (up2 μ 5 j ((μ 5 j) - 1)) 5 j ((up2 μ 5 j ((μ 5 j) - 1)) 4 j)) 8 j 0) 9 (4 * j)) + 1)) 0 2) >>> ((nI j) &&& 31)) &&& 1))) 0 2) ||| ((1 : Int32) <<< ((nI j) &&& 31)))) hP hD hS rfl d_m_event_110 (by simp only [g_event, g_end, bit1, c_1, c_2, c_3, ↓reduceIte]) (by simp only [g_event, g_end, bit1, c_1, c_2, c_3, ↓reduceIte])
      · refine lv_iconst (v := 1) hx hb d_m_event_58 (by decide) ?_
        refine lv_goto (tgt := 63) hx hb d_m_event_59 (by decide) ?_
        refine m_zst (x := 1) hx hb hK hP hD hS wM_8 wM_p8 (j) hj (by decide) (rfl) (rfl) d_m_event_63 (fun H locs hP hD hS => ?_)
        refine lv_aload_n hx hb d_m_event_64 rfl (lv_at hl 0 rfl) ?_
        refine va_get (v := .ref (b 9)) hx hb hG i_M hown hK hP 0 wM_M rfl 9 (by decide) (hG _ L_M_26) (fun _ h9 => h9) rfl d_m_event_65 ?_
        refine lv_iconst (v := 4) hx hb d_m_event_68 (by decide) ?_
        refine lv_iload_n hx hb d_m_event_69 rfl (lv_at hl 1 rfl) ?_
        refine lv_imul hx hb d_m_event_70 ?_
        refine lv_dup2_11 hx hb d_m_event_71 rfl rfl ?_
        refine m_ild hx hb hK hP wM_9 (4 * j) (show 4 * j < 32 by have := hj; omega) (by decide) (m_ix0 j) d_m_event_72 ?_
        refine lv_iconst (v := 1) hx hb d_m_event_73 (by decide) ?_
        refine lv_iadd hx hb d_m_event_74 ?_
        refine m_ist (x := ((up2 (up2 (up2 μ 5 j ((μ 5 j) - 1)) 5 j ((up2 μ 5 j ((μ 5 j) - 1)) 4 j)) 8 j 1) 9 (4 * j)) + 1) hx hb hK hP hD hS wM_9 wM_p9 (4 * j) (show 4 * j < 32 by have := hj; omega) (by decide) (m_ix0 j) d_m_event_75 (fun H locs hP hD hS => ?_)
        refine lv_aload_n hx hb d_m_event_76 rfl (lv_at hl 0 rfl) ?_
        refine va_get (v := .ref (b 9)) hx hb hG i_M hown hK hP 0 wM_M rfl 9 (by decide) (hG _ L_M_26) (fun _ h9 => h9) rfl d_m_event_77 ?_
        refine lv_iconst (v := 4) hx hb d_m_event_80 (by decide) ?_
        refine lv_iload_n hx hb d_m_event_81 rfl (lv_at hl 1 rfl) ?_
        refine lv_imul hx hb d_m_event_82 ?_
        refine lv_iconst (v := 1) hx hb d_m_event_83 (by decide) ?_
        refine lv_iadd hx hb d_m_event_84 ?_
        refine lv_dup2_11 hx hb d_m_event_85 rfl rfl ?_
        refine m_ild hx hb hK hP wM_9 (4 * j + 1) (show 4 * j + 1 < 32 by have := hj; omega) (by decide) (m_ix j 1) d_m_event_86 ?_
        refine lv_aload_n hx hb d_m_event_87 rfl (lv_at hl 0 rfl) ?_
        refine va_get (v := .int ((up2 (up2 (up2 (up2 μ 5 j ((μ 5 j) - 1)) 5 j ((up2 μ 5 j ((μ 5 j) - 1)) 4 j)) 8 j 1) 9 (4 * j) (((up2 (up2 (up2 μ 5 j ((μ 5 j) - 1)) 5 j ((up2 μ 5 j ((μ 5 j) - 1)) 4 j)) 8 j 1) 9 (4 * j)) + 1)) 0 2)) hx hb hG i_M hown hK hP 0 wM_M rfl 2 (by decide) (hG _ L_M_62) (fun _ h9 => h9) rfl d_m_event_88 ?_
        refine lv_iload_n hx hb d_m_event_91 rfl (lv_at hl 1 rfl) ?_
        refine lv_ishr hx hb d_m_event_92 ?_
        refine lv_iconst (v := 1) hx hb d_m_event_93 (by decide) ?_
        refine lv_iand hx hb d_m_event_94 ?_
        refine lv_iadd hx hb d_m_event_95 ?_
        refine m_ist (x := ((up2 (up2 (up2 (up2 μ 5 j ((μ 5 j) - 1)) 5 j ((up2 μ 5 j ((μ 5 j) - 1)) 4 j)) 8 j 1) 9 (4 * j) (((up2 (up2 (up2 μ 5 j ((μ 5 j) - 1)) 5 j ((up2 μ 5 j ((μ 5 j) - 1)) 4 j)) 8 j 1) 9 (4 * j)) + 1)) 9 (4 * j + 1)) + ((((up2 (up2 (up2 (up2 μ 5 j ((μ 5 j) - 1)) 5 j ((up2 μ 5 j ((μ 5 j) - 1)) 4 j)) 8 j 1) 9 (4 * j) (((up2 (up2 (up2 μ 5 j ((μ 5 j) - 1)) 5 j ((up2 μ 5 j ((μ 5 j) - 1)) 4 j)) 8 j 1) 9 (4 * j)) + 1)) 0 2) >>> ((nI j) &&& 31)) &&& 1)) hx hb hK hP hD hS wM_9 wM_p9 (4 * j + 1) (show 4 * j + 1 < 32 by have := hj; omega) (by decide) (m_ix j 1) d_m_event_96 (fun H locs hP hD hS => ?_)
        refine lv_aload_n hx hb d_m_event_97 rfl (lv_at hl 0 rfl) ?_
        refine lv_dup hx hb d_m_event_98 rfl ?_
        refine va_get (v := .int ((up2 (up2 (up2 (up2 (up2 μ 5 j ((μ 5 j) - 1)) 5 j ((up2 μ 5 j ((μ 5 j) - 1)) 4 j)) 8 j 1) 9 (4 * j) (((up2 (up2 (up2 μ 5 j ((μ 5 j) - 1)) 5 j ((up2 μ 5 j ((μ 5 j) - 1)) 4 j)) 8 j 1) 9 (4 * j)) + 1)) 9 (4 * j + 1) (((up2 (up2 (up2 (up2 μ 5 j ((μ 5 j) - 1)) 5 j ((up2 μ 5 j ((μ 5 j) - 1)) 4 j)) 8 j 1) 9 (4 * j) (((up2 (up2 (up2 μ 5 j ((μ 5 j) - 1)) 5 j ((up2 μ 5 j ((μ 5 j) - 1)) 4 j)) 8 j 1) 9 (4 * j)) + 1)) 9 (4 * j + 1)) + ((((up2 (up2 (up2 (up2 μ 5 j ((μ 5 j) - 1)) 5 j ((up2 μ 5 j ((μ 5 j) - 1)) 4 j)) 8 j 1) 9 (4 * j) (((up2 (up2 (up2 μ 5 j ((μ 5 j) - 1)) 5 j ((up2 μ 5 j ((μ 5 j) - 1)) 4 j)) 8 j 1) 9 (4 * j)) + 1)) 0 2) >>> ((nI j) &&& 31)) &&& 1))) 0 2)) hx hb hG i_M hown hK hP 0 wM_M rfl 2 (by decide) (hG _ L_M_62) (fun _ h9 => h9) rfl d_m_event_99 ?_
        refine lv_iconst (v := 1) hx hb d_m_event_102 (by decide) ?_
        refine lv_iload_n hx hb d_m_event_103 rfl (lv_at hl 1 rfl) ?_
        refine lv_ishl hx hb d_m_event_104 ?_
        refine lv_ior hx hb d_m_event_105 ?_
        refine va_put (ty := .int) (v := .int (((up2 (up2 (up2 (up2 (up2 μ 5 j ((μ 5 j) - 1)) 5 j ((up2 μ 5 j ((μ 5 j) - 1)) 4 j)) 8 j 1) 9 (4 * j) (((up2 (up2 (up2 μ 5 j ((μ 5 j) - 1)) 5 j ((up2 μ 5 j ((μ 5 j) - 1)) 4 j)) 8 j 1) 9 (4 * j)) + 1)) 9 (4 * j + 1) (((up2 (up2 (up2 (up2 μ 5 j ((μ 5 j) - 1)) 5 j ((up2 μ 5 j ((μ 5 j) - 1)) 4 j)) 8 j 1) 9 (4 * j) (((up2 (up2 (up2 μ 5 j ((μ 5 j) - 1)) 5 j ((up2 μ 5 j ((μ 5 j) - 1)) 4 j)) 8 j 1) 9 (4 * j)) + 1)) 9 (4 * j + 1)) + ((((up2 (up2 (up2 (up2 μ 5 j ((μ 5 j) - 1)) 5 j ((up2 μ 5 j ((μ 5 j) - 1)) 4 j)) 8 j 1) 9 (4 * j) (((up2 (up2 (up2 μ 5 j ((μ 5 j) - 1)) 5 j ((up2 μ 5 j ((μ 5 j) - 1)) 4 j)) 8 j 1) 9 (4 * j)) + 1)) 0 2) >>> ((nI j) &&& 31)) &&& 1))) 0 2) ||| ((1 : Int32) <<< ((nI j) &&& 31)))) hx hb hG i_M ft_M ft_M_ok n_M hown hK hP hD hS 0 wM_M rfl 2 (by decide) (hG _ L_M_62) (fun _ h9 => h9) rfl (by decide +kernel) rfl rfl (Nat.le_of_ble_eq_true rfl) d_m_event_106 (fun H locs hP hD hS => ?_)
        rw [wM_putM2] at hP hD
        refine lv_iconst (v := 1) hx hb d_m_event_109 (by decide) ?_
        exact hret _ _ _ 110 1 (up2 (up2 (up2 (up2 (up2 (up2 μ 5 j ((μ 5 j) - 1)) 5 j ((up2 μ 5 j ((μ 5 j) - 1)) 4 j)) 8 j 1) 9 (4 * j) (((up2 (up2 (up2 μ 5 j ((μ 5 j) - 1)) 5 j ((up2 μ 5 j ((μ 5 j) - 1)) 4 j)) 8 j 1) 9 (4 * j)) + 1)) 9 (4 * j + 1) (((up2 (up2 (up2 (up2 μ 5 j ((μ 5 j) - 1)) 5 j ((up2 μ 5 j ((μ 5 j) - 1)) 4 j)) 8 j 1) 9 (4 * j) (((up2 (up2 (up2 μ 5 j ((μ 5 j) - 1)) 5 j ((up2 μ 5 j ((μ 5 j) - 1)) 4 j)) 8 j 1) 9 (4 * j)) + 1)) 9 (4 * j + 1)) + ((((up2 (up2 (up2 (up2 μ 5 j ((μ 5 j) - 1)) 5 j ((up2 μ 5 j ((μ 5 j) - 1)) 4 j)) 8 j 1) 9 (4 * j) (((up2 (up2 (up2 μ 5 j ((μ 5 j) - 1)) 5 j ((up2 μ 5 j ((μ 5 j) - 1)) 4 j)) 8 j 1) 9 (4 * j)) + 1)) 0 2) >>> ((nI j) &&& 31)) &&& 1))) 0 2 (((up2 (up2 (up2 (up2 (up2 μ 5 j ((μ 5 j) - 1)) 5 j ((up2 μ 5 j ((μ 5 j) - 1)) 4 j)) 8 j 1) 9 (4 * j) (((up2 (up2 (up2 μ 5 j ((μ 5 j) - 1)) 5 j ((up2 μ 5 j ((μ 5 j) - 1)) 4 j)) 8 j 1) 9 (4 * j)) + 1)) 9 (4 * j + 1) (((up2 (up2 (up2 (up2 μ 5 j ((μ 5 j) - 1)) 5 j ((up2 μ 5 j ((μ 5 j) - 1)) 4 j)) 8 j 1) 9 (4 * j) (((up2 (up2 (up2 μ 5 j ((μ 5 j) - 1)) 5 j ((up2 μ 5 j ((μ 5 j) - 1)) 4 j)) 8 j 1) 9 (4 * j)) + 1)) 9 (4 * j + 1)) + ((((up2 (up2 (up2 (up2 μ 5 j ((μ 5 j) - 1)) 5 j ((up2 μ 5 j ((μ 5 j) - 1)) 4 j)) 8 j 1) 9 (4 * j) (((up2 (up2 (up2 μ 5 j ((μ 5 j) - 1)) 5 j ((up2 μ 5 j ((μ 5 j) - 1)) 4 j)) 8 j 1) 9 (4 * j)) + 1)) 0 2) >>> ((nI j) &&& 31)) &&& 1))) 0 2) ||| ((1 : Int32) <<< ((nI j) &&& 31)))) hP hD hS rfl d_m_event_110 (by simp only [g_event, g_end, bit1, c_1, c_2, c_3, ↓reduceIte]) (by simp only [g_event, g_end, bit1, c_1, c_2, c_3, ↓reduceIte])
    · refine lv_iconst (v := 0) hx hb d_m_event_30 (by decide) ?_
      exact hret _ _ _ 31 0 (up2 μ 5 j ((μ 5 j) - 1)) hP hD hS rfl d_m_event_31 (by simp only [g_event, g_end, bit1, c_1, c_2, ↓reduceIte]) (by simp only [g_event, g_end, bit1, c_1, c_2, ↓reduceIte])
  · refine lv_iconst (v := 0) hx hb d_m_event_9 (by decide) ?_
    exact hret _ _ _ 10 0 μ hP hD hS rfl d_m_event_10 (by simp only [g_event, g_end, bit1, c_1, ↓reduceIte]) (by simp only [g_event, g_end, bit1, c_1, ↓reduceIte])
set_option maxHeartbeats 4000000 in
set_option maxRecDepth 100000 in
theorem c_m_serve (l : Launch) (D : va_G) (b : Nat → Nat) (cb : Nat → ClassId) (μ : St) (j : Nat) (hj : j < 4) (n0 : Nat) (hO : mOK μ n0) (hn : n0 < 2 ^ 30) : KV l D (tM cb) (wM b cb) rm_m_serve y_m_serve b_m_serve 4 [.ref (b 0), .int (nI j)] μ (g_serve μ j) := by
  refine KV.of (by decide) (Nat.le_of_ble_eq_true rfl) ?_
  intro p e s m args below meth c A Q ls hx hb hml hown hG hK hN hA hP hD hS hl hret
  have hown : s.vm.findClass R_M = some m.cls := hown
  have hl : lv_has ls 4 [(0, .ref (b 0)), (1, .int (nI j))] := hl
  refine lv_aload_n hx hb d_m_serve_0 rfl (lv_at hl 0 rfl) ?_
  refine lv_iload_n hx hb d_m_serve_1 rfl (lv_at hl 1 rfl) ?_
  refine k_cV (rest := []) hx hb hml hown hG hK hN hA hP hD hS (c_m_asks l D b cb μ j hj) ok_m_asks io_m_asks L_M_65 ⟨rfl, rfl, by decide, by decide⟩ 0 wM_M rfl rfl hl.1 rfl (Nat.le_of_ble_eq_true rfl) ⟨Nat.zero_le _, Nat.zero_le _⟩ d_m_serve_2 (fun H locs hP hD hS => ?_)
  refine lv_if_ne (tgt := 19) hx hb d_m_serve_5 (by decide) (fun c_1 => ?_) (fun c_1 => ?_)
  · refine lv_iconst (v := 0) hx hb d_m_serve_19 (by decide) ?_
    refine lv_istore_n (lv' := [(2, .int 0), (0, .ref (b 0)), (1, .int (nI j))]) hx hb d_m_serve_20 rfl hl (by decide) rfl (fun ls hl => ?_)
    have loop : ∀ (n : Nat) (k : Nat), (k + n = 7) → (∀ i, i < k → (μ 0 2 &&& μ 10 j) &&& bit1 (nI i) = 0) → (lbN (μ 0 2 &&& μ 10 j) n k = lbN (μ 0 2 &&& μ 10 j) 7 0) → ∀ (H : Heap) (locs : List Loc) (ls : Array Slot), va_P D classes (wM b cb μ) H → va_D A (wM b cb μ) → va_S A s.heap H locs → lv_has ls 4 [(2, .int (nI k)), (1, .int (nI j)), (0, .ref (b 0))] → W p l e rm_m_serve s m args below meth c H locs 0 0 Q (F0 m 21 ls []) := by
      intro n
      induction n with
      | zero =>
        intro k hk7 hz hrel H locs ls hP hD hS hl
        refine lv_aload_n hx hb d_m_serve_21 rfl (lv_at hl 2 rfl) ?_
        refine va_get (v := .int (μ 0 2)) hx hb hG i_M hown hK hP 0 wM_M rfl 2 (by decide) (hG _ L_M_62) (fun _ h9 => h9) rfl d_m_serve_22 ?_
        refine lv_aload_n hx hb d_m_serve_25 rfl (lv_at hl 2 rfl) ?_
        refine va_get (v := .ref (b 10)) hx hb hG i_M hown hK hP 0 wM_M rfl 10 (by decide) (hG _ L_M_29) (fun _ h9 => h9) rfl d_m_serve_26 ?_
        refine lv_iload_n hx hb d_m_serve_29 rfl (lv_at hl 1 rfl) ?_
        refine m_ild hx hb hK hP wM_10 (j) hj (by decide) (rfl) d_m_serve_30 ?_
        refine lv_iand hx hb d_m_serve_31 ?_
        refine lv_iconst (v := 1) hx hb d_m_serve_32 (by decide) ?_
        refine lv_iload_n hx hb d_m_serve_33 rfl (lv_at hl 0 rfl) ?_
        refine lv_ishl hx hb d_m_serve_34 ?_
        refine lv_iand hx hb d_m_serve_35 ?_
        refine lv_if_ne (tgt := 45) hx hb d_m_serve_36 (by decide) (fun c_2 => ?_) (fun c_2 => absurd c_2 (lb_lastk hO c_1 hk7 hz))
        have ek : lbN (μ 0 2 &&& μ 10 j) 7 0 = k := by first | (rw [← hrel]; show 7 = k; omega) | (rw [← hrel]; simp only [lbN, bit1, c_1, c_2, ↓reduceIte])
        have hk : k < 8 := by omega
        refine lv_aload_n hx hb d_m_serve_45 rfl (lv_at hl 2 rfl) ?_
        refine lv_dup hx hb d_m_serve_46 rfl ?_
        refine va_get (v := .int (μ 0 2)) hx hb hG i_M hown hK hP 0 wM_M rfl 2 (by decide) (hG _ L_M_62) (fun _ h9 => h9) rfl d_m_serve_47 ?_
        refine lv_iconst (v := 1) hx hb d_m_serve_50 (by decide) ?_
        refine lv_iload_n hx hb d_m_serve_51 rfl (lv_at hl 0 rfl) ?_
        refine lv_ishl hx hb d_m_serve_52 ?_
        refine lv_isub hx hb d_m_serve_53 ?_
        refine va_put (ty := .int) (v := .int ((μ 0 2) - ((1 : Int32) <<< ((nI k) &&& 31)))) hx hb hG i_M ft_M ft_M_ok n_M hown hK hP hD hS 0 wM_M rfl 2 (by decide) (hG _ L_M_62) (fun _ h9 => h9) rfl (by decide +kernel) rfl rfl (Nat.le_of_ble_eq_true rfl) d_m_serve_54 (fun H locs hP hD hS => ?_)
        rw [wM_putM2] at hP hD
        refine lv_aload_n hx hb d_m_serve_57 rfl (lv_at hl 2 rfl) ?_
        refine va_get (v := .ref (b 9)) hx hb hG i_M hown hK hP 0 wM_M rfl 9 (by decide) (hG _ L_M_26) (fun _ h9 => h9) rfl d_m_serve_58 ?_
        refine lv_iconst (v := 4) hx hb d_m_serve_61 (by decide) ?_
        refine lv_iload_n hx hb d_m_serve_62 rfl (lv_at hl 0 rfl) ?_
        refine lv_imul hx hb d_m_serve_63 ?_
        refine lv_iconst (v := 2) hx hb d_m_serve_64 (by decide) ?_
        refine lv_iadd hx hb d_m_serve_65 ?_
        refine lv_dup2_11 hx hb d_m_serve_66 rfl rfl ?_
        refine m_ild hx hb hK hP wM_9 (4 * k + 2) (show 4 * k + 2 < 32 by have := hk; omega) (by decide) (m_ix k 2) d_m_serve_67 ?_
        refine lv_iconst (v := 1) hx hb d_m_serve_68 (by decide) ?_
        refine lv_iadd hx hb d_m_serve_69 ?_
        refine m_ist (x := ((up2 μ 0 2 ((μ 0 2) - ((1 : Int32) <<< ((nI k) &&& 31)))) 9 (4 * k + 2)) + 1) hx hb hK hP hD hS wM_9 wM_p9 (4 * k + 2) (show 4 * k + 2 < 32 by have := hk; omega) (by decide) (m_ix k 2) d_m_serve_70 (fun H locs hP hD hS => ?_)
        refine lv_aload_n hx hb d_m_serve_71 rfl (lv_at hl 2 rfl) ?_
        refine va_get (v := .ref (b 14)) hx hb hG i_M hown hK hP 0 wM_M rfl 14 (by decide) (hG _ L_M_41) (fun _ h9 => h9) rfl d_m_serve_72 ?_
        refine lv_iload_n hx hb d_m_serve_75 rfl (lv_at hl 1 rfl) ?_
        refine lv_dup2_11 hx hb d_m_serve_76 rfl rfl ?_
        refine m_ild hx hb hK hP wM_14 (j) hj (by decide) (rfl) d_m_serve_77 ?_
        refine lv_iconst (v := 1) hx hb d_m_serve_78 (by decide) ?_
        refine lv_iadd hx hb d_m_serve_79 ?_
        refine m_ist (x := ((up2 (up2 μ 0 2 ((μ 0 2) - ((1 : Int32) <<< ((nI k) &&& 31)))) 9 (4 * k + 2) (((up2 μ 0 2 ((μ 0 2) - ((1 : Int32) <<< ((nI k) &&& 31)))) 9 (4 * k + 2)) + 1)) 14 j) + 1) hx hb hK hP hD hS wM_14 wM_p14 (j) hj (by decide) (rfl) d_m_serve_80 (fun H locs hP hD hS => ?_)
        refine lv_aload_n hx hb d_m_serve_81 rfl (lv_at hl 2 rfl) ?_
        refine va_get (v := .ref (b 16)) hx hb hG i_M hown hK hP 0 wM_M rfl 16 (by decide) (hG _ L_M_47) (fun _ h9 => h9) rfl d_m_serve_82 ?_
        refine lv_iload_n hx hb d_m_serve_85 rfl (lv_at hl 1 rfl) ?_
        refine lv_aload_n hx hb d_m_serve_86 rfl (lv_at hl 2 rfl) ?_
        refine va_get (v := .int ((up2 (up2 (up2 μ 0 2 ((μ 0 2) - ((1 : Int32) <<< ((nI k) &&& 31)))) 9 (4 * k + 2) (((up2 μ 0 2 ((μ 0 2) - ((1 : Int32) <<< ((nI k) &&& 31)))) 9 (4 * k + 2)) + 1)) 14 j (((up2 (up2 μ 0 2 ((μ 0 2) - ((1 : Int32) <<< ((nI k) &&& 31)))) 9 (4 * k + 2) (((up2 μ 0 2 ((μ 0 2) - ((1 : Int32) <<< ((nI k) &&& 31)))) 9 (4 * k + 2)) + 1)) 14 j) + 1)) 0 1)) hx hb hG i_M hown hK hP 0 wM_M rfl 1 (by decide) (hG _ L_M_69) (fun _ h9 => h9) rfl d_m_serve_87 ?_
        refine m_ist (x := (up2 (up2 (up2 μ 0 2 ((μ 0 2) - ((1 : Int32) <<< ((nI k) &&& 31)))) 9 (4 * k + 2) (((up2 μ 0 2 ((μ 0 2) - ((1 : Int32) <<< ((nI k) &&& 31)))) 9 (4 * k + 2)) + 1)) 14 j (((up2 (up2 μ 0 2 ((μ 0 2) - ((1 : Int32) <<< ((nI k) &&& 31)))) 9 (4 * k + 2) (((up2 μ 0 2 ((μ 0 2) - ((1 : Int32) <<< ((nI k) &&& 31)))) 9 (4 * k + 2)) + 1)) 14 j) + 1)) 0 1) hx hb hK hP hD hS wM_16 wM_p16 (j) hj (by decide) (rfl) d_m_serve_90 (fun H locs hP hD hS => ?_)
        refine lv_iconst (v := 3) hx hb d_m_serve_91 (by decide) ?_
        refine lv_aload_n hx hb d_m_serve_92 rfl (lv_at hl 2 rfl) ?_
        refine va_get (v := .int ((up2 (up2 (up2 (up2 μ 0 2 ((μ 0 2) - ((1 : Int32) <<< ((nI k) &&& 31)))) 9 (4 * k + 2) (((up2 μ 0 2 ((μ 0 2) - ((1 : Int32) <<< ((nI k) &&& 31)))) 9 (4 * k + 2)) + 1)) 14 j (((up2 (up2 μ 0 2 ((μ 0 2) - ((1 : Int32) <<< ((nI k) &&& 31)))) 9 (4 * k + 2) (((up2 μ 0 2 ((μ 0 2) - ((1 : Int32) <<< ((nI k) &&& 31)))) 9 (4 * k + 2)) + 1)) 14 j) + 1)) 16 j ((up2 (up2 (up2 μ 0 2 ((μ 0 2) - ((1 : Int32) <<< ((nI k) &&& 31)))) 9 (4 * k + 2) (((up2 μ 0 2 ((μ 0 2) - ((1 : Int32) <<< ((nI k) &&& 31)))) 9 (4 * k + 2)) + 1)) 14 j (((up2 (up2 μ 0 2 ((μ 0 2) - ((1 : Int32) <<< ((nI k) &&& 31)))) 9 (4 * k + 2) (((up2 μ 0 2 ((μ 0 2) - ((1 : Int32) <<< ((nI k) &&& 31)))) 9 (4 * k + 2)) + 1)) 14 j) + 1)) 0 1)) 0 3)) hx hb hG i_M hown hK hP 0 wM_M rfl 3 (by decide) (hG _ L_M_72) (fun _ h9 => h9) rfl d_m_serve_93 ?_
        refine lv_bipush (v := 16) hx hb d_m_serve_96 (by decide) ?_
        refine lv_irem hx hb d_m_serve_98 (by decide) ?_
        refine lv_imul hx hb d_m_serve_99 ?_
        refine lv_topi (fun z ez => ?_)
        obtain rfl := ez.trans (m_at (S := (up2 (up2 (up2 (up2 μ 0 2 ((μ 0 2) - ((1 : Int32) <<< ((nI k) &&& 31)))) 9 (4 * k + 2) (((up2 μ 0 2 ((μ 0 2) - ((1 : Int32) <<< ((nI k) &&& 31)))) 9 (4 * k + 2)) + 1)) 14 j (((up2 (up2 μ 0 2 ((μ 0 2) - ((1 : Int32) <<< ((nI k) &&& 31)))) 9 (4 * k + 2) (((up2 μ 0 2 ((μ 0 2) - ((1 : Int32) <<< ((nI k) &&& 31)))) 9 (4 * k + 2)) + 1)) 14 j) + 1)) 16 j ((up2 (up2 (up2 μ 0 2 ((μ 0 2) - ((1 : Int32) <<< ((nI k) &&& 31)))) 9 (4 * k + 2) (((up2 μ 0 2 ((μ 0 2) - ((1 : Int32) <<< ((nI k) &&& 31)))) 9 (4 * k + 2)) + 1)) 14 j (((up2 (up2 μ 0 2 ((μ 0 2) - ((1 : Int32) <<< ((nI k) &&& 31)))) 9 (4 * k + 2) (((up2 μ 0 2 ((μ 0 2) - ((1 : Int32) <<< ((nI k) &&& 31)))) 9 (4 * k + 2)) + 1)) 14 j) + 1)) 0 1)) 0 3) (n := n0) hO.1 (by omega))
        have enn : nn μ = n0 := mOK_nn hO hn
        refine lv_istore_n (lv' := [(3, .int (nI (3 * (n0 % 16)))), (2, .int (nI k)), (1, .int (nI j)), (0, .ref (b 0))]) hx hb d_m_serve_100 rfl hl (by decide) rfl (fun ls hl => ?_)
        refine lv_aload_n hx hb d_m_serve_101 rfl (lv_at hl 3 rfl) ?_
        refine va_get (v := .ref (b 17)) hx hb hG i_M hown hK hP 0 wM_M rfl 17 (by decide) (hG _ L_M_50) (fun _ h9 => h9) rfl d_m_serve_102 ?_
        refine lv_iload_n hx hb d_m_serve_105 rfl (lv_at hl 0 rfl) ?_
        refine lv_iload_n hx hb d_m_serve_106 rfl (lv_at hl 1 rfl) ?_
        refine m_ist (x := nI k) hx hb hK hP hD hS wM_17 wM_p17 ((3 * (n0 % 16))) (show (3 * (n0 % 16)) < 48 by omega) (by decide) (rfl) d_m_serve_107 (fun H locs hP hD hS => ?_)
        refine lv_aload_n hx hb d_m_serve_108 rfl (lv_at hl 3 rfl) ?_
        refine va_get (v := .ref (b 17)) hx hb hG i_M hown hK hP 0 wM_M rfl 17 (by decide) (hG _ L_M_50) (fun _ h9 => h9) rfl d_m_serve_109 ?_
        refine lv_iload_n hx hb d_m_serve_112 rfl (lv_at hl 0 rfl) ?_
        refine lv_iconst (v := 1) hx hb d_m_serve_113 (by decide) ?_
        refine lv_iadd hx hb d_m_serve_114 ?_
        refine lv_iload_n hx hb d_m_serve_115 rfl (lv_at hl 2 rfl) ?_
        refine m_ist (x := nI j) hx hb hK hP hD hS wM_17 wM_p17 (3 * (n0 % 16) + 1) (show 3 * (n0 % 16) + 1 < 48 by omega) (by decide) (nI_add _ 1) d_m_serve_116 (fun H locs hP hD hS => ?_)
        refine lv_aload_n hx hb d_m_serve_117 rfl (lv_at hl 3 rfl) ?_
        refine va_get (v := .ref (b 17)) hx hb hG i_M hown hK hP 0 wM_M rfl 17 (by decide) (hG _ L_M_50) (fun _ h9 => h9) rfl d_m_serve_118 ?_
        refine lv_iload_n hx hb d_m_serve_121 rfl (lv_at hl 0 rfl) ?_
        refine lv_iconst (v := 2) hx hb d_m_serve_122 (by decide) ?_
        refine lv_iadd hx hb d_m_serve_123 ?_
        refine lv_aload_n hx hb d_m_serve_124 rfl (lv_at hl 3 rfl) ?_
        refine va_get (v := .int ((up2 (up2 (up2 (up2 (up2 (up2 μ 0 2 ((μ 0 2) - ((1 : Int32) <<< ((nI k) &&& 31)))) 9 (4 * k + 2) (((up2 μ 0 2 ((μ 0 2) - ((1 : Int32) <<< ((nI k) &&& 31)))) 9 (4 * k + 2)) + 1)) 14 j (((up2 (up2 μ 0 2 ((μ 0 2) - ((1 : Int32) <<< ((nI k) &&& 31)))) 9 (4 * k + 2) (((up2 μ 0 2 ((μ 0 2) - ((1 : Int32) <<< ((nI k) &&& 31)))) 9 (4 * k + 2)) + 1)) 14 j) + 1)) 16 j ((up2 (up2 (up2 μ 0 2 ((μ 0 2) - ((1 : Int32) <<< ((nI k) &&& 31)))) 9 (4 * k + 2) (((up2 μ 0 2 ((μ 0 2) - ((1 : Int32) <<< ((nI k) &&& 31)))) 9 (4 * k + 2)) + 1)) 14 j (((up2 (up2 μ 0 2 ((μ 0 2) - ((1 : Int32) <<< ((nI k) &&& 31)))) 9 (4 * k + 2) (((up2 μ 0 2 ((μ 0 2) - ((1 : Int32) <<< ((nI k) &&& 31)))) 9 (4 * k + 2)) + 1)) 14 j) + 1)) 0 1)) 17 (3 * (n0 % 16)) (nI k)) 17 (3 * (n0 % 16) + 1) (nI j)) 0 1)) hx hb hG i_M hown hK hP 0 wM_M rfl 1 (by decide) (hG _ L_M_69) (fun _ h9 => h9) rfl d_m_serve_125 ?_
        refine m_ist (x := (up2 (up2 (up2 (up2 (up2 (up2 μ 0 2 ((μ 0 2) - ((1 : Int32) <<< ((nI k) &&& 31)))) 9 (4 * k + 2) (((up2 μ 0 2 ((μ 0 2) - ((1 : Int32) <<< ((nI k) &&& 31)))) 9 (4 * k + 2)) + 1)) 14 j (((up2 (up2 μ 0 2 ((μ 0 2) - ((1 : Int32) <<< ((nI k) &&& 31)))) 9 (4 * k + 2) (((up2 μ 0 2 ((μ 0 2) - ((1 : Int32) <<< ((nI k) &&& 31)))) 9 (4 * k + 2)) + 1)) 14 j) + 1)) 16 j ((up2 (up2 (up2 μ 0 2 ((μ 0 2) - ((1 : Int32) <<< ((nI k) &&& 31)))) 9 (4 * k + 2) (((up2 μ 0 2 ((μ 0 2) - ((1 : Int32) <<< ((nI k) &&& 31)))) 9 (4 * k + 2)) + 1)) 14 j (((up2 (up2 μ 0 2 ((μ 0 2) - ((1 : Int32) <<< ((nI k) &&& 31)))) 9 (4 * k + 2) (((up2 μ 0 2 ((μ 0 2) - ((1 : Int32) <<< ((nI k) &&& 31)))) 9 (4 * k + 2)) + 1)) 14 j) + 1)) 0 1)) 17 (3 * (n0 % 16)) (nI k)) 17 (3 * (n0 % 16) + 1) (nI j)) 0 1) hx hb hK hP hD hS wM_17 wM_p17 (3 * (n0 % 16) + 2) (show 3 * (n0 % 16) + 2 < 48 by omega) (by decide) (nI_add _ 2) d_m_serve_128 (fun H locs hP hD hS => ?_)
        refine lv_aload_n hx hb d_m_serve_129 rfl (lv_at hl 3 rfl) ?_
        refine lv_dup hx hb d_m_serve_130 rfl ?_
        refine va_get (v := .int ((up2 (up2 (up2 (up2 (up2 (up2 (up2 μ 0 2 ((μ 0 2) - ((1 : Int32) <<< ((nI k) &&& 31)))) 9 (4 * k + 2) (((up2 μ 0 2 ((μ 0 2) - ((1 : Int32) <<< ((nI k) &&& 31)))) 9 (4 * k + 2)) + 1)) 14 j (((up2 (up2 μ 0 2 ((μ 0 2) - ((1 : Int32) <<< ((nI k) &&& 31)))) 9 (4 * k + 2) (((up2 μ 0 2 ((μ 0 2) - ((1 : Int32) <<< ((nI k) &&& 31)))) 9 (4 * k + 2)) + 1)) 14 j) + 1)) 16 j ((up2 (up2 (up2 μ 0 2 ((μ 0 2) - ((1 : Int32) <<< ((nI k) &&& 31)))) 9 (4 * k + 2) (((up2 μ 0 2 ((μ 0 2) - ((1 : Int32) <<< ((nI k) &&& 31)))) 9 (4 * k + 2)) + 1)) 14 j (((up2 (up2 μ 0 2 ((μ 0 2) - ((1 : Int32) <<< ((nI k) &&& 31)))) 9 (4 * k + 2) (((up2 μ 0 2 ((μ 0 2) - ((1 : Int32) <<< ((nI k) &&& 31)))) 9 (4 * k + 2)) + 1)) 14 j) + 1)) 0 1)) 17 (3 * (n0 % 16)) (nI k)) 17 (3 * (n0 % 16) + 1) (nI j)) 17 (3 * (n0 % 16) + 2) ((up2 (up2 (up2 (up2 (up2 (up2 μ 0 2 ((μ 0 2) - ((1 : Int32) <<< ((nI k) &&& 31)))) 9 (4 * k + 2) (((up2 μ 0 2 ((μ 0 2) - ((1 : Int32) <<< ((nI k) &&& 31)))) 9 (4 * k + 2)) + 1)) 14 j (((up2 (up2 μ 0 2 ((μ 0 2) - ((1 : Int32) <<< ((nI k) &&& 31)))) 9 (4 * k + 2) (((up2 μ 0 2 ((μ 0 2) - ((1 : Int32) <<< ((nI k) &&& 31)))) 9 (4 * k + 2)) + 1)) 14 j) + 1)) 16 j ((up2 (up2 (up2 μ 0 2 ((μ 0 2) - ((1 : Int32) <<< ((nI k) &&& 31)))) 9 (4 * k + 2) (((up2 μ 0 2 ((μ 0 2) - ((1 : Int32) <<< ((nI k) &&& 31)))) 9 (4 * k + 2)) + 1)) 14 j (((up2 (up2 μ 0 2 ((μ 0 2) - ((1 : Int32) <<< ((nI k) &&& 31)))) 9 (4 * k + 2) (((up2 μ 0 2 ((μ 0 2) - ((1 : Int32) <<< ((nI k) &&& 31)))) 9 (4 * k + 2)) + 1)) 14 j) + 1)) 0 1)) 17 (3 * (n0 % 16)) (nI k)) 17 (3 * (n0 % 16) + 1) (nI j)) 0 1)) 0 3)) hx hb hG i_M hown hK hP 0 wM_M rfl 3 (by decide) (hG _ L_M_72) (fun _ h9 => h9) rfl d_m_serve_131 ?_
        refine lv_iconst (v := 1) hx hb d_m_serve_134 (by decide) ?_
        refine lv_iadd hx hb d_m_serve_135 ?_
        refine va_put (ty := .int) (v := .int (((up2 (up2 (up2 (up2 (up2 (up2 (up2 μ 0 2 ((μ 0 2) - ((1 : Int32) <<< ((nI k) &&& 31)))) 9 (4 * k + 2) (((up2 μ 0 2 ((μ 0 2) - ((1 : Int32) <<< ((nI k) &&& 31)))) 9 (4 * k + 2)) + 1)) 14 j (((up2 (up2 μ 0 2 ((μ 0 2) - ((1 : Int32) <<< ((nI k) &&& 31)))) 9 (4 * k + 2) (((up2 μ 0 2 ((μ 0 2) - ((1 : Int32) <<< ((nI k) &&& 31)))) 9 (4 * k + 2)) + 1)) 14 j) + 1)) 16 j ((up2 (up2 (up2 μ 0 2 ((μ 0 2) - ((1 : Int32) <<< ((nI k) &&& 31)))) 9 (4 * k + 2) (((up2 μ 0 2 ((μ 0 2) - ((1 : Int32) <<< ((nI k) &&& 31)))) 9 (4 * k + 2)) + 1)) 14 j (((up2 (up2 μ 0 2 ((μ 0 2) - ((1 : Int32) <<< ((nI k) &&& 31)))) 9 (4 * k + 2) (((up2 μ 0 2 ((μ 0 2) - ((1 : Int32) <<< ((nI k) &&& 31)))) 9 (4 * k + 2)) + 1)) 14 j) + 1)) 0 1)) 17 (3 * (n0 % 16)) (nI k)) 17 (3 * (n0 % 16) + 1) (nI j)) 17 (3 * (n0 % 16) + 2) ((up2 (up2 (up2 (up2 (up2 (up2 μ 0 2 ((μ 0 2) - ((1 : Int32) <<< ((nI k) &&& 31)))) 9 (4 * k + 2) (((up2 μ 0 2 ((μ 0 2) - ((1 : Int32) <<< ((nI k) &&& 31)))) 9 (4 * k + 2)) + 1)) 14 j (((up2 (up2 μ 0 2 ((μ 0 2) - ((1 : Int32) <<< ((nI k) &&& 31)))) 9 (4 * k + 2) (((up2 μ 0 2 ((μ 0 2) - ((1 : Int32) <<< ((nI k) &&& 31)))) 9 (4 * k + 2)) + 1)) 14 j) + 1)) 16 j ((up2 (up2 (up2 μ 0 2 ((μ 0 2) - ((1 : Int32) <<< ((nI k) &&& 31)))) 9 (4 * k + 2) (((up2 μ 0 2 ((μ 0 2) - ((1 : Int32) <<< ((nI k) &&& 31)))) 9 (4 * k + 2)) + 1)) 14 j (((up2 (up2 μ 0 2 ((μ 0 2) - ((1 : Int32) <<< ((nI k) &&& 31)))) 9 (4 * k + 2) (((up2 μ 0 2 ((μ 0 2) - ((1 : Int32) <<< ((nI k) &&& 31)))) 9 (4 * k + 2)) + 1)) 14 j) + 1)) 0 1)) 17 (3 * (n0 % 16)) (nI k)) 17 (3 * (n0 % 16) + 1) (nI j)) 0 1)) 0 3) + 1)) hx hb hG i_M ft_M ft_M_ok n_M hown hK hP hD hS 0 wM_M rfl 3 (by decide) (hG _ L_M_72) (fun _ h9 => h9) rfl (by decide +kernel) rfl rfl (Nat.le_of_ble_eq_true rfl) d_m_serve_136 (fun H locs hP hD hS => ?_)
        rw [wM_putM3] at hP hD
        exact hret _ _ _ 139 (up2 (up2 (up2 (up2 (up2 (up2 (up2 (up2 μ 0 2 ((μ 0 2) - ((1 : Int32) <<< ((nI k) &&& 31)))) 9 (4 * k + 2) (((up2 μ 0 2 ((μ 0 2) - ((1 : Int32) <<< ((nI k) &&& 31)))) 9 (4 * k + 2)) + 1)) 14 j (((up2 (up2 μ 0 2 ((μ 0 2) - ((1 : Int32) <<< ((nI k) &&& 31)))) 9 (4 * k + 2) (((up2 μ 0 2 ((μ 0 2) - ((1 : Int32) <<< ((nI k) &&& 31)))) 9 (4 * k + 2)) + 1)) 14 j) + 1)) 16 j ((up2 (up2 (up2 μ 0 2 ((μ 0 2) - ((1 : Int32) <<< ((nI k) &&& 31)))) 9 (4 * k + 2) (((up2 μ 0 2 ((μ 0 2) - ((1 : Int32) <<< ((nI k) &&& 31)))) 9 (4 * k + 2)) + 1)) 14 j (((up2 (up2 μ 0 2 ((μ 0 2) - ((1 : Int32) <<< ((nI k) &&& 31)))) 9 (4 * k + 2) (((up2 μ 0 2 ((μ 0 2) - ((1 : Int32) <<< ((nI k) &&& 31)))) 9 (4 * k + 2)) + 1)) 14 j) + 1)) 0 1)) 17 (3 * (n0 % 16)) (nI k)) 17 (3 * (n0 % 16) + 1) (nI j)) 17 (3 * (n0 % 16) + 2) ((up2 (up2 (up2 (up2 (up2 (up2 μ 0 2 ((μ 0 2) - ((1 : Int32) <<< ((nI k) &&& 31)))) 9 (4 * k + 2) (((up2 μ 0 2 ((μ 0 2) - ((1 : Int32) <<< ((nI k) &&& 31)))) 9 (4 * k + 2)) + 1)) 14 j (((up2 (up2 μ 0 2 ((μ 0 2) - ((1 : Int32) <<< ((nI k) &&& 31)))) 9 (4 * k + 2) (((up2 μ 0 2 ((μ 0 2) - ((1 : Int32) <<< ((nI k) &&& 31)))) 9 (4 * k + 2)) + 1)) 14 j) + 1)) 16 j ((up2 (up2 (up2 μ 0 2 ((μ 0 2) - ((1 : Int32) <<< ((nI k) &&& 31)))) 9 (4 * k + 2) (((up2 μ 0 2 ((μ 0 2) - ((1 : Int32) <<< ((nI k) &&& 31)))) 9 (4 * k + 2)) + 1)) 14 j (((up2 (up2 μ 0 2 ((μ 0 2) - ((1 : Int32) <<< ((nI k) &&& 31)))) 9 (4 * k + 2) (((up2 μ 0 2 ((μ 0 2) - ((1 : Int32) <<< ((nI k) &&& 31)))) 9 (4 * k + 2)) + 1)) 14 j) + 1)) 0 1)) 17 (3 * (n0 % 16)) (nI k)) 17 (3 * (n0 % 16) + 1) (nI j)) 0 1)) 0 3 (((up2 (up2 (up2 (up2 (up2 (up2 (up2 μ 0 2 ((μ 0 2) - ((1 : Int32) <<< ((nI k) &&& 31)))) 9 (4 * k + 2) (((up2 μ 0 2 ((μ 0 2) - ((1 : Int32) <<< ((nI k) &&& 31)))) 9 (4 * k + 2)) + 1)) 14 j (((up2 (up2 μ 0 2 ((μ 0 2) - ((1 : Int32) <<< ((nI k) &&& 31)))) 9 (4 * k + 2) (((up2 μ 0 2 ((μ 0 2) - ((1 : Int32) <<< ((nI k) &&& 31)))) 9 (4 * k + 2)) + 1)) 14 j) + 1)) 16 j ((up2 (up2 (up2 μ 0 2 ((μ 0 2) - ((1 : Int32) <<< ((nI k) &&& 31)))) 9 (4 * k + 2) (((up2 μ 0 2 ((μ 0 2) - ((1 : Int32) <<< ((nI k) &&& 31)))) 9 (4 * k + 2)) + 1)) 14 j (((up2 (up2 μ 0 2 ((μ 0 2) - ((1 : Int32) <<< ((nI k) &&& 31)))) 9 (4 * k + 2) (((up2 μ 0 2 ((μ 0 2) - ((1 : Int32) <<< ((nI k) &&& 31)))) 9 (4 * k + 2)) + 1)) 14 j) + 1)) 0 1)) 17 (3 * (n0 % 16)) (nI k)) 17 (3 * (n0 % 16) + 1) (nI j)) 17 (3 * (n0 % 16) + 2) ((up2 (up2 (up2 (up2 (up2 (up2 μ 0 2 ((μ 0 2) - ((1 : Int32) <<< ((nI k) &&& 31)))) 9 (4 * k + 2) (((up2 μ 0 2 ((μ 0 2) - ((1 : Int32) <<< ((nI k) &&& 31)))) 9 (4 * k + 2)) + 1)) 14 j (((up2 (up2 μ 0 2 ((μ 0 2) - ((1 : Int32) <<< ((nI k) &&& 31)))) 9 (4 * k + 2) (((up2 μ 0 2 ((μ 0 2) - ((1 : Int32) <<< ((nI k) &&& 31)))) 9 (4 * k + 2)) + 1)) 14 j) + 1)) 16 j ((up2 (up2 (up2 μ 0 2 ((μ 0 2) - ((1 : Int32) <<< ((nI k) &&& 31)))) 9 (4 * k + 2) (((up2 μ 0 2 ((μ 0 2) - ((1 : Int32) <<< ((nI k) &&& 31)))) 9 (4 * k + 2)) + 1)) 14 j (((up2 (up2 μ 0 2 ((μ 0 2) - ((1 : Int32) <<< ((nI k) &&& 31)))) 9 (4 * k + 2) (((up2 μ 0 2 ((μ 0 2) - ((1 : Int32) <<< ((nI k) &&& 31)))) 9 (4 * k + 2)) + 1)) 14 j) + 1)) 0 1)) 17 (3 * (n0 % 16)) (nI k)) 17 (3 * (n0 % 16) + 1) (nI j)) 0 1)) 0 3) + 1)) hP hD hS d_m_serve_139 (by simp only [g_serve, bit1, c_1, c_2, ek, enn, ↓reduceIte])
      | succ n ih =>
        intro k hk7 hz hrel H locs ls hP hD hS hl
        refine lv_aload_n hx hb d_m_serve_21 rfl (lv_at hl 2 rfl) ?_
        refine va_get (v := .int (μ 0 2)) hx hb hG i_M hown hK hP 0 wM_M rfl 2 (by decide) (hG _ L_M_62) (fun _ h9 => h9) rfl d_m_serve_22 ?_
        refine lv_aload_n hx hb d_m_serve_25 rfl (lv_at hl 2 rfl) ?_
        refine va_get (v := .ref (b 10)) hx hb hG i_M hown hK hP 0 wM_M rfl 10 (by decide) (hG _ L_M_29) (fun _ h9 => h9) rfl d_m_serve_26 ?_
        refine lv_iload_n hx hb d_m_serve_29 rfl (lv_at hl 1 rfl) ?_
        refine m_ild hx hb hK hP wM_10 (j) hj (by decide) (rfl) d_m_serve_30 ?_
        refine lv_iand hx hb d_m_serve_31 ?_
        refine lv_iconst (v := 1) hx hb d_m_serve_32 (by decide) ?_
        refine lv_iload_n hx hb d_m_serve_33 rfl (lv_at hl 0 rfl) ?_
        refine lv_ishl hx hb d_m_serve_34 ?_
        refine lv_iand hx hb d_m_serve_35 ?_
        refine lv_if_ne (tgt := 45) hx hb d_m_serve_36 (by decide) (fun c_3 => ?_) (fun c_3 => ?_)
        · have ek : lbN (μ 0 2 &&& μ 10 j) 7 0 = k := by first | (rw [← hrel]; show 7 = k; omega) | (rw [← hrel]; simp only [lbN, bit1, c_1, c_3, ↓reduceIte])
          have hk : k < 8 := by omega
          refine lv_aload_n hx hb d_m_serve_45 rfl (lv_at hl 2 rfl) ?_
          refine lv_dup hx hb d_m_serve_46 rfl ?_
          refine va_get (v := .int (μ 0 2)) hx hb hG i_M hown hK hP 0 wM_M rfl 2 (by decide) (hG _ L_M_62) (fun _ h9 => h9) rfl d_m_serve_47 ?_
          refine lv_iconst (v := 1) hx hb d_m_serve_50 (by decide) ?_
          refine lv_iload_n hx hb d_m_serve_51 rfl (lv_at hl 0 rfl) ?_
          refine lv_ishl hx hb d_m_serve_52 ?_
          refine lv_isub hx hb d_m_serve_53 ?_
          refine va_put (ty := .int) (v := .int ((μ 0 2) - ((1 : Int32) <<< ((nI k) &&& 31)))) hx hb hG i_M ft_M ft_M_ok n_M hown hK hP hD hS 0 wM_M rfl 2 (by decide) (hG _ L_M_62) (fun _ h9 => h9) rfl (by decide +kernel) rfl rfl (Nat.le_of_ble_eq_true rfl) d_m_serve_54 (fun H locs hP hD hS => ?_)
          rw [wM_putM2] at hP hD
          refine lv_aload_n hx hb d_m_serve_57 rfl (lv_at hl 2 rfl) ?_
          refine va_get (v := .ref (b 9)) hx hb hG i_M hown hK hP 0 wM_M rfl 9 (by decide) (hG _ L_M_26) (fun _ h9 => h9) rfl d_m_serve_58 ?_
          refine lv_iconst (v := 4) hx hb d_m_serve_61 (by decide) ?_
          refine lv_iload_n hx hb d_m_serve_62 rfl (lv_at hl 0 rfl) ?_
          refine lv_imul hx hb d_m_serve_63 ?_
          refine lv_iconst (v := 2) hx hb d_m_serve_64 (by decide) ?_
          refine lv_iadd hx hb d_m_serve_65 ?_
          refine lv_dup2_11 hx hb d_m_serve_66 rfl rfl ?_
          refine m_ild hx hb hK hP wM_9 (4 * k + 2) (show 4 * k + 2 < 32 by have := hk; omega) (by decide) (m_ix k 2) d_m_serve_67 ?_
          refine lv_iconst (v := 1) hx hb d_m_serve_68 (by decide) ?_
          refine lv_iadd hx hb d_m_serve_69 ?_
          refine m_ist (x := ((up2 μ 0 2 ((μ 0 2) - ((1 : Int32) <<< ((nI k) &&& 31)))) 9 (4 * k + 2)) + 1) hx hb hK hP hD hS wM_9 wM_p9 (4 * k + 2) (show 4 * k + 2 < 32 by have := hk; omega) (by decide) (m_ix k 2) d_m_serve_70 (fun H locs hP hD hS => ?_)
          refine lv_aload_n hx hb d_m_serve_71 rfl (lv_at hl 2 rfl) ?_
          refine va_get (v := .ref (b 14)) hx hb hG i_M hown hK hP 0 wM_M rfl 14 (by decide) (hG _ L_M_41) (fun _ h9 => h9) rfl d_m_serve_72 ?_
          refine lv_iload_n hx hb d_m_serve_75 rfl (lv_at hl 1 rfl) ?_
          refine lv_dup2_11 hx hb d_m_serve_76 rfl rfl ?_
          refine m_ild hx hb hK hP wM_14 (j) hj (by decide) (rfl) d_m_serve_77 ?_
          refine lv_iconst (v := 1) hx hb d_m_serve_78 (by decide) ?_
          refine lv_iadd hx hb d_m_serve_79 ?_
          refine m_ist (x := ((up2 (up2 μ 0 2 ((μ 0 2) - ((1 : Int32) <<< ((nI k) &&& 31)))) 9 (4 * k + 2) (((up2 μ 0 2 ((μ 0 2) - ((1 : Int32) <<< ((nI k) &&& 31)))) 9 (4 * k + 2)) + 1)) 14 j) + 1) hx hb hK hP hD hS wM_14 wM_p14 (j) hj (by decide) (rfl) d_m_serve_80 (fun H locs hP hD hS => ?_)
          refine lv_aload_n hx hb d_m_serve_81 rfl (lv_at hl 2 rfl) ?_
          refine va_get (v := .ref (b 16)) hx hb hG i_M hown hK hP 0 wM_M rfl 16 (by decide) (hG _ L_M_47) (fun _ h9 => h9) rfl d_m_serve_82 ?_
          refine lv_iload_n hx hb d_m_serve_85 rfl (lv_at hl 1 rfl) ?_
          refine lv_aload_n hx hb d_m_serve_86 rfl (lv_at hl 2 rfl) ?_
          refine va_get (v := .int ((up2 (up2 (up2 μ 0 2 ((μ 0 2) - ((1 : Int32) <<< ((nI k) &&& 31)))) 9 (4 * k + 2) (((up2 μ 0 2 ((μ 0 2) - ((1 : Int32) <<< ((nI k) &&& 31)))) 9 (4 * k + 2)) + 1)) 14 j (((up2 (up2 μ 0 2 ((μ 0 2) - ((1 : Int32) <<< ((nI k) &&& 31)))) 9 (4 * k + 2) (((up2 μ 0 2 ((μ 0 2) - ((1 : Int32) <<< ((nI k) &&& 31)))) 9 (4 * k + 2)) + 1)) 14 j) + 1)) 0 1)) hx hb hG i_M hown hK hP 0 wM_M rfl 1 (by decide) (hG _ L_M_69) (fun _ h9 => h9) rfl d_m_serve_87 ?_
          refine m_ist (x := (up2 (up2 (up2 μ 0 2 ((μ 0 2) - ((1 : Int32) <<< ((nI k) &&& 31)))) 9 (4 * k + 2) (((up2 μ 0 2 ((μ 0 2) - ((1 : Int32) <<< ((nI k) &&& 31)))) 9 (4 * k + 2)) + 1)) 14 j (((up2 (up2 μ 0 2 ((μ 0 2) - ((1 : Int32) <<< ((nI k) &&& 31)))) 9 (4 * k + 2) (((up2 μ 0 2 ((μ 0 2) - ((1 : Int32) <<< ((nI k) &&& 31)))) 9 (4 * k + 2)) + 1)) 14 j) + 1)) 0 1) hx hb hK hP hD hS wM_16 wM_p16 (j) hj (by decide) (rfl) d_m_serve_90 (fun H locs hP hD hS => ?_)
          refine lv_iconst (v := 3) hx hb d_m_serve_91 (by decide) ?_
          refine lv_aload_n hx hb d_m_serve_92 rfl (lv_at hl 2 rfl) ?_
          refine va_get (v := .int ((up2 (up2 (up2 (up2 μ 0 2 ((μ 0 2) - ((1 : Int32) <<< ((nI k) &&& 31)))) 9 (4 * k + 2) (((up2 μ 0 2 ((μ 0 2) - ((1 : Int32) <<< ((nI k) &&& 31)))) 9 (4 * k + 2)) + 1)) 14 j (((up2 (up2 μ 0 2 ((μ 0 2) - ((1 : Int32) <<< ((nI k) &&& 31)))) 9 (4 * k + 2) (((up2 μ 0 2 ((μ 0 2) - ((1 : Int32) <<< ((nI k) &&& 31)))) 9 (4 * k + 2)) + 1)) 14 j) + 1)) 16 j ((up2 (up2 (up2 μ 0 2 ((μ 0 2) - ((1 : Int32) <<< ((nI k) &&& 31)))) 9 (4 * k + 2) (((up2 μ 0 2 ((μ 0 2) - ((1 : Int32) <<< ((nI k) &&& 31)))) 9 (4 * k + 2)) + 1)) 14 j (((up2 (up2 μ 0 2 ((μ 0 2) - ((1 : Int32) <<< ((nI k) &&& 31)))) 9 (4 * k + 2) (((up2 μ 0 2 ((μ 0 2) - ((1 : Int32) <<< ((nI k) &&& 31)))) 9 (4 * k + 2)) + 1)) 14 j) + 1)) 0 1)) 0 3)) hx hb hG i_M hown hK hP 0 wM_M rfl 3 (by decide) (hG _ L_M_72) (fun _ h9 => h9) rfl d_m_serve_93 ?_
          refine lv_bipush (v := 16) hx hb d_m_serve_96 (by decide) ?_
          refine lv_irem hx hb d_m_serve_98 (by decide) ?_
          refine lv_imul hx hb d_m_serve_99 ?_
          refine lv_topi (fun z ez => ?_)
          obtain rfl := ez.trans (m_at (S := (up2 (up2 (up2 (up2 μ 0 2 ((μ 0 2) - ((1 : Int32) <<< ((nI k) &&& 31)))) 9 (4 * k + 2) (((up2 μ 0 2 ((μ 0 2) - ((1 : Int32) <<< ((nI k) &&& 31)))) 9 (4 * k + 2)) + 1)) 14 j (((up2 (up2 μ 0 2 ((μ 0 2) - ((1 : Int32) <<< ((nI k) &&& 31)))) 9 (4 * k + 2) (((up2 μ 0 2 ((μ 0 2) - ((1 : Int32) <<< ((nI k) &&& 31)))) 9 (4 * k + 2)) + 1)) 14 j) + 1)) 16 j ((up2 (up2 (up2 μ 0 2 ((μ 0 2) - ((1 : Int32) <<< ((nI k) &&& 31)))) 9 (4 * k + 2) (((up2 μ 0 2 ((μ 0 2) - ((1 : Int32) <<< ((nI k) &&& 31)))) 9 (4 * k + 2)) + 1)) 14 j (((up2 (up2 μ 0 2 ((μ 0 2) - ((1 : Int32) <<< ((nI k) &&& 31)))) 9 (4 * k + 2) (((up2 μ 0 2 ((μ 0 2) - ((1 : Int32) <<< ((nI k) &&& 31)))) 9 (4 * k + 2)) + 1)) 14 j) + 1)) 0 1)) 0 3) (n := n0) hO.1 (by omega))
          have enn : nn μ = n0 := mOK_nn hO hn
          refine lv_istore_n (lv' := [(3, .int (nI (3 * (n0 % 16)))), (2, .int (nI k)), (1, .int (nI j)), (0, .ref (b 0))]) hx hb d_m_serve_100 rfl hl (by decide) rfl (fun ls hl => ?_)
          refine lv_aload_n hx hb d_m_serve_101 rfl (lv_at hl 3 rfl) ?_
          refine va_get (v := .ref (b 17)) hx hb hG i_M hown hK hP 0 wM_M rfl 17 (by decide) (hG _ L_M_50) (fun _ h9 => h9) rfl d_m_serve_102 ?_
          refine lv_iload_n hx hb d_m_serve_105 rfl (lv_at hl 0 rfl) ?_
          refine lv_iload_n hx hb d_m_serve_106 rfl (lv_at hl 1 rfl) ?_
          refine m_ist (x := nI k) hx hb hK hP hD hS wM_17 wM_p17 ((3 * (n0 % 16))) (show (3 * (n0 % 16)) < 48 by omega) (by decide) (rfl) d_m_serve_107 (fun H locs hP hD hS => ?_)
          refine lv_aload_n hx hb d_m_serve_108 rfl (lv_at hl 3 rfl) ?_
          refine va_get (v := .ref (b 17)) hx hb hG i_M hown hK hP 0 wM_M rfl 17 (by decide) (hG _ L_M_50) (fun _ h9 => h9) rfl d_m_serve_109 ?_
          refine lv_iload_n hx hb d_m_serve_112 rfl (lv_at hl 0 rfl) ?_
          refine lv_iconst (v := 1) hx hb d_m_serve_113 (by decide) ?_
          refine lv_iadd hx hb d_m_serve_114 ?_
          refine lv_iload_n hx hb d_m_serve_115 rfl (lv_at hl 2 rfl) ?_
          refine m_ist (x := nI j) hx hb hK hP hD hS wM_17 wM_p17 (3 * (n0 % 16) + 1) (show 3 * (n0 % 16) + 1 < 48 by omega) (by decide) (nI_add _ 1) d_m_serve_116 (fun H locs hP hD hS => ?_)
          refine lv_aload_n hx hb d_m_serve_117 rfl (lv_at hl 3 rfl) ?_
          refine va_get (v := .ref (b 17)) hx hb hG i_M hown hK hP 0 wM_M rfl 17 (by decide) (hG _ L_M_50) (fun _ h9 => h9) rfl d_m_serve_118 ?_
          refine lv_iload_n hx hb d_m_serve_121 rfl (lv_at hl 0 rfl) ?_
          refine lv_iconst (v := 2) hx hb d_m_serve_122 (by decide) ?_
          refine lv_iadd hx hb d_m_serve_123 ?_
          refine lv_aload_n hx hb d_m_serve_124 rfl (lv_at hl 3 rfl) ?_
          refine va_get (v := .int ((up2 (up2 (up2 (up2 (up2 (up2 μ 0 2 ((μ 0 2) - ((1 : Int32) <<< ((nI k) &&& 31)))) 9 (4 * k + 2) (((up2 μ 0 2 ((μ 0 2) - ((1 : Int32) <<< ((nI k) &&& 31)))) 9 (4 * k + 2)) + 1)) 14 j (((up2 (up2 μ 0 2 ((μ 0 2) - ((1 : Int32) <<< ((nI k) &&& 31)))) 9 (4 * k + 2) (((up2 μ 0 2 ((μ 0 2) - ((1 : Int32) <<< ((nI k) &&& 31)))) 9 (4 * k + 2)) + 1)) 14 j) + 1)) 16 j ((up2 (up2 (up2 μ 0 2 ((μ 0 2) - ((1 : Int32) <<< ((nI k) &&& 31)))) 9 (4 * k + 2) (((up2 μ 0 2 ((μ 0 2) - ((1 : Int32) <<< ((nI k) &&& 31)))) 9 (4 * k + 2)) + 1)) 14 j (((up2 (up2 μ 0 2 ((μ 0 2) - ((1 : Int32) <<< ((nI k) &&& 31)))) 9 (4 * k + 2) (((up2 μ 0 2 ((μ 0 2) - ((1 : Int32) <<< ((nI k) &&& 31)))) 9 (4 * k + 2)) + 1)) 14 j) + 1)) 0 1)) 17 (3 * (n0 % 16)) (nI k)) 17 (3 * (n0 % 16) + 1) (nI j)) 0 1)) hx hb hG i_M hown hK hP 0 wM_M rfl 1 (by decide) (hG _ L_M_69) (fun _ h9 => h9) rfl d_m_serve_125 ?_
          refine m_ist (x := (up2 (up2 (up2 (up2 (up2 (up2 μ 0 2 ((μ 0 2) - ((1 : Int32) <<< ((nI k) &&& 31)))) 9 (4 * k + 2) (((up2 μ 0 2 ((μ 0 2) - ((1 : Int32) <<< ((nI k) &&& 31)))) 9 (4 * k + 2)) + 1)) 14 j (((up2 (up2 μ 0 2 ((μ 0 2) - ((1 : Int32) <<< ((nI k) &&& 31)))) 9 (4 * k + 2) (((up2 μ 0 2 ((μ 0 2) - ((1 : Int32) <<< ((nI k) &&& 31)))) 9 (4 * k + 2)) + 1)) 14 j) + 1)) 16 j ((up2 (up2 (up2 μ 0 2 ((μ 0 2) - ((1 : Int32) <<< ((nI k) &&& 31)))) 9 (4 * k + 2) (((up2 μ 0 2 ((μ 0 2) - ((1 : Int32) <<< ((nI k) &&& 31)))) 9 (4 * k + 2)) + 1)) 14 j (((up2 (up2 μ 0 2 ((μ 0 2) - ((1 : Int32) <<< ((nI k) &&& 31)))) 9 (4 * k + 2) (((up2 μ 0 2 ((μ 0 2) - ((1 : Int32) <<< ((nI k) &&& 31)))) 9 (4 * k + 2)) + 1)) 14 j) + 1)) 0 1)) 17 (3 * (n0 % 16)) (nI k)) 17 (3 * (n0 % 16) + 1) (nI j)) 0 1) hx hb hK hP hD hS wM_17 wM_p17 (3 * (n0 % 16) + 2) (show 3 * (n0 % 16) + 2 < 48 by omega) (by decide) (nI_add _ 2) d_m_serve_128 (fun H locs hP hD hS => ?_)
          refine lv_aload_n hx hb d_m_serve_129 rfl (lv_at hl 3 rfl) ?_
          refine lv_dup hx hb d_m_serve_130 rfl ?_
          refine va_get (v := .int ((up2 (up2 (up2 (up2 (up2 (up2 (up2 μ 0 2 ((μ 0 2) - ((1 : Int32) <<< ((nI k) &&& 31)))) 9 (4 * k + 2) (((up2 μ 0 2 ((μ 0 2) - ((1 : Int32) <<< ((nI k) &&& 31)))) 9 (4 * k + 2)) + 1)) 14 j (((up2 (up2 μ 0 2 ((μ 0 2) - ((1 : Int32) <<< ((nI k) &&& 31)))) 9 (4 * k + 2) (((up2 μ 0 2 ((μ 0 2) - ((1 : Int32) <<< ((nI k) &&& 31)))) 9 (4 * k + 2)) + 1)) 14 j) + 1)) 16 j ((up2 (up2 (up2 μ 0 2 ((μ 0 2) - ((1 : Int32) <<< ((nI k) &&& 31)))) 9 (4 * k + 2) (((up2 μ 0 2 ((μ 0 2) - ((1 : Int32) <<< ((nI k) &&& 31)))) 9 (4 * k + 2)) + 1)) 14 j (((up2 (up2 μ 0 2 ((μ 0 2) - ((1 : Int32) <<< ((nI k) &&& 31)))) 9 (4 * k + 2) (((up2 μ 0 2 ((μ 0 2) - ((1 : Int32) <<< ((nI k) &&& 31)))) 9 (4 * k + 2)) + 1)) 14 j) + 1)) 0 1)) 17 (3 * (n0 % 16)) (nI k)) 17 (3 * (n0 % 16) + 1) (nI j)) 17 (3 * (n0 % 16) + 2) ((up2 (up2 (up2 (up2 (up2 (up2 μ 0 2 ((μ 0 2) - ((1 : Int32) <<< ((nI k) &&& 31)))) 9 (4 * k + 2) (((up2 μ 0 2 ((μ 0 2) - ((1 : Int32) <<< ((nI k) &&& 31)))) 9 (4 * k + 2)) + 1)) 14 j (((up2 (up2 μ 0 2 ((μ 0 2) - ((1 : Int32) <<< ((nI k) &&& 31)))) 9 (4 * k + 2) (((up2 μ 0 2 ((μ 0 2) - ((1 : Int32) <<< ((nI k) &&& 31)))) 9 (4 * k + 2)) + 1)) 14 j) + 1)) 16 j ((up2 (up2 (up2 μ 0 2 ((μ 0 2) - ((1 : Int32) <<< ((nI k) &&& 31)))) 9 (4 * k + 2) (((up2 μ 0 2 ((μ 0 2) - ((1 : Int32) <<< ((nI k) &&& 31)))) 9 (4 * k + 2)) + 1)) 14 j (((up2 (up2 μ 0 2 ((μ 0 2) - ((1 : Int32) <<< ((nI k) &&& 31)))) 9 (4 * k + 2) (((up2 μ 0 2 ((μ 0 2) - ((1 : Int32) <<< ((nI k) &&& 31)))) 9 (4 * k + 2)) + 1)) 14 j) + 1)) 0 1)) 17 (3 * (n0 % 16)) (nI k)) 17 (3 * (n0 % 16) + 1) (nI j)) 0 1)) 0 3)) hx hb hG i_M hown hK hP 0 wM_M rfl 3 (by decide) (hG _ L_M_72) (fun _ h9 => h9) rfl d_m_serve_131 ?_
          refine lv_iconst (v := 1) hx hb d_m_serve_134 (by decide) ?_
          refine lv_iadd hx hb d_m_serve_135 ?_
          refine va_put (ty := .int) (v := .int (((up2 (up2 (up2 (up2 (up2 (up2 (up2 μ 0 2 ((μ 0 2) - ((1 : Int32) <<< ((nI k) &&& 31)))) 9 (4 * k + 2) (((up2 μ 0 2 ((μ 0 2) - ((1 : Int32) <<< ((nI k) &&& 31)))) 9 (4 * k + 2)) + 1)) 14 j (((up2 (up2 μ 0 2 ((μ 0 2) - ((1 : Int32) <<< ((nI k) &&& 31)))) 9 (4 * k + 2) (((up2 μ 0 2 ((μ 0 2) - ((1 : Int32) <<< ((nI k) &&& 31)))) 9 (4 * k + 2)) + 1)) 14 j) + 1)) 16 j ((up2 (up2 (up2 μ 0 2 ((μ 0 2) - ((1 : Int32) <<< ((nI k) &&& 31)))) 9 (4 * k + 2) (((up2 μ 0 2 ((μ 0 2) - ((1 : Int32) <<< ((nI k) &&& 31)))) 9 (4 * k + 2)) + 1)) 14 j (((up2 (up2 μ 0 2 ((μ 0 2) - ((1 : Int32) <<< ((nI k) &&& 31)))) 9 (4 * k + 2) (((up2 μ 0 2 ((μ 0 2) - ((1 : Int32) <<< ((nI k) &&& 31)))) 9 (4 * k + 2)) + 1)) 14 j) + 1)) 0 1)) 17 (3 * (n0 % 16)) (nI k)) 17 (3 * (n0 % 16) + 1) (nI j)) 17 (3 * (n0 % 16) + 2) ((up2 (up2 (up2 (up2 (up2 (up2 μ 0 2 ((μ 0 2) - ((1 : Int32) <<< ((nI k) &&& 31)))) 9 (4 * k + 2) (((up2 μ 0 2 ((μ 0 2) - ((1 : Int32) <<< ((nI k) &&& 31)))) 9 (4 * k + 2)) + 1)) 14 j (((up2 (up2 μ 0 2 ((μ 0 2) - ((1 : Int32) <<< ((nI k) &&& 31)))) 9 (4 * k + 2) (((up2 μ 0 2 ((μ 0 2) - ((1 : Int32) <<< ((nI k) &&& 31)))) 9 (4 * k + 2)) + 1)) 14 j) + 1)) 16 j ((up2 (up2 (up2 μ 0 2 ((μ 0 2) - ((1 : Int32) <<< ((nI k) &&& 31)))) 9 (4 * k + 2) (((up2 μ 0 2 ((μ 0 2) - ((1 : Int32) <<< ((nI k) &&& 31)))) 9 (4 * k + 2)) + 1)) 14 j (((up2 (up2 μ 0 2 ((μ 0 2) - ((1 : Int32) <<< ((nI k) &&& 31)))) 9 (4 * k + 2) (((up2 μ 0 2 ((μ 0 2) - ((1 : Int32) <<< ((nI k) &&& 31)))) 9 (4 * k + 2)) + 1)) 14 j) + 1)) 0 1)) 17 (3 * (n0 % 16)) (nI k)) 17 (3 * (n0 % 16) + 1) (nI j)) 0 1)) 0 3) + 1)) hx hb hG i_M ft_M ft_M_ok n_M hown hK hP hD hS 0 wM_M rfl 3 (by decide) (hG _ L_M_72) (fun _ h9 => h9) rfl (by decide +kernel) rfl rfl (Nat.le_of_ble_eq_true rfl) d_m_serve_136 (fun H locs hP hD hS => ?_)
          rw [wM_putM3] at hP hD
          exact hret _ _ _ 139 (up2 (up2 (up2 (up2 (up2 (up2 (up2 (up2 μ 0 2 ((μ 0 2) - ((1 : Int32) <<< ((nI k) &&& 31)))) 9 (4 * k + 2) (((up2 μ 0 2 ((μ 0 2) - ((1 : Int32) <<< ((nI k) &&& 31)))) 9 (4 * k + 2)) + 1)) 14 j (((up2 (up2 μ 0 2 ((μ 0 2) - ((1 : Int32) <<< ((nI k) &&& 31)))) 9 (4 * k + 2) (((up2 μ 0 2 ((μ 0 2) - ((1 : Int32) <<< ((nI k) &&& 31)))) 9 (4 * k + 2)) + 1)) 14 j) + 1)) 16 j ((up2 (up2 (up2 μ 0 2 ((μ 0 2) - ((1 : Int32) <<< ((nI k) &&& 31)))) 9 (4 * k + 2) (((up2 μ 0 2 ((μ 0 2) - ((1 : Int32) <<< ((nI k) &&& 31)))) 9 (4 * k + 2)) + 1)) 14 j (((up2 (up2 μ 0 2 ((μ 0 2) - ((1 : Int32) <<< ((nI k) &&& 31)))) 9 (4 * k + 2) (((up2 μ 0 2 ((μ 0 2) - ((1 : Int32) <<< ((nI k) &&& 31)))) 9 (4 * k + 2)) + 1)) 14 j) + 1)) 0 1)) 17 (3 * (n0 % 16)) (nI k)) 17 (3 * (n0 % 16) + 1) (nI j)) 17 (3 * (n0 % 16) + 2) ((up2 (up2 (up2 (up2 (up2 (up2 μ 0 2 ((μ 0 2) - ((1 : Int32) <<< ((nI k) &&& 31)))) 9 (4 * k + 2) (((up2 μ 0 2 ((μ 0 2) - ((1 : Int32) <<< ((nI k) &&& 31)))) 9 (4 * k + 2)) + 1)) 14 j (((up2 (up2 μ 0 2 ((μ 0 2) - ((1 : Int32) <<< ((nI k) &&& 31)))) 9 (4 * k + 2) (((up2 μ 0 2 ((μ 0 2) - ((1 : Int32) <<< ((nI k) &&& 31)))) 9 (4 * k + 2)) + 1)) 14 j) + 1)) 16 j ((up2 (up2 (up2 μ 0 2 ((μ 0 2) - ((1 : Int32) <<< ((nI k) &&& 31)))) 9 (4 * k + 2) (((up2 μ 0 2 ((μ 0 2) - ((1 : Int32) <<< ((nI k) &&& 31)))) 9 (4 * k + 2)) + 1)) 14 j (((up2 (up2 μ 0 2 ((μ 0 2) - ((1 : Int32) <<< ((nI k) &&& 31)))) 9 (4 * k + 2) (((up2 μ 0 2 ((μ 0 2) - ((1 : Int32) <<< ((nI k) &&& 31)))) 9 (4 * k + 2)) + 1)) 14 j) + 1)) 0 1)) 17 (3 * (n0 % 16)) (nI k)) 17 (3 * (n0 % 16) + 1) (nI j)) 0 1)) 0 3 (((up2 (up2 (up2 (up2 (up2 (up2 (up2 μ 0 2 ((μ 0 2) - ((1 : Int32) <<< ((nI k) &&& 31)))) 9 (4 * k + 2) (((up2 μ 0 2 ((μ 0 2) - ((1 : Int32) <<< ((nI k) &&& 31)))) 9 (4 * k + 2)) + 1)) 14 j (((up2 (up2 μ 0 2 ((μ 0 2) - ((1 : Int32) <<< ((nI k) &&& 31)))) 9 (4 * k + 2) (((up2 μ 0 2 ((μ 0 2) - ((1 : Int32) <<< ((nI k) &&& 31)))) 9 (4 * k + 2)) + 1)) 14 j) + 1)) 16 j ((up2 (up2 (up2 μ 0 2 ((μ 0 2) - ((1 : Int32) <<< ((nI k) &&& 31)))) 9 (4 * k + 2) (((up2 μ 0 2 ((μ 0 2) - ((1 : Int32) <<< ((nI k) &&& 31)))) 9 (4 * k + 2)) + 1)) 14 j (((up2 (up2 μ 0 2 ((μ 0 2) - ((1 : Int32) <<< ((nI k) &&& 31)))) 9 (4 * k + 2) (((up2 μ 0 2 ((μ 0 2) - ((1 : Int32) <<< ((nI k) &&& 31)))) 9 (4 * k + 2)) + 1)) 14 j) + 1)) 0 1)) 17 (3 * (n0 % 16)) (nI k)) 17 (3 * (n0 % 16) + 1) (nI j)) 17 (3 * (n0 % 16) + 2) ((up2 (up2 (up2 (up2 (up2 (up2 μ 0 2 ((μ 0 2) - ((1 : Int32) <<< ((nI k) &&& 31)))) 9 (4 * k + 2) (((up2 μ 0 2 ((μ 0 2) - ((1 : Int32) <<< ((nI k) &&& 31)))) 9 (4 * k + 2)) + 1)) 14 j (((up2 (up2 μ 0 2 ((μ 0 2) - ((1 : Int32) <<< ((nI k) &&& 31)))) 9 (4 * k + 2) (((up2 μ 0 2 ((μ 0 2) - ((1 : Int32) <<< ((nI k) &&& 31)))) 9 (4 * k + 2)) + 1)) 14 j) + 1)) 16 j ((up2 (up2 (up2 μ 0 2 ((μ 0 2) - ((1 : Int32) <<< ((nI k) &&& 31)))) 9 (4 * k + 2) (((up2 μ 0 2 ((μ 0 2) - ((1 : Int32) <<< ((nI k) &&& 31)))) 9 (4 * k + 2)) + 1)) 14 j (((up2 (up2 μ 0 2 ((μ 0 2) - ((1 : Int32) <<< ((nI k) &&& 31)))) 9 (4 * k + 2) (((up2 μ 0 2 ((μ 0 2) - ((1 : Int32) <<< ((nI k) &&& 31)))) 9 (4 * k + 2)) + 1)) 14 j) + 1)) 0 1)) 17 (3 * (n0 % 16)) (nI k)) 17 (3 * (n0 % 16) + 1) (nI j)) 0 1)) 0 3) + 1)) hP hD hS d_m_serve_139 (by simp only [g_serve, bit1, c_1, c_3, ek, enn, ↓reduceIte])
        · refine lv_iinc (v := nI (k + 1)) (lv' := [(2, .int (nI (k + 1))), (1, .int (nI j)), (0, .ref (b 0))]) hx hb d_m_serve_39 hl (k := 0) rfl (nI_1 k) (by decide) rfl (fun ls hl => ?_)
          refine lv_goto (tgt := 21) hx hb d_m_serve_42 (by decide) ?_
          exact ih (k + 1) (by omega) (lt_s hz c_3) (by rw [← hrel]; simp only [lbN, bit1, c_1, c_3, ↓reduceIte]) _ _ _ hP hD hS (lv_sub hl [0, 1, 2] rfl)
    exact loop 7 0 (by omega) (fun i hi => absurd hi (Nat.not_lt_zero i)) rfl _ _ _ hP hD hS (lv_sub hl [0, 2, 1] rfl)
  · refine lv_aload_n hx hb d_m_serve_8 rfl (lv_at hl 0 rfl) ?_
    refine va_get (v := .ref (b 15)) hx hb hG i_M hown hK hP 0 wM_M rfl 15 (by decide) (hG _ L_M_44) (fun _ h9 => h9) rfl d_m_serve_9 ?_
    refine lv_iload_n hx hb d_m_serve_12 rfl (lv_at hl 1 rfl) ?_
    refine lv_dup2_11 hx hb d_m_serve_13 rfl rfl ?_
    refine m_ild hx hb hK hP wM_15 (j) hj (by decide) (rfl) d_m_serve_14 ?_
    refine lv_iconst (v := 1) hx hb d_m_serve_15 (by decide) ?_
    refine lv_iadd hx hb d_m_serve_16 ?_
    refine m_ist (x := (μ 15 j) + 1) hx hb hK hP hD hS wM_15 wM_p15 (j) hj (by decide) (rfl) d_m_serve_17 (fun H locs hP hD hS => ?_)
    exact hret _ _ _ 18 (up2 μ 15 j ((μ 15 j) + 1)) hP hD hS d_m_serve_18 (by simp only [g_serve, bit1, c_1, ↓reduceIte])
end
section
set_option maxHeartbeats 4000000 in
set_option maxRecDepth 100000 in
theorem c_m_tick (l : Launch) (D : va_G) (b : Nat → Nat) (cb : Nat → ClassId) (μ : St) (n0 : Nat) (hO : mOK μ n0) (hn : n0 + 4 < 2 ^ 30) : KV l D (tM cb) (wM b cb) rm_m_tick y_m_tick b_m_tick 3 [.ref (b 0)] μ (g_tick μ) := by
  refine KV.of (by decide) (Nat.le_of_ble_eq_true rfl) ?_
  intro p e s m args below meth c A Q ls hx hb hml hown hG hK hN hA hP hD hS hl hret
  have hown : s.vm.findClass R_M = some m.cls := hown
  have hl : lv_has ls 3 [(0, .ref (b 0))] := hl
  obtain ⟨M1, e1⟩ : ∃ z, z = mkT 8 0 0 (up2 μ 0 1 (μ 0 1 + 1)) := ⟨_, rfl⟩
  obtain ⟨M2, e2⟩ : ∃ z, z = mkG 4 0 M1 := ⟨_, rfl⟩
  obtain ⟨M3, e3⟩ : ∃ z, z = mkW 4 0 M2 := ⟨_, rfl⟩
  have hO1 : mOK M1 n0 := by rw [e1]; exact tick_ok0 hO
  have e4 : g_tick μ = M3 := by unfold g_tick; rw [← e1, ← e2, ← e3]
  refine lv_aload_n hx hb d_m_tick_0 rfl (lv_at hl 0 rfl) ?_
  refine lv_dup hx hb d_m_tick_1 rfl ?_
  refine va_get (v := .int (μ 0 1)) hx hb hG i_M hown hK hP 0 wM_M rfl 1 (by decide) (hG _ L_M_69) (fun _ h9 => h9) rfl d_m_tick_2 ?_
  refine lv_iconst (v := 1) hx hb d_m_tick_5 (by decide) ?_
  refine lv_iadd hx hb d_m_tick_6 ?_
  refine va_put (ty := .int) (v := .int ((μ 0 1) + 1)) hx hb hG i_M ft_M ft_M_ok n_M hown hK hP hD hS 0 wM_M rfl 1 (by decide) (hG _ L_M_69) (fun _ h9 => h9) rfl (by decide +kernel) rfl rfl (Nat.le_of_ble_eq_true rfl) d_m_tick_7 (fun H locs hP hD hS => ?_)
  rw [wM_putM1] at hP hD
  refine lv_iconst (v := 0) hx hb d_m_tick_10 (by decide) ?_
  refine lv_istore_n (lv' := [(1, .int 0), (0, .ref (b 0))]) hx hb d_m_tick_11 rfl hl (by decide) rfl (fun ls hl => ?_)
  refine lv_iconst (v := 0) hx hb d_m_tick_12 (by decide) ?_
  refine lv_istore_n (lv' := [(2, .int 0), (1, .int 0), (0, .ref (b 0))]) hx hb d_m_tick_13 rfl hl (by decide) rfl (fun ls hl => ?_)
  have loopT : ∀ (n : Nat) (t : Nat) (x : Int32) (μT : St), (t + n = 8) → (mkT n t x μT = M1) → ∀ (H : Heap) (locs : List Loc) (ls : Array Slot), va_P D classes (wM b cb μT) H → va_D A (wM b cb μT) → va_S A s.heap H locs → lv_has ls 3 [(2, .int (nI t)), (1, .int x), (0, .ref (b 0))] → W p l e rm_m_tick s m args below meth c H locs 0 0 Q (F0 m 14 ls []) := by
    intro n
    induction n with
    | zero =>
      intro t x μT ht hrT H locs ls hP hD hS hl
      refine lv_iload_n hx hb d_m_tick_14 rfl (lv_at hl 0 rfl) ?_
      refine lv_bipush (v := 8) hx hb d_m_tick_15 (by decide) ?_
      refine lv_icmp_ge (tgt := 53) hx hb d_m_tick_17 (by decide) (fun c_1 => ?_) (fun c_1 => absurd (nI_le (a := 8) (b := t) (by omega) (by omega)) c_1)
      have e_μT : M1 = μT := hrT.symm
      subst e_μT
      refine lv_iconst (v := 0) hx hb d_m_tick_53 (by decide) ?_
      refine lv_istore_n (lv' := [(2, .int 0), (1, .int x), (0, .ref (b 0))]) hx hb d_m_tick_54 rfl hl (by decide) rfl (fun ls hl => ?_)
      have loopG : ∀ (n : Nat) (g : Nat) (μG : St) (ng : Nat), (g + n = 4) → (mOK μG ng) → (ng ≤ n0 + g) → (mkG n g μG = M2) → ∀ (H : Heap) (locs : List Loc) (ls : Array Slot), va_P D classes (wM b cb μG) H → va_D A (wM b cb μG) → va_S A s.heap H locs → lv_has ls 3 [(2, .int (nI g)), (0, .ref (b 0))] → W p l e rm_m_tick s m args below meth c H locs 0 0 Q (F0 m 55 ls []) := by
        intro n
        induction n with
        | zero =>
          intro g μG ng hg hOg hng hrG H locs ls hP hD hS hl
          refine lv_iload_n hx hb d_m_tick_55 rfl (lv_at hl 0 rfl) ?_
          refine lv_iconst (v := 4) hx hb d_m_tick_56 (by decide) ?_
          refine lv_icmp_ge (tgt := 120) hx hb d_m_tick_57 (by decide) (fun c_2 => ?_) (fun c_2 => absurd (nI_le (a := 4) (b := g) (by omega) (by omega)) c_2)
          have e_μG : M2 = μG := hrG.symm
          subst e_μG
          refine lv_iconst (v := 0) hx hb d_m_tick_120 (by decide) ?_
          refine lv_istore_n (lv' := [(2, .int 0), (0, .ref (b 0))]) hx hb d_m_tick_121 rfl hl (by decide) rfl (fun ls hl => ?_)
          have loopW : ∀ (n : Nat) (g : Nat) (μW : St), (g + n = 4) → (mkW n g μW = M3) → ∀ (H : Heap) (locs : List Loc) (ls : Array Slot), va_P D classes (wM b cb μW) H → va_D A (wM b cb μW) → va_S A s.heap H locs → lv_has ls 3 [(2, .int (nI g)), (0, .ref (b 0))] → W p l e rm_m_tick s m args below meth c H locs 0 0 Q (F0 m 122 ls []) := by
            intro n
            induction n with
            | zero =>
              intro g μW hg hrW H locs ls hP hD hS hl
              refine lv_iload_n hx hb d_m_tick_122 rfl (lv_at hl 0 rfl) ?_
              refine lv_iconst (v := 4) hx hb d_m_tick_123 (by decide) ?_
              refine lv_icmp_ge (tgt := 162) hx hb d_m_tick_124 (by decide) (fun c_3 => ?_) (fun c_3 => absurd (nI_le (a := 4) (b := g) (by omega) (by omega)) c_3)
              exact hret _ _ _ 162 μW hP hD hS d_m_tick_162 (hrW.trans e4.symm)
            | succ n ih =>
              intro g μW hg hrW H locs ls hP hD hS hl
              refine lv_iload_n hx hb d_m_tick_122 rfl (lv_at hl 0 rfl) ?_
              refine lv_iconst (v := 4) hx hb d_m_tick_123 (by decide) ?_
              refine lv_icmp_ge (tgt := 162) hx hb d_m_tick_124 (by decide) (fun c_4 => absurd c_4 (nI_ge (a := g) (b := 4) (by omega) (by omega))) (fun c_4 => ?_)
              refine lv_aload_n hx hb d_m_tick_127 rfl (lv_at hl 1 rfl) ?_
              refine va_get (v := .ref (b 12)) hx hb hG i_M hown hK hP 0 wM_M rfl 12 (by decide) (hG _ L_M_35) (fun _ h9 => h9) rfl d_m_tick_128 ?_
              refine lv_iload_n hx hb d_m_tick_131 rfl (lv_at hl 0 rfl) ?_
              refine m_ild hx hb hK hP wM_12 (g) (show g < 4 by omega) (by decide) (rfl) d_m_tick_132 ?_
              refine lv_if_ne (tgt := 156) hx hb d_m_tick_133 (by decide) (fun c_5 => ?_) (fun c_5 => ?_)
              · refine lv_iinc (v := nI (g + 1)) (lv' := [(2, .int (nI (g + 1))), (0, .ref (b 0))]) hx hb d_m_tick_156 hl (k := 0) rfl (nI_1 g) (by decide) rfl (fun ls hl => ?_)
                refine lv_goto (tgt := 122) hx hb d_m_tick_159 (by decide) ?_
                exact ih (g + 1) μW (by omega) (by rw [← hrW]; simp only [mkW, smW, c_1, c_2, c_4, c_5, ↓reduceIte]) _ _ _ hP hD hS (lv_sub hl [0, 1] rfl)
              · refine lv_aload_n hx hb d_m_tick_136 rfl (lv_at hl 1 rfl) ?_
                refine lv_iload_n hx hb d_m_tick_137 rfl (lv_at hl 0 rfl) ?_
                refine k_cV (rest := []) hx hb hml hown hG hK hN hA hP hD hS (c_m_asks l D b cb μW g (show g < 4 by omega)) ok_m_asks io_m_asks L_M_65 ⟨rfl, rfl, by decide, by decide⟩ 0 wM_M rfl rfl hl.1 rfl (Nat.le_of_ble_eq_true rfl) ⟨Nat.zero_le _, Nat.zero_le _⟩ d_m_tick_138 (fun H locs hP hD hS => ?_)
                refine lv_if_eq (tgt := 156) hx hb d_m_tick_141 (by decide) (fun c_6 => ?_) (fun c_6 => ?_)
                · refine lv_iinc (v := nI (g + 1)) (lv' := [(2, .int (nI (g + 1))), (0, .ref (b 0))]) hx hb d_m_tick_156 hl (k := 0) rfl (nI_1 g) (by decide) rfl (fun ls hl => ?_)
                  refine lv_goto (tgt := 122) hx hb d_m_tick_159 (by decide) ?_
                  exact ih (g + 1) μW (by omega) (by rw [← hrW]; simp only [mkW, smW, c_1, c_2, c_4, c_5, c_6, ↓reduceIte]) _ _ _ hP hD hS (lv_sub hl [0, 1] rfl)
                · refine lv_aload_n hx hb d_m_tick_144 rfl (lv_at hl 1 rfl) ?_
                  refine va_get (v := .ref (b 12)) hx hb hG i_M hown hK hP 0 wM_M rfl 12 (by decide) (hG _ L_M_35) (fun _ h9 => h9) rfl d_m_tick_145 ?_
                  refine lv_iload_n hx hb d_m_tick_148 rfl (lv_at hl 0 rfl) ?_
                  refine lv_aload_n hx hb d_m_tick_149 rfl (lv_at hl 1 rfl) ?_
                  refine va_get (v := .ref (b 11)) hx hb hG i_M hown hK hP 0 wM_M rfl 11 (by decide) (hG _ L_M_32) (fun _ h9 => h9) rfl d_m_tick_150 ?_
                  refine lv_iload_n hx hb d_m_tick_153 rfl (lv_at hl 0 rfl) ?_
                  refine m_ild hx hb hK hP wM_11 (g) (show g < 4 by omega) (by decide) (rfl) d_m_tick_154 ?_
                  refine m_ist (x := μW 11 g) hx hb hK hP hD hS wM_12 wM_p12 (g) (show g < 4 by omega) (by decide) (rfl) d_m_tick_155 (fun H locs hP hD hS => ?_)
                  refine lv_iinc (v := nI (g + 1)) (lv' := [(2, .int (nI (g + 1))), (0, .ref (b 0))]) hx hb d_m_tick_156 hl (k := 0) rfl (nI_1 g) (by decide) rfl (fun ls hl => ?_)
                  refine lv_goto (tgt := 122) hx hb d_m_tick_159 (by decide) ?_
                  exact ih (g + 1) (up2 μW 12 g (μW 11 g)) (by omega) (by rw [← hrW]; simp only [mkW, smW, c_1, c_2, c_4, c_5, c_6, ↓reduceIte]) _ _ _ hP hD hS (lv_sub hl [0, 1] rfl)
          exact loopW 4 0 _ (by omega) e3.symm _ _ _ hP hD hS (lv_sub hl [0, 1] rfl)
        | succ n ih =>
          intro g μG ng hg hOg hng hrG H locs ls hP hD hS hl
          refine lv_iload_n hx hb d_m_tick_55 rfl (lv_at hl 0 rfl) ?_
          refine lv_iconst (v := 4) hx hb d_m_tick_56 (by decide) ?_
          refine lv_icmp_ge (tgt := 120) hx hb d_m_tick_57 (by decide) (fun c_7 => absurd c_7 (nI_ge (a := g) (b := 4) (by omega) (by omega))) (fun c_7 => ?_)
          obtain ⟨n1, hn1a, hn1b, h1⟩ := smG_ok (g := g) hOg
          refine lv_aload_n hx hb d_m_tick_60 rfl (lv_at hl 1 rfl) ?_
          refine va_get (v := .ref (b 13)) hx hb hG i_M hown hK hP 0 wM_M rfl 13 (by decide) (hG _ L_M_38) (fun _ h9 => h9) rfl d_m_tick_61 ?_
          refine lv_iload_n hx hb d_m_tick_64 rfl (lv_at hl 0 rfl) ?_
          refine lv_aload_n hx hb d_m_tick_65 rfl (lv_at hl 1 rfl) ?_
          refine va_get (v := .ref (b 12)) hx hb hG i_M hown hK hP 0 wM_M rfl 12 (by decide) (hG _ L_M_35) (fun _ h9 => h9) rfl d_m_tick_66 ?_
          refine lv_iload_n hx hb d_m_tick_69 rfl (lv_at hl 0 rfl) ?_
          refine m_ild hx hb hK hP wM_12 (g) (show g < 4 by omega) (by decide) (rfl) d_m_tick_70 ?_
          refine lv_iconst (v := 1) hx hb d_m_tick_71 (by decide) ?_
          refine lv_icmp_ne (tgt := 79) hx hb d_m_tick_72 (by decide) (fun c_8 => ?_) (fun c_8 => ?_)
          · refine lv_iconst (v := 0) hx hb d_m_tick_79 (by decide) ?_
            refine m_zst (x := 0) hx hb hK hP hD hS wM_13 wM_p13 (g) (show g < 4 by omega) (by decide) (rfl) (rfl) d_m_tick_80 (fun H locs hP hD hS => ?_)
            refine lv_aload_n hx hb d_m_tick_81 rfl (lv_at hl 1 rfl) ?_
            refine va_get (v := .ref (b 12)) hx hb hG i_M hown hK hP 0 wM_M rfl 12 (by decide) (hG _ L_M_35) (fun _ h9 => h9) rfl d_m_tick_82 ?_
            refine lv_iload_n hx hb d_m_tick_85 rfl (lv_at hl 0 rfl) ?_
            refine m_ild hx hb hK hP wM_12 (g) (show g < 4 by omega) (by decide) (rfl) d_m_tick_86 ?_
            refine lv_if_le (tgt := 100) hx hb d_m_tick_87 (by decide) (fun c_9 => ?_) (fun c_9 => ?_)
            · refine lv_aload_n hx hb d_m_tick_100 rfl (lv_at hl 1 rfl) ?_
              refine va_get (v := .ref (b 13)) hx hb hG i_M hown hK hP 0 wM_M rfl 13 (by decide) (hG _ L_M_38) (fun _ h9 => h9) rfl d_m_tick_101 ?_
              refine lv_iload_n hx hb d_m_tick_104 rfl (lv_at hl 0 rfl) ?_
              refine m_zld hx hb hK hP wM_13 (g) (show g < 4 by omega) (by decide) (rfl) d_m_tick_105 ?_
              refine lv_if_eq (tgt := 114) hx hb d_m_tick_106 (by decide) (fun c_10 => ?_) (fun c_10 => ?_)
              · refine lv_iinc (v := nI (g + 1)) (lv' := [(2, .int (nI (g + 1))), (0, .ref (b 0))]) hx hb d_m_tick_114 hl (k := 0) rfl (nI_1 g) (by decide) rfl (fun ls hl => ?_)
                refine lv_goto (tgt := 55) hx hb d_m_tick_117 (by decide) ?_
                exact ih (g + 1) (up2 μG 13 g 0) n1 (by omega) (by have q := h1; revert q; simp only [smG, g_dn, c_1, c_7, c_8, c_9, c_10, ↓reduceIte]; exact id) (by omega) (by rw [← hrG]; simp only [mkG, smG, g_dn, c_1, c_7, c_8, c_9, c_10, ↓reduceIte]) _ _ _ hP hD hS (lv_sub hl [0, 1] rfl)
              · refine lv_aload_n hx hb d_m_tick_109 rfl (lv_at hl 1 rfl) ?_
                refine lv_iload_n hx hb d_m_tick_110 rfl (lv_at hl 0 rfl) ?_
                refine k_cVv (rest := []) hx hb hml hown hG hK hN hA hP hD hS (c_m_serve l D b cb (up2 μG 13 g 0) g (show g < 4 by omega) ng (ok_other (hOg) (by decide)) (by omega)) ok_m_serve io_m_serve L_M_78 ⟨rfl, rfl, by decide, by decide⟩ 0 wM_M rfl rfl hl.1 rfl (Nat.le_of_ble_eq_true rfl) ⟨Nat.zero_le _, Nat.zero_le _⟩ d_m_tick_111 (fun H locs hP hD hS => ?_)
                refine lv_iinc (v := nI (g + 1)) (lv' := [(2, .int (nI (g + 1))), (0, .ref (b 0))]) hx hb d_m_tick_114 hl (k := 0) rfl (nI_1 g) (by decide) rfl (fun ls hl => ?_)
                refine lv_goto (tgt := 55) hx hb d_m_tick_117 (by decide) ?_
                exact ih (g + 1) (g_serve (up2 μG 13 g 0) g) n1 (by omega) (by have q := h1; revert q; simp only [smG, g_dn, c_1, c_7, c_8, c_9, c_10, ↓reduceIte]; exact id) (by omega) (by rw [← hrG]; simp only [mkG, smG, g_dn, c_1, c_7, c_8, c_9, c_10, ↓reduceIte]) _ _ _ hP hD hS (lv_sub hl [0, 1] rfl)
            · refine lv_aload_n hx hb d_m_tick_90 rfl (lv_at hl 1 rfl) ?_
              refine va_get (v := .ref (b 12)) hx hb hG i_M hown hK hP 0 wM_M rfl 12 (by decide) (hG _ L_M_35) (fun _ h9 => h9) rfl d_m_tick_91 ?_
              refine lv_iload_n hx hb d_m_tick_94 rfl (lv_at hl 0 rfl) ?_
              refine lv_dup2_11 hx hb d_m_tick_95 rfl rfl ?_
              refine m_ild hx hb hK hP wM_12 (g) (show g < 4 by omega) (by decide) (rfl) d_m_tick_96 ?_
              refine lv_iconst (v := 1) hx hb d_m_tick_97 (by decide) ?_
              refine lv_isub hx hb d_m_tick_98 ?_
              refine m_ist (x := ((up2 μG 13 g 0) 12 g) - 1) hx hb hK hP hD hS wM_12 wM_p12 (g) (show g < 4 by omega) (by decide) (rfl) d_m_tick_99 (fun H locs hP hD hS => ?_)
              refine lv_aload_n hx hb d_m_tick_100 rfl (lv_at hl 1 rfl) ?_
              refine va_get (v := .ref (b 13)) hx hb hG i_M hown hK hP 0 wM_M rfl 13 (by decide) (hG _ L_M_38) (fun _ h9 => h9) rfl d_m_tick_101 ?_
              refine lv_iload_n hx hb d_m_tick_104 rfl (lv_at hl 0 rfl) ?_
              refine m_zld hx hb hK hP wM_13 (g) (show g < 4 by omega) (by decide) (rfl) d_m_tick_105 ?_
              refine lv_if_eq (tgt := 114) hx hb d_m_tick_106 (by decide) (fun c_11 => ?_) (fun c_11 => ?_)
              · refine lv_iinc (v := nI (g + 1)) (lv' := [(2, .int (nI (g + 1))), (0, .ref (b 0))]) hx hb d_m_tick_114 hl (k := 0) rfl (nI_1 g) (by decide) rfl (fun ls hl => ?_)
                refine lv_goto (tgt := 55) hx hb d_m_tick_117 (by decide) ?_
                exact ih (g + 1) (up2 (up2 μG 13 g 0) 12 g (((up2 μG 13 g 0) 12 g) - 1)) n1 (by omega) (by have q := h1; revert q; simp only [smG, g_dn, c_1, c_7, c_8, c_9, c_11, ↓reduceIte]; exact id) (by omega) (by rw [← hrG]; simp only [mkG, smG, g_dn, c_1, c_7, c_8, c_9, c_11, ↓reduceIte]) _ _ _ hP hD hS (lv_sub hl [0, 1] rfl)
              · refine lv_aload_n hx hb d_m_tick_109 rfl (lv_at hl 1 rfl) ?_
                refine lv_iload_n hx hb d_m_tick_110 rfl (lv_at hl 0 rfl) ?_
                refine k_cVv (rest := []) hx hb hml hown hG hK hN hA hP hD hS (c_m_serve l D b cb (up2 (up2 μG 13 g 0) 12 g (((up2 μG 13 g 0) 12 g) - 1)) g (show g < 4 by omega) ng (ok_other (ok_other (hOg) (by decide)) (by decide)) (by omega)) ok_m_serve io_m_serve L_M_78 ⟨rfl, rfl, by decide, by decide⟩ 0 wM_M rfl rfl hl.1 rfl (Nat.le_of_ble_eq_true rfl) ⟨Nat.zero_le _, Nat.zero_le _⟩ d_m_tick_111 (fun H locs hP hD hS => ?_)
                refine lv_iinc (v := nI (g + 1)) (lv' := [(2, .int (nI (g + 1))), (0, .ref (b 0))]) hx hb d_m_tick_114 hl (k := 0) rfl (nI_1 g) (by decide) rfl (fun ls hl => ?_)
                refine lv_goto (tgt := 55) hx hb d_m_tick_117 (by decide) ?_
                exact ih (g + 1) (g_serve (up2 (up2 μG 13 g 0) 12 g (((up2 μG 13 g 0) 12 g) - 1)) g) n1 (by omega) (by have q := h1; revert q; simp only [smG, g_dn, c_1, c_7, c_8, c_9, c_11, ↓reduceIte]; exact id) (by omega) (by rw [← hrG]; simp only [mkG, smG, g_dn, c_1, c_7, c_8, c_9, c_11, ↓reduceIte]) _ _ _ hP hD hS (lv_sub hl [0, 1] rfl)
          · refine lv_iconst (v := 1) hx hb d_m_tick_75 (by decide) ?_
            refine lv_goto (tgt := 80) hx hb d_m_tick_76 (by decide) ?_
            refine m_zst (x := 1) hx hb hK hP hD hS wM_13 wM_p13 (g) (show g < 4 by omega) (by decide) (rfl) (rfl) d_m_tick_80 (fun H locs hP hD hS => ?_)
            refine lv_aload_n hx hb d_m_tick_81 rfl (lv_at hl 1 rfl) ?_
            refine va_get (v := .ref (b 12)) hx hb hG i_M hown hK hP 0 wM_M rfl 12 (by decide) (hG _ L_M_35) (fun _ h9 => h9) rfl d_m_tick_82 ?_
            refine lv_iload_n hx hb d_m_tick_85 rfl (lv_at hl 0 rfl) ?_
            refine m_ild hx hb hK hP wM_12 (g) (show g < 4 by omega) (by decide) (rfl) d_m_tick_86 ?_
            refine lv_if_le (tgt := 100) hx hb d_m_tick_87 (by decide) (fun c_12 => ?_) (fun c_12 => ?_)
            · refine lv_aload_n hx hb d_m_tick_100 rfl (lv_at hl 1 rfl) ?_
              refine va_get (v := .ref (b 13)) hx hb hG i_M hown hK hP 0 wM_M rfl 13 (by decide) (hG _ L_M_38) (fun _ h9 => h9) rfl d_m_tick_101 ?_
              refine lv_iload_n hx hb d_m_tick_104 rfl (lv_at hl 0 rfl) ?_
              refine m_zld hx hb hK hP wM_13 (g) (show g < 4 by omega) (by decide) (rfl) d_m_tick_105 ?_
              refine lv_if_eq (tgt := 114) hx hb d_m_tick_106 (by decide) (fun c_13 => ?_) (fun c_13 => ?_)
              · refine lv_iinc (v := nI (g + 1)) (lv' := [(2, .int (nI (g + 1))), (0, .ref (b 0))]) hx hb d_m_tick_114 hl (k := 0) rfl (nI_1 g) (by decide) rfl (fun ls hl => ?_)
                refine lv_goto (tgt := 55) hx hb d_m_tick_117 (by decide) ?_
                exact ih (g + 1) (up2 μG 13 g 1) n1 (by omega) (by have q := h1; revert q; simp only [smG, g_dn, c_1, c_7, c_8, c_12, c_13, ↓reduceIte]; exact id) (by omega) (by rw [← hrG]; simp only [mkG, smG, g_dn, c_1, c_7, c_8, c_12, c_13, ↓reduceIte]) _ _ _ hP hD hS (lv_sub hl [0, 1] rfl)
              · refine lv_aload_n hx hb d_m_tick_109 rfl (lv_at hl 1 rfl) ?_
                refine lv_iload_n hx hb d_m_tick_110 rfl (lv_at hl 0 rfl) ?_
                refine k_cVv (rest := []) hx hb hml hown hG hK hN hA hP hD hS (c_m_serve l D b cb (up2 μG 13 g 1) g (show g < 4 by omega) ng (ok_other (hOg) (by decide)) (by omega)) ok_m_serve io_m_serve L_M_78 ⟨rfl, rfl, by decide, by decide⟩ 0 wM_M rfl rfl hl.1 rfl (Nat.le_of_ble_eq_true rfl) ⟨Nat.zero_le _, Nat.zero_le _⟩ d_m_tick_111 (fun H locs hP hD hS => ?_)
                refine lv_iinc (v := nI (g + 1)) (lv' := [(2, .int (nI (g + 1))), (0, .ref (b 0))]) hx hb d_m_tick_114 hl (k := 0) rfl (nI_1 g) (by decide) rfl (fun ls hl => ?_)
                refine lv_goto (tgt := 55) hx hb d_m_tick_117 (by decide) ?_
                exact ih (g + 1) (g_serve (up2 μG 13 g 1) g) n1 (by omega) (by have q := h1; revert q; simp only [smG, g_dn, c_1, c_7, c_8, c_12, c_13, ↓reduceIte]; exact id) (by omega) (by rw [← hrG]; simp only [mkG, smG, g_dn, c_1, c_7, c_8, c_12, c_13, ↓reduceIte]) _ _ _ hP hD hS (lv_sub hl [0, 1] rfl)
            · refine lv_aload_n hx hb d_m_tick_90 rfl (lv_at hl 1 rfl) ?_
              refine va_get (v := .ref (b 12)) hx hb hG i_M hown hK hP 0 wM_M rfl 12 (by decide) (hG _ L_M_35) (fun _ h9 => h9) rfl d_m_tick_91 ?_
              refine lv_iload_n hx hb d_m_tick_94 rfl (lv_at hl 0 rfl) ?_
              refine lv_dup2_11 hx hb d_m_tick_95 rfl rfl ?_
              refine m_ild hx hb hK hP wM_12 (g) (show g < 4 by omega) (by decide) (rfl) d_m_tick_96 ?_
              refine lv_iconst (v := 1) hx hb d_m_tick_97 (by decide) ?_
              refine lv_isub hx hb d_m_tick_98 ?_
              refine m_ist (x := ((up2 μG 13 g 1) 12 g) - 1) hx hb hK hP hD hS wM_12 wM_p12 (g) (show g < 4 by omega) (by decide) (rfl) d_m_tick_99 (fun H locs hP hD hS => ?_)
              refine lv_aload_n hx hb d_m_tick_100 rfl (lv_at hl 1 rfl) ?_
              refine va_get (v := .ref (b 13)) hx hb hG i_M hown hK hP 0 wM_M rfl 13 (by decide) (hG _ L_M_38) (fun _ h9 => h9) rfl d_m_tick_101 ?_
              refine lv_iload_n hx hb d_m_tick_104 rfl (lv_at hl 0 rfl) ?_
              refine m_zld hx hb hK hP wM_13 (g) (show g < 4 by omega) (by decide) (rfl) d_m_tick_105 ?_
              refine lv_if_eq (tgt := 114) hx hb d_m_tick_106 (by decide) (fun c_14 => ?_) (fun c_14 => ?_)
              · refine lv_iinc (v := nI (g + 1)) (lv' := [(2, .int (nI (g + 1))), (0, .ref (b 0))]) hx hb d_m_tick_114 hl (k := 0) rfl (nI_1 g) (by decide) rfl (fun ls hl => ?_)
                refine lv_goto (tgt := 55) hx hb d_m_tick_117 (by decide) ?_
                exact ih (g + 1) (up2 (up2 μG 13 g 1) 12 g (((up2 μG 13 g 1) 12 g) - 1)) n1 (by omega) (by have q := h1; revert q; simp only [smG, g_dn, c_1, c_7, c_8, c_12, c_14, ↓reduceIte]; exact id) (by omega) (by rw [← hrG]; simp only [mkG, smG, g_dn, c_1, c_7, c_8, c_12, c_14, ↓reduceIte]) _ _ _ hP hD hS (lv_sub hl [0, 1] rfl)
              · refine lv_aload_n hx hb d_m_tick_109 rfl (lv_at hl 1 rfl) ?_
                refine lv_iload_n hx hb d_m_tick_110 rfl (lv_at hl 0 rfl) ?_
                refine k_cVv (rest := []) hx hb hml hown hG hK hN hA hP hD hS (c_m_serve l D b cb (up2 (up2 μG 13 g 1) 12 g (((up2 μG 13 g 1) 12 g) - 1)) g (show g < 4 by omega) ng (ok_other (ok_other (hOg) (by decide)) (by decide)) (by omega)) ok_m_serve io_m_serve L_M_78 ⟨rfl, rfl, by decide, by decide⟩ 0 wM_M rfl rfl hl.1 rfl (Nat.le_of_ble_eq_true rfl) ⟨Nat.zero_le _, Nat.zero_le _⟩ d_m_tick_111 (fun H locs hP hD hS => ?_)
                refine lv_iinc (v := nI (g + 1)) (lv' := [(2, .int (nI (g + 1))), (0, .ref (b 0))]) hx hb d_m_tick_114 hl (k := 0) rfl (nI_1 g) (by decide) rfl (fun ls hl => ?_)
                refine lv_goto (tgt := 55) hx hb d_m_tick_117 (by decide) ?_
                exact ih (g + 1) (g_serve (up2 (up2 μG 13 g 1) 12 g (((up2 μG 13 g 1) 12 g) - 1)) g) n1 (by omega) (by have q := h1; revert q; simp only [smG, g_dn, c_1, c_7, c_8, c_12, c_14, ↓reduceIte]; exact id) (by omega) (by rw [← hrG]; simp only [mkG, smG, g_dn, c_1, c_7, c_8, c_12, c_14, ↓reduceIte]) _ _ _ hP hD hS (lv_sub hl [0, 1] rfl)
      exact loopG 4 0 _ n0 (by omega) hO1 (by omega) e2.symm _ _ _ hP hD hS (lv_sub hl [0, 2] rfl)
    | succ n ih =>
      intro t x μT ht hrT H locs ls hP hD hS hl
      refine lv_iload_n hx hb d_m_tick_14 rfl (lv_at hl 0 rfl) ?_
      refine lv_bipush (v := 8) hx hb d_m_tick_15 (by decide) ?_
      refine lv_icmp_ge (tgt := 53) hx hb d_m_tick_17 (by decide) (fun c_15 => absurd c_15 (nI_ge (a := t) (b := 8) (by omega) (by omega))) (fun c_15 => ?_)
      refine lv_aload_n hx hb d_m_tick_20 rfl (lv_at hl 2 rfl) ?_
      refine va_get (v := .ref (b 6)) hx hb hG i_M hown hK hP 0 wM_M rfl 6 (by decide) (hG _ L_M_16) (fun _ h9 => h9) rfl d_m_tick_21 ?_
      refine lv_iload_n hx hb d_m_tick_24 rfl (lv_at hl 0 rfl) ?_
      refine m_ild hx hb hK hP wM_6 (t) (show t < 8 by omega) (by decide) (rfl) d_m_tick_25 ?_
      refine lv_if_eq (tgt := 33) hx hb d_m_tick_26 (by decide) (fun c_16 => ?_) (fun c_16 => ?_)
      · refine lv_aload_n hx hb d_m_tick_33 rfl (lv_at hl 2 rfl) ?_
        refine lv_iload_n hx hb d_m_tick_34 rfl (lv_at hl 0 rfl) ?_
        refine k_cV (rest := []) hx hb hml hown hG hK hN hA hP hD hS (c_m_event l D b cb μT t (show t < 8 by omega)) ok_m_event io_m_event L_M_75 ⟨rfl, rfl, by decide, by decide⟩ 0 wM_M rfl rfl hl.1 rfl (Nat.le_of_ble_eq_true rfl) ⟨Nat.zero_le _, Nat.zero_le _⟩ d_m_tick_35 (fun H locs hP hD hS => ?_)
        refine lv_if_eq (tgt := 45) hx hb d_m_tick_38 (by decide) (fun c_17 => ?_) (fun c_17 => ?_)
        · refine lv_iconst (v := 0) hx hb d_m_tick_45 (by decide) ?_
          refine lv_istore_n (lv' := [(1, .int 0), (2, .int (nI t)), (0, .ref (b 0))]) hx hb d_m_tick_46 rfl hl (by decide) rfl (fun ls hl => ?_)
          refine lv_iinc (v := nI (t + 1)) (lv' := [(2, .int (nI (t + 1))), (1, .int 0), (0, .ref (b 0))]) hx hb d_m_tick_47 hl (k := 1) rfl (nI_1 t) (by decide) rfl (fun ls hl => ?_)
          refine lv_goto (tgt := 14) hx hb d_m_tick_50 (by decide) ?_
          exact ih (t + 1) 0 ((g_event μT t).2) (by omega) (by rw [← hrT]; simp only [mkT, smT, c_15, c_16, c_17, ↓reduceIte]) _ _ _ hP hD hS (lv_sub hl [0, 1, 2] rfl)
        · refine lv_iconst (v := 1) hx hb d_m_tick_41 (by decide) ?_
          refine lv_goto (tgt := 46) hx hb d_m_tick_42 (by decide) ?_
          refine lv_istore_n (lv' := [(1, .int 1), (2, .int (nI t)), (0, .ref (b 0))]) hx hb d_m_tick_46 rfl hl (by decide) rfl (fun ls hl => ?_)
          refine lv_iinc (v := nI (t + 1)) (lv' := [(2, .int (nI (t + 1))), (1, .int 1), (0, .ref (b 0))]) hx hb d_m_tick_47 hl (k := 1) rfl (nI_1 t) (by decide) rfl (fun ls hl => ?_)
          refine lv_goto (tgt := 14) hx hb d_m_tick_50 (by decide) ?_
          exact ih (t + 1) 1 ((g_event μT t).2) (by omega) (by rw [← hrT]; simp only [mkT, smT, c_15, c_16, c_17, ↓reduceIte]) _ _ _ hP hD hS (lv_sub hl [0, 1, 2] rfl)
      · refine lv_iload_n hx hb d_m_tick_29 rfl (lv_at hl 1 rfl) ?_
        refine lv_if_eq (tgt := 45) hx hb d_m_tick_30 (by decide) (fun c_18 => ?_) (fun c_18 => ?_)
        · refine lv_iconst (v := 0) hx hb d_m_tick_45 (by decide) ?_
          refine lv_istore_n (lv' := [(1, .int 0), (2, .int (nI t)), (0, .ref (b 0))]) hx hb d_m_tick_46 rfl hl (by decide) rfl (fun ls hl => ?_)
          refine lv_iinc (v := nI (t + 1)) (lv' := [(2, .int (nI (t + 1))), (1, .int 0), (0, .ref (b 0))]) hx hb d_m_tick_47 hl (k := 1) rfl (nI_1 t) (by decide) rfl (fun ls hl => ?_)
          refine lv_goto (tgt := 14) hx hb d_m_tick_50 (by decide) ?_
          exact ih (t + 1) 0 μT (by omega) (by rw [← hrT]; simp only [mkT, smT, c_15, c_16, c_18, ↓reduceIte]) _ _ _ hP hD hS (lv_sub hl [0, 1, 2] rfl)
        · refine lv_aload_n hx hb d_m_tick_33 rfl (lv_at hl 2 rfl) ?_
          refine lv_iload_n hx hb d_m_tick_34 rfl (lv_at hl 0 rfl) ?_
          refine k_cV (rest := []) hx hb hml hown hG hK hN hA hP hD hS (c_m_event l D b cb μT t (show t < 8 by omega)) ok_m_event io_m_event L_M_75 ⟨rfl, rfl, by decide, by decide⟩ 0 wM_M rfl rfl hl.1 rfl (Nat.le_of_ble_eq_true rfl) ⟨Nat.zero_le _, Nat.zero_le _⟩ d_m_tick_35 (fun H locs hP hD hS => ?_)
          refine lv_if_eq (tgt := 45) hx hb d_m_tick_38 (by decide) (fun c_19 => ?_) (fun c_19 => ?_)
          · refine lv_iconst (v := 0) hx hb d_m_tick_45 (by decide) ?_
            refine lv_istore_n (lv' := [(1, .int 0), (2, .int (nI t)), (0, .ref (b 0))]) hx hb d_m_tick_46 rfl hl (by decide) rfl (fun ls hl => ?_)
            refine lv_iinc (v := nI (t + 1)) (lv' := [(2, .int (nI (t + 1))), (1, .int 0), (0, .ref (b 0))]) hx hb d_m_tick_47 hl (k := 1) rfl (nI_1 t) (by decide) rfl (fun ls hl => ?_)
            refine lv_goto (tgt := 14) hx hb d_m_tick_50 (by decide) ?_
            exact ih (t + 1) 0 ((g_event μT t).2) (by omega) (by rw [← hrT]; simp only [mkT, smT, c_15, c_16, c_18, c_19, ↓reduceIte]) _ _ _ hP hD hS (lv_sub hl [0, 1, 2] rfl)
          · refine lv_iconst (v := 1) hx hb d_m_tick_41 (by decide) ?_
            refine lv_goto (tgt := 46) hx hb d_m_tick_42 (by decide) ?_
            refine lv_istore_n (lv' := [(1, .int 1), (2, .int (nI t)), (0, .ref (b 0))]) hx hb d_m_tick_46 rfl hl (by decide) rfl (fun ls hl => ?_)
            refine lv_iinc (v := nI (t + 1)) (lv' := [(2, .int (nI (t + 1))), (1, .int 1), (0, .ref (b 0))]) hx hb d_m_tick_47 hl (k := 1) rfl (nI_1 t) (by decide) rfl (fun ls hl => ?_)
            refine lv_goto (tgt := 14) hx hb d_m_tick_50 (by decide) ?_
            exact ih (t + 1) 1 ((g_event μT t).2) (by omega) (by rw [← hrT]; simp only [mkT, smT, c_15, c_16, c_18, c_19, ↓reduceIte]) _ _ _ hP hD hS (lv_sub hl [0, 1, 2] rfl)
  exact loopT 8 0 0 _ (by omega) e1.symm _ _ _ hP hD hS (lv_sub hl [0, 1, 2] rfl)
end
section
set_option maxHeartbeats 4000000 in
set_option maxRecDepth 100000 in
theorem c_m_set (l : Launch) (D : va_G) (b : Nat → Nat) (cb : Nat → ClassId) (μ : St) (t : Int32) (src : Int32) (per : Int32) (x : Bool) : KI l D (tM cb) (wM b cb) rm_m_set y_m_set b_m_set 5 .boolean [.ref (b 0), .int t, .int src, .int per, .int (bI x)] μ ((g_set μ t src per x).1) ((g_set μ t src per x).2) := by
  refine KI.of (by decide) (Nat.le_of_ble_eq_true rfl) ?_
  intro p e s m args below meth c A Q ls hx hb hml hown hG hK hN hA hP hD hS hl hret
  have hown : s.vm.findClass R_M = some m.cls := hown
  have hl : lv_has ls 5 [(0, .ref (b 0)), (1, .int t), (2, .int src), (3, .int per), (4, .int (bI x))] := hl
  refine lv_iload_n hx hb d_m_set_0 rfl (lv_at hl 1 rfl) ?_
  refine lv_iconst (v := 0) hx hb d_m_set_1 (by decide) ?_
  refine lv_bipush (v := 7) hx hb d_m_set_2 (by decide) ?_
  refine k_cS (rest := []) hx hb hml hown hG hK hN hA hP hD hS (c_m_isIn l D b cb μ t 0 7) ok_m_isIn so_m_isIn L_M_57 ⟨rfl, rfl, by decide, by decide⟩ rfl hl.1 rfl (Nat.le_of_ble_eq_true rfl) ⟨Nat.zero_le _, Nat.zero_le _⟩ d_m_set_4 (fun H locs hP hD hS => ?_)
  refine lv_if_eq (tgt := 37) hx hb d_m_set_7 (by decide) (fun c_1 => ?_) (fun c_1 => ?_)
  · refine lv_iconst (v := 0) hx hb d_m_set_37 (by decide) ?_
    exact hret _ _ _ 38 0 μ hP hD hS rfl d_m_set_38 (by simp only [g_set, g_put, c_1, ↓reduceIte]) (by simp only [g_set, g_put, c_1, ↓reduceIte])
  · obtain ⟨j, hj, rfl⟩ := isIn_in (n := 7) (by decide) c_1
    have hclj : (nI j).toNatClampNeg = j := nI_clamp (by omega)
    refine lv_iload_n hx hb d_m_set_10 rfl (lv_at hl 2 rfl) ?_
    refine lv_iconst (v := 0) hx hb d_m_set_11 (by decide) ?_
    refine lv_iload_n hx hb d_m_set_12 rfl (lv_at hl 1 rfl) ?_
    refine lv_if_ne (tgt := 20) hx hb d_m_set_13 (by decide) (fun c_2 => ?_) (fun c_2 => ?_)
    · refine lv_iconst (v := 1) hx hb d_m_set_20 (by decide) ?_
      refine k_cS (rest := []) hx hb hml hown hG hK hN hA hP hD hS (c_m_isIn l D b cb μ src 0 1) ok_m_isIn so_m_isIn L_M_57 ⟨rfl, rfl, by decide, by decide⟩ rfl hl.1 rfl (Nat.le_of_ble_eq_true rfl) ⟨Nat.zero_le _, Nat.zero_le _⟩ d_m_set_21 (fun H locs hP hD hS => ?_)
      refine lv_if_eq (tgt := 37) hx hb d_m_set_24 (by decide) (fun c_3 => ?_) (fun c_3 => ?_)
      · refine lv_iconst (v := 0) hx hb d_m_set_37 (by decide) ?_
        exact hret _ _ _ 38 0 μ hP hD hS rfl d_m_set_38 (by simp only [g_set, g_put, c_1, hclj, c_2, c_3, ↓reduceIte]) (by simp only [g_set, g_put, c_1, hclj, c_2, c_3, ↓reduceIte])
      · refine lv_iload_n hx hb d_m_set_27 rfl (lv_at hl 3 rfl) ?_
        refine lv_iconst (v := 1) hx hb d_m_set_28 (by decide) ?_
        refine lv_ldc (v := 65535) hx hb hown (hG _ L_M_61) d_m_set_29 ?_
        refine k_cS (rest := []) hx hb hml hown hG hK hN hA hP hD hS (c_m_isIn l D b cb μ per 1 65535) ok_m_isIn so_m_isIn L_M_57 ⟨rfl, rfl, by decide, by decide⟩ rfl hl.1 rfl (Nat.le_of_ble_eq_true rfl) ⟨Nat.zero_le _, Nat.zero_le _⟩ d_m_set_31 (fun H locs hP hD hS => ?_)
        refine lv_if_ne (tgt := 39) hx hb d_m_set_34 (by decide) (fun c_4 => ?_) (fun c_4 => ?_)
        · refine lv_aload_n hx hb d_m_set_39 rfl (lv_at hl 0 rfl) ?_
          refine va_get (v := .ref (b 6)) hx hb hG i_M hown hK hP 0 wM_M rfl 6 (by decide) (hG _ L_M_16) (fun _ h9 => h9) rfl d_m_set_40 ?_
          refine lv_iload_n hx hb d_m_set_43 rfl (lv_at hl 1 rfl) ?_
          refine lv_iload_n hx hb d_m_set_44 rfl (lv_at hl 2 rfl) ?_
          refine m_ist (x := src) hx hb hK hP hD hS wM_6 wM_p6 (j) hj (by decide) (rfl) d_m_set_45 (fun H locs hP hD hS => ?_)
          refine lv_aload_n hx hb d_m_set_46 rfl (lv_at hl 0 rfl) ?_
          refine va_get (v := .ref (b 4)) hx hb hG i_M hown hK hP 0 wM_M rfl 4 (by decide) (hG _ L_M_7) (fun _ h9 => h9) rfl d_m_set_47 ?_
          refine lv_iload_n hx hb d_m_set_50 rfl (lv_at hl 1 rfl) ?_
          refine lv_iload_n hx hb d_m_set_51 rfl (lv_at hl 3 rfl) ?_
          refine m_ist (x := per) hx hb hK hP hD hS wM_4 wM_p4 (j) hj (by decide) (rfl) d_m_set_52 (fun H locs hP hD hS => ?_)
          refine lv_aload_n hx hb d_m_set_53 rfl (lv_at hl 0 rfl) ?_
          refine va_get (v := .ref (b 5)) hx hb hG i_M hown hK hP 0 wM_M rfl 5 (by decide) (hG _ L_M_13) (fun _ h9 => h9) rfl d_m_set_54 ?_
          refine lv_iload_n hx hb d_m_set_57 rfl (lv_at hl 1 rfl) ?_
          refine lv_iload_n hx hb d_m_set_58 rfl (lv_at hl 3 rfl) ?_
          refine m_ist (x := per) hx hb hK hP hD hS wM_5 wM_p5 (j) hj (by decide) (rfl) d_m_set_59 (fun H locs hP hD hS => ?_)
          refine lv_aload_n hx hb d_m_set_60 rfl (lv_at hl 0 rfl) ?_
          refine va_get (v := .ref (b 7)) hx hb hG i_M hown hK hP 0 wM_M rfl 7 (by decide) (hG _ L_M_19) (fun _ h9 => h9) rfl d_m_set_61 ?_
          refine lv_iload_n hx hb d_m_set_64 rfl (lv_at hl 1 rfl) ?_
          refine lv_iload hx hb d_m_set_65 (lv_at hl 4 rfl) ?_
          refine m_zst (x := bI x) hx hb hK hP hD hS wM_7 wM_p7 (j) hj (by decide) (bI_v _) (rfl) d_m_set_67 (fun H locs hP hD hS => ?_)
          refine lv_aload_n hx hb d_m_set_68 rfl (lv_at hl 0 rfl) ?_
          refine va_get (v := .ref (b 8)) hx hb hG i_M hown hK hP 0 wM_M rfl 8 (by decide) (hG _ L_M_23) (fun _ h9 => h9) rfl d_m_set_69 ?_
          refine lv_iload_n hx hb d_m_set_72 rfl (lv_at hl 1 rfl) ?_
          refine lv_iconst (v := 0) hx hb d_m_set_73 (by decide) ?_
          refine m_zst (x := 0) hx hb hK hP hD hS wM_8 wM_p8 (j) hj (by decide) (rfl) (rfl) d_m_set_74 (fun H locs hP hD hS => ?_)
          refine lv_iconst (v := 1) hx hb d_m_set_75 (by decide) ?_
          exact hret _ _ _ 76 1 (up2 (up2 (up2 (up2 (up2 μ 6 j src) 4 j per) 5 j per) 7 j (bI x)) 8 j 0) hP hD hS rfl d_m_set_76 (by simp only [g_set, g_put, c_1, hclj, c_2, c_3, c_4, ↓reduceIte]) (by simp only [g_set, g_put, c_1, hclj, c_2, c_3, c_4, ↓reduceIte])
        · refine lv_iconst (v := 0) hx hb d_m_set_37 (by decide) ?_
          exact hret _ _ _ 38 0 μ hP hD hS rfl d_m_set_38 (by simp only [g_set, g_put, c_1, hclj, c_2, c_3, c_4, ↓reduceIte]) (by simp only [g_set, g_put, c_1, hclj, c_2, c_3, c_4, ↓reduceIte])
    · refine lv_iconst (v := 0) hx hb d_m_set_16 (by decide) ?_
      refine lv_goto (tgt := 21) hx hb d_m_set_17 (by decide) ?_
      refine k_cS (rest := []) hx hb hml hown hG hK hN hA hP hD hS (c_m_isIn l D b cb μ src 0 0) ok_m_isIn so_m_isIn L_M_57 ⟨rfl, rfl, by decide, by decide⟩ rfl hl.1 rfl (Nat.le_of_ble_eq_true rfl) ⟨Nat.zero_le _, Nat.zero_le _⟩ d_m_set_21 (fun H locs hP hD hS => ?_)
      refine lv_if_eq (tgt := 37) hx hb d_m_set_24 (by decide) (fun c_5 => ?_) (fun c_5 => ?_)
      · refine lv_iconst (v := 0) hx hb d_m_set_37 (by decide) ?_
        exact hret _ _ _ 38 0 μ hP hD hS rfl d_m_set_38 (by simp only [g_set, g_put, c_1, hclj, (eq_true c_2), c_5, ↓reduceIte]) (by simp only [g_set, g_put, c_1, hclj, (eq_true c_2), c_5, ↓reduceIte])
      · refine lv_iload_n hx hb d_m_set_27 rfl (lv_at hl 3 rfl) ?_
        refine lv_iconst (v := 1) hx hb d_m_set_28 (by decide) ?_
        refine lv_ldc (v := 65535) hx hb hown (hG _ L_M_61) d_m_set_29 ?_
        refine k_cS (rest := []) hx hb hml hown hG hK hN hA hP hD hS (c_m_isIn l D b cb μ per 1 65535) ok_m_isIn so_m_isIn L_M_57 ⟨rfl, rfl, by decide, by decide⟩ rfl hl.1 rfl (Nat.le_of_ble_eq_true rfl) ⟨Nat.zero_le _, Nat.zero_le _⟩ d_m_set_31 (fun H locs hP hD hS => ?_)
        refine lv_if_ne (tgt := 39) hx hb d_m_set_34 (by decide) (fun c_6 => ?_) (fun c_6 => ?_)
        · refine lv_aload_n hx hb d_m_set_39 rfl (lv_at hl 0 rfl) ?_
          refine va_get (v := .ref (b 6)) hx hb hG i_M hown hK hP 0 wM_M rfl 6 (by decide) (hG _ L_M_16) (fun _ h9 => h9) rfl d_m_set_40 ?_
          refine lv_iload_n hx hb d_m_set_43 rfl (lv_at hl 1 rfl) ?_
          refine lv_iload_n hx hb d_m_set_44 rfl (lv_at hl 2 rfl) ?_
          refine m_ist (x := src) hx hb hK hP hD hS wM_6 wM_p6 (j) hj (by decide) (rfl) d_m_set_45 (fun H locs hP hD hS => ?_)
          refine lv_aload_n hx hb d_m_set_46 rfl (lv_at hl 0 rfl) ?_
          refine va_get (v := .ref (b 4)) hx hb hG i_M hown hK hP 0 wM_M rfl 4 (by decide) (hG _ L_M_7) (fun _ h9 => h9) rfl d_m_set_47 ?_
          refine lv_iload_n hx hb d_m_set_50 rfl (lv_at hl 1 rfl) ?_
          refine lv_iload_n hx hb d_m_set_51 rfl (lv_at hl 3 rfl) ?_
          refine m_ist (x := per) hx hb hK hP hD hS wM_4 wM_p4 (j) hj (by decide) (rfl) d_m_set_52 (fun H locs hP hD hS => ?_)
          refine lv_aload_n hx hb d_m_set_53 rfl (lv_at hl 0 rfl) ?_
          refine va_get (v := .ref (b 5)) hx hb hG i_M hown hK hP 0 wM_M rfl 5 (by decide) (hG _ L_M_13) (fun _ h9 => h9) rfl d_m_set_54 ?_
          refine lv_iload_n hx hb d_m_set_57 rfl (lv_at hl 1 rfl) ?_
          refine lv_iload_n hx hb d_m_set_58 rfl (lv_at hl 3 rfl) ?_
          refine m_ist (x := per) hx hb hK hP hD hS wM_5 wM_p5 (j) hj (by decide) (rfl) d_m_set_59 (fun H locs hP hD hS => ?_)
          refine lv_aload_n hx hb d_m_set_60 rfl (lv_at hl 0 rfl) ?_
          refine va_get (v := .ref (b 7)) hx hb hG i_M hown hK hP 0 wM_M rfl 7 (by decide) (hG _ L_M_19) (fun _ h9 => h9) rfl d_m_set_61 ?_
          refine lv_iload_n hx hb d_m_set_64 rfl (lv_at hl 1 rfl) ?_
          refine lv_iload hx hb d_m_set_65 (lv_at hl 4 rfl) ?_
          refine m_zst (x := bI x) hx hb hK hP hD hS wM_7 wM_p7 (j) hj (by decide) (bI_v _) (rfl) d_m_set_67 (fun H locs hP hD hS => ?_)
          refine lv_aload_n hx hb d_m_set_68 rfl (lv_at hl 0 rfl) ?_
          refine va_get (v := .ref (b 8)) hx hb hG i_M hown hK hP 0 wM_M rfl 8 (by decide) (hG _ L_M_23) (fun _ h9 => h9) rfl d_m_set_69 ?_
          refine lv_iload_n hx hb d_m_set_72 rfl (lv_at hl 1 rfl) ?_
          refine lv_iconst (v := 0) hx hb d_m_set_73 (by decide) ?_
          refine m_zst (x := 0) hx hb hK hP hD hS wM_8 wM_p8 (j) hj (by decide) (rfl) (rfl) d_m_set_74 (fun H locs hP hD hS => ?_)
          refine lv_iconst (v := 1) hx hb d_m_set_75 (by decide) ?_
          exact hret _ _ _ 76 1 (up2 (up2 (up2 (up2 (up2 μ 6 j src) 4 j per) 5 j per) 7 j (bI x)) 8 j 0) hP hD hS rfl d_m_set_76 (by simp only [g_set, g_put, c_1, hclj, (eq_true c_2), c_5, c_6, ↓reduceIte]) (by simp only [g_set, g_put, c_1, hclj, (eq_true c_2), c_5, c_6, ↓reduceIte])
        · refine lv_iconst (v := 0) hx hb d_m_set_37 (by decide) ?_
          exact hret _ _ _ 38 0 μ hP hD hS rfl d_m_set_38 (by simp only [g_set, g_put, c_1, hclj, (eq_true c_2), c_5, c_6, ↓reduceIte]) (by simp only [g_set, g_put, c_1, hclj, (eq_true c_2), c_5, c_6, ↓reduceIte])
set_option maxHeartbeats 4000000 in
set_option maxRecDepth 100000 in
theorem c_m_turn (l : Launch) (D : va_G) (b : Nat → Nat) (cb : Nat → ClassId) (μ : St) (t : Int32) (x : Bool) : KI l D (tM cb) (wM b cb) rm_m_turn y_m_turn b_m_turn 3 .boolean [.ref (b 0), .int t, .int (bI x)] μ ((g_turn μ t x).1) ((g_turn μ t x).2) := by
  refine KI.of (by decide) (Nat.le_of_ble_eq_true rfl) ?_
  intro p e s m args below meth c A Q ls hx hb hml hown hG hK hN hA hP hD hS hl hret
  have hown : s.vm.findClass R_M = some m.cls := hown
  have hl : lv_has ls 3 [(0, .ref (b 0)), (1, .int t), (2, .int (bI x))] := hl
  refine lv_iload_n hx hb d_m_turn_0 rfl (lv_at hl 1 rfl) ?_
  refine lv_iconst (v := 0) hx hb d_m_turn_1 (by decide) ?_
  refine lv_bipush (v := 7) hx hb d_m_turn_2 (by decide) ?_
  refine k_cS (rest := []) hx hb hml hown hG hK hN hA hP hD hS (c_m_isIn l D b cb μ t 0 7) ok_m_isIn so_m_isIn L_M_57 ⟨rfl, rfl, by decide, by decide⟩ rfl hl.1 rfl (Nat.le_of_ble_eq_true rfl) ⟨Nat.zero_le _, Nat.zero_le _⟩ d_m_turn_4 (fun H locs hP hD hS => ?_)
  refine lv_if_eq (tgt := 20) hx hb d_m_turn_7 (by decide) (fun c_1 => ?_) (fun c_1 => ?_)
  · refine lv_iconst (v := 0) hx hb d_m_turn_20 (by decide) ?_
    exact hret _ _ _ 21 0 μ hP hD hS rfl d_m_turn_21 (by simp only [g_turn, c_1, ↓reduceIte]) (by simp only [g_turn, c_1, ↓reduceIte])
  · obtain ⟨j, hj, rfl⟩ := isIn_in (n := 7) (by decide) c_1
    have hclj : (nI j).toNatClampNeg = j := nI_clamp (by omega)
    refine lv_aload_n hx hb d_m_turn_10 rfl (lv_at hl 0 rfl) ?_
    refine va_get (v := .ref (b 8)) hx hb hG i_M hown hK hP 0 wM_M rfl 8 (by decide) (hG _ L_M_23) (fun _ h9 => h9) rfl d_m_turn_11 ?_
    refine lv_iload_n hx hb d_m_turn_14 rfl (lv_at hl 1 rfl) ?_
    refine m_zld hx hb hK hP wM_8 (j) hj (by decide) (rfl) d_m_turn_15 ?_
    refine lv_iload_n hx hb d_m_turn_16 rfl (lv_at hl 2 rfl) ?_
    refine lv_icmp_ne (tgt := 22) hx hb d_m_turn_17 (by decide) (fun c_2 => ?_) (fun c_2 => ?_)
    · refine lv_aload_n hx hb d_m_turn_22 rfl (lv_at hl 0 rfl) ?_
      refine va_get (v := .ref (b 8)) hx hb hG i_M hown hK hP 0 wM_M rfl 8 (by decide) (hG _ L_M_23) (fun _ h9 => h9) rfl d_m_turn_23 ?_
      refine lv_iload_n hx hb d_m_turn_26 rfl (lv_at hl 1 rfl) ?_
      refine lv_iload_n hx hb d_m_turn_27 rfl (lv_at hl 2 rfl) ?_
      refine m_zst (x := bI x) hx hb hK hP hD hS wM_8 wM_p8 (j) hj (by decide) (bI_v _) (rfl) d_m_turn_28 (fun H locs hP hD hS => ?_)
      refine lv_iconst (v := 1) hx hb d_m_turn_29 (by decide) ?_
      exact hret _ _ _ 30 1 (up2 μ 8 j (bI x)) hP hD hS rfl d_m_turn_30 (by simp only [g_turn, c_1, hclj, c_2, ↓reduceIte]) (by simp only [g_turn, c_1, hclj, c_2, ↓reduceIte])
    · refine lv_iconst (v := 0) hx hb d_m_turn_20 (by decide) ?_
      exact hret _ _ _ 21 0 μ hP hD hS rfl d_m_turn_21 (by simp only [g_turn, c_1, hclj, c_2, ↓reduceIte]) (by simp only [g_turn, c_1, hclj, c_2, ↓reduceIte])
set_option maxHeartbeats 4000000 in
set_option maxRecDepth 100000 in
theorem c_m_gate (l : Launch) (D : va_G) (b : Nat → Nat) (cb : Nat → ClassId) (μ : St) (g : Int32) (mask : Int32) (delay : Int32) : KI l D (tM cb) (wM b cb) rm_m_gate y_m_gate b_m_gate 4 .boolean [.ref (b 0), .int g, .int mask, .int delay] μ ((g_gate μ g mask delay).1) ((g_gate μ g mask delay).2) := by
  refine KI.of (by decide) (Nat.le_of_ble_eq_true rfl) ?_
  intro p e s m args below meth c A Q ls hx hb hml hown hG hK hN hA hP hD hS hl hret
  have hown : s.vm.findClass R_M = some m.cls := hown
  have hl : lv_has ls 4 [(0, .ref (b 0)), (1, .int g), (2, .int mask), (3, .int delay)] := hl
  refine lv_iload_n hx hb d_m_gate_0 rfl (lv_at hl 1 rfl) ?_
  refine lv_iconst (v := 0) hx hb d_m_gate_1 (by decide) ?_
  refine lv_iconst (v := 3) hx hb d_m_gate_2 (by decide) ?_
  refine k_cS (rest := []) hx hb hml hown hG hK hN hA hP hD hS (c_m_isIn l D b cb μ g 0 3) ok_m_isIn so_m_isIn L_M_57 ⟨rfl, rfl, by decide, by decide⟩ rfl hl.1 rfl (Nat.le_of_ble_eq_true rfl) ⟨Nat.zero_le _, Nat.zero_le _⟩ d_m_gate_3 (fun H locs hP hD hS => ?_)
  refine lv_if_eq (tgt := 31) hx hb d_m_gate_6 (by decide) (fun c_1 => ?_) (fun c_1 => ?_)
  · refine lv_iconst (v := 0) hx hb d_m_gate_31 (by decide) ?_
    exact hret _ _ _ 32 0 μ hP hD hS rfl d_m_gate_32 (by simp only [g_gate, c_1, ↓reduceIte]) (by simp only [g_gate, c_1, ↓reduceIte])
  · obtain ⟨j, hj, rfl⟩ := isIn_in (n := 3) (by decide) c_1
    have hclj : (nI j).toNatClampNeg = j := nI_clamp (by omega)
    refine lv_iload_n hx hb d_m_gate_9 rfl (lv_at hl 2 rfl) ?_
    refine lv_iconst (v := 0) hx hb d_m_gate_10 (by decide) ?_
    refine lv_sipush (v := 255) hx hb d_m_gate_11 (by decide) ?_
    refine k_cS (rest := []) hx hb hml hown hG hK hN hA hP hD hS (c_m_isIn l D b cb μ mask 0 255) ok_m_isIn so_m_isIn L_M_57 ⟨rfl, rfl, by decide, by decide⟩ rfl hl.1 rfl (Nat.le_of_ble_eq_true rfl) ⟨Nat.zero_le _, Nat.zero_le _⟩ d_m_gate_14 (fun H locs hP hD hS => ?_)
    refine lv_if_eq (tgt := 31) hx hb d_m_gate_17 (by decide) (fun c_2 => ?_) (fun c_2 => ?_)
    · refine lv_iconst (v := 0) hx hb d_m_gate_31 (by decide) ?_
      exact hret _ _ _ 32 0 μ hP hD hS rfl d_m_gate_32 (by simp only [g_gate, c_1, hclj, c_2, ↓reduceIte]) (by simp only [g_gate, c_1, hclj, c_2, ↓reduceIte])
    · refine lv_iload_n hx hb d_m_gate_20 rfl (lv_at hl 3 rfl) ?_
      refine lv_iconst (v := 1) hx hb d_m_gate_21 (by decide) ?_
      refine lv_sipush (v := 1000) hx hb d_m_gate_22 (by decide) ?_
      refine k_cS (rest := []) hx hb hml hown hG hK hN hA hP hD hS (c_m_isIn l D b cb μ delay 1 1000) ok_m_isIn so_m_isIn L_M_57 ⟨rfl, rfl, by decide, by decide⟩ rfl hl.1 rfl (Nat.le_of_ble_eq_true rfl) ⟨Nat.zero_le _, Nat.zero_le _⟩ d_m_gate_25 (fun H locs hP hD hS => ?_)
      refine lv_if_ne (tgt := 33) hx hb d_m_gate_28 (by decide) (fun c_3 => ?_) (fun c_3 => ?_)
      · refine lv_aload_n hx hb d_m_gate_33 rfl (lv_at hl 0 rfl) ?_
        refine va_get (v := .ref (b 10)) hx hb hG i_M hown hK hP 0 wM_M rfl 10 (by decide) (hG _ L_M_29) (fun _ h9 => h9) rfl d_m_gate_34 ?_
        refine lv_iload_n hx hb d_m_gate_37 rfl (lv_at hl 1 rfl) ?_
        refine lv_iload_n hx hb d_m_gate_38 rfl (lv_at hl 2 rfl) ?_
        refine m_ist (x := mask) hx hb hK hP hD hS wM_10 wM_p10 (j) hj (by decide) (rfl) d_m_gate_39 (fun H locs hP hD hS => ?_)
        refine lv_aload_n hx hb d_m_gate_40 rfl (lv_at hl 0 rfl) ?_
        refine va_get (v := .ref (b 11)) hx hb hG i_M hown hK hP 0 wM_M rfl 11 (by decide) (hG _ L_M_32) (fun _ h9 => h9) rfl d_m_gate_41 ?_
        refine lv_iload_n hx hb d_m_gate_44 rfl (lv_at hl 1 rfl) ?_
        refine lv_iload_n hx hb d_m_gate_45 rfl (lv_at hl 3 rfl) ?_
        refine m_ist (x := delay) hx hb hK hP hD hS wM_11 wM_p11 (j) hj (by decide) (rfl) d_m_gate_46 (fun H locs hP hD hS => ?_)
        refine lv_iconst (v := 1) hx hb d_m_gate_47 (by decide) ?_
        exact hret _ _ _ 48 1 (up2 (up2 μ 10 j mask) 11 j delay) hP hD hS rfl d_m_gate_48 (by simp only [g_gate, c_1, hclj, c_2, c_3, ↓reduceIte]) (by simp only [g_gate, c_1, hclj, c_2, c_3, ↓reduceIte])
      · refine lv_iconst (v := 0) hx hb d_m_gate_31 (by decide) ?_
        exact hret _ _ _ 32 0 μ hP hD hS rfl d_m_gate_32 (by simp only [g_gate, c_1, hclj, c_2, c_3, ↓reduceIte]) (by simp only [g_gate, c_1, hclj, c_2, c_3, ↓reduceIte])
set_option maxHeartbeats 4000000 in
set_option maxRecDepth 100000 in
theorem c_m_clear (l : Launch) (D : va_G) (b : Nat → Nat) (cb : Nat → ClassId) (μ : St) (x : Int32) : KI l D (tM cb) (wM b cb) rm_m_clear y_m_clear b_m_clear 4 .int [.ref (b 0), .int x] μ ((g_clear μ x).1) ((g_clear μ x).2) := by
  refine KI.of (by decide) (Nat.le_of_ble_eq_true rfl) ?_
  intro p e s m args below meth c A Q ls hx hb hml hown hG hK hN hA hP hD hS hl hret
  have hown : s.vm.findClass R_M = some m.cls := hown
  have hl : lv_has ls 4 [(0, .ref (b 0)), (1, .int x)] := hl
  refine lv_iload_n hx hb d_m_clear_0 rfl (lv_at hl 1 rfl) ?_
  refine lv_iconst (v := 0) hx hb d_m_clear_1 (by decide) ?_
  refine lv_sipush (v := 255) hx hb d_m_clear_2 (by decide) ?_
  refine k_cS (rest := []) hx hb hml hown hG hK hN hA hP hD hS (c_m_isIn l D b cb μ x 0 255) ok_m_isIn so_m_isIn L_M_57 ⟨rfl, rfl, by decide, by decide⟩ rfl hl.1 rfl (Nat.le_of_ble_eq_true rfl) ⟨Nat.zero_le _, Nat.zero_le _⟩ d_m_clear_5 (fun H locs hP hD hS => ?_)
  refine lv_if_ne (tgt := 13) hx hb d_m_clear_8 (by decide) (fun c_1 => ?_) (fun c_1 => ?_)
  · refine lv_aload_n hx hb d_m_clear_13 rfl (lv_at hl 0 rfl) ?_
    refine va_get (v := .int (μ 0 2)) hx hb hG i_M hown hK hP 0 wM_M rfl 2 (by decide) (hG _ L_M_62) (fun _ h9 => h9) rfl d_m_clear_14 ?_
    refine lv_iload_n hx hb d_m_clear_17 rfl (lv_at hl 1 rfl) ?_
    refine lv_iand hx hb d_m_clear_18 ?_
    refine lv_istore_n (lv' := [(2, .int ((μ 0 2) &&& x)), (0, .ref (b 0)), (1, .int x)]) hx hb d_m_clear_19 rfl hl (by decide) rfl (fun ls hl => ?_)
    refine lv_iconst (v := 0) hx hb d_m_clear_20 (by decide) ?_
    refine lv_istore_n (lv' := [(3, .int 0), (2, .int ((μ 0 2) &&& x)), (0, .ref (b 0)), (1, .int x)]) hx hb d_m_clear_21 rfl hl (by decide) rfl (fun ls hl => ?_)
    have loop : ∀ (n : Nat) (t : Nat) (μ1 : St), (t + n = 8) → (clrM (μ 0 2 &&& x) n t μ1 = clrM (μ 0 2 &&& x) 8 0 μ) → ∀ (H : Heap) (locs : List Loc) (ls : Array Slot), va_P D classes (wM b cb μ1) H → va_D A (wM b cb μ1) → va_S A s.heap H locs → lv_has ls 4 [(3, .int (nI t)), (2, .int (μ 0 2 &&& x)), (1, .int x), (0, .ref (b 0))] → W p l e rm_m_clear s m args below meth c H locs 0 0 Q (F0 m 22 ls []) := by
      intro n
      induction n with
      | zero =>
        intro t μ1 ht hrel H locs ls hP hD hS hl
        refine lv_iload_n hx hb d_m_clear_22 rfl (lv_at hl 0 rfl) ?_
        refine lv_bipush (v := 8) hx hb d_m_clear_23 (by decide) ?_
        refine lv_icmp_ge (tgt := 52) hx hb d_m_clear_25 (by decide) (fun c_2 => ?_) (fun c_2 => absurd (nI_le (a := 8) (b := t) (by omega) (by omega)) c_2)
        refine lv_aload_n hx hb d_m_clear_52 rfl (lv_at hl 3 rfl) ?_
        refine lv_dup hx hb d_m_clear_53 rfl ?_
        refine va_get (v := .int (μ1 0 2)) hx hb hG i_M hown hK hP 0 wM_M rfl 2 (by decide) (hG _ L_M_62) (fun _ h9 => h9) rfl d_m_clear_54 ?_
        refine lv_iload_n hx hb d_m_clear_57 rfl (lv_at hl 1 rfl) ?_
        refine lv_isub hx hb d_m_clear_58 ?_
        refine va_put (ty := .int) (v := .int ((μ1 0 2) - (μ 0 2 &&& x))) hx hb hG i_M ft_M ft_M_ok n_M hown hK hP hD hS 0 wM_M rfl 2 (by decide) (hG _ L_M_62) (fun _ h9 => h9) rfl (by decide +kernel) rfl rfl (Nat.le_of_ble_eq_true rfl) d_m_clear_59 (fun H locs hP hD hS => ?_)
        rw [wM_putM2] at hP hD
        refine lv_iload_n hx hb d_m_clear_62 rfl (lv_at hl 1 rfl) ?_
        exact hret _ _ _ 63 (μ 0 2 &&& x) (up2 μ1 0 2 ((μ1 0 2) - (μ 0 2 &&& x))) hP hD hS rfl d_m_clear_63 (by simp only [g_clear, c_1, c_2, ↓reduceIte]) (by have hrel : μ1 = _ := hrel; simp only [g_clear, c_1, c_2, ↓reduceIte]; rw [hrel])
      | succ n ih =>
        intro t μ1 ht hrel H locs ls hP hD hS hl
        refine lv_iload_n hx hb d_m_clear_22 rfl (lv_at hl 0 rfl) ?_
        refine lv_bipush (v := 8) hx hb d_m_clear_23 (by decide) ?_
        refine lv_icmp_ge (tgt := 52) hx hb d_m_clear_25 (by decide) (fun c_3 => absurd c_3 (nI_ge (a := t) (b := 8) (by omega) (by omega))) (fun c_3 => ?_)
        refine lv_aload_n hx hb d_m_clear_28 rfl (lv_at hl 3 rfl) ?_
        refine va_get (v := .ref (b 9)) hx hb hG i_M hown hK hP 0 wM_M rfl 9 (by decide) (hG _ L_M_26) (fun _ h9 => h9) rfl d_m_clear_29 ?_
        refine lv_iconst (v := 4) hx hb d_m_clear_32 (by decide) ?_
        refine lv_iload_n hx hb d_m_clear_33 rfl (lv_at hl 0 rfl) ?_
        refine lv_imul hx hb d_m_clear_34 ?_
        refine lv_iconst (v := 3) hx hb d_m_clear_35 (by decide) ?_
        refine lv_iadd hx hb d_m_clear_36 ?_
        refine lv_dup2_11 hx hb d_m_clear_37 rfl rfl ?_
        refine m_ild hx hb hK hP wM_9 (4 * t + 3) (show 4 * t + 3 < 32 by have := (show t < 8 by omega); omega) (by decide) (m_ix t 3) d_m_clear_38 ?_
        refine lv_iload_n hx hb d_m_clear_39 rfl (lv_at hl 1 rfl) ?_
        refine lv_iload_n hx hb d_m_clear_40 rfl (lv_at hl 0 rfl) ?_
        refine lv_ishr hx hb d_m_clear_41 ?_
        refine lv_iconst (v := 1) hx hb d_m_clear_42 (by decide) ?_
        refine lv_iand hx hb d_m_clear_43 ?_
        refine lv_iadd hx hb d_m_clear_44 ?_
        refine m_ist (x := (μ1 9 (4 * t + 3)) + (((μ 0 2 &&& x) >>> ((nI t) &&& 31)) &&& 1)) hx hb hK hP hD hS wM_9 wM_p9 (4 * t + 3) (show 4 * t + 3 < 32 by have := (show t < 8 by omega); omega) (by decide) (m_ix t 3) d_m_clear_45 (fun H locs hP hD hS => ?_)
        refine lv_iinc (v := nI (t + 1)) (lv' := [(3, .int (nI (t + 1))), (2, .int (μ 0 2 &&& x)), (1, .int x), (0, .ref (b 0))]) hx hb d_m_clear_46 hl (k := 0) rfl (nI_1 t) (by decide) rfl (fun ls hl => ?_)
        refine lv_goto (tgt := 22) hx hb d_m_clear_49 (by decide) ?_
        exact ih (t + 1) (up2 μ1 9 (4 * t + 3) ((μ1 9 (4 * t + 3)) + (((μ 0 2 &&& x) >>> ((nI t) &&& 31)) &&& 1))) (by omega) (by rw [← hrel]; simp only [clrM, c_1, c_3, ↓reduceIte]) _ _ _ hP hD hS (lv_sub hl [0, 1, 2, 3] rfl)
    exact loop 8 0 _ (by omega) rfl _ _ _ hP hD hS (lv_sub hl [0, 1, 3, 2] rfl)
  · refine lv_iconst (v := (-1)) hx hb d_m_clear_11 (by decide) ?_
    exact hret _ _ _ 12 (-1) μ hP hD hS rfl d_m_clear_12 (by simp only [g_clear, c_1, ↓reduceIte]) (by simp only [g_clear, c_1, ↓reduceIte])
set_option maxHeartbeats 4000000 in
set_option maxRecDepth 100000 in
theorem c_m_advance (l : Launch) (D : va_G) (b : Nat → Nat) (cb : Nat → ClassId) (μ : St) (n0 : Int32) (k0 : Nat) (hO : mOK μ k0) (hk0 : k0 + 80000 < 2 ^ 30) : KI l D (tM cb) (wM b cb) rm_m_advance y_m_advance b_m_advance 4 .int [.ref (b 0), .int n0] μ ((g_advance μ n0).1) ((g_advance μ n0).2) := by
  refine KI.of (by decide) (Nat.le_of_ble_eq_true rfl) ?_
  intro p e s m args below meth c A Q ls hx hb hml hown hG hK hN hA hP hD hS hl hret
  have hown : s.vm.findClass R_M = some m.cls := hown
  have hl : lv_has ls 4 [(0, .ref (b 0)), (1, .int n0)] := hl
  refine lv_iload_n hx hb d_m_advance_0 rfl (lv_at hl 1 rfl) ?_
  refine lv_iconst (v := 0) hx hb d_m_advance_1 (by decide) ?_
  refine lv_sipush (v := 20000) hx hb d_m_advance_2 (by decide) ?_
  refine k_cS (rest := []) hx hb hml hown hG hK hN hA hP hD hS (c_m_isIn l D b cb μ n0 0 20000) ok_m_isIn so_m_isIn L_M_57 ⟨rfl, rfl, by decide, by decide⟩ rfl hl.1 rfl (Nat.le_of_ble_eq_true rfl) ⟨Nat.zero_le _, Nat.zero_le _⟩ d_m_advance_5 (fun H locs hP hD hS => ?_)
  refine lv_if_ne (tgt := 13) hx hb d_m_advance_8 (by decide) (fun c_1 => ?_) (fun c_1 => ?_)
  · obtain ⟨j, hj, rfl⟩ := isIn_in (n := 20000) (by decide) c_1
    have hclj : (nI j).toNatClampNeg = j := nI_clamp (by omega)
    refine lv_aload_n hx hb d_m_advance_13 rfl (lv_at hl 0 rfl) ?_
    refine va_get (v := .int (μ 0 3)) hx hb hG i_M hown hK hP 0 wM_M rfl 3 (by decide) (hG _ L_M_72) (fun _ h9 => h9) rfl d_m_advance_14 ?_
    refine lv_istore_n (lv' := [(2, .int (μ 0 3)), (0, .ref (b 0)), (1, .int (nI j))]) hx hb d_m_advance_17 rfl hl (by decide) rfl (fun ls hl => ?_)
    refine lv_iconst (v := 0) hx hb d_m_advance_18 (by decide) ?_
    refine lv_istore_n (lv' := [(3, .int 0), (2, .int (μ 0 3)), (0, .ref (b 0)), (1, .int (nI j))]) hx hb d_m_advance_19 rfl hl (by decide) rfl (fun ls hl => ?_)
    have loop : ∀ (n : Nat) (i : Nat) (μ1 : St) (k1 : Nat), (i + n = j) → (mOK μ1 k1) → (k1 ≤ k0 + 4 * i) → (advM n μ1 = advM j μ) → ∀ (H : Heap) (locs : List Loc) (ls : Array Slot), va_P D classes (wM b cb μ1) H → va_D A (wM b cb μ1) → va_S A s.heap H locs → lv_has ls 4 [(3, .int (nI i)), (2, .int (μ 0 3)), (1, .int (nI j)), (0, .ref (b 0))] → W p l e rm_m_advance s m args below meth c H locs 0 0 Q (F0 m 20 ls []) := by
      intro n
      induction n with
      | zero =>
        intro i μ1 k1 hi hO1 hk1 hrel H locs ls hP hD hS hl
        refine lv_iload_n hx hb d_m_advance_20 rfl (lv_at hl 0 rfl) ?_
        refine lv_iload_n hx hb d_m_advance_21 rfl (lv_at hl 2 rfl) ?_
        refine lv_icmp_ge (tgt := 35) hx hb d_m_advance_22 (by decide) (fun c_2 => ?_) (fun c_2 => absurd (nI_le (a := j) (b := i) (by omega) (by omega)) c_2)
        refine lv_aload_n hx hb d_m_advance_35 rfl (lv_at hl 3 rfl) ?_
        refine va_get (v := .int (μ1 0 3)) hx hb hG i_M hown hK hP 0 wM_M rfl 3 (by decide) (hG _ L_M_72) (fun _ h9 => h9) rfl d_m_advance_36 ?_
        refine lv_iload_n hx hb d_m_advance_39 rfl (lv_at hl 1 rfl) ?_
        refine lv_isub hx hb d_m_advance_40 ?_
        exact hret _ _ _ 41 ((μ1 0 3) - (μ 0 3)) μ1 hP hD hS rfl d_m_advance_41 (by have hrel : μ1 = _ := hrel; simp only [g_advance, c_1, hclj, c_2, ↓reduceIte]; rw [hrel]) (by have hrel : μ1 = _ := hrel; simp only [g_advance, c_1, hclj, c_2, ↓reduceIte]; rw [hrel])
      | succ n ih =>
        intro i μ1 k1 hi hO1 hk1 hrel H locs ls hP hD hS hl
        refine lv_iload_n hx hb d_m_advance_20 rfl (lv_at hl 0 rfl) ?_
        refine lv_iload_n hx hb d_m_advance_21 rfl (lv_at hl 2 rfl) ?_
        refine lv_icmp_ge (tgt := 35) hx hb d_m_advance_22 (by decide) (fun c_3 => absurd c_3 (nI_ge (a := i) (b := j) (by omega) (by omega))) (fun c_3 => ?_)
        refine lv_aload_n hx hb d_m_advance_25 rfl (lv_at hl 3 rfl) ?_
        refine k_cVv (rest := []) hx hb hml hown hG hK hN hA hP hD hS (c_m_tick l D b cb μ1 k1 hO1 (by omega)) ok_m_tick io_m_tick L_M_82 ⟨rfl, rfl, by decide, by decide⟩ 0 wM_M rfl rfl hl.1 rfl (Nat.le_of_ble_eq_true rfl) ⟨Nat.zero_le _, Nat.zero_le _⟩ d_m_advance_26 (fun H locs hP hD hS => ?_)
        obtain ⟨k2, hk2a, hk2b, hO2⟩ := tick_ok hO1
        refine lv_iinc (v := nI (i + 1)) (lv' := [(3, .int (nI (i + 1))), (2, .int (μ 0 3)), (1, .int (nI j)), (0, .ref (b 0))]) hx hb d_m_advance_29 hl (k := 0) rfl (nI_1 i) (by decide) rfl (fun ls hl => ?_)
        refine lv_goto (tgt := 20) hx hb d_m_advance_32 (by decide) ?_
        exact ih (i + 1) (g_tick μ1) k2 (by omega) hO2 (by omega) (by rw [← hrel]; simp only [advM, c_1, hclj, c_3, ↓reduceIte]) _ _ _ hP hD hS (lv_sub hl [0, 1, 2, 3] rfl)
    exact loop j 0 _ k0 (by omega) hO (by omega) rfl _ _ _ hP hD hS (lv_sub hl [0, 1, 3, 2] rfl)
  · refine lv_iconst (v := (-1)) hx hb d_m_advance_11 (by decide) ?_
    exact hret _ _ _ 12 (-1) μ hP hD hS rfl d_m_advance_12 (by simp only [g_advance, c_1, ↓reduceIte]) (by simp only [g_advance, c_1, ↓reduceIte])
set_option maxHeartbeats 4000000 in
set_option maxRecDepth 100000 in
theorem c_m_next (l : Launch) (D : va_G) (b : Nat → Nat) (cb : Nat → ClassId) (μ : St) (n0 : Int32) (k0 : Nat) (hO : mOK μ k0) (hk0 : k0 + 80000 < 2 ^ 30) : KI l D (tM cb) (wM b cb) rm_m_next y_m_next b_m_next 4 .int [.ref (b 0), .int n0] μ ((g_next μ n0).1) ((g_next μ n0).2) := by
  refine KI.of (by decide) (Nat.le_of_ble_eq_true rfl) ?_
  intro p e s m args below meth c A Q ls hx hb hml hown hG hK hN hA hP hD hS hl hret
  have hown : s.vm.findClass R_M = some m.cls := hown
  have hl : lv_has ls 4 [(0, .ref (b 0)), (1, .int n0)] := hl
  refine lv_iload_n hx hb d_m_next_0 rfl (lv_at hl 1 rfl) ?_
  refine lv_iconst (v := 0) hx hb d_m_next_1 (by decide) ?_
  refine lv_sipush (v := 20000) hx hb d_m_next_2 (by decide) ?_
  refine k_cS (rest := []) hx hb hml hown hG hK hN hA hP hD hS (c_m_isIn l D b cb μ n0 0 20000) ok_m_isIn so_m_isIn L_M_57 ⟨rfl, rfl, by decide, by decide⟩ rfl hl.1 rfl (Nat.le_of_ble_eq_true rfl) ⟨Nat.zero_le _, Nat.zero_le _⟩ d_m_next_5 (fun H locs hP hD hS => ?_)
  refine lv_if_ne (tgt := 13) hx hb d_m_next_8 (by decide) (fun c_1 => ?_) (fun c_1 => ?_)
  · obtain ⟨j, hj, rfl⟩ := isIn_in (n := 20000) (by decide) c_1
    have hclj : (nI j).toNatClampNeg = j := nI_clamp (by omega)
    refine lv_aload_n hx hb d_m_next_13 rfl (lv_at hl 0 rfl) ?_
    refine va_get (v := .int (μ 0 3)) hx hb hG i_M hown hK hP 0 wM_M rfl 3 (by decide) (hG _ L_M_72) (fun _ h9 => h9) rfl d_m_next_14 ?_
    refine lv_istore_n (lv' := [(2, .int (μ 0 3)), (0, .ref (b 0)), (1, .int (nI j))]) hx hb d_m_next_17 rfl hl (by decide) rfl (fun ls hl => ?_)
    refine lv_iconst (v := 0) hx hb d_m_next_18 (by decide) ?_
    refine lv_istore_n (lv' := [(3, .int 0), (2, .int (μ 0 3)), (0, .ref (b 0)), (1, .int (nI j))]) hx hb d_m_next_19 rfl hl (by decide) rfl (fun ls hl => ?_)
    have loop : ∀ (n : Nat) (i : Nat) (μ1 : St) (k1 : Nat), (i + n = j) → (mOK μ1 k1) → (k1 ≤ k0 + 4 * i) → (nxtM (μ 0 3) n i μ1 = nxtM (μ 0 3) j 0 μ) → ∀ (H : Heap) (locs : List Loc) (ls : Array Slot), va_P D classes (wM b cb μ1) H → va_D A (wM b cb μ1) → va_S A s.heap H locs → lv_has ls 4 [(3, .int (nI i)), (2, .int (μ 0 3)), (1, .int (nI j)), (0, .ref (b 0))] → W p l e rm_m_next s m args below meth c H locs 0 0 Q (F0 m 20 ls []) := by
      intro n
      induction n with
      | zero =>
        intro i μ1 k1 hi hO1 hk1 hrel H locs ls hP hD hS hl
        refine lv_iload_n hx hb d_m_next_20 rfl (lv_at hl 0 rfl) ?_
        refine lv_iload_n hx hb d_m_next_21 rfl (lv_at hl 2 rfl) ?_
        refine lv_icmp_ge (tgt := 43) hx hb d_m_next_22 (by decide) (fun c_2 => ?_) (fun c_2 => absurd (nI_le (a := j) (b := i) (by omega) (by omega)) c_2)
        refine lv_iload_n hx hb d_m_next_43 rfl (lv_at hl 0 rfl) ?_
        exact hret _ _ _ 44 (nI i) μ1 hP hD hS rfl d_m_next_44 (by simp only [g_next, c_1, hclj, c_2, ↓reduceIte]; rw [← hrel]; simp only [nxtM, c_1, hclj, c_2, ↓reduceIte]) (by simp only [g_next, c_1, hclj, c_2, ↓reduceIte]; rw [← hrel]; simp only [nxtM, c_1, hclj, c_2, ↓reduceIte])
      | succ n ih =>
        intro i μ1 k1 hi hO1 hk1 hrel H locs ls hP hD hS hl
        refine lv_iload_n hx hb d_m_next_20 rfl (lv_at hl 0 rfl) ?_
        refine lv_iload_n hx hb d_m_next_21 rfl (lv_at hl 2 rfl) ?_
        refine lv_icmp_ge (tgt := 43) hx hb d_m_next_22 (by decide) (fun c_3 => absurd c_3 (nI_ge (a := i) (b := j) (by omega) (by omega))) (fun c_3 => ?_)
        refine lv_aload_n hx hb d_m_next_25 rfl (lv_at hl 3 rfl) ?_
        refine va_get (v := .int (μ1 0 3)) hx hb hG i_M hown hK hP 0 wM_M rfl 3 (by decide) (hG _ L_M_72) (fun _ h9 => h9) rfl d_m_next_26 ?_
        refine lv_iload_n hx hb d_m_next_29 rfl (lv_at hl 1 rfl) ?_
        refine lv_icmp_ne (tgt := 43) hx hb d_m_next_30 (by decide) (fun c_4 => ?_) (fun c_4 => ?_)
        · refine lv_iload_n hx hb d_m_next_43 rfl (lv_at hl 0 rfl) ?_
          exact hret _ _ _ 44 (nI i) μ1 hP hD hS rfl d_m_next_44 (by simp only [g_next, c_1, hclj, c_3, c_4, ↓reduceIte]; rw [← hrel]; simp only [nxtM, c_1, hclj, c_3, c_4, ↓reduceIte]) (by simp only [g_next, c_1, hclj, c_3, c_4, ↓reduceIte]; rw [← hrel]; simp only [nxtM, c_1, hclj, c_3, c_4, ↓reduceIte])
        · refine lv_aload_n hx hb d_m_next_33 rfl (lv_at hl 3 rfl) ?_
          refine k_cVv (rest := []) hx hb hml hown hG hK hN hA hP hD hS (c_m_tick l D b cb μ1 k1 hO1 (by omega)) ok_m_tick io_m_tick L_M_82 ⟨rfl, rfl, by decide, by decide⟩ 0 wM_M rfl rfl hl.1 rfl (Nat.le_of_ble_eq_true rfl) ⟨Nat.zero_le _, Nat.zero_le _⟩ d_m_next_34 (fun H locs hP hD hS => ?_)
          obtain ⟨k2, hk2a, hk2b, hO2⟩ := tick_ok hO1
          refine lv_iinc (v := nI (i + 1)) (lv' := [(3, .int (nI (i + 1))), (2, .int (μ 0 3)), (1, .int (nI j)), (0, .ref (b 0))]) hx hb d_m_next_37 hl (k := 0) rfl (nI_1 i) (by decide) rfl (fun ls hl => ?_)
          refine lv_goto (tgt := 20) hx hb d_m_next_40 (by decide) ?_
          exact ih (i + 1) (g_tick μ1) k2 (by omega) hO2 (by omega) (by rw [← hrel]; simp only [nxtM, c_1, hclj, c_3, c_4, ↓reduceIte]) _ _ _ hP hD hS (lv_sub hl [0, 1, 2, 3] rfl)
    exact loop j 0 _ k0 (by omega) hO (by omega) rfl _ _ _ hP hD hS (lv_sub hl [0, 1, 3, 2] rfl)
  · refine lv_iconst (v := (-1)) hx hb d_m_next_11 (by decide) ?_
    exact hret _ _ _ 12 (-1) μ hP hD hS rfl d_m_next_12 (by simp only [g_next, c_1, ↓reduceIte]) (by simp only [g_next, c_1, ↓reduceIte])
set_option maxHeartbeats 4000000 in
set_option maxRecDepth 100000 in
theorem c_m_timer (l : Launch) (D : va_G) (b : Nat → Nat) (cb : Nat → ClassId) (μ : St) (t : Int32) (w : Int32) : KI l D (tM cb) (wM b cb) rm_m_timer y_m_timer b_m_timer 3 .int [.ref (b 0), .int t, .int w] μ (g_timer μ t w) μ := by
  refine KI.of (by decide) (Nat.le_of_ble_eq_true rfl) ?_
  intro p e s m args below meth c A Q ls hx hb hml hown hG hK hN hA hP hD hS hl hret
  have hown : s.vm.findClass R_M = some m.cls := hown
  have hl : lv_has ls 3 [(0, .ref (b 0)), (1, .int t), (2, .int w)] := hl
  refine lv_iload_n hx hb d_m_timer_0 rfl (lv_at hl 1 rfl) ?_
  refine lv_iconst (v := 0) hx hb d_m_timer_1 (by decide) ?_
  refine lv_bipush (v := 7) hx hb d_m_timer_2 (by decide) ?_
  refine k_cS (rest := []) hx hb hml hown hG hK hN hA hP hD hS (c_m_isIn l D b cb μ t 0 7) ok_m_isIn so_m_isIn L_M_57 ⟨rfl, rfl, by decide, by decide⟩ rfl hl.1 rfl (Nat.le_of_ble_eq_true rfl) ⟨Nat.zero_le _, Nat.zero_le _⟩ d_m_timer_4 (fun H locs hP hD hS => ?_)
  refine lv_if_ne (tgt := 12) hx hb d_m_timer_7 (by decide) (fun c_1 => ?_) (fun c_1 => ?_)
  · obtain ⟨j, hj, rfl⟩ := isIn_in (n := 7) (by decide) c_1
    have hclj : (nI j).toNatClampNeg = j := nI_clamp (by omega)
    refine lv_iload_n hx hb d_m_timer_12 rfl (lv_at hl 2 rfl) ?_
    rcases sw_cases w 8 (by decide) with s_2 | ⟨k_3, k_3_l, s_2⟩
    · refine lv_tableOut (tgt := 157) hx hb d_m_timer_13 s_2 (by decide) ?_
      refine lv_iconst (v := (-1)) hx hb d_m_timer_157 (by decide) ?_
      exact hret _ _ _ 158 (-1) μ hP hD hS rfl d_m_timer_158 (by simp only [g_timer, g_Tread, c_1, hclj, sw_o _ _ s_2 0 (by decide) (by decide), sw_o _ _ s_2 1 (by decide) (by decide), sw_o _ _ s_2 2 (by decide) (by decide), sw_o _ _ s_2 3 (by decide) (by decide), sw_o _ _ s_2 4 (by decide) (by decide), sw_o _ _ s_2 5 (by decide) (by decide), sw_o _ _ s_2 6 (by decide) (by decide), sw_o _ _ s_2 7 (by decide) (by decide), sw_o _ _ s_2 8 (by decide) (by decide), ↓reduceIte]) (rfl)
    · rcases (show k_3 = 0 ∨ k_3 = 1 ∨ k_3 = 2 ∨ k_3 = 3 ∨ k_3 = 4 ∨ k_3 = 5 ∨ k_3 = 6 ∨ k_3 = 7 ∨ k_3 = 8 by omega) with rfl | rfl | rfl | rfl | rfl | rfl | rfl | rfl | rfl
      · refine lv_tableIn (off := 51) (tgt := 64) hx hb d_m_timer_13 (by rw [s_2]; decide) (by rw [s_2]; decide) (by rw [s_2]; decide) (by decide) ?_
        refine lv_aload_n hx hb d_m_timer_64 rfl (lv_at hl 0 rfl) ?_
        refine va_get (v := .ref (b 5)) hx hb hG i_M hown hK hP 0 wM_M rfl 5 (by decide) (hG _ L_M_13) (fun _ h9 => h9) rfl d_m_timer_65 ?_
        refine lv_iload_n hx hb d_m_timer_68 rfl (lv_at hl 1 rfl) ?_
        refine m_ild hx hb hK hP wM_5 (j) hj (by decide) (rfl) d_m_timer_69 ?_
        exact hret _ _ _ 70 (μ 5 j) μ hP hD hS rfl d_m_timer_70 (by simp only [g_timer, g_Tread, c_1, hclj, s_2, sw_0_0, ↓reduceIte]) (rfl)
      · refine lv_tableIn (off := 58) (tgt := 71) hx hb d_m_timer_13 (by rw [s_2]; decide) (by rw [s_2]; decide) (by rw [s_2]; decide) (by decide) ?_
        refine lv_aload_n hx hb d_m_timer_71 rfl (lv_at hl 0 rfl) ?_
        refine va_get (v := .ref (b 4)) hx hb hG i_M hown hK hP 0 wM_M rfl 4 (by decide) (hG _ L_M_7) (fun _ h9 => h9) rfl d_m_timer_72 ?_
        refine lv_iload_n hx hb d_m_timer_75 rfl (lv_at hl 1 rfl) ?_
        refine m_ild hx hb hK hP wM_4 (j) hj (by decide) (rfl) d_m_timer_76 ?_
        exact hret _ _ _ 77 (μ 4 j) μ hP hD hS rfl d_m_timer_77 (by simp only [g_timer, g_Tread, c_1, hclj, s_2, sw_1_0, sw_1_1, ↓reduceIte]) (rfl)
      · refine lv_tableIn (off := 65) (tgt := 78) hx hb d_m_timer_13 (by rw [s_2]; decide) (by rw [s_2]; decide) (by rw [s_2]; decide) (by decide) ?_
        refine lv_aload_n hx hb d_m_timer_78 rfl (lv_at hl 0 rfl) ?_
        refine va_get (v := .ref (b 6)) hx hb hG i_M hown hK hP 0 wM_M rfl 6 (by decide) (hG _ L_M_16) (fun _ h9 => h9) rfl d_m_timer_79 ?_
        refine lv_iload_n hx hb d_m_timer_82 rfl (lv_at hl 1 rfl) ?_
        refine m_ild hx hb hK hP wM_6 (j) hj (by decide) (rfl) d_m_timer_83 ?_
        exact hret _ _ _ 84 (μ 6 j) μ hP hD hS rfl d_m_timer_84 (by simp only [g_timer, g_Tread, c_1, hclj, s_2, sw_2_0, sw_2_1, sw_2_2, ↓reduceIte]) (rfl)
      · refine lv_tableIn (off := 72) (tgt := 85) hx hb d_m_timer_13 (by rw [s_2]; decide) (by rw [s_2]; decide) (by rw [s_2]; decide) (by decide) ?_
        refine lv_aload_n hx hb d_m_timer_85 rfl (lv_at hl 0 rfl) ?_
        refine va_get (v := .ref (b 8)) hx hb hG i_M hown hK hP 0 wM_M rfl 8 (by decide) (hG _ L_M_23) (fun _ h9 => h9) rfl d_m_timer_86 ?_
        refine lv_iload_n hx hb d_m_timer_89 rfl (lv_at hl 1 rfl) ?_
        refine m_zld hx hb hK hP wM_8 (j) hj (by decide) (rfl) d_m_timer_90 ?_
        refine lv_if_eq (tgt := 98) hx hb d_m_timer_91 (by decide) (fun c_4 => ?_) (fun c_4 => ?_)
        · refine lv_iconst (v := 0) hx hb d_m_timer_98 (by decide) ?_
          exact hret _ _ _ 99 0 μ hP hD hS rfl d_m_timer_99 (by simp only [g_timer, g_Tread, c_1, hclj, s_2, c_4, sw_3_0, sw_3_1, sw_3_2, sw_3_3, ↓reduceIte]) (rfl)
        · refine lv_iconst (v := 1) hx hb d_m_timer_94 (by decide) ?_
          refine lv_goto (tgt := 99) hx hb d_m_timer_95 (by decide) ?_
          exact hret _ _ _ 99 1 μ hP hD hS rfl d_m_timer_99 (by simp only [g_timer, g_Tread, c_1, hclj, s_2, c_4, sw_3_0, sw_3_1, sw_3_2, sw_3_3, ↓reduceIte]) (rfl)
      · refine lv_tableIn (off := 87) (tgt := 100) hx hb d_m_timer_13 (by rw [s_2]; decide) (by rw [s_2]; decide) (by rw [s_2]; decide) (by decide) ?_
        refine lv_aload_n hx hb d_m_timer_100 rfl (lv_at hl 0 rfl) ?_
        refine va_get (v := .ref (b 7)) hx hb hG i_M hown hK hP 0 wM_M rfl 7 (by decide) (hG _ L_M_19) (fun _ h9 => h9) rfl d_m_timer_101 ?_
        refine lv_iload_n hx hb d_m_timer_104 rfl (lv_at hl 1 rfl) ?_
        refine m_zld hx hb hK hP wM_7 (j) hj (by decide) (rfl) d_m_timer_105 ?_
        refine lv_if_eq (tgt := 113) hx hb d_m_timer_106 (by decide) (fun c_5 => ?_) (fun c_5 => ?_)
        · refine lv_iconst (v := 0) hx hb d_m_timer_113 (by decide) ?_
          exact hret _ _ _ 114 0 μ hP hD hS rfl d_m_timer_114 (by simp only [g_timer, g_Tread, c_1, hclj, s_2, c_5, sw_4_0, sw_4_1, sw_4_2, sw_4_3, sw_4_4, ↓reduceIte]) (rfl)
        · refine lv_iconst (v := 1) hx hb d_m_timer_109 (by decide) ?_
          refine lv_goto (tgt := 114) hx hb d_m_timer_110 (by decide) ?_
          exact hret _ _ _ 114 1 μ hP hD hS rfl d_m_timer_114 (by simp only [g_timer, g_Tread, c_1, hclj, s_2, c_5, sw_4_0, sw_4_1, sw_4_2, sw_4_3, sw_4_4, ↓reduceIte]) (rfl)
      · refine lv_tableIn (off := 102) (tgt := 115) hx hb d_m_timer_13 (by rw [s_2]; decide) (by rw [s_2]; decide) (by rw [s_2]; decide) (by decide) ?_
        refine lv_aload_n hx hb d_m_timer_115 rfl (lv_at hl 0 rfl) ?_
        refine va_get (v := .ref (b 9)) hx hb hG i_M hown hK hP 0 wM_M rfl 9 (by decide) (hG _ L_M_26) (fun _ h9 => h9) rfl d_m_timer_116 ?_
        refine lv_iconst (v := 4) hx hb d_m_timer_119 (by decide) ?_
        refine lv_iload_n hx hb d_m_timer_120 rfl (lv_at hl 1 rfl) ?_
        refine lv_imul hx hb d_m_timer_121 ?_
        refine m_ild hx hb hK hP wM_9 (4 * j) (show 4 * j < 32 by have := hj; omega) (by decide) (m_ix0 j) d_m_timer_122 ?_
        exact hret _ _ _ 123 (μ 9 (4 * j)) μ hP hD hS rfl d_m_timer_123 (by simp only [g_timer, g_Tread, c_1, hclj, s_2, sw_5_0, sw_5_1, sw_5_2, sw_5_3, sw_5_4, sw_5_5, ↓reduceIte]) (rfl)
      · refine lv_tableIn (off := 111) (tgt := 124) hx hb d_m_timer_13 (by rw [s_2]; decide) (by rw [s_2]; decide) (by rw [s_2]; decide) (by decide) ?_
        refine lv_aload_n hx hb d_m_timer_124 rfl (lv_at hl 0 rfl) ?_
        refine va_get (v := .ref (b 9)) hx hb hG i_M hown hK hP 0 wM_M rfl 9 (by decide) (hG _ L_M_26) (fun _ h9 => h9) rfl d_m_timer_125 ?_
        refine lv_iconst (v := 4) hx hb d_m_timer_128 (by decide) ?_
        refine lv_iload_n hx hb d_m_timer_129 rfl (lv_at hl 1 rfl) ?_
        refine lv_imul hx hb d_m_timer_130 ?_
        refine lv_iconst (v := 1) hx hb d_m_timer_131 (by decide) ?_
        refine lv_iadd hx hb d_m_timer_132 ?_
        refine m_ild hx hb hK hP wM_9 (4 * j + 1) (show 4 * j + 1 < 32 by have := hj; omega) (by decide) (m_ix j 1) d_m_timer_133 ?_
        exact hret _ _ _ 134 (μ 9 (4 * j + 1)) μ hP hD hS rfl d_m_timer_134 (by simp only [g_timer, g_Tread, c_1, hclj, s_2, sw_6_0, sw_6_1, sw_6_2, sw_6_3, sw_6_4, sw_6_5, sw_6_6, ↓reduceIte]) (rfl)
      · refine lv_tableIn (off := 122) (tgt := 135) hx hb d_m_timer_13 (by rw [s_2]; decide) (by rw [s_2]; decide) (by rw [s_2]; decide) (by decide) ?_
        refine lv_aload_n hx hb d_m_timer_135 rfl (lv_at hl 0 rfl) ?_
        refine va_get (v := .ref (b 9)) hx hb hG i_M hown hK hP 0 wM_M rfl 9 (by decide) (hG _ L_M_26) (fun _ h9 => h9) rfl d_m_timer_136 ?_
        refine lv_iconst (v := 4) hx hb d_m_timer_139 (by decide) ?_
        refine lv_iload_n hx hb d_m_timer_140 rfl (lv_at hl 1 rfl) ?_
        refine lv_imul hx hb d_m_timer_141 ?_
        refine lv_iconst (v := 2) hx hb d_m_timer_142 (by decide) ?_
        refine lv_iadd hx hb d_m_timer_143 ?_
        refine m_ild hx hb hK hP wM_9 (4 * j + 2) (show 4 * j + 2 < 32 by have := hj; omega) (by decide) (m_ix j 2) d_m_timer_144 ?_
        exact hret _ _ _ 145 (μ 9 (4 * j + 2)) μ hP hD hS rfl d_m_timer_145 (by simp only [g_timer, g_Tread, c_1, hclj, s_2, sw_7_0, sw_7_1, sw_7_2, sw_7_3, sw_7_4, sw_7_5, sw_7_6, sw_7_7, ↓reduceIte]) (rfl)
      · refine lv_tableIn (off := 133) (tgt := 146) hx hb d_m_timer_13 (by rw [s_2]; decide) (by rw [s_2]; decide) (by rw [s_2]; decide) (by decide) ?_
        refine lv_aload_n hx hb d_m_timer_146 rfl (lv_at hl 0 rfl) ?_
        refine va_get (v := .ref (b 9)) hx hb hG i_M hown hK hP 0 wM_M rfl 9 (by decide) (hG _ L_M_26) (fun _ h9 => h9) rfl d_m_timer_147 ?_
        refine lv_iconst (v := 4) hx hb d_m_timer_150 (by decide) ?_
        refine lv_iload_n hx hb d_m_timer_151 rfl (lv_at hl 1 rfl) ?_
        refine lv_imul hx hb d_m_timer_152 ?_
        refine lv_iconst (v := 3) hx hb d_m_timer_153 (by decide) ?_
        refine lv_iadd hx hb d_m_timer_154 ?_
        refine m_ild hx hb hK hP wM_9 (4 * j + 3) (show 4 * j + 3 < 32 by have := hj; omega) (by decide) (m_ix j 3) d_m_timer_155 ?_
        exact hret _ _ _ 156 (μ 9 (4 * j + 3)) μ hP hD hS rfl d_m_timer_156 (by simp only [g_timer, g_Tread, c_1, hclj, s_2, sw_8_0, sw_8_1, sw_8_2, sw_8_3, sw_8_4, sw_8_5, sw_8_6, sw_8_7, sw_8_8, ↓reduceIte]) (rfl)
  · refine lv_iconst (v := (-1)) hx hb d_m_timer_10 (by decide) ?_
    exact hret _ _ _ 11 (-1) μ hP hD hS rfl d_m_timer_11 (by simp only [g_timer, g_Tread, c_1, ↓reduceIte]) (rfl)
set_option maxHeartbeats 4000000 in
set_option maxRecDepth 100000 in
theorem c_m_gateOf (l : Launch) (D : va_G) (b : Nat → Nat) (cb : Nat → ClassId) (μ : St) (g : Int32) (w : Int32) : KI l D (tM cb) (wM b cb) rm_m_gateOf y_m_gateOf b_m_gateOf 3 .int [.ref (b 0), .int g, .int w] μ (g_gateOf μ g w) μ := by
  refine KI.of (by decide) (Nat.le_of_ble_eq_true rfl) ?_
  intro p e s m args below meth c A Q ls hx hb hml hown hG hK hN hA hP hD hS hl hret
  have hown : s.vm.findClass R_M = some m.cls := hown
  have hl : lv_has ls 3 [(0, .ref (b 0)), (1, .int g), (2, .int w)] := hl
  refine lv_iload_n hx hb d_m_gateOf_0 rfl (lv_at hl 1 rfl) ?_
  refine lv_iconst (v := 0) hx hb d_m_gateOf_1 (by decide) ?_
  refine lv_iconst (v := 3) hx hb d_m_gateOf_2 (by decide) ?_
  refine k_cS (rest := []) hx hb hml hown hG hK hN hA hP hD hS (c_m_isIn l D b cb μ g 0 3) ok_m_isIn so_m_isIn L_M_57 ⟨rfl, rfl, by decide, by decide⟩ rfl hl.1 rfl (Nat.le_of_ble_eq_true rfl) ⟨Nat.zero_le _, Nat.zero_le _⟩ d_m_gateOf_3 (fun H locs hP hD hS => ?_)
  refine lv_if_ne (tgt := 11) hx hb d_m_gateOf_6 (by decide) (fun c_1 => ?_) (fun c_1 => ?_)
  · obtain ⟨j, hj, rfl⟩ := isIn_in (n := 3) (by decide) c_1
    have hclj : (nI j).toNatClampNeg = j := nI_clamp (by omega)
    refine lv_iload_n hx hb d_m_gateOf_11 rfl (lv_at hl 2 rfl) ?_
    rcases sw_cases w 6 (by decide) with s_2 | ⟨k_3, k_3_l, s_2⟩
    · refine lv_tableOut (tgt := 112) hx hb d_m_gateOf_12 s_2 (by decide) ?_
      refine lv_iconst (v := (-1)) hx hb d_m_gateOf_112 (by decide) ?_
      exact hret _ _ _ 113 (-1) μ hP hD hS rfl d_m_gateOf_113 (by simp only [g_gateOf, g_Gread, c_1, hclj, sw_o _ _ s_2 0 (by decide) (by decide), sw_o _ _ s_2 1 (by decide) (by decide), sw_o _ _ s_2 2 (by decide) (by decide), sw_o _ _ s_2 3 (by decide) (by decide), sw_o _ _ s_2 4 (by decide) (by decide), sw_o _ _ s_2 5 (by decide) (by decide), sw_o _ _ s_2 6 (by decide) (by decide), ↓reduceIte]) (rfl)
    · rcases (show k_3 = 0 ∨ k_3 = 1 ∨ k_3 = 2 ∨ k_3 = 3 ∨ k_3 = 4 ∨ k_3 = 5 ∨ k_3 = 6 by omega) with rfl | rfl | rfl | rfl | rfl | rfl | rfl
      · refine lv_tableIn (off := 44) (tgt := 56) hx hb d_m_gateOf_12 (by rw [s_2]; decide) (by rw [s_2]; decide) (by rw [s_2]; decide) (by decide) ?_
        refine lv_aload_n hx hb d_m_gateOf_56 rfl (lv_at hl 0 rfl) ?_
        refine lv_iload_n hx hb d_m_gateOf_57 rfl (lv_at hl 1 rfl) ?_
        refine k_cV (rest := []) hx hb hml hown hG hK hN hA hP hD hS (c_m_asks l D b cb μ j hj) ok_m_asks io_m_asks L_M_65 ⟨rfl, rfl, by decide, by decide⟩ 0 wM_M rfl rfl hl.1 rfl (Nat.le_of_ble_eq_true rfl) ⟨Nat.zero_le _, Nat.zero_le _⟩ d_m_gateOf_58 (fun H locs hP hD hS => ?_)
        refine lv_if_eq (tgt := 68) hx hb d_m_gateOf_61 (by decide) (fun c_4 => ?_) (fun c_4 => ?_)
        · refine lv_iconst (v := 0) hx hb d_m_gateOf_68 (by decide) ?_
          exact hret _ _ _ 69 0 μ hP hD hS rfl d_m_gateOf_69 (by simp only [g_gateOf, g_Gread, c_1, hclj, s_2, c_4, sw_0_0, ↓reduceIte]) (rfl)
        · refine lv_iconst (v := 1) hx hb d_m_gateOf_64 (by decide) ?_
          refine lv_goto (tgt := 69) hx hb d_m_gateOf_65 (by decide) ?_
          exact hret _ _ _ 69 1 μ hP hD hS rfl d_m_gateOf_69 (by simp only [g_gateOf, g_Gread, c_1, hclj, s_2, c_4, sw_0_0, ↓reduceIte]) (rfl)
      · refine lv_tableIn (off := 58) (tgt := 70) hx hb d_m_gateOf_12 (by rw [s_2]; decide) (by rw [s_2]; decide) (by rw [s_2]; decide) (by decide) ?_
        refine lv_aload_n hx hb d_m_gateOf_70 rfl (lv_at hl 0 rfl) ?_
        refine va_get (v := .ref (b 12)) hx hb hG i_M hown hK hP 0 wM_M rfl 12 (by decide) (hG _ L_M_35) (fun _ h9 => h9) rfl d_m_gateOf_71 ?_
        refine lv_iload_n hx hb d_m_gateOf_74 rfl (lv_at hl 1 rfl) ?_
        refine m_ild hx hb hK hP wM_12 (j) hj (by decide) (rfl) d_m_gateOf_75 ?_
        exact hret _ _ _ 76 (μ 12 j) μ hP hD hS rfl d_m_gateOf_76 (by simp only [g_gateOf, g_Gread, c_1, hclj, s_2, sw_1_0, sw_1_1, ↓reduceIte]) (rfl)
      · refine lv_tableIn (off := 65) (tgt := 77) hx hb d_m_gateOf_12 (by rw [s_2]; decide) (by rw [s_2]; decide) (by rw [s_2]; decide) (by decide) ?_
        refine lv_aload_n hx hb d_m_gateOf_77 rfl (lv_at hl 0 rfl) ?_
        refine va_get (v := .ref (b 10)) hx hb hG i_M hown hK hP 0 wM_M rfl 10 (by decide) (hG _ L_M_29) (fun _ h9 => h9) rfl d_m_gateOf_78 ?_
        refine lv_iload_n hx hb d_m_gateOf_81 rfl (lv_at hl 1 rfl) ?_
        refine m_ild hx hb hK hP wM_10 (j) hj (by decide) (rfl) d_m_gateOf_82 ?_
        exact hret _ _ _ 83 (μ 10 j) μ hP hD hS rfl d_m_gateOf_83 (by simp only [g_gateOf, g_Gread, c_1, hclj, s_2, sw_2_0, sw_2_1, sw_2_2, ↓reduceIte]) (rfl)
      · refine lv_tableIn (off := 72) (tgt := 84) hx hb d_m_gateOf_12 (by rw [s_2]; decide) (by rw [s_2]; decide) (by rw [s_2]; decide) (by decide) ?_
        refine lv_aload_n hx hb d_m_gateOf_84 rfl (lv_at hl 0 rfl) ?_
        refine va_get (v := .ref (b 11)) hx hb hG i_M hown hK hP 0 wM_M rfl 11 (by decide) (hG _ L_M_32) (fun _ h9 => h9) rfl d_m_gateOf_85 ?_
        refine lv_iload_n hx hb d_m_gateOf_88 rfl (lv_at hl 1 rfl) ?_
        refine m_ild hx hb hK hP wM_11 (j) hj (by decide) (rfl) d_m_gateOf_89 ?_
        exact hret _ _ _ 90 (μ 11 j) μ hP hD hS rfl d_m_gateOf_90 (by simp only [g_gateOf, g_Gread, c_1, hclj, s_2, sw_3_0, sw_3_1, sw_3_2, sw_3_3, ↓reduceIte]) (rfl)
      · refine lv_tableIn (off := 79) (tgt := 91) hx hb d_m_gateOf_12 (by rw [s_2]; decide) (by rw [s_2]; decide) (by rw [s_2]; decide) (by decide) ?_
        refine lv_aload_n hx hb d_m_gateOf_91 rfl (lv_at hl 0 rfl) ?_
        refine va_get (v := .ref (b 14)) hx hb hG i_M hown hK hP 0 wM_M rfl 14 (by decide) (hG _ L_M_41) (fun _ h9 => h9) rfl d_m_gateOf_92 ?_
        refine lv_iload_n hx hb d_m_gateOf_95 rfl (lv_at hl 1 rfl) ?_
        refine m_ild hx hb hK hP wM_14 (j) hj (by decide) (rfl) d_m_gateOf_96 ?_
        exact hret _ _ _ 97 (μ 14 j) μ hP hD hS rfl d_m_gateOf_97 (by simp only [g_gateOf, g_Gread, c_1, hclj, s_2, sw_4_0, sw_4_1, sw_4_2, sw_4_3, sw_4_4, ↓reduceIte]) (rfl)
      · refine lv_tableIn (off := 86) (tgt := 98) hx hb d_m_gateOf_12 (by rw [s_2]; decide) (by rw [s_2]; decide) (by rw [s_2]; decide) (by decide) ?_
        refine lv_aload_n hx hb d_m_gateOf_98 rfl (lv_at hl 0 rfl) ?_
        refine va_get (v := .ref (b 15)) hx hb hG i_M hown hK hP 0 wM_M rfl 15 (by decide) (hG _ L_M_44) (fun _ h9 => h9) rfl d_m_gateOf_99 ?_
        refine lv_iload_n hx hb d_m_gateOf_102 rfl (lv_at hl 1 rfl) ?_
        refine m_ild hx hb hK hP wM_15 (j) hj (by decide) (rfl) d_m_gateOf_103 ?_
        exact hret _ _ _ 104 (μ 15 j) μ hP hD hS rfl d_m_gateOf_104 (by simp only [g_gateOf, g_Gread, c_1, hclj, s_2, sw_5_0, sw_5_1, sw_5_2, sw_5_3, sw_5_4, sw_5_5, ↓reduceIte]) (rfl)
      · refine lv_tableIn (off := 93) (tgt := 105) hx hb d_m_gateOf_12 (by rw [s_2]; decide) (by rw [s_2]; decide) (by rw [s_2]; decide) (by decide) ?_
        refine lv_aload_n hx hb d_m_gateOf_105 rfl (lv_at hl 0 rfl) ?_
        refine va_get (v := .ref (b 16)) hx hb hG i_M hown hK hP 0 wM_M rfl 16 (by decide) (hG _ L_M_47) (fun _ h9 => h9) rfl d_m_gateOf_106 ?_
        refine lv_iload_n hx hb d_m_gateOf_109 rfl (lv_at hl 1 rfl) ?_
        refine m_ild hx hb hK hP wM_16 (j) hj (by decide) (rfl) d_m_gateOf_110 ?_
        exact hret _ _ _ 111 (μ 16 j) μ hP hD hS rfl d_m_gateOf_111 (by simp only [g_gateOf, g_Gread, c_1, hclj, s_2, sw_6_0, sw_6_1, sw_6_2, sw_6_3, sw_6_4, sw_6_5, sw_6_6, ↓reduceIte]) (rfl)
  · refine lv_iconst (v := (-1)) hx hb d_m_gateOf_9 (by decide) ?_
    exact hret _ _ _ 10 (-1) μ hP hD hS rfl d_m_gateOf_10 (by simp only [g_gateOf, g_Gread, c_1, ↓reduceIte]) (rfl)
set_option maxHeartbeats 4000000 in
set_option maxRecDepth 100000 in
theorem c_m_look (l : Launch) (D : va_G) (b : Nat → Nat) (cb : Nat → ClassId) (μ : St) (w : Int32) : KI l D (tM cb) (wM b cb) rm_m_look y_m_look b_m_look 4 .int [.ref (b 0), .int w] μ (g_look μ w) μ := by
  refine KI.of (by decide) (Nat.le_of_ble_eq_true rfl) ?_
  intro p e s m args below meth c A Q ls hx hb hml hown hG hK hN hA hP hD hS hl hret
  have hown : s.vm.findClass R_M = some m.cls := hown
  have hl : lv_has ls 4 [(0, .ref (b 0)), (1, .int w)] := hl
  refine lv_iload_n hx hb d_m_look_0 rfl (lv_at hl 1 rfl) ?_
  refine lv_if_ne (tgt := 9) hx hb d_m_look_1 (by decide) (fun c_1 => ?_) (fun c_1 => ?_)
  · refine lv_iload_n hx hb d_m_look_9 rfl (lv_at hl 1 rfl) ?_
    refine lv_iconst (v := 1) hx hb d_m_look_10 (by decide) ?_
    refine lv_icmp_ne (tgt := 19) hx hb d_m_look_11 (by decide) (fun c_2 => ?_) (fun c_2 => ?_)
    · refine lv_iload_n hx hb d_m_look_19 rfl (lv_at hl 1 rfl) ?_
      refine lv_iconst (v := 2) hx hb d_m_look_20 (by decide) ?_
      refine lv_icmp_ne (tgt := 29) hx hb d_m_look_21 (by decide) (fun c_3 => ?_) (fun c_3 => ?_)
      · refine lv_iload_n hx hb d_m_look_29 rfl (lv_at hl 1 rfl) ?_
        refine lv_iconst (v := 3) hx hb d_m_look_30 (by decide) ?_
        refine lv_icmp_eq (tgt := 36) hx hb d_m_look_31 (by decide) (fun c_4 => ?_) (fun c_4 => ?_)
        · refine lv_iconst (v := 0) hx hb d_m_look_36 (by decide) ?_
          refine lv_istore_n (lv' := [(2, .int 0), (0, .ref (b 0)), (1, .int w)]) hx hb d_m_look_37 rfl hl (by decide) rfl (fun ls hl => ?_)
          refine lv_iconst (v := 0) hx hb d_m_look_38 (by decide) ?_
          refine lv_istore_n (lv' := [(3, .int 0), (2, .int 0), (0, .ref (b 0)), (1, .int w)]) hx hb d_m_look_39 rfl hl (by decide) rfl (fun ls hl => ?_)
          have loop : ∀ (n : Nat) (t : Nat) (x : Int32), (t + n = 8) → (mnL μ n t x = mnL μ 8 0 0) → ∀ (H : Heap) (locs : List Loc) (ls : Array Slot), va_P D classes (wM b cb μ) H → va_D A (wM b cb μ) → va_S A s.heap H locs → lv_has ls 4 [(3, .int (nI t)), (2, .int x), (1, .int w), (0, .ref (b 0))] → W p l e rm_m_look s m args below meth c H locs 0 0 Q (F0 m 40 ls []) := by
            intro n
            induction n with
            | zero =>
              intro t x ht hrel H locs ls hP hD hS hl
              refine lv_iload_n hx hb d_m_look_40 rfl (lv_at hl 0 rfl) ?_
              refine lv_bipush (v := 8) hx hb d_m_look_41 (by decide) ?_
              refine lv_icmp_ge (tgt := 91) hx hb d_m_look_43 (by decide) (fun c_5 => ?_) (fun c_5 => absurd (nI_le (a := 8) (b := t) (by omega) (by omega)) c_5)
              refine lv_iload_n hx hb d_m_look_91 rfl (lv_at hl 1 rfl) ?_
              exact hret _ _ _ 92 x μ hP hD hS rfl d_m_look_92 (by have hrel : x = _ := hrel; simp only [g_look, lit_1_0, lit_2_0, lit_2_1, lit_3_0, lit_3_1, lit_3_2, c_1, c_2, c_3, c_4, c_5, ↓reduceIte]; exact hrel) (rfl)
            | succ n ih =>
              intro t x ht hrel H locs ls hP hD hS hl
              refine lv_iload_n hx hb d_m_look_40 rfl (lv_at hl 0 rfl) ?_
              refine lv_bipush (v := 8) hx hb d_m_look_41 (by decide) ?_
              refine lv_icmp_ge (tgt := 91) hx hb d_m_look_43 (by decide) (fun c_6 => absurd c_6 (nI_ge (a := t) (b := 8) (by omega) (by omega))) (fun c_6 => ?_)
              refine lv_aload_n hx hb d_m_look_46 rfl (lv_at hl 3 rfl) ?_
              refine va_get (v := .ref (b 8)) hx hb hG i_M hown hK hP 0 wM_M rfl 8 (by decide) (hG _ L_M_23) (fun _ h9 => h9) rfl d_m_look_47 ?_
              refine lv_iload_n hx hb d_m_look_50 rfl (lv_at hl 0 rfl) ?_
              refine m_zld hx hb hK hP wM_8 (t) (show t < 8 by omega) (by decide) (rfl) d_m_look_51 ?_
              refine lv_if_eq (tgt := 85) hx hb d_m_look_52 (by decide) (fun c_7 => ?_) (fun c_7 => ?_)
              · refine lv_iinc (v := nI (t + 1)) (lv' := [(3, .int (nI (t + 1))), (2, .int x), (1, .int w), (0, .ref (b 0))]) hx hb d_m_look_85 hl (k := 0) rfl (nI_1 t) (by decide) rfl (fun ls hl => ?_)
                refine lv_goto (tgt := 40) hx hb d_m_look_88 (by decide) ?_
                exact ih (t + 1) x (by omega) (by rw [← hrel]; simp only [mnL, smN, c_1, c_2, c_3, c_4, c_6, c_7, ↓reduceIte]) _ _ _ hP hD hS (lv_sub hl [0, 1, 2, 3] rfl)
              · refine lv_aload_n hx hb d_m_look_55 rfl (lv_at hl 3 rfl) ?_
                refine va_get (v := .ref (b 6)) hx hb hG i_M hown hK hP 0 wM_M rfl 6 (by decide) (hG _ L_M_16) (fun _ h9 => h9) rfl d_m_look_56 ?_
                refine lv_iload_n hx hb d_m_look_59 rfl (lv_at hl 0 rfl) ?_
                refine m_ild hx hb hK hP wM_6 (t) (show t < 8 by omega) (by decide) (rfl) d_m_look_60 ?_
                refine lv_if_ne (tgt := 85) hx hb d_m_look_61 (by decide) (fun c_8 => ?_) (fun c_8 => ?_)
                · refine lv_iinc (v := nI (t + 1)) (lv' := [(3, .int (nI (t + 1))), (2, .int x), (1, .int w), (0, .ref (b 0))]) hx hb d_m_look_85 hl (k := 0) rfl (nI_1 t) (by decide) rfl (fun ls hl => ?_)
                  refine lv_goto (tgt := 40) hx hb d_m_look_88 (by decide) ?_
                  exact ih (t + 1) x (by omega) (by rw [← hrel]; simp only [mnL, smN, c_1, c_2, c_3, c_4, c_6, c_7, c_8, ↓reduceIte]) _ _ _ hP hD hS (lv_sub hl [0, 1, 2, 3] rfl)
                · refine lv_iload_n hx hb d_m_look_64 rfl (lv_at hl 1 rfl) ?_
                  refine lv_if_eq (tgt := 78) hx hb d_m_look_65 (by decide) (fun c_9 => ?_) (fun c_9 => ?_)
                  · refine lv_aload_n hx hb d_m_look_78 rfl (lv_at hl 3 rfl) ?_
                    refine va_get (v := .ref (b 5)) hx hb hG i_M hown hK hP 0 wM_M rfl 5 (by decide) (hG _ L_M_13) (fun _ h9 => h9) rfl d_m_look_79 ?_
                    refine lv_iload_n hx hb d_m_look_82 rfl (lv_at hl 0 rfl) ?_
                    refine m_ild hx hb hK hP wM_5 (t) (show t < 8 by omega) (by decide) (rfl) d_m_look_83 ?_
                    refine lv_istore_n (lv' := [(2, .int (μ 5 t)), (3, .int (nI t)), (1, .int w), (0, .ref (b 0))]) hx hb d_m_look_84 rfl hl (by decide) rfl (fun ls hl => ?_)
                    refine lv_iinc (v := nI (t + 1)) (lv' := [(3, .int (nI (t + 1))), (2, .int (μ 5 t)), (1, .int w), (0, .ref (b 0))]) hx hb d_m_look_85 hl (k := 1) rfl (nI_1 t) (by decide) rfl (fun ls hl => ?_)
                    refine lv_goto (tgt := 40) hx hb d_m_look_88 (by decide) ?_
                    exact ih (t + 1) (μ 5 t) (by omega) (by rw [← hrel]; simp only [mnL, smN, c_1, c_2, c_3, c_4, c_6, c_7, c_8, c_9, ↓reduceIte]) _ _ _ hP hD hS (lv_sub hl [0, 1, 2, 3] rfl)
                  · refine lv_aload_n hx hb d_m_look_68 rfl (lv_at hl 3 rfl) ?_
                    refine va_get (v := .ref (b 5)) hx hb hG i_M hown hK hP 0 wM_M rfl 5 (by decide) (hG _ L_M_13) (fun _ h9 => h9) rfl d_m_look_69 ?_
                    refine lv_iload_n hx hb d_m_look_72 rfl (lv_at hl 0 rfl) ?_
                    refine m_ild hx hb hK hP wM_5 (t) (show t < 8 by omega) (by decide) (rfl) d_m_look_73 ?_
                    refine lv_iload_n hx hb d_m_look_74 rfl (lv_at hl 1 rfl) ?_
                    refine lv_icmp_ge (tgt := 85) hx hb d_m_look_75 (by decide) (fun c_10 => ?_) (fun c_10 => ?_)
                    · refine lv_iinc (v := nI (t + 1)) (lv' := [(3, .int (nI (t + 1))), (2, .int x), (1, .int w), (0, .ref (b 0))]) hx hb d_m_look_85 hl (k := 0) rfl (nI_1 t) (by decide) rfl (fun ls hl => ?_)
                      refine lv_goto (tgt := 40) hx hb d_m_look_88 (by decide) ?_
                      exact ih (t + 1) x (by omega) (by rw [← hrel]; simp only [mnL, smN, c_1, c_2, c_3, c_4, c_6, c_7, c_8, c_9, c_10, ↓reduceIte]) _ _ _ hP hD hS (lv_sub hl [0, 1, 2, 3] rfl)
                    · refine lv_aload_n hx hb d_m_look_78 rfl (lv_at hl 3 rfl) ?_
                      refine va_get (v := .ref (b 5)) hx hb hG i_M hown hK hP 0 wM_M rfl 5 (by decide) (hG _ L_M_13) (fun _ h9 => h9) rfl d_m_look_79 ?_
                      refine lv_iload_n hx hb d_m_look_82 rfl (lv_at hl 0 rfl) ?_
                      refine m_ild hx hb hK hP wM_5 (t) (show t < 8 by omega) (by decide) (rfl) d_m_look_83 ?_
                      refine lv_istore_n (lv' := [(2, .int (μ 5 t)), (3, .int (nI t)), (1, .int w), (0, .ref (b 0))]) hx hb d_m_look_84 rfl hl (by decide) rfl (fun ls hl => ?_)
                      refine lv_iinc (v := nI (t + 1)) (lv' := [(3, .int (nI (t + 1))), (2, .int (μ 5 t)), (1, .int w), (0, .ref (b 0))]) hx hb d_m_look_85 hl (k := 1) rfl (nI_1 t) (by decide) rfl (fun ls hl => ?_)
                      refine lv_goto (tgt := 40) hx hb d_m_look_88 (by decide) ?_
                      exact ih (t + 1) (μ 5 t) (by omega) (by rw [← hrel]; simp only [mnL, smN, c_1, c_2, c_3, c_4, c_6, c_7, c_8, c_9, c_10, ↓reduceIte]) _ _ _ hP hD hS (lv_sub hl [0, 1, 2, 3] rfl)
          exact loop 8 0 0 (by omega) rfl _ _ _ hP hD hS (lv_sub hl [0, 1, 3, 2] rfl)
        · refine lv_iconst (v := (-1)) hx hb d_m_look_34 (by decide) ?_
          exact hret _ _ _ 35 (-1) μ hP hD hS rfl d_m_look_35 (by simp only [g_look, lit_1_0, lit_2_0, lit_2_1, lit_3_0, lit_3_1, lit_3_2, c_1, c_2, c_3, c_4, ↓reduceIte]) (rfl)
      · refine lv_aload_n hx hb d_m_look_24 rfl (lv_at hl 0 rfl) ?_
        refine va_get (v := .int (μ 0 3)) hx hb hG i_M hown hK hP 0 wM_M rfl 3 (by decide) (hG _ L_M_72) (fun _ h9 => h9) rfl d_m_look_25 ?_
        exact hret _ _ _ 28 (μ 0 3) μ hP hD hS rfl d_m_look_28 (by simp only [g_look, lit_1_0, lit_2_0, lit_2_1, lit_3_0, lit_3_1, lit_3_2, c_1, c_2, c_3, ↓reduceIte]) (rfl)
    · refine lv_aload_n hx hb d_m_look_14 rfl (lv_at hl 0 rfl) ?_
      refine va_get (v := .int (μ 0 1)) hx hb hG i_M hown hK hP 0 wM_M rfl 1 (by decide) (hG _ L_M_69) (fun _ h9 => h9) rfl d_m_look_15 ?_
      exact hret _ _ _ 18 (μ 0 1) μ hP hD hS rfl d_m_look_18 (by simp only [g_look, lit_1_0, lit_2_0, lit_2_1, lit_3_0, lit_3_1, lit_3_2, c_1, c_2, ↓reduceIte]) (rfl)
  · refine lv_aload_n hx hb d_m_look_4 rfl (lv_at hl 0 rfl) ?_
    refine va_get (v := .int (μ 0 2)) hx hb hG i_M hown hK hP 0 wM_M rfl 2 (by decide) (hG _ L_M_62) (fun _ h9 => h9) rfl d_m_look_5 ?_
    exact hret _ _ _ 8 (μ 0 2) μ hP hD hS rfl d_m_look_8 (by simp only [g_look, lit_1_0, lit_2_0, lit_2_1, lit_3_0, lit_3_1, lit_3_2, c_1, ↓reduceIte]) (rfl)
set_option maxHeartbeats 4000000 in
set_option maxRecDepth 100000 in
theorem c_m_served (l : Launch) (D : va_G) (b : Nat → Nat) (cb : Nat → ClassId) (μ : St) (i : Int32) (w : Int32) (n0 : Nat) (hO : mOK μ n0) (hn : n0 < 2 ^ 30) : KI l D (tM cb) (wM b cb) rm_m_served y_m_served b_m_served 3 .int [.ref (b 0), .int i, .int w] μ (g_served μ i w) μ := by
  refine KI.of (by decide) (Nat.le_of_ble_eq_true rfl) ?_
  intro p e s m args below meth c A Q ls hx hb hml hown hG hK hN hA hP hD hS hl hret
  have hown : s.vm.findClass R_M = some m.cls := hown
  have hl : lv_has ls 3 [(0, .ref (b 0)), (1, .int i), (2, .int w)] := hl
  refine lv_iload_n hx hb d_m_served_0 rfl (lv_at hl 1 rfl) ?_
  refine lv_iconst (v := 0) hx hb d_m_served_1 (by decide) ?_
  refine lv_bipush (v := 15) hx hb d_m_served_2 (by decide) ?_
  refine k_cS (rest := []) hx hb hml hown hG hK hN hA hP hD hS (c_m_isIn l D b cb μ i 0 15) ok_m_isIn so_m_isIn L_M_57 ⟨rfl, rfl, by decide, by decide⟩ rfl hl.1 rfl (Nat.le_of_ble_eq_true rfl) ⟨Nat.zero_le _, Nat.zero_le _⟩ d_m_served_4 (fun H locs hP hD hS => ?_)
  refine lv_if_eq (tgt := 27) hx hb d_m_served_7 (by decide) (fun c_1 => ?_) (fun c_1 => ?_)
  · refine lv_iconst (v := (-1)) hx hb d_m_served_27 (by decide) ?_
    exact hret _ _ _ 28 (-1) μ hP hD hS rfl d_m_served_28 (by simp only [g_served, c_1, ↓reduceIte]) (rfl)
  · obtain ⟨j, hj, rfl⟩ := isIn_in (n := 15) (by decide) c_1
    have hclj : (nI j).toNatClampNeg = j := nI_clamp (by omega)
    refine lv_iload_n hx hb d_m_served_10 rfl (lv_at hl 1 rfl) ?_
    refine lv_aload_n hx hb d_m_served_11 rfl (lv_at hl 0 rfl) ?_
    refine va_get (v := .int (μ 0 3)) hx hb hG i_M hown hK hP 0 wM_M rfl 3 (by decide) (hG _ L_M_72) (fun _ h9 => h9) rfl d_m_served_12 ?_
    refine lv_icmp_ge (tgt := 27) hx hb d_m_served_15 (by decide) (fun c_2 => ?_) (fun c_2 => ?_)
    · refine lv_iconst (v := (-1)) hx hb d_m_served_27 (by decide) ?_
      exact hret _ _ _ 28 (-1) μ hP hD hS rfl d_m_served_28 (by simp only [g_served, c_1, hclj, c_2, ↓reduceIte]) (rfl)
    · refine lv_iload_n hx hb d_m_served_18 rfl (lv_at hl 2 rfl) ?_
      refine lv_iconst (v := 0) hx hb d_m_served_19 (by decide) ?_
      refine lv_iconst (v := 2) hx hb d_m_served_20 (by decide) ?_
      refine k_cS (rest := []) hx hb hml hown hG hK hN hA hP hD hS (c_m_isIn l D b cb μ w 0 2) ok_m_isIn so_m_isIn L_M_57 ⟨rfl, rfl, by decide, by decide⟩ rfl hl.1 rfl (Nat.le_of_ble_eq_true rfl) ⟨Nat.zero_le _, Nat.zero_le _⟩ d_m_served_21 (fun H locs hP hD hS => ?_)
      refine lv_if_ne (tgt := 29) hx hb d_m_served_24 (by decide) (fun c_3 => ?_) (fun c_3 => ?_)
      · obtain ⟨k, hk, rfl⟩ := isIn_in (n := 2) (by decide) c_3
        have hclk : (nI k).toNatClampNeg = k := nI_clamp (by omega)
        have enn : nn μ = n0 := mOK_nn hO hn
        have hjn : j < n0 := by
          rcases Nat.lt_or_ge j n0 with q | q
          · exact q
          · exact absurd (by rw [hO.1]; exact nI_le q (by omega)) c_2
        refine lv_aload_n hx hb d_m_served_29 rfl (lv_at hl 0 rfl) ?_
        refine va_get (v := .ref (b 17)) hx hb hG i_M hown hK hP 0 wM_M rfl 17 (by decide) (hG _ L_M_50) (fun _ h9 => h9) rfl d_m_served_30 ?_
        refine lv_iconst (v := 3) hx hb d_m_served_33 (by decide) ?_
        refine lv_aload_n hx hb d_m_served_34 rfl (lv_at hl 0 rfl) ?_
        refine va_get (v := .int (μ 0 3)) hx hb hG i_M hown hK hP 0 wM_M rfl 3 (by decide) (hG _ L_M_72) (fun _ h9 => h9) rfl d_m_served_35 ?_
        refine lv_iconst (v := 1) hx hb d_m_served_38 (by decide) ?_
        refine lv_isub hx hb d_m_served_39 ?_
        refine lv_iload_n hx hb d_m_served_40 rfl (lv_at hl 1 rfl) ?_
        refine lv_isub hx hb d_m_served_41 ?_
        refine lv_bipush (v := 16) hx hb d_m_served_42 (by decide) ?_
        refine lv_irem hx hb d_m_served_44 (by decide) ?_
        refine lv_imul hx hb d_m_served_45 ?_
        refine lv_iload_n hx hb d_m_served_46 rfl (lv_at hl 2 rfl) ?_
        refine lv_iadd hx hb d_m_served_47 ?_
        refine m_ild hx hb hK hP wM_17 (3 * ((n0 - 1 - j) % 16) + k) (by omega) (by decide) (m_at2 hO.1 (by omega) hjn) d_m_served_48 ?_
        exact hret _ _ _ 49 (μ 17 (3 * ((n0 - 1 - j) % 16) + k)) μ hP hD hS rfl d_m_served_49 (by simp only [g_served, c_1, hclj, c_2, c_3, hclk, enn, ↓reduceIte]) (rfl)
      · refine lv_iconst (v := (-1)) hx hb d_m_served_27 (by decide) ?_
        exact hret _ _ _ 28 (-1) μ hP hD hS rfl d_m_served_28 (by simp only [g_served, c_1, hclj, c_2, c_3, ↓reduceIte]) (rfl)
end
section
/-! what the reference's constructor makes -/
def u8 (f : Nat → Int32) : Nat → Int32 := upd (upd (upd (upd (upd (upd (upd (upd f 0 1) 1 1) 2 1) 3 1) 4 1) 5 1) 6 1) 7 1
def m0 : St := fun i => if i = 4 then u8 (fun _ => 0) else if i = 5 then u8 (fun _ => 0) else if i = 11 then upd (upd (upd (upd (fun _ => 0) 0 1) 1 1) 2 1) 3 1 else if i = 16 then upd (upd (upd (upd (fun _ => 0) 0 (-1)) 1 (-1)) 2 (-1)) 3 (-1) else fun _ => 0
def cMo (k0 k1 : ClassId) : Nat → ClassId := fun i => match i with
  | 0 => k0
  | _ => k1
theorem kB_eq {D : va_G} {tys : List (ClassId × FieldType)} {s : State} (hK : va_K D classes tys s) (i j : Nat) {c1 c2 : ClassId} (hi : tys[i]? = some (c1, .boolean)) (hj : tys[j]? = some (c2, .boolean)) : c1 = c2 :=
  Option.some.inj ((hK.2 i _ hi).2.symm.trans (hK.2 j _ hj).2)
def pM (D : va_G) (h : Nat) (A : Nat → Prop) (t : State) : Prop := ∃ (b : Nat → Nat) (cb : Nat → ClassId), b 0 = h ∧ va_P D classes (wM b cb m0) t.heap ∧ va_K D classes (tM cb) t ∧ va_D A (wM b cb m0)
end
section
set_option maxHeartbeats 8000000 in
set_option maxRecDepth 100000 in
theorem c_Minit (l : Launch) (D : va_G) (h : Nat) : KB l D [] [(h, .inr (4, [.int 0, .int 0, .int 0, .int 0, .null, .null, .null, .null, .null, .null, .null, .null, .null, .null, .null, .null, .null, .null]))] rm_Minit y_Minit b_Minit 1 [.ref h] 14 148 (pM D h) := by
  refine KB.of (by decide) (Nat.le_of_ble_eq_true rfl) rfl ?_
  intro p e s m args below meth c A Q ls hx hb hml hown hG hK hN hA hin hP hD hS hl hret
  have hown : s.vm.findClass R_M = some m.cls := hown
  have hl : lv_has ls 1 [(0, .ref h)] := hl
  obtain ⟨H, eH⟩ : ∃ H, H = s.heap := ⟨_, rfl⟩
  rw [show W p l e rm_Minit s m args below meth c s.heap = W p l e rm_Minit s m args below meth c H by rw [eH]]
  rw [← eH] at hP
  have hS : va_S A s.heap H [] := by rw [eH]; exact hS
  refine lv_aload_n hx hb d_Minit_0 rfl (lv_at hl 0 rfl) ?_
  refine W.objInit hx hb hown (hG _ L_M_1) (hG _ objI) (hG _ objC) rfl (by rw [hml]; exact hl.1) rfl d_Minit_1 (Nat.le_of_ble_eq_true rfl) (Nat.le_of_ble_eq_true rfl) ?_
  refine W.eq (g2 := F0 m 4 ls []) rfl ?_
  refine lv_aload_n hx hb d_Minit_4 rfl (lv_at hl 0 rfl) ?_
  refine lv_bipush (v := 8) hx hb d_Minit_5 (by decide) ?_
  refine va_newa (atype := .int) (ty := .int) (n := 8) (N' := 8) (a0 := (8, .inl (fun _ => 0))) hx hb (hG _ arr_int) rfl hK hP hD hS hA (fun _ => rfl) (by decide) (by decide) (by decide) (by decide) (by decide) d_Minit_7 (fun q_1 k_2 H hK hP hD hS => ?_)
  have hK : va_K D classes [(k_2, .int)] s := hK
  have hP : va_P D classes [(h, .inr (4, [.int 0, .int 0, .int 0, .int 0, .null, .null, .null, .null, .null, .null, .null, .null, .null, .null, .null, .null, .null, .null])), (q_1, .inl (k_2, 8, .inl (fun _ => 0)))] H := hP
  have hD : va_D A [(h, .inr (4, [.int 0, .int 0, .int 0, .int 0, .null, .null, .null, .null, .null, .null, .null, .null, .null, .null, .null, .null, .null, .null])), (q_1, .inl (k_2, 8, .inl (fun _ => 0)))] := hD
  refine W.widen (k := 1) (n := 8) (by decide) (by decide) ?_
  refine lv_dup hx hb d_Minit_9 rfl ?_
  refine lv_iconst (v := 0) hx hb d_Minit_10 (by decide) ?_
  refine lv_iconst (v := 1) hx hb d_Minit_11 (by decide) ?_
  refine va_iast (i := 0) hx hb hK hP hD hS 1 0 rfl rfl (vp_in_nI (n := 0) (by decide) (by decide)) d_Minit_12 (fun H locs hP hD hS => ?_)
  have hP : va_P D classes [(h, .inr (4, [.int 0, .int 0, .int 0, .int 0, .null, .null, .null, .null, .null, .null, .null, .null, .null, .null, .null, .null, .null, .null])), (q_1, .inl (k_2, 8, .inl (upd (fun _ => 0) 0 1)))] H := hP
  have hD : va_D A [(h, .inr (4, [.int 0, .int 0, .int 0, .int 0, .null, .null, .null, .null, .null, .null, .null, .null, .null, .null, .null, .null, .null, .null])), (q_1, .inl (k_2, 8, .inl (upd (fun _ => 0) 0 1)))] := hD
  refine lv_dup hx hb d_Minit_13 rfl ?_
  refine lv_iconst (v := 1) hx hb d_Minit_14 (by decide) ?_
  refine lv_iconst (v := 1) hx hb d_Minit_15 (by decide) ?_
  refine va_iast (i := 1) hx hb hK hP hD hS 1 0 rfl rfl (vp_in_nI (n := 1) (by decide) (by decide)) d_Minit_16 (fun H locs hP hD hS => ?_)
  have hP : va_P D classes [(h, .inr (4, [.int 0, .int 0, .int 0, .int 0, .null, .null, .null, .null, .null, .null, .null, .null, .null, .null, .null, .null, .null, .null])), (q_1, .inl (k_2, 8, .inl (upd (upd (fun _ => 0) 0 1) 1 1)))] H := hP
  have hD : va_D A [(h, .inr (4, [.int 0, .int 0, .int 0, .int 0, .null, .null, .null, .null, .null, .null, .null, .null, .null, .null, .null, .null, .null, .null])), (q_1, .inl (k_2, 8, .inl (upd (upd (fun _ => 0) 0 1) 1 1)))] := hD
  refine lv_dup hx hb d_Minit_17 rfl ?_
  refine lv_iconst (v := 2) hx hb d_Minit_18 (by decide) ?_
  refine lv_iconst (v := 1) hx hb d_Minit_19 (by decide) ?_
  refine va_iast (i := 2) hx hb hK hP hD hS 1 0 rfl rfl (vp_in_nI (n := 2) (by decide) (by decide)) d_Minit_20 (fun H locs hP hD hS => ?_)
  have hP : va_P D classes [(h, .inr (4, [.int 0, .int 0, .int 0, .int 0, .null, .null, .null, .null, .null, .null, .null, .null, .null, .null, .null, .null, .null, .null])), (q_1, .inl (k_2, 8, .inl (upd (upd (upd (fun _ => 0) 0 1) 1 1) 2 1)))] H := hP
  have hD : va_D A [(h, .inr (4, [.int 0, .int 0, .int 0, .int 0, .null, .null, .null, .null, .null, .null, .null, .null, .null, .null, .null, .null, .null, .null])), (q_1, .inl (k_2, 8, .inl (upd (upd (upd (fun _ => 0) 0 1) 1 1) 2 1)))] := hD
  refine lv_dup hx hb d_Minit_21 rfl ?_
  refine lv_iconst (v := 3) hx hb d_Minit_22 (by decide) ?_
  refine lv_iconst (v := 1) hx hb d_Minit_23 (by decide) ?_
  refine va_iast (i := 3) hx hb hK hP hD hS 1 0 rfl rfl (vp_in_nI (n := 3) (by decide) (by decide)) d_Minit_24 (fun H locs hP hD hS => ?_)
  have hP : va_P D classes [(h, .inr (4, [.int 0, .int 0, .int 0, .int 0, .null, .null, .null, .null, .null, .null, .null, .null, .null, .null, .null, .null, .null, .null])), (q_1, .inl (k_2, 8, .inl (upd (upd (upd (upd (fun _ => 0) 0 1) 1 1) 2 1) 3 1)))] H := hP
  have hD : va_D A [(h, .inr (4, [.int 0, .int 0, .int 0, .int 0, .null, .null, .null, .null, .null, .null, .null, .null, .null, .null, .null, .null, .null, .null])), (q_1, .inl (k_2, 8, .inl (upd (upd (upd (upd (fun _ => 0) 0 1) 1 1) 2 1) 3 1)))] := hD
  refine lv_dup hx hb d_Minit_25 rfl ?_
  refine lv_iconst (v := 4) hx hb d_Minit_26 (by decide) ?_
  refine lv_iconst (v := 1) hx hb d_Minit_27 (by decide) ?_
  refine va_iast (i := 4) hx hb hK hP hD hS 1 0 rfl rfl (vp_in_nI (n := 4) (by decide) (by decide)) d_Minit_28 (fun H locs hP hD hS => ?_)
  have hP : va_P D classes [(h, .inr (4, [.int 0, .int 0, .int 0, .int 0, .null, .null, .null, .null, .null, .null, .null, .null, .null, .null, .null, .null, .null, .null])), (q_1, .inl (k_2, 8, .inl (upd (upd (upd (upd (upd (fun _ => 0) 0 1) 1 1) 2 1) 3 1) 4 1)))] H := hP
  have hD : va_D A [(h, .inr (4, [.int 0, .int 0, .int 0, .int 0, .null, .null, .null, .null, .null, .null, .null, .null, .null, .null, .null, .null, .null, .null])), (q_1, .inl (k_2, 8, .inl (upd (upd (upd (upd (upd (fun _ => 0) 0 1) 1 1) 2 1) 3 1) 4 1)))] := hD
  refine lv_dup hx hb d_Minit_29 rfl ?_
  refine lv_iconst (v := 5) hx hb d_Minit_30 (by decide) ?_
  refine lv_iconst (v := 1) hx hb d_Minit_31 (by decide) ?_
  refine va_iast (i := 5) hx hb hK hP hD hS 1 0 rfl rfl (vp_in_nI (n := 5) (by decide) (by decide)) d_Minit_32 (fun H locs hP hD hS => ?_)
  have hP : va_P D classes [(h, .inr (4, [.int 0, .int 0, .int 0, .int 0, .null, .null, .null, .null, .null, .null, .null, .null, .null, .null, .null, .null, .null, .null])), (q_1, .inl (k_2, 8, .inl (upd (upd (upd (upd (upd (upd (fun _ => 0) 0 1) 1 1) 2 1) 3 1) 4 1) 5 1)))] H := hP
  have hD : va_D A [(h, .inr (4, [.int 0, .int 0, .int 0, .int 0, .null, .null, .null, .null, .null, .null, .null, .null, .null, .null, .null, .null, .null, .null])), (q_1, .inl (k_2, 8, .inl (upd (upd (upd (upd (upd (upd (fun _ => 0) 0 1) 1 1) 2 1) 3 1) 4 1) 5 1)))] := hD
  refine lv_dup hx hb d_Minit_33 rfl ?_
  refine lv_bipush (v := 6) hx hb d_Minit_34 (by decide) ?_
  refine lv_iconst (v := 1) hx hb d_Minit_36 (by decide) ?_
  refine va_iast (i := 6) hx hb hK hP hD hS 1 0 rfl rfl (vp_in_nI (n := 6) (by decide) (by decide)) d_Minit_37 (fun H locs hP hD hS => ?_)
  have hP : va_P D classes [(h, .inr (4, [.int 0, .int 0, .int 0, .int 0, .null, .null, .null, .null, .null, .null, .null, .null, .null, .null, .null, .null, .null, .null])), (q_1, .inl (k_2, 8, .inl (upd (upd (upd (upd (upd (upd (upd (fun _ => 0) 0 1) 1 1) 2 1) 3 1) 4 1) 5 1) 6 1)))] H := hP
  have hD : va_D A [(h, .inr (4, [.int 0, .int 0, .int 0, .int 0, .null, .null, .null, .null, .null, .null, .null, .null, .null, .null, .null, .null, .null, .null])), (q_1, .inl (k_2, 8, .inl (upd (upd (upd (upd (upd (upd (upd (fun _ => 0) 0 1) 1 1) 2 1) 3 1) 4 1) 5 1) 6 1)))] := hD
  refine lv_dup hx hb d_Minit_38 rfl ?_
  refine lv_bipush (v := 7) hx hb d_Minit_39 (by decide) ?_
  refine lv_iconst (v := 1) hx hb d_Minit_41 (by decide) ?_
  refine va_iast (i := 7) hx hb hK hP hD hS 1 0 rfl rfl (vp_in_nI (n := 7) (by decide) (by decide)) d_Minit_42 (fun H locs hP hD hS => ?_)
  have hP : va_P D classes [(h, .inr (4, [.int 0, .int 0, .int 0, .int 0, .null, .null, .null, .null, .null, .null, .null, .null, .null, .null, .null, .null, .null, .null])), (q_1, .inl (k_2, 8, .inl (upd (upd (upd (upd (upd (upd (upd (upd (fun _ => 0) 0 1) 1 1) 2 1) 3 1) 4 1) 5 1) 6 1) 7 1)))] H := hP
  have hD : va_D A [(h, .inr (4, [.int 0, .int 0, .int 0, .int 0, .null, .null, .null, .null, .null, .null, .null, .null, .null, .null, .null, .null, .null, .null])), (q_1, .inl (k_2, 8, .inl (upd (upd (upd (upd (upd (upd (upd (upd (fun _ => 0) 0 1) 1 1) 2 1) 3 1) 4 1) 5 1) 6 1) 7 1)))] := hD
  refine va_putF (ty := (.array .int)) (v := .ref q_1) hx hb hG i_M ft_M ft_M_ok n_M hown hK hP hD hS 0 rfl rfl 4 (by decide) (hG _ L_M_7) (fun _ h9 => h9) rfl hin rfl (by decide +kernel) rfl rfl (Nat.le_of_ble_eq_true rfl) d_Minit_43 (fun H locs hP hD hS => ?_)
  have hP : va_P D classes [(h, .inr (4, [.int 0, .int 0, .int 0, .int 0, .ref q_1, .null, .null, .null, .null, .null, .null, .null, .null, .null, .null, .null, .null, .null])), (q_1, .inl (k_2, 8, .inl (upd (upd (upd (upd (upd (upd (upd (upd (fun _ => 0) 0 1) 1 1) 2 1) 3 1) 4 1) 5 1) 6 1) 7 1)))] H := hP
  have hD : va_D A [(h, .inr (4, [.int 0, .int 0, .int 0, .int 0, .ref q_1, .null, .null, .null, .null, .null, .null, .null, .null, .null, .null, .null, .null, .null])), (q_1, .inl (k_2, 8, .inl (upd (upd (upd (upd (upd (upd (upd (upd (fun _ => 0) 0 1) 1 1) 2 1) 3 1) 4 1) 5 1) 6 1) 7 1)))] := hD
  refine lv_aload_n hx hb d_Minit_46 rfl (lv_at hl 0 rfl) ?_
  refine lv_bipush (v := 8) hx hb d_Minit_47 (by decide) ?_
  refine va_newa (atype := .int) (ty := .int) (n := 8) (N' := 8) (a0 := (8, .inl (fun _ => 0))) hx hb (hG _ arr_int) rfl hK hP hD hS hA (fun _ => rfl) (by decide) (by decide) (by decide) (by decide) (by decide) d_Minit_49 (fun q_3 k_4 H hK hP hD hS => ?_)
  have hK : va_K D classes [(k_2, .int), (k_4, .int)] s := hK
  have hP : va_P D classes [(h, .inr (4, [.int 0, .int 0, .int 0, .int 0, .ref q_1, .null, .null, .null, .null, .null, .null, .null, .null, .null, .null, .null, .null, .null])), (q_1, .inl (k_2, 8, .inl (upd (upd (upd (upd (upd (upd (upd (upd (fun _ => 0) 0 1) 1 1) 2 1) 3 1) 4 1) 5 1) 6 1) 7 1))), (q_3, .inl (k_4, 8, .inl (fun _ => 0)))] H := hP
  have hD : va_D A [(h, .inr (4, [.int 0, .int 0, .int 0, .int 0, .ref q_1, .null, .null, .null, .null, .null, .null, .null, .null, .null, .null, .null, .null, .null])), (q_1, .inl (k_2, 8, .inl (upd (upd (upd (upd (upd (upd (upd (upd (fun _ => 0) 0 1) 1 1) 2 1) 3 1) 4 1) 5 1) 6 1) 7 1))), (q_3, .inl (k_4, 8, .inl (fun _ => 0)))] := hD
  refine W.widen (k := 2) (n := 16) (by decide) (by decide) ?_
  refine lv_dup hx hb d_Minit_51 rfl ?_
  refine lv_iconst (v := 0) hx hb d_Minit_52 (by decide) ?_
  refine lv_iconst (v := 1) hx hb d_Minit_53 (by decide) ?_
  refine va_iast (i := 0) hx hb hK hP hD hS 2 1 rfl rfl (vp_in_nI (n := 0) (by decide) (by decide)) d_Minit_54 (fun H locs hP hD hS => ?_)
  have hP : va_P D classes [(h, .inr (4, [.int 0, .int 0, .int 0, .int 0, .ref q_1, .null, .null, .null, .null, .null, .null, .null, .null, .null, .null, .null, .null, .null])), (q_1, .inl (k_2, 8, .inl (upd (upd (upd (upd (upd (upd (upd (upd (fun _ => 0) 0 1) 1 1) 2 1) 3 1) 4 1) 5 1) 6 1) 7 1))), (q_3, .inl (k_4, 8, .inl (upd (fun _ => 0) 0 1)))] H := hP
  have hD : va_D A [(h, .inr (4, [.int 0, .int 0, .int 0, .int 0, .ref q_1, .null, .null, .null, .null, .null, .null, .null, .null, .null, .null, .null, .null, .null])), (q_1, .inl (k_2, 8, .inl (upd (upd (upd (upd (upd (upd (upd (upd (fun _ => 0) 0 1) 1 1) 2 1) 3 1) 4 1) 5 1) 6 1) 7 1))), (q_3, .inl (k_4, 8, .inl (upd (fun _ => 0) 0 1)))] := hD
  refine lv_dup hx hb d_Minit_55 rfl ?_
  refine lv_iconst (v := 1) hx hb d_Minit_56 (by decide) ?_
  refine lv_iconst (v := 1) hx hb d_Minit_57 (by decide) ?_
  refine va_iast (i := 1) hx hb hK hP hD hS 2 1 rfl rfl (vp_in_nI (n := 1) (by decide) (by decide)) d_Minit_58 (fun H locs hP hD hS => ?_)
  have hP : va_P D classes [(h, .inr (4, [.int 0, .int 0, .int 0, .int 0, .ref q_1, .null, .null, .null, .null, .null, .null, .null, .null, .null, .null, .null, .null, .null])), (q_1, .inl (k_2, 8, .inl (upd (upd (upd (upd (upd (upd (upd (upd (fun _ => 0) 0 1) 1 1) 2 1) 3 1) 4 1) 5 1) 6 1) 7 1))), (q_3, .inl (k_4, 8, .inl (upd (upd (fun _ => 0) 0 1) 1 1)))] H := hP
  have hD : va_D A [(h, .inr (4, [.int 0, .int 0, .int 0, .int 0, .ref q_1, .null, .null, .null, .null, .null, .null, .null, .null, .null, .null, .null, .null, .null])), (q_1, .inl (k_2, 8, .inl (upd (upd (upd (upd (upd (upd (upd (upd (fun _ => 0) 0 1) 1 1) 2 1) 3 1) 4 1) 5 1) 6 1) 7 1))), (q_3, .inl (k_4, 8, .inl (upd (upd (fun _ => 0) 0 1) 1 1)))] := hD
  refine lv_dup hx hb d_Minit_59 rfl ?_
  refine lv_iconst (v := 2) hx hb d_Minit_60 (by decide) ?_
  refine lv_iconst (v := 1) hx hb d_Minit_61 (by decide) ?_
  refine va_iast (i := 2) hx hb hK hP hD hS 2 1 rfl rfl (vp_in_nI (n := 2) (by decide) (by decide)) d_Minit_62 (fun H locs hP hD hS => ?_)
  have hP : va_P D classes [(h, .inr (4, [.int 0, .int 0, .int 0, .int 0, .ref q_1, .null, .null, .null, .null, .null, .null, .null, .null, .null, .null, .null, .null, .null])), (q_1, .inl (k_2, 8, .inl (upd (upd (upd (upd (upd (upd (upd (upd (fun _ => 0) 0 1) 1 1) 2 1) 3 1) 4 1) 5 1) 6 1) 7 1))), (q_3, .inl (k_4, 8, .inl (upd (upd (upd (fun _ => 0) 0 1) 1 1) 2 1)))] H := hP
  have hD : va_D A [(h, .inr (4, [.int 0, .int 0, .int 0, .int 0, .ref q_1, .null, .null, .null, .null, .null, .null, .null, .null, .null, .null, .null, .null, .null])), (q_1, .inl (k_2, 8, .inl (upd (upd (upd (upd (upd (upd (upd (upd (fun _ => 0) 0 1) 1 1) 2 1) 3 1) 4 1) 5 1) 6 1) 7 1))), (q_3, .inl (k_4, 8, .inl (upd (upd (upd (fun _ => 0) 0 1) 1 1) 2 1)))] := hD
  refine lv_dup hx hb d_Minit_63 rfl ?_
  refine lv_iconst (v := 3) hx hb d_Minit_64 (by decide) ?_
  refine lv_iconst (v := 1) hx hb d_Minit_65 (by decide) ?_
  refine va_iast (i := 3) hx hb hK hP hD hS 2 1 rfl rfl (vp_in_nI (n := 3) (by decide) (by decide)) d_Minit_66 (fun H locs hP hD hS => ?_)
  have hP : va_P D classes [(h, .inr (4, [.int 0, .int 0, .int 0, .int 0, .ref q_1, .null, .null, .null, .null, .null, .null, .null, .null, .null, .null, .null, .null, .null])), (q_1, .inl (k_2, 8, .inl (upd (upd (upd (upd (upd (upd (upd (upd (fun _ => 0) 0 1) 1 1) 2 1) 3 1) 4 1) 5 1) 6 1) 7 1))), (q_3, .inl (k_4, 8, .inl (upd (upd (upd (upd (fun _ => 0) 0 1) 1 1) 2 1) 3 1)))] H := hP
  have hD : va_D A [(h, .inr (4, [.int 0, .int 0, .int 0, .int 0, .ref q_1, .null, .null, .null, .null, .null, .null, .null, .null, .null, .null, .null, .null, .null])), (q_1, .inl (k_2, 8, .inl (upd (upd (upd (upd (upd (upd (upd (upd (fun _ => 0) 0 1) 1 1) 2 1) 3 1) 4 1) 5 1) 6 1) 7 1))), (q_3, .inl (k_4, 8, .inl (upd (upd (upd (upd (fun _ => 0) 0 1) 1 1) 2 1) 3 1)))] := hD
  refine lv_dup hx hb d_Minit_67 rfl ?_
  refine lv_iconst (v := 4) hx hb d_Minit_68 (by decide) ?_
  refine lv_iconst (v := 1) hx hb d_Minit_69 (by decide) ?_
  refine va_iast (i := 4) hx hb hK hP hD hS 2 1 rfl rfl (vp_in_nI (n := 4) (by decide) (by decide)) d_Minit_70 (fun H locs hP hD hS => ?_)
  have hP : va_P D classes [(h, .inr (4, [.int 0, .int 0, .int 0, .int 0, .ref q_1, .null, .null, .null, .null, .null, .null, .null, .null, .null, .null, .null, .null, .null])), (q_1, .inl (k_2, 8, .inl (upd (upd (upd (upd (upd (upd (upd (upd (fun _ => 0) 0 1) 1 1) 2 1) 3 1) 4 1) 5 1) 6 1) 7 1))), (q_3, .inl (k_4, 8, .inl (upd (upd (upd (upd (upd (fun _ => 0) 0 1) 1 1) 2 1) 3 1) 4 1)))] H := hP
  have hD : va_D A [(h, .inr (4, [.int 0, .int 0, .int 0, .int 0, .ref q_1, .null, .null, .null, .null, .null, .null, .null, .null, .null, .null, .null, .null, .null])), (q_1, .inl (k_2, 8, .inl (upd (upd (upd (upd (upd (upd (upd (upd (fun _ => 0) 0 1) 1 1) 2 1) 3 1) 4 1) 5 1) 6 1) 7 1))), (q_3, .inl (k_4, 8, .inl (upd (upd (upd (upd (upd (fun _ => 0) 0 1) 1 1) 2 1) 3 1) 4 1)))] := hD
  refine lv_dup hx hb d_Minit_71 rfl ?_
  refine lv_iconst (v := 5) hx hb d_Minit_72 (by decide) ?_
  refine lv_iconst (v := 1) hx hb d_Minit_73 (by decide) ?_
  refine va_iast (i := 5) hx hb hK hP hD hS 2 1 rfl rfl (vp_in_nI (n := 5) (by decide) (by decide)) d_Minit_74 (fun H locs hP hD hS => ?_)
  have hP : va_P D classes [(h, .inr (4, [.int 0, .int 0, .int 0, .int 0, .ref q_1, .null, .null, .null, .null, .null, .null, .null, .null, .null, .null, .null, .null, .null])), (q_1, .inl (k_2, 8, .inl (upd (upd (upd (upd (upd (upd (upd (upd (fun _ => 0) 0 1) 1 1) 2 1) 3 1) 4 1) 5 1) 6 1) 7 1))), (q_3, .inl (k_4, 8, .inl (upd (upd (upd (upd (upd (upd (fun _ => 0) 0 1) 1 1) 2 1) 3 1) 4 1) 5 1)))] H := hP
  have hD : va_D A [(h, .inr (4, [.int 0, .int 0, .int 0, .int 0, .ref q_1, .null, .null, .null, .null, .null, .null, .null, .null, .null, .null, .null, .null, .null])), (q_1, .inl (k_2, 8, .inl (upd (upd (upd (upd (upd (upd (upd (upd (fun _ => 0) 0 1) 1 1) 2 1) 3 1) 4 1) 5 1) 6 1) 7 1))), (q_3, .inl (k_4, 8, .inl (upd (upd (upd (upd (upd (upd (fun _ => 0) 0 1) 1 1) 2 1) 3 1) 4 1) 5 1)))] := hD
  refine lv_dup hx hb d_Minit_75 rfl ?_
  refine lv_bipush (v := 6) hx hb d_Minit_76 (by decide) ?_
  refine lv_iconst (v := 1) hx hb d_Minit_78 (by decide) ?_
  refine va_iast (i := 6) hx hb hK hP hD hS 2 1 rfl rfl (vp_in_nI (n := 6) (by decide) (by decide)) d_Minit_79 (fun H locs hP hD hS => ?_)
  have hP : va_P D classes [(h, .inr (4, [.int 0, .int 0, .int 0, .int 0, .ref q_1, .null, .null, .null, .null, .null, .null, .null, .null, .null, .null, .null, .null, .null])), (q_1, .inl (k_2, 8, .inl (upd (upd (upd (upd (upd (upd (upd (upd (fun _ => 0) 0 1) 1 1) 2 1) 3 1) 4 1) 5 1) 6 1) 7 1))), (q_3, .inl (k_4, 8, .inl (upd (upd (upd (upd (upd (upd (upd (fun _ => 0) 0 1) 1 1) 2 1) 3 1) 4 1) 5 1) 6 1)))] H := hP
  have hD : va_D A [(h, .inr (4, [.int 0, .int 0, .int 0, .int 0, .ref q_1, .null, .null, .null, .null, .null, .null, .null, .null, .null, .null, .null, .null, .null])), (q_1, .inl (k_2, 8, .inl (upd (upd (upd (upd (upd (upd (upd (upd (fun _ => 0) 0 1) 1 1) 2 1) 3 1) 4 1) 5 1) 6 1) 7 1))), (q_3, .inl (k_4, 8, .inl (upd (upd (upd (upd (upd (upd (upd (fun _ => 0) 0 1) 1 1) 2 1) 3 1) 4 1) 5 1) 6 1)))] := hD
  refine lv_dup hx hb d_Minit_80 rfl ?_
  refine lv_bipush (v := 7) hx hb d_Minit_81 (by decide) ?_
  refine lv_iconst (v := 1) hx hb d_Minit_83 (by decide) ?_
  refine va_iast (i := 7) hx hb hK hP hD hS 2 1 rfl rfl (vp_in_nI (n := 7) (by decide) (by decide)) d_Minit_84 (fun H locs hP hD hS => ?_)
  have hP : va_P D classes [(h, .inr (4, [.int 0, .int 0, .int 0, .int 0, .ref q_1, .null, .null, .null, .null, .null, .null, .null, .null, .null, .null, .null, .null, .null])), (q_1, .inl (k_2, 8, .inl (upd (upd (upd (upd (upd (upd (upd (upd (fun _ => 0) 0 1) 1 1) 2 1) 3 1) 4 1) 5 1) 6 1) 7 1))), (q_3, .inl (k_4, 8, .inl (upd (upd (upd (upd (upd (upd (upd (upd (fun _ => 0) 0 1) 1 1) 2 1) 3 1) 4 1) 5 1) 6 1) 7 1)))] H := hP
  have hD : va_D A [(h, .inr (4, [.int 0, .int 0, .int 0, .int 0, .ref q_1, .null, .null, .null, .null, .null, .null, .null, .null, .null, .null, .null, .null, .null])), (q_1, .inl (k_2, 8, .inl (upd (upd (upd (upd (upd (upd (upd (upd (fun _ => 0) 0 1) 1 1) 2 1) 3 1) 4 1) 5 1) 6 1) 7 1))), (q_3, .inl (k_4, 8, .inl (upd (upd (upd (upd (upd (upd (upd (upd (fun _ => 0) 0 1) 1 1) 2 1) 3 1) 4 1) 5 1) 6 1) 7 1)))] := hD
  refine va_putF (ty := (.array .int)) (v := .ref q_3) hx hb hG i_M ft_M ft_M_ok n_M hown hK hP hD hS 0 rfl rfl 5 (by decide) (hG _ L_M_13) (fun _ h9 => h9) rfl hin rfl (by decide +kernel) rfl rfl (Nat.le_of_ble_eq_true rfl) d_Minit_85 (fun H locs hP hD hS => ?_)
  have hP : va_P D classes [(h, .inr (4, [.int 0, .int 0, .int 0, .int 0, .ref q_1, .ref q_3, .null, .null, .null, .null, .null, .null, .null, .null, .null, .null, .null, .null])), (q_1, .inl (k_2, 8, .inl (upd (upd (upd (upd (upd (upd (upd (upd (fun _ => 0) 0 1) 1 1) 2 1) 3 1) 4 1) 5 1) 6 1) 7 1))), (q_3, .inl (k_4, 8, .inl (upd (upd (upd (upd (upd (upd (upd (upd (fun _ => 0) 0 1) 1 1) 2 1) 3 1) 4 1) 5 1) 6 1) 7 1)))] H := hP
  have hD : va_D A [(h, .inr (4, [.int 0, .int 0, .int 0, .int 0, .ref q_1, .ref q_3, .null, .null, .null, .null, .null, .null, .null, .null, .null, .null, .null, .null])), (q_1, .inl (k_2, 8, .inl (upd (upd (upd (upd (upd (upd (upd (upd (fun _ => 0) 0 1) 1 1) 2 1) 3 1) 4 1) 5 1) 6 1) 7 1))), (q_3, .inl (k_4, 8, .inl (upd (upd (upd (upd (upd (upd (upd (upd (fun _ => 0) 0 1) 1 1) 2 1) 3 1) 4 1) 5 1) 6 1) 7 1)))] := hD
  refine lv_aload_n hx hb d_Minit_88 rfl (lv_at hl 0 rfl) ?_
  refine lv_bipush (v := 8) hx hb d_Minit_89 (by decide) ?_
  refine va_newa (atype := .int) (ty := .int) (n := 8) (N' := 8) (a0 := (8, .inl (fun _ => 0))) hx hb (hG _ arr_int) rfl hK hP hD hS hA (fun _ => rfl) (by decide) (by decide) (by decide) (by decide) (by decide) d_Minit_91 (fun q_5 k_6 H hK hP hD hS => ?_)
  have hK : va_K D classes [(k_2, .int), (k_4, .int), (k_6, .int)] s := hK
  have hP : va_P D classes [(h, .inr (4, [.int 0, .int 0, .int 0, .int 0, .ref q_1, .ref q_3, .null, .null, .null, .null, .null, .null, .null, .null, .null, .null, .null, .null])), (q_1, .inl (k_2, 8, .inl (upd (upd (upd (upd (upd (upd (upd (upd (fun _ => 0) 0 1) 1 1) 2 1) 3 1) 4 1) 5 1) 6 1) 7 1))), (q_3, .inl (k_4, 8, .inl (upd (upd (upd (upd (upd (upd (upd (upd (fun _ => 0) 0 1) 1 1) 2 1) 3 1) 4 1) 5 1) 6 1) 7 1))), (q_5, .inl (k_6, 8, .inl (fun _ => 0)))] H := hP
  have hD : va_D A [(h, .inr (4, [.int 0, .int 0, .int 0, .int 0, .ref q_1, .ref q_3, .null, .null, .null, .null, .null, .null, .null, .null, .null, .null, .null, .null])), (q_1, .inl (k_2, 8, .inl (upd (upd (upd (upd (upd (upd (upd (upd (fun _ => 0) 0 1) 1 1) 2 1) 3 1) 4 1) 5 1) 6 1) 7 1))), (q_3, .inl (k_4, 8, .inl (upd (upd (upd (upd (upd (upd (upd (upd (fun _ => 0) 0 1) 1 1) 2 1) 3 1) 4 1) 5 1) 6 1) 7 1))), (q_5, .inl (k_6, 8, .inl (fun _ => 0)))] := hD
  refine W.widen (k := 3) (n := 24) (by decide) (by decide) ?_
  refine va_putF (ty := (.array .int)) (v := .ref q_5) hx hb hG i_M ft_M ft_M_ok n_M hown hK hP hD hS 0 rfl rfl 6 (by decide) (hG _ L_M_16) (fun _ h9 => h9) rfl hin rfl (by decide +kernel) rfl rfl (Nat.le_of_ble_eq_true rfl) d_Minit_93 (fun H locs hP hD hS => ?_)
  have hP : va_P D classes [(h, .inr (4, [.int 0, .int 0, .int 0, .int 0, .ref q_1, .ref q_3, .ref q_5, .null, .null, .null, .null, .null, .null, .null, .null, .null, .null, .null])), (q_1, .inl (k_2, 8, .inl (upd (upd (upd (upd (upd (upd (upd (upd (fun _ => 0) 0 1) 1 1) 2 1) 3 1) 4 1) 5 1) 6 1) 7 1))), (q_3, .inl (k_4, 8, .inl (upd (upd (upd (upd (upd (upd (upd (upd (fun _ => 0) 0 1) 1 1) 2 1) 3 1) 4 1) 5 1) 6 1) 7 1))), (q_5, .inl (k_6, 8, .inl (fun _ => 0)))] H := hP
  have hD : va_D A [(h, .inr (4, [.int 0, .int 0, .int 0, .int 0, .ref q_1, .ref q_3, .ref q_5, .null, .null, .null, .null, .null, .null, .null, .null, .null, .null, .null])), (q_1, .inl (k_2, 8, .inl (upd (upd (upd (upd (upd (upd (upd (upd (fun _ => 0) 0 1) 1 1) 2 1) 3 1) 4 1) 5 1) 6 1) 7 1))), (q_3, .inl (k_4, 8, .inl (upd (upd (upd (upd (upd (upd (upd (upd (fun _ => 0) 0 1) 1 1) 2 1) 3 1) 4 1) 5 1) 6 1) 7 1))), (q_5, .inl (k_6, 8, .inl (fun _ => 0)))] := hD
  refine lv_aload_n hx hb d_Minit_96 rfl (lv_at hl 0 rfl) ?_
  refine lv_bipush (v := 8) hx hb d_Minit_97 (by decide) ?_
  refine va_newa (atype := .boolean) (ty := .boolean) (n := 8) (N' := 8) (a0 := (8, .inl (fun _ => 0))) hx hb (hG _ arr_boolean) rfl hK hP hD hS hA (fun _ => rfl) (by decide) (by decide) (by decide) (by decide) (by decide) d_Minit_99 (fun q_7 k_8 H hK hP hD hS => ?_)
  have hK : va_K D classes [(k_2, .int), (k_4, .int), (k_6, .int), (k_8, .boolean)] s := hK
  have hP : va_P D classes [(h, .inr (4, [.int 0, .int 0, .int 0, .int 0, .ref q_1, .ref q_3, .ref q_5, .null, .null, .null, .null, .null, .null, .null, .null, .null, .null, .null])), (q_1, .inl (k_2, 8, .inl (upd (upd (upd (upd (upd (upd (upd (upd (fun _ => 0) 0 1) 1 1) 2 1) 3 1) 4 1) 5 1) 6 1) 7 1))), (q_3, .inl (k_4, 8, .inl (upd (upd (upd (upd (upd (upd (upd (upd (fun _ => 0) 0 1) 1 1) 2 1) 3 1) 4 1) 5 1) 6 1) 7 1))), (q_5, .inl (k_6, 8, .inl (fun _ => 0))), (q_7, .inl (k_8, 8, .inl (fun _ => 0)))] H := hP
  have hD : va_D A [(h, .inr (4, [.int 0, .int 0, .int 0, .int 0, .ref q_1, .ref q_3, .ref q_5, .null, .null, .null, .null, .null, .null, .null, .null, .null, .null, .null])), (q_1, .inl (k_2, 8, .inl (upd (upd (upd (upd (upd (upd (upd (upd (fun _ => 0) 0 1) 1 1) 2 1) 3 1) 4 1) 5 1) 6 1) 7 1))), (q_3, .inl (k_4, 8, .inl (upd (upd (upd (upd (upd (upd (upd (upd (fun _ => 0) 0 1) 1 1) 2 1) 3 1) 4 1) 5 1) 6 1) 7 1))), (q_5, .inl (k_6, 8, .inl (fun _ => 0))), (q_7, .inl (k_8, 8, .inl (fun _ => 0)))] := hD
  refine W.widen (k := 4) (n := 32) (by decide) (by decide) ?_
  refine va_putF (ty := (.array .boolean)) (v := .ref q_7) hx hb hG i_M ft_M ft_M_ok n_M hown hK hP hD hS 0 rfl rfl 7 (by decide) (hG _ L_M_19) (fun _ h9 => h9) rfl hin rfl (by decide +kernel) rfl rfl (Nat.le_of_ble_eq_true rfl) d_Minit_101 (fun H locs hP hD hS => ?_)
  have hP : va_P D classes [(h, .inr (4, [.int 0, .int 0, .int 0, .int 0, .ref q_1, .ref q_3, .ref q_5, .ref q_7, .null, .null, .null, .null, .null, .null, .null, .null, .null, .null])), (q_1, .inl (k_2, 8, .inl (upd (upd (upd (upd (upd (upd (upd (upd (fun _ => 0) 0 1) 1 1) 2 1) 3 1) 4 1) 5 1) 6 1) 7 1))), (q_3, .inl (k_4, 8, .inl (upd (upd (upd (upd (upd (upd (upd (upd (fun _ => 0) 0 1) 1 1) 2 1) 3 1) 4 1) 5 1) 6 1) 7 1))), (q_5, .inl (k_6, 8, .inl (fun _ => 0))), (q_7, .inl (k_8, 8, .inl (fun _ => 0)))] H := hP
  have hD : va_D A [(h, .inr (4, [.int 0, .int 0, .int 0, .int 0, .ref q_1, .ref q_3, .ref q_5, .ref q_7, .null, .null, .null, .null, .null, .null, .null, .null, .null, .null])), (q_1, .inl (k_2, 8, .inl (upd (upd (upd (upd (upd (upd (upd (upd (fun _ => 0) 0 1) 1 1) 2 1) 3 1) 4 1) 5 1) 6 1) 7 1))), (q_3, .inl (k_4, 8, .inl (upd (upd (upd (upd (upd (upd (upd (upd (fun _ => 0) 0 1) 1 1) 2 1) 3 1) 4 1) 5 1) 6 1) 7 1))), (q_5, .inl (k_6, 8, .inl (fun _ => 0))), (q_7, .inl (k_8, 8, .inl (fun _ => 0)))] := hD
  refine lv_aload_n hx hb d_Minit_104 rfl (lv_at hl 0 rfl) ?_
  refine lv_bipush (v := 8) hx hb d_Minit_105 (by decide) ?_
  refine va_newa (atype := .boolean) (ty := .boolean) (n := 8) (N' := 8) (a0 := (8, .inl (fun _ => 0))) hx hb (hG _ arr_boolean) rfl hK hP hD hS hA (fun _ => rfl) (by decide) (by decide) (by decide) (by decide) (by decide) d_Minit_107 (fun q_9 k_10 H hK hP hD hS => ?_)
  have hK : va_K D classes [(k_2, .int), (k_4, .int), (k_6, .int), (k_8, .boolean), (k_10, .boolean)] s := hK
  have hP : va_P D classes [(h, .inr (4, [.int 0, .int 0, .int 0, .int 0, .ref q_1, .ref q_3, .ref q_5, .ref q_7, .null, .null, .null, .null, .null, .null, .null, .null, .null, .null])), (q_1, .inl (k_2, 8, .inl (upd (upd (upd (upd (upd (upd (upd (upd (fun _ => 0) 0 1) 1 1) 2 1) 3 1) 4 1) 5 1) 6 1) 7 1))), (q_3, .inl (k_4, 8, .inl (upd (upd (upd (upd (upd (upd (upd (upd (fun _ => 0) 0 1) 1 1) 2 1) 3 1) 4 1) 5 1) 6 1) 7 1))), (q_5, .inl (k_6, 8, .inl (fun _ => 0))), (q_7, .inl (k_8, 8, .inl (fun _ => 0))), (q_9, .inl (k_10, 8, .inl (fun _ => 0)))] H := hP
  have hD : va_D A [(h, .inr (4, [.int 0, .int 0, .int 0, .int 0, .ref q_1, .ref q_3, .ref q_5, .ref q_7, .null, .null, .null, .null, .null, .null, .null, .null, .null, .null])), (q_1, .inl (k_2, 8, .inl (upd (upd (upd (upd (upd (upd (upd (upd (fun _ => 0) 0 1) 1 1) 2 1) 3 1) 4 1) 5 1) 6 1) 7 1))), (q_3, .inl (k_4, 8, .inl (upd (upd (upd (upd (upd (upd (upd (upd (fun _ => 0) 0 1) 1 1) 2 1) 3 1) 4 1) 5 1) 6 1) 7 1))), (q_5, .inl (k_6, 8, .inl (fun _ => 0))), (q_7, .inl (k_8, 8, .inl (fun _ => 0))), (q_9, .inl (k_10, 8, .inl (fun _ => 0)))] := hD
  refine W.widen (k := 5) (n := 40) (by decide) (by decide) ?_
  refine va_putF (ty := (.array .boolean)) (v := .ref q_9) hx hb hG i_M ft_M ft_M_ok n_M hown hK hP hD hS 0 rfl rfl 8 (by decide) (hG _ L_M_23) (fun _ h9 => h9) rfl hin rfl (by decide +kernel) rfl rfl (Nat.le_of_ble_eq_true rfl) d_Minit_109 (fun H locs hP hD hS => ?_)
  have hP : va_P D classes [(h, .inr (4, [.int 0, .int 0, .int 0, .int 0, .ref q_1, .ref q_3, .ref q_5, .ref q_7, .ref q_9, .null, .null, .null, .null, .null, .null, .null, .null, .null])), (q_1, .inl (k_2, 8, .inl (upd (upd (upd (upd (upd (upd (upd (upd (fun _ => 0) 0 1) 1 1) 2 1) 3 1) 4 1) 5 1) 6 1) 7 1))), (q_3, .inl (k_4, 8, .inl (upd (upd (upd (upd (upd (upd (upd (upd (fun _ => 0) 0 1) 1 1) 2 1) 3 1) 4 1) 5 1) 6 1) 7 1))), (q_5, .inl (k_6, 8, .inl (fun _ => 0))), (q_7, .inl (k_8, 8, .inl (fun _ => 0))), (q_9, .inl (k_10, 8, .inl (fun _ => 0)))] H := hP
  have hD : va_D A [(h, .inr (4, [.int 0, .int 0, .int 0, .int 0, .ref q_1, .ref q_3, .ref q_5, .ref q_7, .ref q_9, .null, .null, .null, .null, .null, .null, .null, .null, .null])), (q_1, .inl (k_2, 8, .inl (upd (upd (upd (upd (upd (upd (upd (upd (fun _ => 0) 0 1) 1 1) 2 1) 3 1) 4 1) 5 1) 6 1) 7 1))), (q_3, .inl (k_4, 8, .inl (upd (upd (upd (upd (upd (upd (upd (upd (fun _ => 0) 0 1) 1 1) 2 1) 3 1) 4 1) 5 1) 6 1) 7 1))), (q_5, .inl (k_6, 8, .inl (fun _ => 0))), (q_7, .inl (k_8, 8, .inl (fun _ => 0))), (q_9, .inl (k_10, 8, .inl (fun _ => 0)))] := hD
  refine lv_aload_n hx hb d_Minit_112 rfl (lv_at hl 0 rfl) ?_
  refine lv_bipush (v := 32) hx hb d_Minit_113 (by decide) ?_
  refine va_newa (atype := .int) (ty := .int) (n := 32) (N' := 32) (a0 := (32, .inl (fun _ => 0))) hx hb (hG _ arr_int) rfl hK hP hD hS hA (fun _ => rfl) (by decide) (by decide) (by decide) (by decide) (by decide) d_Minit_115 (fun q_11 k_12 H hK hP hD hS => ?_)
  have hK : va_K D classes [(k_2, .int), (k_4, .int), (k_6, .int), (k_8, .boolean), (k_10, .boolean), (k_12, .int)] s := hK
  have hP : va_P D classes [(h, .inr (4, [.int 0, .int 0, .int 0, .int 0, .ref q_1, .ref q_3, .ref q_5, .ref q_7, .ref q_9, .null, .null, .null, .null, .null, .null, .null, .null, .null])), (q_1, .inl (k_2, 8, .inl (upd (upd (upd (upd (upd (upd (upd (upd (fun _ => 0) 0 1) 1 1) 2 1) 3 1) 4 1) 5 1) 6 1) 7 1))), (q_3, .inl (k_4, 8, .inl (upd (upd (upd (upd (upd (upd (upd (upd (fun _ => 0) 0 1) 1 1) 2 1) 3 1) 4 1) 5 1) 6 1) 7 1))), (q_5, .inl (k_6, 8, .inl (fun _ => 0))), (q_7, .inl (k_8, 8, .inl (fun _ => 0))), (q_9, .inl (k_10, 8, .inl (fun _ => 0))), (q_11, .inl (k_12, 32, .inl (fun _ => 0)))] H := hP
  have hD : va_D A [(h, .inr (4, [.int 0, .int 0, .int 0, .int 0, .ref q_1, .ref q_3, .ref q_5, .ref q_7, .ref q_9, .null, .null, .null, .null, .null, .null, .null, .null, .null])), (q_1, .inl (k_2, 8, .inl (upd (upd (upd (upd (upd (upd (upd (upd (fun _ => 0) 0 1) 1 1) 2 1) 3 1) 4 1) 5 1) 6 1) 7 1))), (q_3, .inl (k_4, 8, .inl (upd (upd (upd (upd (upd (upd (upd (upd (fun _ => 0) 0 1) 1 1) 2 1) 3 1) 4 1) 5 1) 6 1) 7 1))), (q_5, .inl (k_6, 8, .inl (fun _ => 0))), (q_7, .inl (k_8, 8, .inl (fun _ => 0))), (q_9, .inl (k_10, 8, .inl (fun _ => 0))), (q_11, .inl (k_12, 32, .inl (fun _ => 0)))] := hD
  refine W.widen (k := 6) (n := 72) (by decide) (by decide) ?_
  refine va_putF (ty := (.array .int)) (v := .ref q_11) hx hb hG i_M ft_M ft_M_ok n_M hown hK hP hD hS 0 rfl rfl 9 (by decide) (hG _ L_M_26) (fun _ h9 => h9) rfl hin rfl (by decide +kernel) rfl rfl (Nat.le_of_ble_eq_true rfl) d_Minit_117 (fun H locs hP hD hS => ?_)
  have hP : va_P D classes [(h, .inr (4, [.int 0, .int 0, .int 0, .int 0, .ref q_1, .ref q_3, .ref q_5, .ref q_7, .ref q_9, .ref q_11, .null, .null, .null, .null, .null, .null, .null, .null])), (q_1, .inl (k_2, 8, .inl (upd (upd (upd (upd (upd (upd (upd (upd (fun _ => 0) 0 1) 1 1) 2 1) 3 1) 4 1) 5 1) 6 1) 7 1))), (q_3, .inl (k_4, 8, .inl (upd (upd (upd (upd (upd (upd (upd (upd (fun _ => 0) 0 1) 1 1) 2 1) 3 1) 4 1) 5 1) 6 1) 7 1))), (q_5, .inl (k_6, 8, .inl (fun _ => 0))), (q_7, .inl (k_8, 8, .inl (fun _ => 0))), (q_9, .inl (k_10, 8, .inl (fun _ => 0))), (q_11, .inl (k_12, 32, .inl (fun _ => 0)))] H := hP
  have hD : va_D A [(h, .inr (4, [.int 0, .int 0, .int 0, .int 0, .ref q_1, .ref q_3, .ref q_5, .ref q_7, .ref q_9, .ref q_11, .null, .null, .null, .null, .null, .null, .null, .null])), (q_1, .inl (k_2, 8, .inl (upd (upd (upd (upd (upd (upd (upd (upd (fun _ => 0) 0 1) 1 1) 2 1) 3 1) 4 1) 5 1) 6 1) 7 1))), (q_3, .inl (k_4, 8, .inl (upd (upd (upd (upd (upd (upd (upd (upd (fun _ => 0) 0 1) 1 1) 2 1) 3 1) 4 1) 5 1) 6 1) 7 1))), (q_5, .inl (k_6, 8, .inl (fun _ => 0))), (q_7, .inl (k_8, 8, .inl (fun _ => 0))), (q_9, .inl (k_10, 8, .inl (fun _ => 0))), (q_11, .inl (k_12, 32, .inl (fun _ => 0)))] := hD
  refine lv_aload_n hx hb d_Minit_120 rfl (lv_at hl 0 rfl) ?_
  refine lv_iconst (v := 4) hx hb d_Minit_121 (by decide) ?_
  refine va_newa (atype := .int) (ty := .int) (n := 4) (N' := 4) (a0 := (4, .inl (fun _ => 0))) hx hb (hG _ arr_int) rfl hK hP hD hS hA (fun _ => rfl) (by decide) (by decide) (by decide) (by decide) (by decide) d_Minit_122 (fun q_13 k_14 H hK hP hD hS => ?_)
  have hK : va_K D classes [(k_2, .int), (k_4, .int), (k_6, .int), (k_8, .boolean), (k_10, .boolean), (k_12, .int), (k_14, .int)] s := hK
  have hP : va_P D classes [(h, .inr (4, [.int 0, .int 0, .int 0, .int 0, .ref q_1, .ref q_3, .ref q_5, .ref q_7, .ref q_9, .ref q_11, .null, .null, .null, .null, .null, .null, .null, .null])), (q_1, .inl (k_2, 8, .inl (upd (upd (upd (upd (upd (upd (upd (upd (fun _ => 0) 0 1) 1 1) 2 1) 3 1) 4 1) 5 1) 6 1) 7 1))), (q_3, .inl (k_4, 8, .inl (upd (upd (upd (upd (upd (upd (upd (upd (fun _ => 0) 0 1) 1 1) 2 1) 3 1) 4 1) 5 1) 6 1) 7 1))), (q_5, .inl (k_6, 8, .inl (fun _ => 0))), (q_7, .inl (k_8, 8, .inl (fun _ => 0))), (q_9, .inl (k_10, 8, .inl (fun _ => 0))), (q_11, .inl (k_12, 32, .inl (fun _ => 0))), (q_13, .inl (k_14, 4, .inl (fun _ => 0)))] H := hP
  have hD : va_D A [(h, .inr (4, [.int 0, .int 0, .int 0, .int 0, .ref q_1, .ref q_3, .ref q_5, .ref q_7, .ref q_9, .ref q_11, .null, .null, .null, .null, .null, .null, .null, .null])), (q_1, .inl (k_2, 8, .inl (upd (upd (upd (upd (upd (upd (upd (upd (fun _ => 0) 0 1) 1 1) 2 1) 3 1) 4 1) 5 1) 6 1) 7 1))), (q_3, .inl (k_4, 8, .inl (upd (upd (upd (upd (upd (upd (upd (upd (fun _ => 0) 0 1) 1 1) 2 1) 3 1) 4 1) 5 1) 6 1) 7 1))), (q_5, .inl (k_6, 8, .inl (fun _ => 0))), (q_7, .inl (k_8, 8, .inl (fun _ => 0))), (q_9, .inl (k_10, 8, .inl (fun _ => 0))), (q_11, .inl (k_12, 32, .inl (fun _ => 0))), (q_13, .inl (k_14, 4, .inl (fun _ => 0)))] := hD
  refine W.widen (k := 7) (n := 76) (by decide) (by decide) ?_
  refine va_putF (ty := (.array .int)) (v := .ref q_13) hx hb hG i_M ft_M ft_M_ok n_M hown hK hP hD hS 0 rfl rfl 10 (by decide) (hG _ L_M_29) (fun _ h9 => h9) rfl hin rfl (by decide +kernel) rfl rfl (Nat.le_of_ble_eq_true rfl) d_Minit_124 (fun H locs hP hD hS => ?_)
  have hP : va_P D classes [(h, .inr (4, [.int 0, .int 0, .int 0, .int 0, .ref q_1, .ref q_3, .ref q_5, .ref q_7, .ref q_9, .ref q_11, .ref q_13, .null, .null, .null, .null, .null, .null, .null])), (q_1, .inl (k_2, 8, .inl (upd (upd (upd (upd (upd (upd (upd (upd (fun _ => 0) 0 1) 1 1) 2 1) 3 1) 4 1) 5 1) 6 1) 7 1))), (q_3, .inl (k_4, 8, .inl (upd (upd (upd (upd (upd (upd (upd (upd (fun _ => 0) 0 1) 1 1) 2 1) 3 1) 4 1) 5 1) 6 1) 7 1))), (q_5, .inl (k_6, 8, .inl (fun _ => 0))), (q_7, .inl (k_8, 8, .inl (fun _ => 0))), (q_9, .inl (k_10, 8, .inl (fun _ => 0))), (q_11, .inl (k_12, 32, .inl (fun _ => 0))), (q_13, .inl (k_14, 4, .inl (fun _ => 0)))] H := hP
  have hD : va_D A [(h, .inr (4, [.int 0, .int 0, .int 0, .int 0, .ref q_1, .ref q_3, .ref q_5, .ref q_7, .ref q_9, .ref q_11, .ref q_13, .null, .null, .null, .null, .null, .null, .null])), (q_1, .inl (k_2, 8, .inl (upd (upd (upd (upd (upd (upd (upd (upd (fun _ => 0) 0 1) 1 1) 2 1) 3 1) 4 1) 5 1) 6 1) 7 1))), (q_3, .inl (k_4, 8, .inl (upd (upd (upd (upd (upd (upd (upd (upd (fun _ => 0) 0 1) 1 1) 2 1) 3 1) 4 1) 5 1) 6 1) 7 1))), (q_5, .inl (k_6, 8, .inl (fun _ => 0))), (q_7, .inl (k_8, 8, .inl (fun _ => 0))), (q_9, .inl (k_10, 8, .inl (fun _ => 0))), (q_11, .inl (k_12, 32, .inl (fun _ => 0))), (q_13, .inl (k_14, 4, .inl (fun _ => 0)))] := hD
  refine lv_aload_n hx hb d_Minit_127 rfl (lv_at hl 0 rfl) ?_
  refine lv_iconst (v := 4) hx hb d_Minit_128 (by decide) ?_
  refine va_newa (atype := .int) (ty := .int) (n := 4) (N' := 4) (a0 := (4, .inl (fun _ => 0))) hx hb (hG _ arr_int) rfl hK hP hD hS hA (fun _ => rfl) (by decide) (by decide) (by decide) (by decide) (by decide) d_Minit_129 (fun q_15 k_16 H hK hP hD hS => ?_)
  have hK : va_K D classes [(k_2, .int), (k_4, .int), (k_6, .int), (k_8, .boolean), (k_10, .boolean), (k_12, .int), (k_14, .int), (k_16, .int)] s := hK
  have hP : va_P D classes [(h, .inr (4, [.int 0, .int 0, .int 0, .int 0, .ref q_1, .ref q_3, .ref q_5, .ref q_7, .ref q_9, .ref q_11, .ref q_13, .null, .null, .null, .null, .null, .null, .null])), (q_1, .inl (k_2, 8, .inl (upd (upd (upd (upd (upd (upd (upd (upd (fun _ => 0) 0 1) 1 1) 2 1) 3 1) 4 1) 5 1) 6 1) 7 1))), (q_3, .inl (k_4, 8, .inl (upd (upd (upd (upd (upd (upd (upd (upd (fun _ => 0) 0 1) 1 1) 2 1) 3 1) 4 1) 5 1) 6 1) 7 1))), (q_5, .inl (k_6, 8, .inl (fun _ => 0))), (q_7, .inl (k_8, 8, .inl (fun _ => 0))), (q_9, .inl (k_10, 8, .inl (fun _ => 0))), (q_11, .inl (k_12, 32, .inl (fun _ => 0))), (q_13, .inl (k_14, 4, .inl (fun _ => 0))), (q_15, .inl (k_16, 4, .inl (fun _ => 0)))] H := hP
  have hD : va_D A [(h, .inr (4, [.int 0, .int 0, .int 0, .int 0, .ref q_1, .ref q_3, .ref q_5, .ref q_7, .ref q_9, .ref q_11, .ref q_13, .null, .null, .null, .null, .null, .null, .null])), (q_1, .inl (k_2, 8, .inl (upd (upd (upd (upd (upd (upd (upd (upd (fun _ => 0) 0 1) 1 1) 2 1) 3 1) 4 1) 5 1) 6 1) 7 1))), (q_3, .inl (k_4, 8, .inl (upd (upd (upd (upd (upd (upd (upd (upd (fun _ => 0) 0 1) 1 1) 2 1) 3 1) 4 1) 5 1) 6 1) 7 1))), (q_5, .inl (k_6, 8, .inl (fun _ => 0))), (q_7, .inl (k_8, 8, .inl (fun _ => 0))), (q_9, .inl (k_10, 8, .inl (fun _ => 0))), (q_11, .inl (k_12, 32, .inl (fun _ => 0))), (q_13, .inl (k_14, 4, .inl (fun _ => 0))), (q_15, .inl (k_16, 4, .inl (fun _ => 0)))] := hD
  refine W.widen (k := 8) (n := 80) (by decide) (by decide) ?_
  refine lv_dup hx hb d_Minit_131 rfl ?_
  refine lv_iconst (v := 0) hx hb d_Minit_132 (by decide) ?_
  refine lv_iconst (v := 1) hx hb d_Minit_133 (by decide) ?_
  refine va_iast (i := 0) hx hb hK hP hD hS 8 7 rfl rfl (vp_in_nI (n := 0) (by decide) (by decide)) d_Minit_134 (fun H locs hP hD hS => ?_)
  have hP : va_P D classes [(h, .inr (4, [.int 0, .int 0, .int 0, .int 0, .ref q_1, .ref q_3, .ref q_5, .ref q_7, .ref q_9, .ref q_11, .ref q_13, .null, .null, .null, .null, .null, .null, .null])), (q_1, .inl (k_2, 8, .inl (upd (upd (upd (upd (upd (upd (upd (upd (fun _ => 0) 0 1) 1 1) 2 1) 3 1) 4 1) 5 1) 6 1) 7 1))), (q_3, .inl (k_4, 8, .inl (upd (upd (upd (upd (upd (upd (upd (upd (fun _ => 0) 0 1) 1 1) 2 1) 3 1) 4 1) 5 1) 6 1) 7 1))), (q_5, .inl (k_6, 8, .inl (fun _ => 0))), (q_7, .inl (k_8, 8, .inl (fun _ => 0))), (q_9, .inl (k_10, 8, .inl (fun _ => 0))), (q_11, .inl (k_12, 32, .inl (fun _ => 0))), (q_13, .inl (k_14, 4, .inl (fun _ => 0))), (q_15, .inl (k_16, 4, .inl (upd (fun _ => 0) 0 1)))] H := hP
  have hD : va_D A [(h, .inr (4, [.int 0, .int 0, .int 0, .int 0, .ref q_1, .ref q_3, .ref q_5, .ref q_7, .ref q_9, .ref q_11, .ref q_13, .null, .null, .null, .null, .null, .null, .null])), (q_1, .inl (k_2, 8, .inl (upd (upd (upd (upd (upd (upd (upd (upd (fun _ => 0) 0 1) 1 1) 2 1) 3 1) 4 1) 5 1) 6 1) 7 1))), (q_3, .inl (k_4, 8, .inl (upd (upd (upd (upd (upd (upd (upd (upd (fun _ => 0) 0 1) 1 1) 2 1) 3 1) 4 1) 5 1) 6 1) 7 1))), (q_5, .inl (k_6, 8, .inl (fun _ => 0))), (q_7, .inl (k_8, 8, .inl (fun _ => 0))), (q_9, .inl (k_10, 8, .inl (fun _ => 0))), (q_11, .inl (k_12, 32, .inl (fun _ => 0))), (q_13, .inl (k_14, 4, .inl (fun _ => 0))), (q_15, .inl (k_16, 4, .inl (upd (fun _ => 0) 0 1)))] := hD
  refine lv_dup hx hb d_Minit_135 rfl ?_
  refine lv_iconst (v := 1) hx hb d_Minit_136 (by decide) ?_
  refine lv_iconst (v := 1) hx hb d_Minit_137 (by decide) ?_
  refine va_iast (i := 1) hx hb hK hP hD hS 8 7 rfl rfl (vp_in_nI (n := 1) (by decide) (by decide)) d_Minit_138 (fun H locs hP hD hS => ?_)
  have hP : va_P D classes [(h, .inr (4, [.int 0, .int 0, .int 0, .int 0, .ref q_1, .ref q_3, .ref q_5, .ref q_7, .ref q_9, .ref q_11, .ref q_13, .null, .null, .null, .null, .null, .null, .null])), (q_1, .inl (k_2, 8, .inl (upd (upd (upd (upd (upd (upd (upd (upd (fun _ => 0) 0 1) 1 1) 2 1) 3 1) 4 1) 5 1) 6 1) 7 1))), (q_3, .inl (k_4, 8, .inl (upd (upd (upd (upd (upd (upd (upd (upd (fun _ => 0) 0 1) 1 1) 2 1) 3 1) 4 1) 5 1) 6 1) 7 1))), (q_5, .inl (k_6, 8, .inl (fun _ => 0))), (q_7, .inl (k_8, 8, .inl (fun _ => 0))), (q_9, .inl (k_10, 8, .inl (fun _ => 0))), (q_11, .inl (k_12, 32, .inl (fun _ => 0))), (q_13, .inl (k_14, 4, .inl (fun _ => 0))), (q_15, .inl (k_16, 4, .inl (upd (upd (fun _ => 0) 0 1) 1 1)))] H := hP
  have hD : va_D A [(h, .inr (4, [.int 0, .int 0, .int 0, .int 0, .ref q_1, .ref q_3, .ref q_5, .ref q_7, .ref q_9, .ref q_11, .ref q_13, .null, .null, .null, .null, .null, .null, .null])), (q_1, .inl (k_2, 8, .inl (upd (upd (upd (upd (upd (upd (upd (upd (fun _ => 0) 0 1) 1 1) 2 1) 3 1) 4 1) 5 1) 6 1) 7 1))), (q_3, .inl (k_4, 8, .inl (upd (upd (upd (upd (upd (upd (upd (upd (fun _ => 0) 0 1) 1 1) 2 1) 3 1) 4 1) 5 1) 6 1) 7 1))), (q_5, .inl (k_6, 8, .inl (fun _ => 0))), (q_7, .inl (k_8, 8, .inl (fun _ => 0))), (q_9, .inl (k_10, 8, .inl (fun _ => 0))), (q_11, .inl (k_12, 32, .inl (fun _ => 0))), (q_13, .inl (k_14, 4, .inl (fun _ => 0))), (q_15, .inl (k_16, 4, .inl (upd (upd (fun _ => 0) 0 1) 1 1)))] := hD
  refine lv_dup hx hb d_Minit_139 rfl ?_
  refine lv_iconst (v := 2) hx hb d_Minit_140 (by decide) ?_
  refine lv_iconst (v := 1) hx hb d_Minit_141 (by decide) ?_
  refine va_iast (i := 2) hx hb hK hP hD hS 8 7 rfl rfl (vp_in_nI (n := 2) (by decide) (by decide)) d_Minit_142 (fun H locs hP hD hS => ?_)
  have hP : va_P D classes [(h, .inr (4, [.int 0, .int 0, .int 0, .int 0, .ref q_1, .ref q_3, .ref q_5, .ref q_7, .ref q_9, .ref q_11, .ref q_13, .null, .null, .null, .null, .null, .null, .null])), (q_1, .inl (k_2, 8, .inl (upd (upd (upd (upd (upd (upd (upd (upd (fun _ => 0) 0 1) 1 1) 2 1) 3 1) 4 1) 5 1) 6 1) 7 1))), (q_3, .inl (k_4, 8, .inl (upd (upd (upd (upd (upd (upd (upd (upd (fun _ => 0) 0 1) 1 1) 2 1) 3 1) 4 1) 5 1) 6 1) 7 1))), (q_5, .inl (k_6, 8, .inl (fun _ => 0))), (q_7, .inl (k_8, 8, .inl (fun _ => 0))), (q_9, .inl (k_10, 8, .inl (fun _ => 0))), (q_11, .inl (k_12, 32, .inl (fun _ => 0))), (q_13, .inl (k_14, 4, .inl (fun _ => 0))), (q_15, .inl (k_16, 4, .inl (upd (upd (upd (fun _ => 0) 0 1) 1 1) 2 1)))] H := hP
  have hD : va_D A [(h, .inr (4, [.int 0, .int 0, .int 0, .int 0, .ref q_1, .ref q_3, .ref q_5, .ref q_7, .ref q_9, .ref q_11, .ref q_13, .null, .null, .null, .null, .null, .null, .null])), (q_1, .inl (k_2, 8, .inl (upd (upd (upd (upd (upd (upd (upd (upd (fun _ => 0) 0 1) 1 1) 2 1) 3 1) 4 1) 5 1) 6 1) 7 1))), (q_3, .inl (k_4, 8, .inl (upd (upd (upd (upd (upd (upd (upd (upd (fun _ => 0) 0 1) 1 1) 2 1) 3 1) 4 1) 5 1) 6 1) 7 1))), (q_5, .inl (k_6, 8, .inl (fun _ => 0))), (q_7, .inl (k_8, 8, .inl (fun _ => 0))), (q_9, .inl (k_10, 8, .inl (fun _ => 0))), (q_11, .inl (k_12, 32, .inl (fun _ => 0))), (q_13, .inl (k_14, 4, .inl (fun _ => 0))), (q_15, .inl (k_16, 4, .inl (upd (upd (upd (fun _ => 0) 0 1) 1 1) 2 1)))] := hD
  refine lv_dup hx hb d_Minit_143 rfl ?_
  refine lv_iconst (v := 3) hx hb d_Minit_144 (by decide) ?_
  refine lv_iconst (v := 1) hx hb d_Minit_145 (by decide) ?_
  refine va_iast (i := 3) hx hb hK hP hD hS 8 7 rfl rfl (vp_in_nI (n := 3) (by decide) (by decide)) d_Minit_146 (fun H locs hP hD hS => ?_)
  have hP : va_P D classes [(h, .inr (4, [.int 0, .int 0, .int 0, .int 0, .ref q_1, .ref q_3, .ref q_5, .ref q_7, .ref q_9, .ref q_11, .ref q_13, .null, .null, .null, .null, .null, .null, .null])), (q_1, .inl (k_2, 8, .inl (upd (upd (upd (upd (upd (upd (upd (upd (fun _ => 0) 0 1) 1 1) 2 1) 3 1) 4 1) 5 1) 6 1) 7 1))), (q_3, .inl (k_4, 8, .inl (upd (upd (upd (upd (upd (upd (upd (upd (fun _ => 0) 0 1) 1 1) 2 1) 3 1) 4 1) 5 1) 6 1) 7 1))), (q_5, .inl (k_6, 8, .inl (fun _ => 0))), (q_7, .inl (k_8, 8, .inl (fun _ => 0))), (q_9, .inl (k_10, 8, .inl (fun _ => 0))), (q_11, .inl (k_12, 32, .inl (fun _ => 0))), (q_13, .inl (k_14, 4, .inl (fun _ => 0))), (q_15, .inl (k_16, 4, .inl (upd (upd (upd (upd (fun _ => 0) 0 1) 1 1) 2 1) 3 1)))] H := hP
  have hD : va_D A [(h, .inr (4, [.int 0, .int 0, .int 0, .int 0, .ref q_1, .ref q_3, .ref q_5, .ref q_7, .ref q_9, .ref q_11, .ref q_13, .null, .null, .null, .null, .null, .null, .null])), (q_1, .inl (k_2, 8, .inl (upd (upd (upd (upd (upd (upd (upd (upd (fun _ => 0) 0 1) 1 1) 2 1) 3 1) 4 1) 5 1) 6 1) 7 1))), (q_3, .inl (k_4, 8, .inl (upd (upd (upd (upd (upd (upd (upd (upd (fun _ => 0) 0 1) 1 1) 2 1) 3 1) 4 1) 5 1) 6 1) 7 1))), (q_5, .inl (k_6, 8, .inl (fun _ => 0))), (q_7, .inl (k_8, 8, .inl (fun _ => 0))), (q_9, .inl (k_10, 8, .inl (fun _ => 0))), (q_11, .inl (k_12, 32, .inl (fun _ => 0))), (q_13, .inl (k_14, 4, .inl (fun _ => 0))), (q_15, .inl (k_16, 4, .inl (upd (upd (upd (upd (fun _ => 0) 0 1) 1 1) 2 1) 3 1)))] := hD
  refine va_putF (ty := (.array .int)) (v := .ref q_15) hx hb hG i_M ft_M ft_M_ok n_M hown hK hP hD hS 0 rfl rfl 11 (by decide) (hG _ L_M_32) (fun _ h9 => h9) rfl hin rfl (by decide +kernel) rfl rfl (Nat.le_of_ble_eq_true rfl) d_Minit_147 (fun H locs hP hD hS => ?_)
  have hP : va_P D classes [(h, .inr (4, [.int 0, .int 0, .int 0, .int 0, .ref q_1, .ref q_3, .ref q_5, .ref q_7, .ref q_9, .ref q_11, .ref q_13, .ref q_15, .null, .null, .null, .null, .null, .null])), (q_1, .inl (k_2, 8, .inl (upd (upd (upd (upd (upd (upd (upd (upd (fun _ => 0) 0 1) 1 1) 2 1) 3 1) 4 1) 5 1) 6 1) 7 1))), (q_3, .inl (k_4, 8, .inl (upd (upd (upd (upd (upd (upd (upd (upd (fun _ => 0) 0 1) 1 1) 2 1) 3 1) 4 1) 5 1) 6 1) 7 1))), (q_5, .inl (k_6, 8, .inl (fun _ => 0))), (q_7, .inl (k_8, 8, .inl (fun _ => 0))), (q_9, .inl (k_10, 8, .inl (fun _ => 0))), (q_11, .inl (k_12, 32, .inl (fun _ => 0))), (q_13, .inl (k_14, 4, .inl (fun _ => 0))), (q_15, .inl (k_16, 4, .inl (upd (upd (upd (upd (fun _ => 0) 0 1) 1 1) 2 1) 3 1)))] H := hP
  have hD : va_D A [(h, .inr (4, [.int 0, .int 0, .int 0, .int 0, .ref q_1, .ref q_3, .ref q_5, .ref q_7, .ref q_9, .ref q_11, .ref q_13, .ref q_15, .null, .null, .null, .null, .null, .null])), (q_1, .inl (k_2, 8, .inl (upd (upd (upd (upd (upd (upd (upd (upd (fun _ => 0) 0 1) 1 1) 2 1) 3 1) 4 1) 5 1) 6 1) 7 1))), (q_3, .inl (k_4, 8, .inl (upd (upd (upd (upd (upd (upd (upd (upd (fun _ => 0) 0 1) 1 1) 2 1) 3 1) 4 1) 5 1) 6 1) 7 1))), (q_5, .inl (k_6, 8, .inl (fun _ => 0))), (q_7, .inl (k_8, 8, .inl (fun _ => 0))), (q_9, .inl (k_10, 8, .inl (fun _ => 0))), (q_11, .inl (k_12, 32, .inl (fun _ => 0))), (q_13, .inl (k_14, 4, .inl (fun _ => 0))), (q_15, .inl (k_16, 4, .inl (upd (upd (upd (upd (fun _ => 0) 0 1) 1 1) 2 1) 3 1)))] := hD
  refine lv_aload_n hx hb d_Minit_150 rfl (lv_at hl 0 rfl) ?_
  refine lv_iconst (v := 4) hx hb d_Minit_151 (by decide) ?_
  refine va_newa (atype := .int) (ty := .int) (n := 4) (N' := 4) (a0 := (4, .inl (fun _ => 0))) hx hb (hG _ arr_int) rfl hK hP hD hS hA (fun _ => rfl) (by decide) (by decide) (by decide) (by decide) (by decide) d_Minit_152 (fun q_17 k_18 H hK hP hD hS => ?_)
  have hK : va_K D classes [(k_2, .int), (k_4, .int), (k_6, .int), (k_8, .boolean), (k_10, .boolean), (k_12, .int), (k_14, .int), (k_16, .int), (k_18, .int)] s := hK
  have hP : va_P D classes [(h, .inr (4, [.int 0, .int 0, .int 0, .int 0, .ref q_1, .ref q_3, .ref q_5, .ref q_7, .ref q_9, .ref q_11, .ref q_13, .ref q_15, .null, .null, .null, .null, .null, .null])), (q_1, .inl (k_2, 8, .inl (upd (upd (upd (upd (upd (upd (upd (upd (fun _ => 0) 0 1) 1 1) 2 1) 3 1) 4 1) 5 1) 6 1) 7 1))), (q_3, .inl (k_4, 8, .inl (upd (upd (upd (upd (upd (upd (upd (upd (fun _ => 0) 0 1) 1 1) 2 1) 3 1) 4 1) 5 1) 6 1) 7 1))), (q_5, .inl (k_6, 8, .inl (fun _ => 0))), (q_7, .inl (k_8, 8, .inl (fun _ => 0))), (q_9, .inl (k_10, 8, .inl (fun _ => 0))), (q_11, .inl (k_12, 32, .inl (fun _ => 0))), (q_13, .inl (k_14, 4, .inl (fun _ => 0))), (q_15, .inl (k_16, 4, .inl (upd (upd (upd (upd (fun _ => 0) 0 1) 1 1) 2 1) 3 1))), (q_17, .inl (k_18, 4, .inl (fun _ => 0)))] H := hP
  have hD : va_D A [(h, .inr (4, [.int 0, .int 0, .int 0, .int 0, .ref q_1, .ref q_3, .ref q_5, .ref q_7, .ref q_9, .ref q_11, .ref q_13, .ref q_15, .null, .null, .null, .null, .null, .null])), (q_1, .inl (k_2, 8, .inl (upd (upd (upd (upd (upd (upd (upd (upd (fun _ => 0) 0 1) 1 1) 2 1) 3 1) 4 1) 5 1) 6 1) 7 1))), (q_3, .inl (k_4, 8, .inl (upd (upd (upd (upd (upd (upd (upd (upd (fun _ => 0) 0 1) 1 1) 2 1) 3 1) 4 1) 5 1) 6 1) 7 1))), (q_5, .inl (k_6, 8, .inl (fun _ => 0))), (q_7, .inl (k_8, 8, .inl (fun _ => 0))), (q_9, .inl (k_10, 8, .inl (fun _ => 0))), (q_11, .inl (k_12, 32, .inl (fun _ => 0))), (q_13, .inl (k_14, 4, .inl (fun _ => 0))), (q_15, .inl (k_16, 4, .inl (upd (upd (upd (upd (fun _ => 0) 0 1) 1 1) 2 1) 3 1))), (q_17, .inl (k_18, 4, .inl (fun _ => 0)))] := hD
  refine W.widen (k := 9) (n := 84) (by decide) (by decide) ?_
  refine va_putF (ty := (.array .int)) (v := .ref q_17) hx hb hG i_M ft_M ft_M_ok n_M hown hK hP hD hS 0 rfl rfl 12 (by decide) (hG _ L_M_35) (fun _ h9 => h9) rfl hin rfl (by decide +kernel) rfl rfl (Nat.le_of_ble_eq_true rfl) d_Minit_154 (fun H locs hP hD hS => ?_)
  have hP : va_P D classes [(h, .inr (4, [.int 0, .int 0, .int 0, .int 0, .ref q_1, .ref q_3, .ref q_5, .ref q_7, .ref q_9, .ref q_11, .ref q_13, .ref q_15, .ref q_17, .null, .null, .null, .null, .null])), (q_1, .inl (k_2, 8, .inl (upd (upd (upd (upd (upd (upd (upd (upd (fun _ => 0) 0 1) 1 1) 2 1) 3 1) 4 1) 5 1) 6 1) 7 1))), (q_3, .inl (k_4, 8, .inl (upd (upd (upd (upd (upd (upd (upd (upd (fun _ => 0) 0 1) 1 1) 2 1) 3 1) 4 1) 5 1) 6 1) 7 1))), (q_5, .inl (k_6, 8, .inl (fun _ => 0))), (q_7, .inl (k_8, 8, .inl (fun _ => 0))), (q_9, .inl (k_10, 8, .inl (fun _ => 0))), (q_11, .inl (k_12, 32, .inl (fun _ => 0))), (q_13, .inl (k_14, 4, .inl (fun _ => 0))), (q_15, .inl (k_16, 4, .inl (upd (upd (upd (upd (fun _ => 0) 0 1) 1 1) 2 1) 3 1))), (q_17, .inl (k_18, 4, .inl (fun _ => 0)))] H := hP
  have hD : va_D A [(h, .inr (4, [.int 0, .int 0, .int 0, .int 0, .ref q_1, .ref q_3, .ref q_5, .ref q_7, .ref q_9, .ref q_11, .ref q_13, .ref q_15, .ref q_17, .null, .null, .null, .null, .null])), (q_1, .inl (k_2, 8, .inl (upd (upd (upd (upd (upd (upd (upd (upd (fun _ => 0) 0 1) 1 1) 2 1) 3 1) 4 1) 5 1) 6 1) 7 1))), (q_3, .inl (k_4, 8, .inl (upd (upd (upd (upd (upd (upd (upd (upd (fun _ => 0) 0 1) 1 1) 2 1) 3 1) 4 1) 5 1) 6 1) 7 1))), (q_5, .inl (k_6, 8, .inl (fun _ => 0))), (q_7, .inl (k_8, 8, .inl (fun _ => 0))), (q_9, .inl (k_10, 8, .inl (fun _ => 0))), (q_11, .inl (k_12, 32, .inl (fun _ => 0))), (q_13, .inl (k_14, 4, .inl (fun _ => 0))), (q_15, .inl (k_16, 4, .inl (upd (upd (upd (upd (fun _ => 0) 0 1) 1 1) 2 1) 3 1))), (q_17, .inl (k_18, 4, .inl (fun _ => 0)))] := hD
  refine lv_aload_n hx hb d_Minit_157 rfl (lv_at hl 0 rfl) ?_
  refine lv_iconst (v := 4) hx hb d_Minit_158 (by decide) ?_
  refine va_newa (atype := .boolean) (ty := .boolean) (n := 4) (N' := 4) (a0 := (4, .inl (fun _ => 0))) hx hb (hG _ arr_boolean) rfl hK hP hD hS hA (fun _ => rfl) (by decide) (by decide) (by decide) (by decide) (by decide) d_Minit_159 (fun q_19 k_20 H hK hP hD hS => ?_)
  have hK : va_K D classes [(k_2, .int), (k_4, .int), (k_6, .int), (k_8, .boolean), (k_10, .boolean), (k_12, .int), (k_14, .int), (k_16, .int), (k_18, .int), (k_20, .boolean)] s := hK
  have hP : va_P D classes [(h, .inr (4, [.int 0, .int 0, .int 0, .int 0, .ref q_1, .ref q_3, .ref q_5, .ref q_7, .ref q_9, .ref q_11, .ref q_13, .ref q_15, .ref q_17, .null, .null, .null, .null, .null])), (q_1, .inl (k_2, 8, .inl (upd (upd (upd (upd (upd (upd (upd (upd (fun _ => 0) 0 1) 1 1) 2 1) 3 1) 4 1) 5 1) 6 1) 7 1))), (q_3, .inl (k_4, 8, .inl (upd (upd (upd (upd (upd (upd (upd (upd (fun _ => 0) 0 1) 1 1) 2 1) 3 1) 4 1) 5 1) 6 1) 7 1))), (q_5, .inl (k_6, 8, .inl (fun _ => 0))), (q_7, .inl (k_8, 8, .inl (fun _ => 0))), (q_9, .inl (k_10, 8, .inl (fun _ => 0))), (q_11, .inl (k_12, 32, .inl (fun _ => 0))), (q_13, .inl (k_14, 4, .inl (fun _ => 0))), (q_15, .inl (k_16, 4, .inl (upd (upd (upd (upd (fun _ => 0) 0 1) 1 1) 2 1) 3 1))), (q_17, .inl (k_18, 4, .inl (fun _ => 0))), (q_19, .inl (k_20, 4, .inl (fun _ => 0)))] H := hP
  have hD : va_D A [(h, .inr (4, [.int 0, .int 0, .int 0, .int 0, .ref q_1, .ref q_3, .ref q_5, .ref q_7, .ref q_9, .ref q_11, .ref q_13, .ref q_15, .ref q_17, .null, .null, .null, .null, .null])), (q_1, .inl (k_2, 8, .inl (upd (upd (upd (upd (upd (upd (upd (upd (fun _ => 0) 0 1) 1 1) 2 1) 3 1) 4 1) 5 1) 6 1) 7 1))), (q_3, .inl (k_4, 8, .inl (upd (upd (upd (upd (upd (upd (upd (upd (fun _ => 0) 0 1) 1 1) 2 1) 3 1) 4 1) 5 1) 6 1) 7 1))), (q_5, .inl (k_6, 8, .inl (fun _ => 0))), (q_7, .inl (k_8, 8, .inl (fun _ => 0))), (q_9, .inl (k_10, 8, .inl (fun _ => 0))), (q_11, .inl (k_12, 32, .inl (fun _ => 0))), (q_13, .inl (k_14, 4, .inl (fun _ => 0))), (q_15, .inl (k_16, 4, .inl (upd (upd (upd (upd (fun _ => 0) 0 1) 1 1) 2 1) 3 1))), (q_17, .inl (k_18, 4, .inl (fun _ => 0))), (q_19, .inl (k_20, 4, .inl (fun _ => 0)))] := hD
  refine W.widen (k := 10) (n := 88) (by decide) (by decide) ?_
  refine va_putF (ty := (.array .boolean)) (v := .ref q_19) hx hb hG i_M ft_M ft_M_ok n_M hown hK hP hD hS 0 rfl rfl 13 (by decide) (hG _ L_M_38) (fun _ h9 => h9) rfl hin rfl (by decide +kernel) rfl rfl (Nat.le_of_ble_eq_true rfl) d_Minit_161 (fun H locs hP hD hS => ?_)
  have hP : va_P D classes [(h, .inr (4, [.int 0, .int 0, .int 0, .int 0, .ref q_1, .ref q_3, .ref q_5, .ref q_7, .ref q_9, .ref q_11, .ref q_13, .ref q_15, .ref q_17, .ref q_19, .null, .null, .null, .null])), (q_1, .inl (k_2, 8, .inl (upd (upd (upd (upd (upd (upd (upd (upd (fun _ => 0) 0 1) 1 1) 2 1) 3 1) 4 1) 5 1) 6 1) 7 1))), (q_3, .inl (k_4, 8, .inl (upd (upd (upd (upd (upd (upd (upd (upd (fun _ => 0) 0 1) 1 1) 2 1) 3 1) 4 1) 5 1) 6 1) 7 1))), (q_5, .inl (k_6, 8, .inl (fun _ => 0))), (q_7, .inl (k_8, 8, .inl (fun _ => 0))), (q_9, .inl (k_10, 8, .inl (fun _ => 0))), (q_11, .inl (k_12, 32, .inl (fun _ => 0))), (q_13, .inl (k_14, 4, .inl (fun _ => 0))), (q_15, .inl (k_16, 4, .inl (upd (upd (upd (upd (fun _ => 0) 0 1) 1 1) 2 1) 3 1))), (q_17, .inl (k_18, 4, .inl (fun _ => 0))), (q_19, .inl (k_20, 4, .inl (fun _ => 0)))] H := hP
  have hD : va_D A [(h, .inr (4, [.int 0, .int 0, .int 0, .int 0, .ref q_1, .ref q_3, .ref q_5, .ref q_7, .ref q_9, .ref q_11, .ref q_13, .ref q_15, .ref q_17, .ref q_19, .null, .null, .null, .null])), (q_1, .inl (k_2, 8, .inl (upd (upd (upd (upd (upd (upd (upd (upd (fun _ => 0) 0 1) 1 1) 2 1) 3 1) 4 1) 5 1) 6 1) 7 1))), (q_3, .inl (k_4, 8, .inl (upd (upd (upd (upd (upd (upd (upd (upd (fun _ => 0) 0 1) 1 1) 2 1) 3 1) 4 1) 5 1) 6 1) 7 1))), (q_5, .inl (k_6, 8, .inl (fun _ => 0))), (q_7, .inl (k_8, 8, .inl (fun _ => 0))), (q_9, .inl (k_10, 8, .inl (fun _ => 0))), (q_11, .inl (k_12, 32, .inl (fun _ => 0))), (q_13, .inl (k_14, 4, .inl (fun _ => 0))), (q_15, .inl (k_16, 4, .inl (upd (upd (upd (upd (fun _ => 0) 0 1) 1 1) 2 1) 3 1))), (q_17, .inl (k_18, 4, .inl (fun _ => 0))), (q_19, .inl (k_20, 4, .inl (fun _ => 0)))] := hD
  refine lv_aload_n hx hb d_Minit_164 rfl (lv_at hl 0 rfl) ?_
  refine lv_iconst (v := 4) hx hb d_Minit_165 (by decide) ?_
  refine va_newa (atype := .int) (ty := .int) (n := 4) (N' := 4) (a0 := (4, .inl (fun _ => 0))) hx hb (hG _ arr_int) rfl hK hP hD hS hA (fun _ => rfl) (by decide) (by decide) (by decide) (by decide) (by decide) d_Minit_166 (fun q_21 k_22 H hK hP hD hS => ?_)
  have hK : va_K D classes [(k_2, .int), (k_4, .int), (k_6, .int), (k_8, .boolean), (k_10, .boolean), (k_12, .int), (k_14, .int), (k_16, .int), (k_18, .int), (k_20, .boolean), (k_22, .int)] s := hK
  have hP : va_P D classes [(h, .inr (4, [.int 0, .int 0, .int 0, .int 0, .ref q_1, .ref q_3, .ref q_5, .ref q_7, .ref q_9, .ref q_11, .ref q_13, .ref q_15, .ref q_17, .ref q_19, .null, .null, .null, .null])), (q_1, .inl (k_2, 8, .inl (upd (upd (upd (upd (upd (upd (upd (upd (fun _ => 0) 0 1) 1 1) 2 1) 3 1) 4 1) 5 1) 6 1) 7 1))), (q_3, .inl (k_4, 8, .inl (upd (upd (upd (upd (upd (upd (upd (upd (fun _ => 0) 0 1) 1 1) 2 1) 3 1) 4 1) 5 1) 6 1) 7 1))), (q_5, .inl (k_6, 8, .inl (fun _ => 0))), (q_7, .inl (k_8, 8, .inl (fun _ => 0))), (q_9, .inl (k_10, 8, .inl (fun _ => 0))), (q_11, .inl (k_12, 32, .inl (fun _ => 0))), (q_13, .inl (k_14, 4, .inl (fun _ => 0))), (q_15, .inl (k_16, 4, .inl (upd (upd (upd (upd (fun _ => 0) 0 1) 1 1) 2 1) 3 1))), (q_17, .inl (k_18, 4, .inl (fun _ => 0))), (q_19, .inl (k_20, 4, .inl (fun _ => 0))), (q_21, .inl (k_22, 4, .inl (fun _ => 0)))] H := hP
  have hD : va_D A [(h, .inr (4, [.int 0, .int 0, .int 0, .int 0, .ref q_1, .ref q_3, .ref q_5, .ref q_7, .ref q_9, .ref q_11, .ref q_13, .ref q_15, .ref q_17, .ref q_19, .null, .null, .null, .null])), (q_1, .inl (k_2, 8, .inl (upd (upd (upd (upd (upd (upd (upd (upd (fun _ => 0) 0 1) 1 1) 2 1) 3 1) 4 1) 5 1) 6 1) 7 1))), (q_3, .inl (k_4, 8, .inl (upd (upd (upd (upd (upd (upd (upd (upd (fun _ => 0) 0 1) 1 1) 2 1) 3 1) 4 1) 5 1) 6 1) 7 1))), (q_5, .inl (k_6, 8, .inl (fun _ => 0))), (q_7, .inl (k_8, 8, .inl (fun _ => 0))), (q_9, .inl (k_10, 8, .inl (fun _ => 0))), (q_11, .inl (k_12, 32, .inl (fun _ => 0))), (q_13, .inl (k_14, 4, .inl (fun _ => 0))), (q_15, .inl (k_16, 4, .inl (upd (upd (upd (upd (fun _ => 0) 0 1) 1 1) 2 1) 3 1))), (q_17, .inl (k_18, 4, .inl (fun _ => 0))), (q_19, .inl (k_20, 4, .inl (fun _ => 0))), (q_21, .inl (k_22, 4, .inl (fun _ => 0)))] := hD
  refine W.widen (k := 11) (n := 92) (by decide) (by decide) ?_
  refine va_putF (ty := (.array .int)) (v := .ref q_21) hx hb hG i_M ft_M ft_M_ok n_M hown hK hP hD hS 0 rfl rfl 14 (by decide) (hG _ L_M_41) (fun _ h9 => h9) rfl hin rfl (by decide +kernel) rfl rfl (Nat.le_of_ble_eq_true rfl) d_Minit_168 (fun H locs hP hD hS => ?_)
  have hP : va_P D classes [(h, .inr (4, [.int 0, .int 0, .int 0, .int 0, .ref q_1, .ref q_3, .ref q_5, .ref q_7, .ref q_9, .ref q_11, .ref q_13, .ref q_15, .ref q_17, .ref q_19, .ref q_21, .null, .null, .null])), (q_1, .inl (k_2, 8, .inl (upd (upd (upd (upd (upd (upd (upd (upd (fun _ => 0) 0 1) 1 1) 2 1) 3 1) 4 1) 5 1) 6 1) 7 1))), (q_3, .inl (k_4, 8, .inl (upd (upd (upd (upd (upd (upd (upd (upd (fun _ => 0) 0 1) 1 1) 2 1) 3 1) 4 1) 5 1) 6 1) 7 1))), (q_5, .inl (k_6, 8, .inl (fun _ => 0))), (q_7, .inl (k_8, 8, .inl (fun _ => 0))), (q_9, .inl (k_10, 8, .inl (fun _ => 0))), (q_11, .inl (k_12, 32, .inl (fun _ => 0))), (q_13, .inl (k_14, 4, .inl (fun _ => 0))), (q_15, .inl (k_16, 4, .inl (upd (upd (upd (upd (fun _ => 0) 0 1) 1 1) 2 1) 3 1))), (q_17, .inl (k_18, 4, .inl (fun _ => 0))), (q_19, .inl (k_20, 4, .inl (fun _ => 0))), (q_21, .inl (k_22, 4, .inl (fun _ => 0)))] H := hP
  have hD : va_D A [(h, .inr (4, [.int 0, .int 0, .int 0, .int 0, .ref q_1, .ref q_3, .ref q_5, .ref q_7, .ref q_9, .ref q_11, .ref q_13, .ref q_15, .ref q_17, .ref q_19, .ref q_21, .null, .null, .null])), (q_1, .inl (k_2, 8, .inl (upd (upd (upd (upd (upd (upd (upd (upd (fun _ => 0) 0 1) 1 1) 2 1) 3 1) 4 1) 5 1) 6 1) 7 1))), (q_3, .inl (k_4, 8, .inl (upd (upd (upd (upd (upd (upd (upd (upd (fun _ => 0) 0 1) 1 1) 2 1) 3 1) 4 1) 5 1) 6 1) 7 1))), (q_5, .inl (k_6, 8, .inl (fun _ => 0))), (q_7, .inl (k_8, 8, .inl (fun _ => 0))), (q_9, .inl (k_10, 8, .inl (fun _ => 0))), (q_11, .inl (k_12, 32, .inl (fun _ => 0))), (q_13, .inl (k_14, 4, .inl (fun _ => 0))), (q_15, .inl (k_16, 4, .inl (upd (upd (upd (upd (fun _ => 0) 0 1) 1 1) 2 1) 3 1))), (q_17, .inl (k_18, 4, .inl (fun _ => 0))), (q_19, .inl (k_20, 4, .inl (fun _ => 0))), (q_21, .inl (k_22, 4, .inl (fun _ => 0)))] := hD
  refine lv_aload_n hx hb d_Minit_171 rfl (lv_at hl 0 rfl) ?_
  refine lv_iconst (v := 4) hx hb d_Minit_172 (by decide) ?_
  refine va_newa (atype := .int) (ty := .int) (n := 4) (N' := 4) (a0 := (4, .inl (fun _ => 0))) hx hb (hG _ arr_int) rfl hK hP hD hS hA (fun _ => rfl) (by decide) (by decide) (by decide) (by decide) (by decide) d_Minit_173 (fun q_23 k_24 H hK hP hD hS => ?_)
  have hK : va_K D classes [(k_2, .int), (k_4, .int), (k_6, .int), (k_8, .boolean), (k_10, .boolean), (k_12, .int), (k_14, .int), (k_16, .int), (k_18, .int), (k_20, .boolean), (k_22, .int), (k_24, .int)] s := hK
  have hP : va_P D classes [(h, .inr (4, [.int 0, .int 0, .int 0, .int 0, .ref q_1, .ref q_3, .ref q_5, .ref q_7, .ref q_9, .ref q_11, .ref q_13, .ref q_15, .ref q_17, .ref q_19, .ref q_21, .null, .null, .null])), (q_1, .inl (k_2, 8, .inl (upd (upd (upd (upd (upd (upd (upd (upd (fun _ => 0) 0 1) 1 1) 2 1) 3 1) 4 1) 5 1) 6 1) 7 1))), (q_3, .inl (k_4, 8, .inl (upd (upd (upd (upd (upd (upd (upd (upd (fun _ => 0) 0 1) 1 1) 2 1) 3 1) 4 1) 5 1) 6 1) 7 1))), (q_5, .inl (k_6, 8, .inl (fun _ => 0))), (q_7, .inl (k_8, 8, .inl (fun _ => 0))), (q_9, .inl (k_10, 8, .inl (fun _ => 0))), (q_11, .inl (k_12, 32, .inl (fun _ => 0))), (q_13, .inl (k_14, 4, .inl (fun _ => 0))), (q_15, .inl (k_16, 4, .inl (upd (upd (upd (upd (fun _ => 0) 0 1) 1 1) 2 1) 3 1))), (q_17, .inl (k_18, 4, .inl (fun _ => 0))), (q_19, .inl (k_20, 4, .inl (fun _ => 0))), (q_21, .inl (k_22, 4, .inl (fun _ => 0))), (q_23, .inl (k_24, 4, .inl (fun _ => 0)))] H := hP
  have hD : va_D A [(h, .inr (4, [.int 0, .int 0, .int 0, .int 0, .ref q_1, .ref q_3, .ref q_5, .ref q_7, .ref q_9, .ref q_11, .ref q_13, .ref q_15, .ref q_17, .ref q_19, .ref q_21, .null, .null, .null])), (q_1, .inl (k_2, 8, .inl (upd (upd (upd (upd (upd (upd (upd (upd (fun _ => 0) 0 1) 1 1) 2 1) 3 1) 4 1) 5 1) 6 1) 7 1))), (q_3, .inl (k_4, 8, .inl (upd (upd (upd (upd (upd (upd (upd (upd (fun _ => 0) 0 1) 1 1) 2 1) 3 1) 4 1) 5 1) 6 1) 7 1))), (q_5, .inl (k_6, 8, .inl (fun _ => 0))), (q_7, .inl (k_8, 8, .inl (fun _ => 0))), (q_9, .inl (k_10, 8, .inl (fun _ => 0))), (q_11, .inl (k_12, 32, .inl (fun _ => 0))), (q_13, .inl (k_14, 4, .inl (fun _ => 0))), (q_15, .inl (k_16, 4, .inl (upd (upd (upd (upd (fun _ => 0) 0 1) 1 1) 2 1) 3 1))), (q_17, .inl (k_18, 4, .inl (fun _ => 0))), (q_19, .inl (k_20, 4, .inl (fun _ => 0))), (q_21, .inl (k_22, 4, .inl (fun _ => 0))), (q_23, .inl (k_24, 4, .inl (fun _ => 0)))] := hD
  refine W.widen (k := 12) (n := 96) (by decide) (by decide) ?_
  refine va_putF (ty := (.array .int)) (v := .ref q_23) hx hb hG i_M ft_M ft_M_ok n_M hown hK hP hD hS 0 rfl rfl 15 (by decide) (hG _ L_M_44) (fun _ h9 => h9) rfl hin rfl (by decide +kernel) rfl rfl (Nat.le_of_ble_eq_true rfl) d_Minit_175 (fun H locs hP hD hS => ?_)
  have hP : va_P D classes [(h, .inr (4, [.int 0, .int 0, .int 0, .int 0, .ref q_1, .ref q_3, .ref q_5, .ref q_7, .ref q_9, .ref q_11, .ref q_13, .ref q_15, .ref q_17, .ref q_19, .ref q_21, .ref q_23, .null, .null])), (q_1, .inl (k_2, 8, .inl (upd (upd (upd (upd (upd (upd (upd (upd (fun _ => 0) 0 1) 1 1) 2 1) 3 1) 4 1) 5 1) 6 1) 7 1))), (q_3, .inl (k_4, 8, .inl (upd (upd (upd (upd (upd (upd (upd (upd (fun _ => 0) 0 1) 1 1) 2 1) 3 1) 4 1) 5 1) 6 1) 7 1))), (q_5, .inl (k_6, 8, .inl (fun _ => 0))), (q_7, .inl (k_8, 8, .inl (fun _ => 0))), (q_9, .inl (k_10, 8, .inl (fun _ => 0))), (q_11, .inl (k_12, 32, .inl (fun _ => 0))), (q_13, .inl (k_14, 4, .inl (fun _ => 0))), (q_15, .inl (k_16, 4, .inl (upd (upd (upd (upd (fun _ => 0) 0 1) 1 1) 2 1) 3 1))), (q_17, .inl (k_18, 4, .inl (fun _ => 0))), (q_19, .inl (k_20, 4, .inl (fun _ => 0))), (q_21, .inl (k_22, 4, .inl (fun _ => 0))), (q_23, .inl (k_24, 4, .inl (fun _ => 0)))] H := hP
  have hD : va_D A [(h, .inr (4, [.int 0, .int 0, .int 0, .int 0, .ref q_1, .ref q_3, .ref q_5, .ref q_7, .ref q_9, .ref q_11, .ref q_13, .ref q_15, .ref q_17, .ref q_19, .ref q_21, .ref q_23, .null, .null])), (q_1, .inl (k_2, 8, .inl (upd (upd (upd (upd (upd (upd (upd (upd (fun _ => 0) 0 1) 1 1) 2 1) 3 1) 4 1) 5 1) 6 1) 7 1))), (q_3, .inl (k_4, 8, .inl (upd (upd (upd (upd (upd (upd (upd (upd (fun _ => 0) 0 1) 1 1) 2 1) 3 1) 4 1) 5 1) 6 1) 7 1))), (q_5, .inl (k_6, 8, .inl (fun _ => 0))), (q_7, .inl (k_8, 8, .inl (fun _ => 0))), (q_9, .inl (k_10, 8, .inl (fun _ => 0))), (q_11, .inl (k_12, 32, .inl (fun _ => 0))), (q_13, .inl (k_14, 4, .inl (fun _ => 0))), (q_15, .inl (k_16, 4, .inl (upd (upd (upd (upd (fun _ => 0) 0 1) 1 1) 2 1) 3 1))), (q_17, .inl (k_18, 4, .inl (fun _ => 0))), (q_19, .inl (k_20, 4, .inl (fun _ => 0))), (q_21, .inl (k_22, 4, .inl (fun _ => 0))), (q_23, .inl (k_24, 4, .inl (fun _ => 0)))] := hD
  refine lv_aload_n hx hb d_Minit_178 rfl (lv_at hl 0 rfl) ?_
  refine lv_iconst (v := 4) hx hb d_Minit_179 (by decide) ?_
  refine va_newa (atype := .int) (ty := .int) (n := 4) (N' := 4) (a0 := (4, .inl (fun _ => 0))) hx hb (hG _ arr_int) rfl hK hP hD hS hA (fun _ => rfl) (by decide) (by decide) (by decide) (by decide) (by decide) d_Minit_180 (fun q_25 k_26 H hK hP hD hS => ?_)
  have hK : va_K D classes [(k_2, .int), (k_4, .int), (k_6, .int), (k_8, .boolean), (k_10, .boolean), (k_12, .int), (k_14, .int), (k_16, .int), (k_18, .int), (k_20, .boolean), (k_22, .int), (k_24, .int), (k_26, .int)] s := hK
  have hP : va_P D classes [(h, .inr (4, [.int 0, .int 0, .int 0, .int 0, .ref q_1, .ref q_3, .ref q_5, .ref q_7, .ref q_9, .ref q_11, .ref q_13, .ref q_15, .ref q_17, .ref q_19, .ref q_21, .ref q_23, .null, .null])), (q_1, .inl (k_2, 8, .inl (upd (upd (upd (upd (upd (upd (upd (upd (fun _ => 0) 0 1) 1 1) 2 1) 3 1) 4 1) 5 1) 6 1) 7 1))), (q_3, .inl (k_4, 8, .inl (upd (upd (upd (upd (upd (upd (upd (upd (fun _ => 0) 0 1) 1 1) 2 1) 3 1) 4 1) 5 1) 6 1) 7 1))), (q_5, .inl (k_6, 8, .inl (fun _ => 0))), (q_7, .inl (k_8, 8, .inl (fun _ => 0))), (q_9, .inl (k_10, 8, .inl (fun _ => 0))), (q_11, .inl (k_12, 32, .inl (fun _ => 0))), (q_13, .inl (k_14, 4, .inl (fun _ => 0))), (q_15, .inl (k_16, 4, .inl (upd (upd (upd (upd (fun _ => 0) 0 1) 1 1) 2 1) 3 1))), (q_17, .inl (k_18, 4, .inl (fun _ => 0))), (q_19, .inl (k_20, 4, .inl (fun _ => 0))), (q_21, .inl (k_22, 4, .inl (fun _ => 0))), (q_23, .inl (k_24, 4, .inl (fun _ => 0))), (q_25, .inl (k_26, 4, .inl (fun _ => 0)))] H := hP
  have hD : va_D A [(h, .inr (4, [.int 0, .int 0, .int 0, .int 0, .ref q_1, .ref q_3, .ref q_5, .ref q_7, .ref q_9, .ref q_11, .ref q_13, .ref q_15, .ref q_17, .ref q_19, .ref q_21, .ref q_23, .null, .null])), (q_1, .inl (k_2, 8, .inl (upd (upd (upd (upd (upd (upd (upd (upd (fun _ => 0) 0 1) 1 1) 2 1) 3 1) 4 1) 5 1) 6 1) 7 1))), (q_3, .inl (k_4, 8, .inl (upd (upd (upd (upd (upd (upd (upd (upd (fun _ => 0) 0 1) 1 1) 2 1) 3 1) 4 1) 5 1) 6 1) 7 1))), (q_5, .inl (k_6, 8, .inl (fun _ => 0))), (q_7, .inl (k_8, 8, .inl (fun _ => 0))), (q_9, .inl (k_10, 8, .inl (fun _ => 0))), (q_11, .inl (k_12, 32, .inl (fun _ => 0))), (q_13, .inl (k_14, 4, .inl (fun _ => 0))), (q_15, .inl (k_16, 4, .inl (upd (upd (upd (upd (fun _ => 0) 0 1) 1 1) 2 1) 3 1))), (q_17, .inl (k_18, 4, .inl (fun _ => 0))), (q_19, .inl (k_20, 4, .inl (fun _ => 0))), (q_21, .inl (k_22, 4, .inl (fun _ => 0))), (q_23, .inl (k_24, 4, .inl (fun _ => 0))), (q_25, .inl (k_26, 4, .inl (fun _ => 0)))] := hD
  refine W.widen (k := 13) (n := 100) (by decide) (by decide) ?_
  refine lv_dup hx hb d_Minit_182 rfl ?_
  refine lv_iconst (v := 0) hx hb d_Minit_183 (by decide) ?_
  refine lv_iconst (v := (-1)) hx hb d_Minit_184 (by decide) ?_
  refine va_iast (i := 0) hx hb hK hP hD hS 13 12 rfl rfl (vp_in_nI (n := 0) (by decide) (by decide)) d_Minit_185 (fun H locs hP hD hS => ?_)
  have hP : va_P D classes [(h, .inr (4, [.int 0, .int 0, .int 0, .int 0, .ref q_1, .ref q_3, .ref q_5, .ref q_7, .ref q_9, .ref q_11, .ref q_13, .ref q_15, .ref q_17, .ref q_19, .ref q_21, .ref q_23, .null, .null])), (q_1, .inl (k_2, 8, .inl (upd (upd (upd (upd (upd (upd (upd (upd (fun _ => 0) 0 1) 1 1) 2 1) 3 1) 4 1) 5 1) 6 1) 7 1))), (q_3, .inl (k_4, 8, .inl (upd (upd (upd (upd (upd (upd (upd (upd (fun _ => 0) 0 1) 1 1) 2 1) 3 1) 4 1) 5 1) 6 1) 7 1))), (q_5, .inl (k_6, 8, .inl (fun _ => 0))), (q_7, .inl (k_8, 8, .inl (fun _ => 0))), (q_9, .inl (k_10, 8, .inl (fun _ => 0))), (q_11, .inl (k_12, 32, .inl (fun _ => 0))), (q_13, .inl (k_14, 4, .inl (fun _ => 0))), (q_15, .inl (k_16, 4, .inl (upd (upd (upd (upd (fun _ => 0) 0 1) 1 1) 2 1) 3 1))), (q_17, .inl (k_18, 4, .inl (fun _ => 0))), (q_19, .inl (k_20, 4, .inl (fun _ => 0))), (q_21, .inl (k_22, 4, .inl (fun _ => 0))), (q_23, .inl (k_24, 4, .inl (fun _ => 0))), (q_25, .inl (k_26, 4, .inl (upd (fun _ => 0) 0 (-1))))] H := hP
  have hD : va_D A [(h, .inr (4, [.int 0, .int 0, .int 0, .int 0, .ref q_1, .ref q_3, .ref q_5, .ref q_7, .ref q_9, .ref q_11, .ref q_13, .ref q_15, .ref q_17, .ref q_19, .ref q_21, .ref q_23, .null, .null])), (q_1, .inl (k_2, 8, .inl (upd (upd (upd (upd (upd (upd (upd (upd (fun _ => 0) 0 1) 1 1) 2 1) 3 1) 4 1) 5 1) 6 1) 7 1))), (q_3, .inl (k_4, 8, .inl (upd (upd (upd (upd (upd (upd (upd (upd (fun _ => 0) 0 1) 1 1) 2 1) 3 1) 4 1) 5 1) 6 1) 7 1))), (q_5, .inl (k_6, 8, .inl (fun _ => 0))), (q_7, .inl (k_8, 8, .inl (fun _ => 0))), (q_9, .inl (k_10, 8, .inl (fun _ => 0))), (q_11, .inl (k_12, 32, .inl (fun _ => 0))), (q_13, .inl (k_14, 4, .inl (fun _ => 0))), (q_15, .inl (k_16, 4, .inl (upd (upd (upd (upd (fun _ => 0) 0 1) 1 1) 2 1) 3 1))), (q_17, .inl (k_18, 4, .inl (fun _ => 0))), (q_19, .inl (k_20, 4, .inl (fun _ => 0))), (q_21, .inl (k_22, 4, .inl (fun _ => 0))), (q_23, .inl (k_24, 4, .inl (fun _ => 0))), (q_25, .inl (k_26, 4, .inl (upd (fun _ => 0) 0 (-1))))] := hD
  refine lv_dup hx hb d_Minit_186 rfl ?_
  refine lv_iconst (v := 1) hx hb d_Minit_187 (by decide) ?_
  refine lv_iconst (v := (-1)) hx hb d_Minit_188 (by decide) ?_
  refine va_iast (i := 1) hx hb hK hP hD hS 13 12 rfl rfl (vp_in_nI (n := 1) (by decide) (by decide)) d_Minit_189 (fun H locs hP hD hS => ?_)
  have hP : va_P D classes [(h, .inr (4, [.int 0, .int 0, .int 0, .int 0, .ref q_1, .ref q_3, .ref q_5, .ref q_7, .ref q_9, .ref q_11, .ref q_13, .ref q_15, .ref q_17, .ref q_19, .ref q_21, .ref q_23, .null, .null])), (q_1, .inl (k_2, 8, .inl (upd (upd (upd (upd (upd (upd (upd (upd (fun _ => 0) 0 1) 1 1) 2 1) 3 1) 4 1) 5 1) 6 1) 7 1))), (q_3, .inl (k_4, 8, .inl (upd (upd (upd (upd (upd (upd (upd (upd (fun _ => 0) 0 1) 1 1) 2 1) 3 1) 4 1) 5 1) 6 1) 7 1))), (q_5, .inl (k_6, 8, .inl (fun _ => 0))), (q_7, .inl (k_8, 8, .inl (fun _ => 0))), (q_9, .inl (k_10, 8, .inl (fun _ => 0))), (q_11, .inl (k_12, 32, .inl (fun _ => 0))), (q_13, .inl (k_14, 4, .inl (fun _ => 0))), (q_15, .inl (k_16, 4, .inl (upd (upd (upd (upd (fun _ => 0) 0 1) 1 1) 2 1) 3 1))), (q_17, .inl (k_18, 4, .inl (fun _ => 0))), (q_19, .inl (k_20, 4, .inl (fun _ => 0))), (q_21, .inl (k_22, 4, .inl (fun _ => 0))), (q_23, .inl (k_24, 4, .inl (fun _ => 0))), (q_25, .inl (k_26, 4, .inl (upd (upd (fun _ => 0) 0 (-1)) 1 (-1))))] H := hP
  have hD : va_D A [(h, .inr (4, [.int 0, .int 0, .int 0, .int 0, .ref q_1, .ref q_3, .ref q_5, .ref q_7, .ref q_9, .ref q_11, .ref q_13, .ref q_15, .ref q_17, .ref q_19, .ref q_21, .ref q_23, .null, .null])), (q_1, .inl (k_2, 8, .inl (upd (upd (upd (upd (upd (upd (upd (upd (fun _ => 0) 0 1) 1 1) 2 1) 3 1) 4 1) 5 1) 6 1) 7 1))), (q_3, .inl (k_4, 8, .inl (upd (upd (upd (upd (upd (upd (upd (upd (fun _ => 0) 0 1) 1 1) 2 1) 3 1) 4 1) 5 1) 6 1) 7 1))), (q_5, .inl (k_6, 8, .inl (fun _ => 0))), (q_7, .inl (k_8, 8, .inl (fun _ => 0))), (q_9, .inl (k_10, 8, .inl (fun _ => 0))), (q_11, .inl (k_12, 32, .inl (fun _ => 0))), (q_13, .inl (k_14, 4, .inl (fun _ => 0))), (q_15, .inl (k_16, 4, .inl (upd (upd (upd (upd (fun _ => 0) 0 1) 1 1) 2 1) 3 1))), (q_17, .inl (k_18, 4, .inl (fun _ => 0))), (q_19, .inl (k_20, 4, .inl (fun _ => 0))), (q_21, .inl (k_22, 4, .inl (fun _ => 0))), (q_23, .inl (k_24, 4, .inl (fun _ => 0))), (q_25, .inl (k_26, 4, .inl (upd (upd (fun _ => 0) 0 (-1)) 1 (-1))))] := hD
  refine lv_dup hx hb d_Minit_190 rfl ?_
  refine lv_iconst (v := 2) hx hb d_Minit_191 (by decide) ?_
  refine lv_iconst (v := (-1)) hx hb d_Minit_192 (by decide) ?_
  refine va_iast (i := 2) hx hb hK hP hD hS 13 12 rfl rfl (vp_in_nI (n := 2) (by decide) (by decide)) d_Minit_193 (fun H locs hP hD hS => ?_)
  have hP : va_P D classes [(h, .inr (4, [.int 0, .int 0, .int 0, .int 0, .ref q_1, .ref q_3, .ref q_5, .ref q_7, .ref q_9, .ref q_11, .ref q_13, .ref q_15, .ref q_17, .ref q_19, .ref q_21, .ref q_23, .null, .null])), (q_1, .inl (k_2, 8, .inl (upd (upd (upd (upd (upd (upd (upd (upd (fun _ => 0) 0 1) 1 1) 2 1) 3 1) 4 1) 5 1) 6 1) 7 1))), (q_3, .inl (k_4, 8, .inl (upd (upd (upd (upd (upd (upd (upd (upd (fun _ => 0) 0 1) 1 1) 2 1) 3 1) 4 1) 5 1) 6 1) 7 1))), (q_5, .inl (k_6, 8, .inl (fun _ => 0))), (q_7, .inl (k_8, 8, .inl (fun _ => 0))), (q_9, .inl (k_10, 8, .inl (fun _ => 0))), (q_11, .inl (k_12, 32, .inl (fun _ => 0))), (q_13, .inl (k_14, 4, .inl (fun _ => 0))), (q_15, .inl (k_16, 4, .inl (upd (upd (upd (upd (fun _ => 0) 0 1) 1 1) 2 1) 3 1))), (q_17, .inl (k_18, 4, .inl (fun _ => 0))), (q_19, .inl (k_20, 4, .inl (fun _ => 0))), (q_21, .inl (k_22, 4, .inl (fun _ => 0))), (q_23, .inl (k_24, 4, .inl (fun _ => 0))), (q_25, .inl (k_26, 4, .inl (upd (upd (upd (fun _ => 0) 0 (-1)) 1 (-1)) 2 (-1))))] H := hP
  have hD : va_D A [(h, .inr (4, [.int 0, .int 0, .int 0, .int 0, .ref q_1, .ref q_3, .ref q_5, .ref q_7, .ref q_9, .ref q_11, .ref q_13, .ref q_15, .ref q_17, .ref q_19, .ref q_21, .ref q_23, .null, .null])), (q_1, .inl (k_2, 8, .inl (upd (upd (upd (upd (upd (upd (upd (upd (fun _ => 0) 0 1) 1 1) 2 1) 3 1) 4 1) 5 1) 6 1) 7 1))), (q_3, .inl (k_4, 8, .inl (upd (upd (upd (upd (upd (upd (upd (upd (fun _ => 0) 0 1) 1 1) 2 1) 3 1) 4 1) 5 1) 6 1) 7 1))), (q_5, .inl (k_6, 8, .inl (fun _ => 0))), (q_7, .inl (k_8, 8, .inl (fun _ => 0))), (q_9, .inl (k_10, 8, .inl (fun _ => 0))), (q_11, .inl (k_12, 32, .inl (fun _ => 0))), (q_13, .inl (k_14, 4, .inl (fun _ => 0))), (q_15, .inl (k_16, 4, .inl (upd (upd (upd (upd (fun _ => 0) 0 1) 1 1) 2 1) 3 1))), (q_17, .inl (k_18, 4, .inl (fun _ => 0))), (q_19, .inl (k_20, 4, .inl (fun _ => 0))), (q_21, .inl (k_22, 4, .inl (fun _ => 0))), (q_23, .inl (k_24, 4, .inl (fun _ => 0))), (q_25, .inl (k_26, 4, .inl (upd (upd (upd (fun _ => 0) 0 (-1)) 1 (-1)) 2 (-1))))] := hD
  refine lv_dup hx hb d_Minit_194 rfl ?_
  refine lv_iconst (v := 3) hx hb d_Minit_195 (by decide) ?_
  refine lv_iconst (v := (-1)) hx hb d_Minit_196 (by decide) ?_
  refine va_iast (i := 3) hx hb hK hP hD hS 13 12 rfl rfl (vp_in_nI (n := 3) (by decide) (by decide)) d_Minit_197 (fun H locs hP hD hS => ?_)
  have hP : va_P D classes [(h, .inr (4, [.int 0, .int 0, .int 0, .int 0, .ref q_1, .ref q_3, .ref q_5, .ref q_7, .ref q_9, .ref q_11, .ref q_13, .ref q_15, .ref q_17, .ref q_19, .ref q_21, .ref q_23, .null, .null])), (q_1, .inl (k_2, 8, .inl (upd (upd (upd (upd (upd (upd (upd (upd (fun _ => 0) 0 1) 1 1) 2 1) 3 1) 4 1) 5 1) 6 1) 7 1))), (q_3, .inl (k_4, 8, .inl (upd (upd (upd (upd (upd (upd (upd (upd (fun _ => 0) 0 1) 1 1) 2 1) 3 1) 4 1) 5 1) 6 1) 7 1))), (q_5, .inl (k_6, 8, .inl (fun _ => 0))), (q_7, .inl (k_8, 8, .inl (fun _ => 0))), (q_9, .inl (k_10, 8, .inl (fun _ => 0))), (q_11, .inl (k_12, 32, .inl (fun _ => 0))), (q_13, .inl (k_14, 4, .inl (fun _ => 0))), (q_15, .inl (k_16, 4, .inl (upd (upd (upd (upd (fun _ => 0) 0 1) 1 1) 2 1) 3 1))), (q_17, .inl (k_18, 4, .inl (fun _ => 0))), (q_19, .inl (k_20, 4, .inl (fun _ => 0))), (q_21, .inl (k_22, 4, .inl (fun _ => 0))), (q_23, .inl (k_24, 4, .inl (fun _ => 0))), (q_25, .inl (k_26, 4, .inl (upd (upd (upd (upd (fun _ => 0) 0 (-1)) 1 (-1)) 2 (-1)) 3 (-1))))] H := hP
  have hD : va_D A [(h, .inr (4, [.int 0, .int 0, .int 0, .int 0, .ref q_1, .ref q_3, .ref q_5, .ref q_7, .ref q_9, .ref q_11, .ref q_13, .ref q_15, .ref q_17, .ref q_19, .ref q_21, .ref q_23, .null, .null])), (q_1, .inl (k_2, 8, .inl (upd (upd (upd (upd (upd (upd (upd (upd (fun _ => 0) 0 1) 1 1) 2 1) 3 1) 4 1) 5 1) 6 1) 7 1))), (q_3, .inl (k_4, 8, .inl (upd (upd (upd (upd (upd (upd (upd (upd (fun _ => 0) 0 1) 1 1) 2 1) 3 1) 4 1) 5 1) 6 1) 7 1))), (q_5, .inl (k_6, 8, .inl (fun _ => 0))), (q_7, .inl (k_8, 8, .inl (fun _ => 0))), (q_9, .inl (k_10, 8, .inl (fun _ => 0))), (q_11, .inl (k_12, 32, .inl (fun _ => 0))), (q_13, .inl (k_14, 4, .inl (fun _ => 0))), (q_15, .inl (k_16, 4, .inl (upd (upd (upd (upd (fun _ => 0) 0 1) 1 1) 2 1) 3 1))), (q_17, .inl (k_18, 4, .inl (fun _ => 0))), (q_19, .inl (k_20, 4, .inl (fun _ => 0))), (q_21, .inl (k_22, 4, .inl (fun _ => 0))), (q_23, .inl (k_24, 4, .inl (fun _ => 0))), (q_25, .inl (k_26, 4, .inl (upd (upd (upd (upd (fun _ => 0) 0 (-1)) 1 (-1)) 2 (-1)) 3 (-1))))] := hD
  refine va_putF (ty := (.array .int)) (v := .ref q_25) hx hb hG i_M ft_M ft_M_ok n_M hown hK hP hD hS 0 rfl rfl 16 (by decide) (hG _ L_M_47) (fun _ h9 => h9) rfl hin rfl (by decide +kernel) rfl rfl (Nat.le_of_ble_eq_true rfl) d_Minit_198 (fun H locs hP hD hS => ?_)
  have hP : va_P D classes [(h, .inr (4, [.int 0, .int 0, .int 0, .int 0, .ref q_1, .ref q_3, .ref q_5, .ref q_7, .ref q_9, .ref q_11, .ref q_13, .ref q_15, .ref q_17, .ref q_19, .ref q_21, .ref q_23, .ref q_25, .null])), (q_1, .inl (k_2, 8, .inl (upd (upd (upd (upd (upd (upd (upd (upd (fun _ => 0) 0 1) 1 1) 2 1) 3 1) 4 1) 5 1) 6 1) 7 1))), (q_3, .inl (k_4, 8, .inl (upd (upd (upd (upd (upd (upd (upd (upd (fun _ => 0) 0 1) 1 1) 2 1) 3 1) 4 1) 5 1) 6 1) 7 1))), (q_5, .inl (k_6, 8, .inl (fun _ => 0))), (q_7, .inl (k_8, 8, .inl (fun _ => 0))), (q_9, .inl (k_10, 8, .inl (fun _ => 0))), (q_11, .inl (k_12, 32, .inl (fun _ => 0))), (q_13, .inl (k_14, 4, .inl (fun _ => 0))), (q_15, .inl (k_16, 4, .inl (upd (upd (upd (upd (fun _ => 0) 0 1) 1 1) 2 1) 3 1))), (q_17, .inl (k_18, 4, .inl (fun _ => 0))), (q_19, .inl (k_20, 4, .inl (fun _ => 0))), (q_21, .inl (k_22, 4, .inl (fun _ => 0))), (q_23, .inl (k_24, 4, .inl (fun _ => 0))), (q_25, .inl (k_26, 4, .inl (upd (upd (upd (upd (fun _ => 0) 0 (-1)) 1 (-1)) 2 (-1)) 3 (-1))))] H := hP
  have hD : va_D A [(h, .inr (4, [.int 0, .int 0, .int 0, .int 0, .ref q_1, .ref q_3, .ref q_5, .ref q_7, .ref q_9, .ref q_11, .ref q_13, .ref q_15, .ref q_17, .ref q_19, .ref q_21, .ref q_23, .ref q_25, .null])), (q_1, .inl (k_2, 8, .inl (upd (upd (upd (upd (upd (upd (upd (upd (fun _ => 0) 0 1) 1 1) 2 1) 3 1) 4 1) 5 1) 6 1) 7 1))), (q_3, .inl (k_4, 8, .inl (upd (upd (upd (upd (upd (upd (upd (upd (fun _ => 0) 0 1) 1 1) 2 1) 3 1) 4 1) 5 1) 6 1) 7 1))), (q_5, .inl (k_6, 8, .inl (fun _ => 0))), (q_7, .inl (k_8, 8, .inl (fun _ => 0))), (q_9, .inl (k_10, 8, .inl (fun _ => 0))), (q_11, .inl (k_12, 32, .inl (fun _ => 0))), (q_13, .inl (k_14, 4, .inl (fun _ => 0))), (q_15, .inl (k_16, 4, .inl (upd (upd (upd (upd (fun _ => 0) 0 1) 1 1) 2 1) 3 1))), (q_17, .inl (k_18, 4, .inl (fun _ => 0))), (q_19, .inl (k_20, 4, .inl (fun _ => 0))), (q_21, .inl (k_22, 4, .inl (fun _ => 0))), (q_23, .inl (k_24, 4, .inl (fun _ => 0))), (q_25, .inl (k_26, 4, .inl (upd (upd (upd (upd (fun _ => 0) 0 (-1)) 1 (-1)) 2 (-1)) 3 (-1))))] := hD
  refine lv_aload_n hx hb d_Minit_201 rfl (lv_at hl 0 rfl) ?_
  refine lv_bipush (v := 48) hx hb d_Minit_202 (by decide) ?_
  refine va_newa (atype := .int) (ty := .int) (n := 48) (N' := 48) (a0 := (48, .inl (fun _ => 0))) hx hb (hG _ arr_int) rfl hK hP hD hS hA (fun _ => rfl) (by decide) (by decide) (by decide) (by decide) (by decide) d_Minit_204 (fun q_27 k_28 H hK hP hD hS => ?_)
  have hK : va_K D classes [(k_2, .int), (k_4, .int), (k_6, .int), (k_8, .boolean), (k_10, .boolean), (k_12, .int), (k_14, .int), (k_16, .int), (k_18, .int), (k_20, .boolean), (k_22, .int), (k_24, .int), (k_26, .int), (k_28, .int)] s := hK
  have hP : va_P D classes [(h, .inr (4, [.int 0, .int 0, .int 0, .int 0, .ref q_1, .ref q_3, .ref q_5, .ref q_7, .ref q_9, .ref q_11, .ref q_13, .ref q_15, .ref q_17, .ref q_19, .ref q_21, .ref q_23, .ref q_25, .null])), (q_1, .inl (k_2, 8, .inl (upd (upd (upd (upd (upd (upd (upd (upd (fun _ => 0) 0 1) 1 1) 2 1) 3 1) 4 1) 5 1) 6 1) 7 1))), (q_3, .inl (k_4, 8, .inl (upd (upd (upd (upd (upd (upd (upd (upd (fun _ => 0) 0 1) 1 1) 2 1) 3 1) 4 1) 5 1) 6 1) 7 1))), (q_5, .inl (k_6, 8, .inl (fun _ => 0))), (q_7, .inl (k_8, 8, .inl (fun _ => 0))), (q_9, .inl (k_10, 8, .inl (fun _ => 0))), (q_11, .inl (k_12, 32, .inl (fun _ => 0))), (q_13, .inl (k_14, 4, .inl (fun _ => 0))), (q_15, .inl (k_16, 4, .inl (upd (upd (upd (upd (fun _ => 0) 0 1) 1 1) 2 1) 3 1))), (q_17, .inl (k_18, 4, .inl (fun _ => 0))), (q_19, .inl (k_20, 4, .inl (fun _ => 0))), (q_21, .inl (k_22, 4, .inl (fun _ => 0))), (q_23, .inl (k_24, 4, .inl (fun _ => 0))), (q_25, .inl (k_26, 4, .inl (upd (upd (upd (upd (fun _ => 0) 0 (-1)) 1 (-1)) 2 (-1)) 3 (-1)))), (q_27, .inl (k_28, 48, .inl (fun _ => 0)))] H := hP
  have hD : va_D A [(h, .inr (4, [.int 0, .int 0, .int 0, .int 0, .ref q_1, .ref q_3, .ref q_5, .ref q_7, .ref q_9, .ref q_11, .ref q_13, .ref q_15, .ref q_17, .ref q_19, .ref q_21, .ref q_23, .ref q_25, .null])), (q_1, .inl (k_2, 8, .inl (upd (upd (upd (upd (upd (upd (upd (upd (fun _ => 0) 0 1) 1 1) 2 1) 3 1) 4 1) 5 1) 6 1) 7 1))), (q_3, .inl (k_4, 8, .inl (upd (upd (upd (upd (upd (upd (upd (upd (fun _ => 0) 0 1) 1 1) 2 1) 3 1) 4 1) 5 1) 6 1) 7 1))), (q_5, .inl (k_6, 8, .inl (fun _ => 0))), (q_7, .inl (k_8, 8, .inl (fun _ => 0))), (q_9, .inl (k_10, 8, .inl (fun _ => 0))), (q_11, .inl (k_12, 32, .inl (fun _ => 0))), (q_13, .inl (k_14, 4, .inl (fun _ => 0))), (q_15, .inl (k_16, 4, .inl (upd (upd (upd (upd (fun _ => 0) 0 1) 1 1) 2 1) 3 1))), (q_17, .inl (k_18, 4, .inl (fun _ => 0))), (q_19, .inl (k_20, 4, .inl (fun _ => 0))), (q_21, .inl (k_22, 4, .inl (fun _ => 0))), (q_23, .inl (k_24, 4, .inl (fun _ => 0))), (q_25, .inl (k_26, 4, .inl (upd (upd (upd (upd (fun _ => 0) 0 (-1)) 1 (-1)) 2 (-1)) 3 (-1)))), (q_27, .inl (k_28, 48, .inl (fun _ => 0)))] := hD
  refine W.widen (k := 14) (n := 148) (by decide) (by decide) ?_
  refine va_putF (ty := (.array .int)) (v := .ref q_27) hx hb hG i_M ft_M ft_M_ok n_M hown hK hP hD hS 0 rfl rfl 17 (by decide) (hG _ L_M_50) (fun _ h9 => h9) rfl hin rfl (by decide +kernel) rfl rfl (Nat.le_of_ble_eq_true rfl) d_Minit_206 (fun H locs hP hD hS => ?_)
  have hP : va_P D classes [(h, .inr (4, [.int 0, .int 0, .int 0, .int 0, .ref q_1, .ref q_3, .ref q_5, .ref q_7, .ref q_9, .ref q_11, .ref q_13, .ref q_15, .ref q_17, .ref q_19, .ref q_21, .ref q_23, .ref q_25, .ref q_27])), (q_1, .inl (k_2, 8, .inl (upd (upd (upd (upd (upd (upd (upd (upd (fun _ => 0) 0 1) 1 1) 2 1) 3 1) 4 1) 5 1) 6 1) 7 1))), (q_3, .inl (k_4, 8, .inl (upd (upd (upd (upd (upd (upd (upd (upd (fun _ => 0) 0 1) 1 1) 2 1) 3 1) 4 1) 5 1) 6 1) 7 1))), (q_5, .inl (k_6, 8, .inl (fun _ => 0))), (q_7, .inl (k_8, 8, .inl (fun _ => 0))), (q_9, .inl (k_10, 8, .inl (fun _ => 0))), (q_11, .inl (k_12, 32, .inl (fun _ => 0))), (q_13, .inl (k_14, 4, .inl (fun _ => 0))), (q_15, .inl (k_16, 4, .inl (upd (upd (upd (upd (fun _ => 0) 0 1) 1 1) 2 1) 3 1))), (q_17, .inl (k_18, 4, .inl (fun _ => 0))), (q_19, .inl (k_20, 4, .inl (fun _ => 0))), (q_21, .inl (k_22, 4, .inl (fun _ => 0))), (q_23, .inl (k_24, 4, .inl (fun _ => 0))), (q_25, .inl (k_26, 4, .inl (upd (upd (upd (upd (fun _ => 0) 0 (-1)) 1 (-1)) 2 (-1)) 3 (-1)))), (q_27, .inl (k_28, 48, .inl (fun _ => 0)))] H := hP
  have hD : va_D A [(h, .inr (4, [.int 0, .int 0, .int 0, .int 0, .ref q_1, .ref q_3, .ref q_5, .ref q_7, .ref q_9, .ref q_11, .ref q_13, .ref q_15, .ref q_17, .ref q_19, .ref q_21, .ref q_23, .ref q_25, .ref q_27])), (q_1, .inl (k_2, 8, .inl (upd (upd (upd (upd (upd (upd (upd (upd (fun _ => 0) 0 1) 1 1) 2 1) 3 1) 4 1) 5 1) 6 1) 7 1))), (q_3, .inl (k_4, 8, .inl (upd (upd (upd (upd (upd (upd (upd (upd (fun _ => 0) 0 1) 1 1) 2 1) 3 1) 4 1) 5 1) 6 1) 7 1))), (q_5, .inl (k_6, 8, .inl (fun _ => 0))), (q_7, .inl (k_8, 8, .inl (fun _ => 0))), (q_9, .inl (k_10, 8, .inl (fun _ => 0))), (q_11, .inl (k_12, 32, .inl (fun _ => 0))), (q_13, .inl (k_14, 4, .inl (fun _ => 0))), (q_15, .inl (k_16, 4, .inl (upd (upd (upd (upd (fun _ => 0) 0 1) 1 1) 2 1) 3 1))), (q_17, .inl (k_18, 4, .inl (fun _ => 0))), (q_19, .inl (k_20, 4, .inl (fun _ => 0))), (q_21, .inl (k_22, 4, .inl (fun _ => 0))), (q_23, .inl (k_24, 4, .inl (fun _ => 0))), (q_25, .inl (k_26, 4, .inl (upd (upd (upd (upd (fun _ => 0) 0 (-1)) 1 (-1)) 2 (-1)) 3 (-1)))), (q_27, .inl (k_28, 48, .inl (fun _ => 0)))] := hD
  obtain rfl := kI_eq hK 0 1 rfl rfl
  obtain rfl := kI_eq hK 0 2 rfl rfl
  obtain rfl := kI_eq hK 0 5 rfl rfl
  obtain rfl := kI_eq hK 0 6 rfl rfl
  obtain rfl := kI_eq hK 0 7 rfl rfl
  obtain rfl := kI_eq hK 0 8 rfl rfl
  obtain rfl := kI_eq hK 0 10 rfl rfl
  obtain rfl := kI_eq hK 0 11 rfl rfl
  obtain rfl := kI_eq hK 0 12 rfl rfl
  obtain rfl := kI_eq hK 0 13 rfl rfl
  obtain rfl := kB_eq hK 3 4 rfl rfl
  obtain rfl := kB_eq hK 3 9 rfl rfl
  have hP : va_P D classes (wM (aOf [h, 0, 0, 0, q_1, q_3, q_5, q_7, q_9, q_11, q_13, q_15, q_17, q_19, q_21, q_23, q_25, q_27]) (cMo k_2 k_8) m0) H := hP
  have hD : va_D A (wM (aOf [h, 0, 0, 0, q_1, q_3, q_5, q_7, q_9, q_11, q_13, q_15, q_17, q_19, q_21, q_23, q_25, q_27]) (cMo k_2 k_8) m0) := hD
  exact hret _ _ _ 209 (fun t ht hvm => ⟨aOf [h, 0, 0, 0, q_1, q_3, q_5, q_7, q_9, q_11, q_13, q_15, q_17, q_19, q_21, q_23, q_25, q_27], cMo k_2 k_8, rfl, by rw [ht]; exact hP, va_K.moved hvm (hK.sub (tys' := tM (cMo k_2 k_8)) [0, 3] rfl), hD⟩) hS d_Minit_209
end
section
/-! THE RELATION: which cell of the class's state is which of the reference's -/
theorem up2_rd (σ : St) (i k : Nat) (v : Int32) (i' k' : Nat) : up2 σ i k v i' k' = if i' = i ∧ k' = k then v else σ i' k' := by
  unfold up2 upd
  by_cases h : i' = i
  · subst h
    by_cases h2 : k' = k
    · simp [h2]
    · simp [h2]
  · simp [h]
theorem up2_up2 (σ : St) (i k : Nat) (u v : Int32) : up2 (up2 σ i k u) i k v = up2 σ i k v := by
  funext i' k'
  simp only [up2_rd]
  split <;> rfl
theorem up2_same {σ : St} {i k : Nat} {v : Int32} (h : σ i k = v) : up2 σ i k v = σ := by
  funext i' k'
  rw [up2_rd]
  split
  · next e => rw [e.1, e.2, h]
  · rfl
theorem up2_comm (σ : St) {i k i' k' : Nat} (u v : Int32) (h : i ≠ i') : up2 (up2 σ i k u) i' k' v = up2 (up2 σ i' k' v) i k u := by
  funext a c
  simp only [up2_rd]
  by_cases e1 : a = i ∧ c = k
  · rw [if_pos e1, if_pos e1, if_neg (fun e2 => h (e1.1.symm.trans e2.1))]
  · rw [if_neg e1, if_neg e1]
def ph (i k : Nat) : Nat × Nat := if i = 0 then (0, if k = 3 then 2 else 1) else if i = 1 then (0, 3) else if i < 5 then (17, 3 * k + (i - 2)) else if i < 13 then (if k < 5 then (4 + k, i - 5) else (9, 4 * (i - 5) + (k - 5))) else (if k < 3 then 10 + k else 11 + k, i - 13)
def vc (i k : Nat) : Prop := (i = 0 ∧ (k = 3 ∨ k = 4)) ∨ (i = 1 ∧ k = 3) ∨ (2 ≤ i ∧ i < 5 ∧ k < 16) ∨ (5 ≤ i ∧ i < 13 ∧ k < 9) ∨ (13 ≤ i ∧ i < 17 ∧ k < 6)
theorem ph_S : ph 0 3 = (0, 2) := rfl
theorem ph_N : ph 0 4 = (0, 1) := rfl
theorem ph_C : ph 1 3 = (0, 3) := rfl
theorem ph_R {i p : Nat} (hi : i < 3) : ph (2 + i) p = (17, 3 * p + i) := by
  unfold ph
  rw [if_neg (by omega), if_neg (by omega), if_pos (by omega), Nat.add_sub_cancel_left]
theorem ph_T {t k : Nat} (ht : t < 8) (hk : k < 5) : ph (5 + t) k = (4 + k, t) := by
  unfold ph
  rw [if_neg (by omega), if_neg (by omega), if_neg (by omega), if_pos (by omega), if_pos hk, Nat.add_sub_cancel_left]
theorem ph_O {t c : Nat} (ht : t < 8) : ph (5 + t) (5 + c) = (9, 4 * t + c) := by
  unfold ph
  rw [if_neg (by omega), if_neg (by omega), if_neg (by omega), if_pos (by omega), if_neg (by omega), Nat.add_sub_cancel_left, Nat.add_sub_cancel_left]
theorem ph_G {g k : Nat} (hk : k < 3) : ph (13 + g) k = (10 + k, g) := by
  unfold ph
  rw [if_neg (by omega), if_neg (by omega), if_neg (by omega), if_neg (by omega), if_pos hk, Nat.add_sub_cancel_left]
theorem ph_G' {g k : Nat} (hk : ¬ k < 3) : ph (13 + g) k = (11 + k, g) := by
  unfold ph
  rw [if_neg (by omega), if_neg (by omega), if_neg (by omega), if_neg (by omega), if_neg hk, Nat.add_sub_cancel_left]
/-- the cells one by one -/
theorem vc_cases {P : Nat → Nat → Prop} (h1 : P 0 3) (h2 : P 0 4) (h3 : P 1 3) (h4 : ∀ i p, i < 3 → p < 16 → P (2 + i) p) (h5 : ∀ t k, t < 8 → k < 5 → P (5 + t) k) (h6 : ∀ t c, t < 8 → c < 4 → P (5 + t) (5 + c)) (h7 : ∀ g k, g < 4 → k < 3 → P (13 + g) k) (h8 : ∀ g k, g < 4 → ¬ k < 3 → k < 6 → P (13 + g) k) : ∀ i k, vc i k → P i k := by
  intro i k h
  rcases h with ⟨rfl, rfl | rfl⟩ | ⟨rfl, rfl⟩ | ⟨a, b, c⟩ | ⟨a, b, c⟩ | ⟨a, b, c⟩
  · exact h1
  · exact h2
  · exact h3
  · obtain ⟨j, rfl⟩ : ∃ j, i = 2 + j := ⟨i - 2, by omega⟩
    exact h4 j k (by omega) c
  · obtain ⟨j, rfl⟩ : ∃ j, i = 5 + j := ⟨i - 5, by omega⟩
    by_cases q : k < 5
    · exact h5 j k (by omega) q
    · obtain ⟨m, rfl⟩ : ∃ m, k = 5 + m := ⟨k - 5, by omega⟩
      exact h6 j m (by omega) (by omega)
  · obtain ⟨j, rfl⟩ : ∃ j, i = 13 + j := ⟨i - 13, by omega⟩
    by_cases q : k < 3
    · exact h7 j k (by omega) q
    · exact h8 j k (by omega) q c
theorem ph_inj {i k i' k' : Nat} (h : vc i k) (h' : vc i' k') (e : ph i k = ph i' k') : i = i' ∧ k = k' := by
  unfold vc at h h'
  unfold ph at e
  repeat' split at e
  all_goals (simp only [Prod.mk.injEq] at e; omega)
theorem ph_13 {i k : Nat} (h : vc i k) : (ph i k).1 ≠ 13 := by
  unfold vc at h
  unfold ph
  repeat' split
  all_goals (simp only; omega)
def Rl (σ μ : St) : Prop := ∀ i k, vc i k → σ i k = μ (ph i k).1 (ph i k).2
theorem Rl.up {σ μ : St} (h : Rl σ μ) {i k : Nat} (hv : vc i k) {a c : Nat} (e : ph i k = (a, c)) (v : Int32) : Rl (up2 σ i k v) (up2 μ a c v) := by
  intro i' k' hv'
  rw [up2_rd, up2_rd]
  by_cases q : i' = i ∧ k' = k
  · rw [if_pos q, if_pos]
    rw [q.1, q.2, e]; exact ⟨rfl, rfl⟩
  · rw [if_neg q, if_neg]
    · exact h i' k' hv'
    · intro e2
      exact q (ph_inj hv' hv (by rw [e]; exact Prod.ext e2.1 e2.2))
theorem Rl.rd {σ μ : St} (h : Rl σ μ) {i k : Nat} (hv : vc i k) {a c : Nat} (e : ph i k = (a, c)) : σ i k = μ a c := by
  have := h i k hv
  rw [e] at this; exact this
theorem vc_S : vc 0 3 := Or.inl ⟨rfl, Or.inl rfl⟩
theorem vc_N : vc 0 4 := Or.inl ⟨rfl, Or.inr rfl⟩
theorem vc_C : vc 1 3 := Or.inr (Or.inl ⟨rfl, rfl⟩)
theorem vc_R {i p : Nat} (hi : i < 3) (hp : p < 16) : vc (2 + i) p := by unfold vc; omega
theorem vc_T {t k : Nat} (ht : t < 8) (hk : k < 9) : vc (5 + t) k := by unfold vc; omega
theorem vc_G {g k : Nat} (hg : g < 4) (hk : k < 6) : vc (13 + g) k := by unfold vc; omega
theorem Rl.skipM {σ μ : St} (h : Rl σ μ) (g : Nat) (v : Int32) : Rl σ (up2 μ 13 g v) := by
  intro i k hv
  rw [up2_rd, if_neg (fun e => ph_13 hv e.1)]
  exact h i k hv
theorem Rl.skipX {σ μ : St} (h : Rl σ μ) {k : Nat} (hk : k ≠ 3) (v : Int32) : Rl (up2 σ 1 k v) μ := by
  intro i' k' hv
  rw [up2_rd, if_neg]
  · exact h i' k' hv
  · rintro ⟨rfl, rfl⟩
    unfold vc at hv
    omega
section RLS
variable {σ μ : St} (h : Rl σ μ)
theorem Rl.S (v : Int32) (h : Rl σ μ) : Rl (up2 σ 0 3 v) (up2 μ 0 2 v) := h.up vc_S ph_S v
theorem Rl.N (v : Int32) (h : Rl σ μ) : Rl (up2 σ 0 4 v) (up2 μ 0 1 v) := h.up vc_N ph_N v
theorem Rl.C (v : Int32) (h : Rl σ μ) : Rl (up2 σ 1 3 v) (up2 μ 0 3 v) := h.up vc_C ph_C v
theorem Rl.R {i p : Nat} (hi : i < 3) (hp : p < 16) (v : Int32) (h : Rl σ μ) : Rl (up2 σ (2 + i) p v) (up2 μ 17 (3 * p + i) v) := h.up (vc_R hi hp) (ph_R hi) v
theorem Rl.T {t k : Nat} (ht : t < 8) (hk : k < 5) (v : Int32) (h : Rl σ μ) : Rl (up2 σ (5 + t) k v) (up2 μ (4 + k) t v) := h.up (vc_T ht (by omega)) (ph_T ht hk) v
theorem Rl.O {t c : Nat} (ht : t < 8) (hc : c < 4) (v : Int32) (h : Rl σ μ) : Rl (up2 σ (5 + t) (5 + c) v) (up2 μ 9 (4 * t + c) v) := h.up (vc_T ht (by omega)) (ph_O ht) v
theorem Rl.G {g k : Nat} (hg : g < 4) (hk : k < 3) (v : Int32) (h : Rl σ μ) : Rl (up2 σ (13 + g) k v) (up2 μ (10 + k) g v) := h.up (vc_G hg (by omega)) (ph_G hk) v
theorem Rl.G' {g k : Nat} (hg : g < 4) (hk : ¬ k < 3) (hk2 : k < 6) (v : Int32) (h : Rl σ μ) : Rl (up2 σ (13 + g) k v) (up2 μ (11 + k) g v) := h.up (vc_G hg (by omega)) (ph_G' hk) v
theorem Rl.rS (h : Rl σ μ) : σ 0 3 = μ 0 2 := h.rd vc_S ph_S
theorem Rl.rN (h : Rl σ μ) : σ 0 4 = μ 0 1 := h.rd vc_N ph_N
theorem Rl.rC (h : Rl σ μ) : σ 1 3 = μ 0 3 := h.rd vc_C ph_C
theorem Rl.rR {i p : Nat} (hi : i < 3) (hp : p < 16) (h : Rl σ μ) : σ (2 + i) p = μ 17 (3 * p + i) := h.rd (vc_R hi hp) (ph_R hi)
theorem Rl.rT {t k : Nat} (ht : t < 8) (hk : k < 5) (h : Rl σ μ) : σ (5 + t) k = μ (4 + k) t := h.rd (vc_T ht (by omega)) (ph_T ht hk)
theorem Rl.rO {t c : Nat} (ht : t < 8) (hc : c < 4) (h : Rl σ μ) : σ (5 + t) (5 + c) = μ 9 (4 * t + c) := h.rd (vc_T ht (by omega)) (ph_O ht)
theorem Rl.rG {g k : Nat} (hg : g < 4) (hk : k < 3) (h : Rl σ μ) : σ (13 + g) k = μ (10 + k) g := h.rd (vc_G hg (by omega)) (ph_G hk)
theorem Rl.rG' {g k : Nat} (hg : g < 4) (hk : ¬ k < 3) (hk2 : k < 6) (h : Rl σ μ) : σ (13 + g) k = μ (11 + k) g := h.rd (vc_G hg (by omega)) (ph_G' hk)
end RLS
def TI (μ : St) (t : Nat) : Prop := (∃ c : Nat, 1 ≤ c ∧ c ≤ 65535 ∧ μ 5 t = nI c) ∧ (∃ q : Nat, 1 ≤ q ∧ q ≤ 65535 ∧ μ 4 t = nI q) ∧ (μ 7 t = 0 ∨ μ 7 t = 1) ∧ (μ 8 t = 0 ∨ μ 8 t = 1)
def GI (μ : St) (g : Nat) : Prop := (∃ w : Nat, w ≤ 1000 ∧ μ 12 g = nI w) ∧ (∃ d : Nat, d ≤ 1000 ∧ μ 11 g = nI d)
def MI (μ : St) : Prop := (∀ t, t < 8 → TI μ t) ∧ ∀ g, g < 4 → GI μ g
theorem MI.other {μ : St} (h : MI μ) {r c : Nat} {v : Int32} (h4 : r ≠ 4) (h5 : r ≠ 5) (h7 : r ≠ 7) (h8 : r ≠ 8) (h11 : r ≠ 11) (h12 : r ≠ 12) : MI (up2 μ r c v) := by
  unfold MI TI GI at *
  simp only [up2_n μ c v (Ne.symm h4), up2_n μ c v (Ne.symm h5), up2_n μ c v (Ne.symm h7), up2_n μ c v (Ne.symm h8), up2_n μ c v (Ne.symm h11), up2_n μ c v (Ne.symm h12)]
  exact h
theorem MI.t4 {μ : St} (h : MI μ) {t q : Nat} (h1 : 1 ≤ q) (h2 : q ≤ 65535) {v : Int32} (e : v = nI q) : MI (up2 μ 4 t v) := by
  refine ⟨fun t' ht' => ?_, fun g hg => h.2 g hg⟩
  obtain ⟨a, b, c, d⟩ := h.1 t' ht'
  refine ⟨a, ?_, c, d⟩
  rw [up2_rd]
  split
  · exact ⟨q, h1, h2, e⟩
  · exact b
theorem MI.t5 {μ : St} (h : MI μ) {t q : Nat} (h1 : 1 ≤ q) (h2 : q ≤ 65535) {v : Int32} (e : v = nI q) : MI (up2 μ 5 t v) := by
  refine ⟨fun t' ht' => ?_, fun g hg => h.2 g hg⟩
  obtain ⟨a, b, c, d⟩ := h.1 t' ht'
  refine ⟨?_, b, c, d⟩
  rw [up2_rd]
  split
  · exact ⟨q, h1, h2, e⟩
  · exact a
theorem MI.t7 {μ : St} (h : MI μ) {t : Nat} {v : Int32} (e : v = 0 ∨ v = 1) : MI (up2 μ 7 t v) := by
  refine ⟨fun t' ht' => ?_, fun g hg => h.2 g hg⟩
  obtain ⟨a, b, c, d⟩ := h.1 t' ht'
  refine ⟨a, b, ?_, d⟩
  rw [up2_rd]
  split
  · exact e
  · exact c
theorem MI.t8 {μ : St} (h : MI μ) {t : Nat} {v : Int32} (e : v = 0 ∨ v = 1) : MI (up2 μ 8 t v) := by
  refine ⟨fun t' ht' => ?_, fun g hg => h.2 g hg⟩
  obtain ⟨a, b, c, d⟩ := h.1 t' ht'
  refine ⟨a, b, c, ?_⟩
  rw [up2_rd]
  split
  · exact e
  · exact d
theorem MI.g11 {μ : St} (h : MI μ) {g d : Nat} (h1 : d ≤ 1000) {v : Int32} (e : v = nI d) : MI (up2 μ 11 g v) := by
  refine ⟨fun t ht => h.1 t ht, fun g' hg' => ?_⟩
  obtain ⟨a, b⟩ := h.2 g' hg'
  refine ⟨a, ?_⟩
  rw [up2_rd]
  split
  · exact ⟨d, h1, e⟩
  · exact b
theorem MI.g12 {μ : St} (h : MI μ) {g d : Nat} (h1 : d ≤ 1000) {v : Int32} (e : v = nI d) : MI (up2 μ 12 g v) := by
  refine ⟨fun t ht => h.1 t ht, fun g' hg' => ?_⟩
  obtain ⟨a, b⟩ := h.2 g' hg'
  refine ⟨?_, b⟩
  rw [up2_rd]
  split
  · exact ⟨d, h1, e⟩
  · exact a
/-- all that ties the two -/
def RR (σ μ : St) (n : Nat) : Prop := Rl σ μ ∧ MI μ ∧ mOK μ n ∧ σ 1 5 = nI (n % 16) ∧ σ 1 4 = nI (min n 16)
theorem RR.inv {σ μ : St} {n : Nat} (h : RR σ μ n) : xInv σ := ⟨⟨n % 16, Nat.mod_lt _ (by decide), h.2.2.2.1⟩, min n 16, Nat.min_le_right _ _, h.2.2.2.2⟩
end
section
/-! THE TICK, SIDE BY SIDE -/
theorem sh_bit0 : ∀ s, s < 256 → ∀ t, t < 8 → (nI s >>> (nI t &&& 31)) &&& 1 = if nI s &&& bit1 (nI t) = 0 then 0 else 1 := by decide +kernel
theorem and_not0 : ∀ s, s < 256 → ∀ t, t < 8 → ¬ nI s &&& bit1 (nI t) = 0 → nI s &&& (bit1 (nI t) ^^^ (-1)) = nI s - bit1 (nI t) := by decide +kernel
theorem countDown_r1 {σ : St} {i : Nat} (h : i ≠ 1) : (f_countDown σ i).2 1 = σ 1 := by
  have e : ∀ (τ : St) (k : Nat) (v : Int32), up2 τ i k v 1 = τ 1 := fun τ k v => up2_n τ k v (Ne.symm h)
  unfold f_countDown
  split
  · rfl
  · split
    · split
      · dsimp only; rw [e, e]
      · dsimp only; rw [e, e, e]
    · dsimp only; rw [e]
theorem raise_r1 {σ : St} {t : Nat} : f_raise σ t 1 = σ 1 := by
  unfold f_raise
  split
  · rw [up2_n _ _ _ (by decide)]
  · rw [up2_n _ _ _ (by decide), up2_n _ _ _ (by omega)]
theorem raise_rl {B N : St} {t s : Nat} (ht : t < 8) (hs : s < 256) (r : Rl B N) (e2 : N 0 2 = nI s) : Rl (f_raise B t) (up2 (up2 N 9 (4 * t + 1) (N 9 (4 * t + 1) + (N 0 2 >>> (nI t &&& 31) &&& 1))) 0 2 (N 0 2 ||| bit1 (nI t))) := by
  have eS := r.rS
  have eO : B (5 + t) 6 = N 9 (4 * t + 1) := r.rO ht (c := 1) (by decide)
  have hsh := sh_bit0 s hs t ht
  unfold f_raise
  by_cases c : nI s &&& bit1 (nI t) = 0
  · rw [if_pos (by rw [eS, e2]; exact c), e2, hsh, if_pos c, Int32.add_zero, up2_same rfl, eS, e2]
    exact r.S _
  · rw [if_neg (by rw [eS, e2]; exact c), e2, hsh, if_neg c]
    have e1 : up2 B (5 + t) 6 (B (5 + t) 6 + 1) 0 3 = nI s := by rw [up2_n _ _ _ (by omega), eS, e2]
    rw [e1, eO]
    exact (r.O ht (c := 1) (by decide) _).S _
/-- the reference's end of a timer, count and runs in the class's order -/
def endN (μ : St) (t : Nat) (r : Int32) : St := up2 (up2 (up2 μ 5 t (μ 4 t)) 9 (4 * t) (μ 9 (4 * t) + 1)) 8 t r
theorem end_eq (μ : St) (t : Nat) (r : Int32) : g_end μ t r = up2 (up2 (endN μ t r) 9 (4 * t + 1) (endN μ t r 9 (4 * t + 1) + (endN μ t r 0 2 >>> (nI t &&& 31) &&& 1))) 0 2 (endN μ t r 0 2 ||| bit1 (nI t)) := by
  have eK : up2 (up2 (up2 (up2 μ 5 t (μ 5 t - 1)) 5 t (μ 4 t)) 8 t r) 9 (4 * t) (μ 9 (4 * t) + 1) = endN μ t r := by
    unfold endN
    rw [up2_up2, up2_comm _ _ _ (show 8 ≠ 9 by decide)]
  rw [← eK]
  rfl
theorem end_MI {μ : St} {t : Nat} {r : Int32} (h : MI μ) (ht : t < 8) (hr : r = 0 ∨ r = 1) : MI (g_end μ t r) := by
  obtain ⟨-, ⟨q, hq1, hq2, eq⟩, -, -⟩ := h.1 t ht
  rw [end_eq]
  unfold endN
  exact ((((h.t5 hq1 hq2 eq).other (by decide) (by decide) (by decide) (by decide) (by decide) (by decide)).t8 hr).other (by decide) (by decide) (by decide) (by decide) (by decide) (by decide)).other (by decide) (by decide) (by decide) (by decide) (by decide) (by decide)
theorem sim_ev {σ μ : St} {n t : Nat} (h : RR σ μ n) (ht : t < 8) : (g_event μ t).1 = (f_countDown σ (5 + t)).1 ∧ ((f_countDown σ (5 + t)).1 = 0 → RR (f_countDown σ (5 + t)).2 (g_event μ t).2 n) ∧ (¬ (f_countDown σ (5 + t)).1 = 0 → RR (f_raise (f_countDown σ (5 + t)).2 t) (g_event μ t).2 n) := by
  have hM := event_ok ht h.2.2.1
  have hr1 := countDown_r1 (σ := σ) (i := 5 + t) (by omega)
  have hr2 := raise_r1 (σ := (f_countDown σ (5 + t)).2) (t := t)
  obtain ⟨hR, hI, hO, h5, h4⟩ := h
  have e8 : σ (5 + t) 4 = μ 8 t := hR.rT ht (k := 4) (by decide)
  have e5 : σ (5 + t) 1 = μ 5 t := hR.rT ht (k := 1) (by decide)
  have e4 : σ (5 + t) 0 = μ 4 t := hR.rT ht (k := 0) (by decide)
  have e7 : σ (5 + t) 3 = μ 7 t := hR.rT ht (k := 3) (by decide)
  by_cases c1 : μ 8 t = 0
  · have f1 : f_countDown σ (5 + t) = (0, σ) := by unfold f_countDown; rw [if_pos (by rw [e8]; exact c1)]
    have g1 : g_event μ t = (0, μ) := by unfold g_event; rw [if_pos c1]
    rw [f1, g1]
    exact ⟨rfl, fun _ => ⟨hR, hI, hO, h5, h4⟩, fun q => absurd rfl q⟩
  · obtain ⟨⟨c, hc1, hc2, ec⟩, ⟨q, hq1, hq2, eq⟩, i7, i8⟩ := hI.1 t ht
    have hv : μ 5 t - 1 = nI (c - 1) := by rw [ec, show (1 : Int32) = nI 1 from rfl, pk_sub hc1]
    have hrd : up2 μ 5 t (μ 5 t - 1) 5 t = nI (c - 1) := by rw [up2_ss, hv]
    by_cases c2 : c ≤ 1
    · have c3 : c = 1 := by omega
      subst c3
      have hle : up2 μ 5 t (μ 5 t - 1) 5 t ≤ 0 := by rw [hrd]; decide
      have eA : up2 σ (5 + t) 1 (σ (5 + t) 0) (5 + t) 5 = μ 9 (4 * t) := by
        rw [up2_sn _ _ _ (by decide)]; exact hR.rO ht (c := 0) (by decide)
      have r1 : Rl (up2 σ (5 + t) 1 (σ (5 + t) 0)) (up2 μ 5 t (μ 4 t)) := by rw [e4]; exact hR.T ht (k := 1) (by decide) (μ 4 t)
      have r2 : Rl (up2 (up2 σ (5 + t) 1 (σ (5 + t) 0)) (5 + t) 5 (up2 σ (5 + t) 1 (σ (5 + t) 0) (5 + t) 5 + 1)) (up2 (up2 μ 5 t (μ 4 t)) 9 (4 * t) (μ 9 (4 * t) + 1)) := by
        rw [eA]; exact r1.O ht (c := 0) (by decide) _
      have e3 : up2 (up2 σ (5 + t) 1 (σ (5 + t) 0)) (5 + t) 5 (up2 σ (5 + t) 1 (σ (5 + t) 0) (5 + t) 5 + 1) (5 + t) 3 = μ 7 t := by
        rw [up2_sn _ _ _ (by decide), up2_sn _ _ _ (by decide), e7]
      obtain ⟨s, hs, es⟩ := hO.2
      have hf : f_countDown σ (5 + t) = if μ 7 t = 0 then (1, up2 (up2 σ (5 + t) 1 (σ (5 + t) 0)) (5 + t) 5 (up2 σ (5 + t) 1 (σ (5 + t) 0) (5 + t) 5 + 1)) else (1, up2 (up2 (up2 σ (5 + t) 1 (σ (5 + t) 0)) (5 + t) 5 (up2 σ (5 + t) 1 (σ (5 + t) 0) (5 + t) 5 + 1)) (5 + t) 4 0) := by
        unfold f_countDown
        rw [if_neg (by rw [e8]; exact c1), if_pos (by rw [e5, ec]; decide), e3]
      have hg : g_event μ t = if μ 7 t = 0 then (1, g_end μ t 1) else (1, g_end μ t 0) := by
        unfold g_event
        rw [if_neg c1, if_pos hle]
        rfl
      generalize up2 (up2 σ (5 + t) 1 (σ (5 + t) 0)) (5 + t) 5 (up2 σ (5 + t) 1 (σ (5 + t) 0) (5 + t) 5 + 1) = A2 at r2 hf
      by_cases c7 : μ 7 t = 0
      · rw [if_pos c7] at hf hg
        rw [hf] at hr1 hr2 ⊢
        rw [hg] at hM ⊢
        refine ⟨rfl, fun q => absurd q (show ¬ (1 : Int32) = 0 by decide), fun _ => ⟨?_, end_MI hI ht (Or.inr rfl), hM, ?_, ?_⟩⟩
        · dsimp only
          rw [end_eq]
          refine raise_rl ht hs ?_ es
          unfold endN
          rw [up2_same (show up2 (up2 μ 5 t (μ 4 t)) 9 (4 * t) (μ 9 (4 * t) + 1) 8 t = 1 from i8.resolve_left c1)]
          exact r2
        · rw [hr2]; dsimp only at hr1 ⊢; rw [hr1]; exact h5
        · rw [hr2]; dsimp only at hr1 ⊢; rw [hr1]; exact h4
      · rw [if_neg c7] at hf hg
        rw [hf] at hr1 hr2 ⊢
        rw [hg] at hM ⊢
        refine ⟨rfl, fun q => absurd q (show ¬ (1 : Int32) = 0 by decide), fun _ => ⟨?_, end_MI hI ht (Or.inl rfl), hM, ?_, ?_⟩⟩
        · dsimp only
          rw [end_eq]
          refine raise_rl ht hs ?_ es
          unfold endN
          exact r2.T ht (k := 4) (by decide) 0
        · rw [hr2]; dsimp only at hr1 ⊢; rw [hr1]; exact h5
        · rw [hr2]; dsimp only at hr1 ⊢; rw [hr1]; exact h4
    · have f1 : f_countDown σ (5 + t) = (0, up2 σ (5 + t) 1 (σ (5 + t) 1 - 1)) := by
        unfold f_countDown
        rw [if_neg (by rw [e8]; exact c1), if_neg (by rw [e5, ec]; exact nI_ge (a := 1) (b := c) (by omega) (by omega))]
      have g1 : g_event μ t = (0, up2 μ 5 t (μ 5 t - 1)) := by
        unfold g_event
        rw [if_neg c1, if_neg (by rw [hrd]; exact nI_nle (by omega) (by omega))]
      rw [f1, g1]
      refine ⟨rfl, fun _ => ⟨?_, hI.t5 (q := c - 1) (by omega) (by omega) hv, ok_other hO (by decide), ?_, ?_⟩, fun q => absurd rfl q⟩
      · rw [e5]; exact hR.T ht (k := 1) (by decide) _
      · show up2 σ (5 + t) 1 _ 1 5 = _
        rw [up2_n _ _ _ (by omega)]; exact h5
      · show up2 σ (5 + t) 1 _ 1 4 = _
        rw [up2_n _ _ _ (by omega)]; exact h4
theorem sim_T {σ μ : St} {n t : Nat} (h : RR σ μ n) (ht : t < 8) (e : Int32) : (stT e t σ).1 = (smT e t μ).1 ∧ RR (stT e t σ).2 (smT e t μ).2 n := by
  obtain ⟨a, b, c⟩ := sim_ev h ht
  have e6 : σ (5 + t) 2 = μ 6 t := h.1.rT ht (k := 2) (by decide)
  unfold stT smT
  rw [e6, a]
  by_cases c0 : μ 6 t = 0
  · rw [if_pos c0, if_pos c0]
    by_cases c1 : (f_countDown σ (5 + t)).1 = 0
    · rw [if_pos c1, if_pos c1]; exact ⟨rfl, b c1⟩
    · rw [if_neg c1, if_neg c1]; exact ⟨rfl, c c1⟩
  · rw [if_neg c0, if_neg c0]
    by_cases c2 : e = 0
    · rw [if_pos c2, if_pos c2]; exact ⟨rfl, h⟩
    · rw [if_neg c2, if_neg c2]
      by_cases c1 : (f_countDown σ (5 + t)).1 = 0
      · rw [if_pos c1, if_pos c1]; exact ⟨rfl, b c1⟩
      · rw [if_neg c1, if_neg c1]; exact ⟨rfl, c c1⟩
theorem sim_kT : ∀ (k t : Nat) (e : Int32) {σ μ : St} {n : Nat}, t + k ≤ 8 → RR σ μ n → RR (tkT k t e σ) (mkT k t e μ) n := by
  intro k
  induction k with
  | zero => intro t e σ μ n _ h; exact h
  | succ k ih =>
    intro t e σ μ n h8 h
    obtain ⟨a, b⟩ := sim_T h (show t < 8 by omega) e
    rw [tkT, mkT, a]
    exact ih (t + 1) _ (by omega) b
theorem asks_eq {σ μ : St} {g : Nat} (h : Rl σ μ) (hg : g < 4) : f_asks σ (13 + g) (σ 0 3) = g_asks μ g := by
  unfold f_asks g_asks
  rw [h.rS, h.rG hg (k := 0) (by decide)]
theorem sim_serve {σ μ : St} {n g : Nat} (h : RR σ μ n) (hg : g < 4) (hn : n < 2 ^ 30) : ∃ n', RR (f_serve σ g).2 (g_serve μ g) n' ∧ (((f_serve σ g).1 = 0 ∧ n' = n) ∨ ((f_serve σ g).1 = 1 ∧ n' = n + 1)) := by
  have hnn := mOK_nn h.2.2.1 hn
  have ha := asks_eq h.1 hg
  by_cases c : g_asks μ g = 0
  · obtain ⟨hR, hI, hO, h5, h4⟩ := h
    have f1 : f_serve σ g = (0, up2 σ (13 + g) 4 (σ (13 + g) 4 + 1)) := by unfold f_serve; rw [if_pos (by rw [ha]; exact c)]
    have g1 : g_serve μ g = up2 μ 15 g (μ 15 g + 1) := by unfold g_serve; rw [if_pos c]
    have e4 : σ (13 + g) 4 = μ 15 g := hR.rG' hg (k := 4) (by decide) (by decide)
    refine ⟨n, ?_, Or.inl ⟨by rw [f1], rfl⟩⟩
    rw [f1, g1]
    refine ⟨?_, hI.other (by decide) (by decide) (by decide) (by decide) (by decide) (by decide), ok_other hO (by decide), ?_, ?_⟩
    · rw [e4]; exact hR.G' hg (k := 4) (by decide) (by decide) _
    · show up2 σ (13 + g) 4 _ 1 5 = _
      rw [up2_n _ _ _ (by omega)]; exact h5
    · show up2 σ (13 + g) 4 _ 1 4 = _
      rw [up2_n _ _ _ (by omega)]; exact h4
  · have hit := lb_hit h.2.2.1 c
    obtain ⟨hR, hI, hO, h5, h4⟩ := h
    have f1 : f_serve σ g = (1, (f_serve σ g).2) := by unfold f_serve; rw [if_neg (by rw [ha]; exact c)]
    refine ⟨n + 1, ?_, Or.inr ⟨by rw [f1], rfl⟩⟩
    have eb : σ 0 3 &&& σ (13 + g) 0 = μ 0 2 &&& μ 10 g := by rw [hR.rS, hR.rG hg (k := 0) (by decide)]
    have h8 := lbN_lt (μ 0 2 &&& μ 10 g) 7 0 (by decide)
    unfold f_serve g_serve
    rw [if_neg (by rw [ha]; exact c), if_neg c, eb, hnn]
    generalize lbN (μ 0 2 &&& μ 10 g) 7 0 = t at hit h8
    obtain ⟨e3, s, hs, es⟩ := hO
    rw [es] at hit
    have hsub := sub_bit0 s hs t h8 hit
    have hst : σ 0 3 &&& (bit1 (nI t) ^^^ (-1)) = μ 0 2 - bit1 (nI t) := by rw [hR.rS, es]; exact and_not0 s hs t h8 hit
    dsimp only
    rw [hst]
    have r1 := hR.S (μ 0 2 - bit1 (nI t))
    have q5 : up2 σ 0 3 (μ 0 2 - bit1 (nI t)) 1 = σ 1 := rfl
    have m1 : mOK (up2 μ 0 2 (μ 0 2 - bit1 (nI t))) n := ⟨e3, s - 2 ^ t, Nat.lt_of_le_of_lt (Nat.sub_le _ _) hs, by rw [es, ← hsub.2]; rfl⟩
    have i1 : MI (up2 μ 0 2 (μ 0 2 - bit1 (nI t))) := hI.other (by decide) (by decide) (by decide) (by decide) (by decide) (by decide)
    have w1 : up2 μ 0 2 (μ 0 2 - bit1 (nI t)) 0 1 = μ 0 1 := rfl
    generalize up2 σ 0 3 (μ 0 2 - bit1 (nI t)) = σ1 at r1 q5 ⊢
    generalize up2 μ 0 2 (μ 0 2 - bit1 (nI t)) = μ1 at r1 m1 i1 w1 ⊢
    have e7 : σ1 (5 + t) 7 = μ1 9 (4 * t + 2) := r1.rO h8 (c := 2) (by decide)
    rw [e7]
    have r2 := r1.O h8 (c := 2) (by decide) (μ1 9 (4 * t + 2) + 1)
    have p5 : up2 σ1 (5 + t) 7 (μ1 9 (4 * t + 2) + 1) 1 = σ 1 := by rw [up2_n _ _ _ (by omega)]; exact q5
    have m2 : mOK (up2 μ1 9 (4 * t + 2) (μ1 9 (4 * t + 2) + 1)) n := ok_other m1 (by decide)
    have i2 : MI (up2 μ1 9 (4 * t + 2) (μ1 9 (4 * t + 2) + 1)) := i1.other (by decide) (by decide) (by decide) (by decide) (by decide) (by decide)
    have w2 : up2 μ1 9 (4 * t + 2) (μ1 9 (4 * t + 2) + 1) 0 1 = μ 0 1 := w1
    change Rl (up2 σ1 (5 + t) 7 _) _ at r2
    generalize up2 σ1 (5 + t) 7 (μ1 9 (4 * t + 2) + 1) = σ2 at r2 p5 ⊢
    generalize up2 μ1 9 (4 * t + 2) (μ1 9 (4 * t + 2) + 1) = μ2 at r2 m2 i2 w2 ⊢
    have eg3 : σ2 (13 + g) 3 = μ2 14 g := r2.rG' hg (k := 3) (by decide) (by decide)
    rw [eg3]
    have r3 := r2.G' hg (k := 3) (by decide) (by decide) (μ2 14 g + 1)
    change Rl (up2 σ2 (13 + g) 3 _) (up2 μ2 14 g _) at r3
    have p6 : up2 σ2 (13 + g) 3 (μ2 14 g + 1) 1 = σ 1 := by rw [up2_n _ _ _ (by omega)]; exact p5
    have m3 : mOK (up2 μ2 14 g (μ2 14 g + 1)) n := ok_other m2 (by decide)
    have i3 : MI (up2 μ2 14 g (μ2 14 g + 1)) := i2.other (by decide) (by decide) (by decide) (by decide) (by decide) (by decide)
    have w3 : up2 μ2 14 g (μ2 14 g + 1) 0 1 = μ 0 1 := w2
    generalize up2 σ2 (13 + g) 3 (μ2 14 g + 1) = σ3 at r3 p6 ⊢
    generalize up2 μ2 14 g (μ2 14 g + 1) = μ3 at r3 m3 i3 w3 ⊢
    have en : σ3 0 4 = μ3 0 1 := r3.rN
    rw [en]
    have r4 := r3.G' hg (k := 5) (by decide) (by decide) (μ3 0 1)
    change Rl (up2 σ3 (13 + g) 5 _) (up2 μ3 16 g _) at r4
    have p7 : up2 σ3 (13 + g) 5 (μ3 0 1) 1 = σ 1 := by rw [up2_n _ _ _ (by omega)]; exact p6
    have m4 : mOK (up2 μ3 16 g (μ3 0 1)) n := ok_other m3 (by decide)
    have i4 : MI (up2 μ3 16 g (μ3 0 1)) := i3.other (by decide) (by decide) (by decide) (by decide) (by decide) (by decide)
    generalize up2 σ3 (13 + g) 5 (μ3 0 1) = σ4 at r4 p7 ⊢
    generalize up2 μ3 16 g (μ3 0 1) = μ4 at r4 m4 i4 ⊢
    have en4 : σ4 0 4 = μ4 0 1 := r4.rN
    have k5 : σ4 1 5 = nI (n % 16) := by rw [p7]; exact h5
    have k4 : σ4 1 4 = nI (min n 16) := by rw [p7]; exact h4
    have k3 : σ4 1 3 = μ4 0 3 := r4.rC
    have hp : n % 16 < 16 := Nat.mod_lt _ (by decide)
    have kc : (σ4 1 5).toNatClampNeg = n % 16 := by rw [k5]; exact nI_clamp (by omega)
    have ra := r4.R (i := 0) (p := n % 16) (by decide) hp (nI t)
    have rb := ra.R (i := 1) (p := n % 16) (by decide) hp (nI g)
    have rc := rb.R (i := 2) (p := n % 16) (by decide) hp (μ4 0 1)
    have rr : Rl (f_arr σ4 (nI t) (nI g) (μ4 0 1)) (up2 (up2 (up2 μ4 17 (3 * (n % 16)) (nI t)) 17 (3 * (n % 16) + 1) (nI g)) 17 (3 * (n % 16) + 2) (μ4 0 1)) := by
      unfold f_arr
      rw [kc]
      exact rc.skipX (by decide) _
    have hrow : ∀ (x : Int32), rm16 (nI (n % 16) + 1) = nI ((n + 1) % 16) := fun _ => by
      rw [nI_1, rm16_nI (by omega)]
      congr 1
      omega
    have mm : mOK (up2 (up2 (up2 (up2 μ4 17 (3 * (n % 16)) (nI t)) 17 (3 * (n % 16) + 1) (nI g)) 17 (3 * (n % 16) + 2) (μ4 0 1)) 0 3 (μ4 0 3 + 1)) (n + 1) := ⟨by show μ4 0 3 + 1 = nI (n + 1); rw [m4.1, nI_1], m4.2⟩
    have ii : MI (up2 (up2 (up2 (up2 μ4 17 (3 * (n % 16)) (nI t)) 17 (3 * (n % 16) + 1) (nI g)) 17 (3 * (n % 16) + 2) (μ4 0 1)) 0 3 (μ4 0 3 + 1)) := (((i4.other (by decide) (by decide) (by decide) (by decide) (by decide) (by decide)).other (by decide) (by decide) (by decide) (by decide) (by decide) (by decide)).other (by decide) (by decide) (by decide) (by decide) (by decide) (by decide)).other (by decide) (by decide) (by decide) (by decide) (by decide) (by decide)
    rw [en4]
    unfold f_add
    by_cases cf : 16 ≤ σ4 1 4
    · rw [if_pos cf, k3]
      refine ⟨rr.C _, ii, mm, ?_, ?_⟩
      · show rm16 (σ4 1 5 + 1) = _
        rw [k5]; exact hrow 0
      · show σ4 1 4 = _
        rw [k4] at cf ⊢
        have : 16 ≤ min n 16 := by
          rcases Nat.lt_or_ge (min n 16) 16 with q | q
          · exact absurd cf (nI_ge (a := min n 16) (b := 16) q (by decide))
          · exact q
        congr 1
        omega
    · rw [if_neg cf, k3]
      refine ⟨(rr.skipX (by decide) _).C _, ii, mm, ?_, ?_⟩
      · show rm16 (σ4 1 5 + 1) = _
        rw [k5]; exact hrow 0
      · show σ4 1 4 + 1 = _
        rw [k4] at cf ⊢
        have : min n 16 < 16 := by
          rcases Nat.lt_or_ge (min n 16) 16 with q | q
          · exact q
          · exact absurd (nI_le (a := 16) (b := min n 16) q (by omega)) cf
        rw [nI_1]
        congr 1
        omega
end
section
theorem dn_rd13 (μ : St) (g : Nat) (d : Int32) : g_dn μ g d 13 g = d := by
  unfold g_dn
  split
  · rw [up2_ss]
  · rw [up2_n _ _ _ (by decide), up2_ss]
/-- a gate's wait, and what it serves -/
theorem sim_G {σ μ : St} {n g : Nat} (h : RR σ μ n) (hg : g < 4) (hn : n < 2 ^ 30) (sv : Int32) : ∃ n', n ≤ n' ∧ n' ≤ n + 1 ∧ (stG g sv σ).1 = sv + nI (n' - n) ∧ RR (stG g sv σ).2 (smG g μ) n' := by
  have e2 : σ (13 + g) 2 = μ 12 g := h.1.rG hg (k := 2) (by decide)
  obtain ⟨⟨w, hw, ew⟩, -⟩ := h.2.1.2 g hg
  obtain ⟨hR, hI, hO, h5, h4⟩ := id h
  have rd : ∀ d : Int32, up2 μ 13 g d 12 g = nI w := fun d => ew
  have hz : sv + nI (n - n) = sv := by rw [Nat.sub_self]; exact Int32.add_zero sv
  by_cases c0 : w = 0
  · subst c0
    have f1 : f_waitEnds σ (13 + g) = (0, σ) := by unfold f_waitEnds; rw [if_pos (by rw [e2, ew]; rfl)]
    have g0 : g_dn μ g 0 = up2 μ 13 g 0 := by unfold g_dn; dsimp only; rw [if_pos (by rw [rd]; decide)]
    have g1 : smG g μ = up2 μ 13 g 0 := by
      unfold smG
      rw [if_neg (by rw [ew]; decide), if_pos (dn_rd13 μ g 0), g0]
    refine ⟨n, Nat.le_refl n, Nat.le_succ n, ?_, ?_⟩
    · unfold stG
      rw [f1, if_pos rfl, hz]
    · unfold stG
      rw [f1, if_pos rfl, g1]
      exact ⟨hR.skipM g 0, hI.other (by decide) (by decide) (by decide) (by decide) (by decide) (by decide), ok_other hO (by decide), h5, h4⟩
  · have hdec : μ 12 g - 1 = nI (w - 1) := by rw [ew, show (1 : Int32) = nI 1 from rfl, pk_sub (by omega)]
    have hne : ¬ σ (13 + g) 2 = 0 := by rw [e2, ew]; exact nI_ne0 (by omega) (by omega)
    have gd : ∀ d : Int32, g_dn μ g d = up2 (up2 μ 13 g d) 12 g (μ 12 g - 1) := fun d => by
      unfold g_dn; dsimp only
      rw [if_neg (by rw [rd]; exact nI_nle (by omega) (by omega))]
      rfl
    have R1 : ∀ d : Int32, RR (up2 σ (13 + g) 2 (σ (13 + g) 2 - 1)) (g_dn μ g d) n := fun d => by
      rw [gd, e2]
      refine ⟨(hR.skipM g d).G hg (k := 2) (by decide) _, (hI.other (by decide) (by decide) (by decide) (by decide) (by decide) (by decide)).g12 (d := w - 1) (by omega) hdec, ok_other (ok_other hO (by decide)) (by decide), ?_, ?_⟩
      · rw [up2_n _ _ _ (by omega)]; exact h5
      · rw [up2_n _ _ _ (by omega)]; exact h4
    have rs : up2 σ (13 + g) 2 (σ (13 + g) 2 - 1) (13 + g) 2 = nI (w - 1) := by rw [up2_ss, e2, hdec]
    by_cases c1 : w = 1
    · subst c1
      have f1 : f_waitEnds σ (13 + g) = (1, up2 σ (13 + g) 2 (σ (13 + g) 2 - 1)) := by
        unfold f_waitEnds
        rw [if_neg hne, rs, if_pos (show nI (1 - 1) = 0 from rfl)]
      have g1 : smG g μ = g_serve (g_dn μ g 1) g := by
        unfold smG
        rw [if_pos (by rw [ew]; rfl), if_neg (by rw [dn_rd13]; decide)]
      obtain ⟨n', hr, hc⟩ := sim_serve (R1 1) hg hn
      unfold stG
      rw [f1, g1]
      rw [if_neg (show ¬ (1 : Int32) = 0 by decide)]
      dsimp only
      generalize f_serve (up2 σ (13 + g) 2 (σ (13 + g) 2 - 1)) g = q at hr hc ⊢
      rcases hc with ⟨a, rfl⟩ | ⟨a, rfl⟩
      · rw [if_pos a]
        exact ⟨n', Nat.le_refl _, Nat.le_succ _, hz.symm, hr⟩
      · rw [if_neg (by rw [a]; decide)]
        refine ⟨n + 1, Nat.le_succ _, Nat.le_refl _, ?_, hr⟩
        dsimp only
        rw [Nat.add_sub_cancel_left]; rfl
    · have f1 : f_waitEnds σ (13 + g) = (0, up2 σ (13 + g) 2 (σ (13 + g) 2 - 1)) := by
        unfold f_waitEnds
        rw [if_neg hne, rs, if_neg (nI_ne0 (by omega) (by omega))]
      have g1 : smG g μ = g_dn μ g 0 := by
        unfold smG
        rw [if_neg (by rw [ew]; exact fun q => c1 ((nI_eq (a := w) (b := 1) (by omega) (by decide)).mp q)), if_pos (dn_rd13 μ g 0)]
      refine ⟨n, Nat.le_refl n, Nat.le_succ n, ?_, ?_⟩
      · unfold stG
        rw [f1, if_pos rfl, hz]
      · unfold stG
        rw [f1, if_pos rfl, g1]
        exact R1 0
theorem sim_kG : ∀ (k g : Nat) (sv : Int32) {σ μ : St} {n : Nat}, g + k ≤ 4 → n + k < 2 ^ 30 → RR σ μ n → ∃ n', n ≤ n' ∧ n' ≤ n + k ∧ (tkG k g sv σ).1 = sv + nI (n' - n) ∧ RR (tkG k g sv σ).2 (mkG k g μ) n' := by
  intro k
  induction k with
  | zero =>
    intro g sv σ μ n _ _ h
    refine ⟨n, Nat.le_refl n, Nat.le_refl n, ?_, h⟩
    show sv = _
    rw [Nat.sub_self]; exact (Int32.add_zero sv).symm
  | succ k ih =>
    intro g sv σ μ n h4 hn h
    obtain ⟨n1, a1, b1, e1, r1⟩ := sim_G h (show g < 4 by omega) (by omega) sv
    obtain ⟨n2, a2, b2, e2, r2⟩ := ih (g + 1) (stG g sv σ).1 (by omega) (by omega) r1
    rw [tkG, mkG]
    refine ⟨n2, by omega, by omega, ?_, r2⟩
    rw [e2, e1, Int32.add_assoc, nI_add, show n1 - n + (n2 - n1) = n2 - n by omega]
theorem sim_W {σ μ : St} {n g : Nat} (h : RR σ μ n) (hg : g < 4) : RR (stW g σ) (smW g μ) n := by
  have ha := asks_eq h.1 hg
  obtain ⟨-, d, hd, ed⟩ := h.2.1.2 g hg
  obtain ⟨hR, hI, hO, h5, h4⟩ := id h
  have e2 : σ (13 + g) 2 = μ 12 g := hR.rG hg (k := 2) (by decide)
  have e1 : σ (13 + g) 1 = μ 11 g := hR.rG hg (k := 1) (by decide)
  unfold stW smW
  rw [e2, ha, e1]
  by_cases c : μ 12 g = 0
  · rw [if_pos c, if_pos c]
    by_cases c2 : g_asks μ g = 0
    · rw [if_pos c2, if_pos c2]; exact h
    · rw [if_neg c2, if_neg c2]
      refine ⟨hR.G hg (k := 2) (by decide) _, hI.g12 hd ed, ok_other hO (by decide), ?_, ?_⟩
      · rw [up2_n _ _ _ (by omega)]; exact h5
      · rw [up2_n _ _ _ (by omega)]; exact h4
  · rw [if_neg c, if_neg c]; exact h
theorem sim_kW : ∀ (k g : Nat) {σ μ : St} {n : Nat}, g + k ≤ 4 → RR σ μ n → RR (wkG k g σ) (mkW k g μ) n := by
  intro k
  induction k with
  | zero => intro g σ μ n _ h; exact h
  | succ k ih =>
    intro g σ μ n h4 h
    rw [wkG, mkW]
    exact ih (g + 1) (by omega) (sim_W h (by omega))
theorem sim_tick {σ μ : St} {n : Nat} (h : RR σ μ n) (hn : n + 4 < 2 ^ 30) : ∃ n', n ≤ n' ∧ n' ≤ n + 4 ∧ (f_tick σ).1 = nI (n' - n) ∧ RR (f_tick σ).2 (g_tick μ) n' := by
  obtain ⟨hR, hI, hO, h5, h4⟩ := id h
  have r0 : RR (up2 σ 0 4 (σ 0 4 + 1)) (up2 μ 0 1 (μ 0 1 + 1)) n := by
    refine ⟨?_, hI.other (by decide) (by decide) (by decide) (by decide) (by decide) (by decide), ok_now hO, h5, h4⟩
    rw [hR.rN]; exact hR.N _
  have r1 := sim_kT 8 0 0 (by decide) r0
  obtain ⟨n', a, b, e, r2⟩ := sim_kG 4 0 0 (by decide) hn r1
  have r3 := sim_kW 4 0 (by decide) r2
  refine ⟨n', a, b, ?_, ?_⟩
  · unfold f_tick
    dsimp only
    rw [e]; exact Int32.zero_add _
  · unfold f_tick g_tick
    dsimp only
    exact r3
theorem sim_adv : ∀ (k : Nat) (sv : Int32) {σ μ : St} {n : Nat}, n + 4 * k < 2 ^ 30 → RR σ μ n → ∃ n', n ≤ n' ∧ n' ≤ n + 4 * k ∧ (advL k sv σ).1 = sv + nI (n' - n) ∧ RR (advL k sv σ).2 (advM k μ) n' := by
  intro k
  induction k with
  | zero =>
    intro sv σ μ n _ h
    refine ⟨n, Nat.le_refl n, Nat.le_refl n, ?_, h⟩
    show sv = _
    rw [Nat.sub_self]; exact (Int32.add_zero sv).symm
  | succ k ih =>
    intro sv σ μ n hn h
    obtain ⟨n1, a1, b1, e1, r1⟩ := sim_tick h (by omega)
    obtain ⟨n2, a2, b2, e2, r2⟩ := ih (sv + (f_tick σ).1) (by omega) r1
    rw [advL, advM]
    refine ⟨n2, by omega, by omega, ?_, r2⟩
    rw [e2, e1, Int32.add_assoc, nI_add, show n1 - n + (n2 - n1) = n2 - n by omega]
theorem sim_nxt {B : Int32} : ∀ (k i : Nat) {σ μ : St} {n : Nat}, n + 4 * k < 2 ^ 30 → RR σ μ n → B = nI n → (nxtL (nI (i + k)) k i σ).1 = (nxtM B k i μ).1 ∧ ∃ n', n ≤ n' ∧ n' ≤ n + 4 * k ∧ RR (nxtL (nI (i + k)) k i σ).2 (nxtM B k i μ).2 n' := by
  intro k
  induction k with
  | zero =>
    intro i σ μ n _ h _
    exact ⟨rfl, n, Nat.le_refl n, Nat.le_refl n, h⟩
  | succ k ih =>
    intro i σ μ n hn h hB
    obtain ⟨n1, a1, b1, e1, r1⟩ := sim_tick h (by omega)
    have c0 : μ 0 3 = B := by rw [h.2.2.1.1, hB]
    rw [nxtL, nxtM, if_pos c0, show i + (k + 1) = i + 1 + k by omega]
    generalize f_tick σ = q at e1 r1 ⊢
    generalize g_tick μ = μ1 at r1 ⊢
    by_cases c1 : n1 = n
    · subst c1
      rw [if_pos (by rw [e1, Nat.sub_self]; decide)]
      obtain ⟨q1, n2, q2, q3, q4⟩ := ih (i + 1) (by omega) r1 hB
      exact ⟨q1, n2, q2, by omega, q4⟩
    · rw [if_neg (by rw [e1]; exact nI_nle (by omega) (by omega))]
      have c2 : ¬ μ1 0 3 = B := by
        rw [r1.2.2.1.1, hB]
        exact fun z => c1 ((nI_eq (by omega) (by omega)).mp z)
      have e3 : nxtM B k (i + 1) μ1 = (nI (i + 1), μ1) := by
        cases k with
        | zero => rfl
        | succ k => rw [nxtM, if_neg c2]
      rw [e3]
      exact ⟨nI_1 i, n1, a1, by omega, r1⟩
end
section
/-! THE CALLS, SIDE BY SIDE -/
theorem lt_succ (a c : Int32) (n : Int) (ha : a.toInt = n + 1) (hc : c.toInt = n) (t : Int32) : a ≤ t ↔ c < t := by
  rw [Int32.le_iff_toInt_le, Int32.lt_iff_toInt_lt, ha, hc]; omega
theorem isTimer_isIn (t : Int32) : f_isTimer t = f_isIn t 0 7 := by
  unfold f_isTimer f_isIn
  have h := lt_succ 8 7 7 (by decide) (by decide) t
  by_cases c : t < 0
  · rw [if_pos c, if_pos c]
  · rw [if_neg c, if_neg c]
    by_cases c2 : 8 ≤ t
    · rw [if_pos c2, if_pos (h.mp c2)]
    · rw [if_neg c2, if_neg (fun q => c2 (h.mpr q))]
theorem isGate_isIn (t : Int32) : f_isGate t = f_isIn t 0 3 := by
  unfold f_isGate f_isIn
  have h := lt_succ 4 3 3 (by decide) (by decide) t
  by_cases c : t < 0
  · rw [if_pos c, if_pos c]
  · rw [if_neg c, if_neg c]
    by_cases c2 : 4 ≤ t
    · rw [if_pos c2, if_pos (h.mp c2)]
    · rw [if_neg c2, if_neg (fun q => c2 (h.mpr q))]
theorem i_tri (x c : Int32) : x < c ∨ x = c ∨ c < x := by
  rw [Int32.lt_iff_toInt_lt, Int32.lt_iff_toInt_lt, ← Int32.toInt_inj]; omega
theorem i_nlt {x c : Int32} (h : c < x) : ¬ x < c := by
  rw [Int32.lt_iff_toInt_lt] at *; omega
theorem src0 (src : Int32) : f_isSource 0 src = f_isIn src 0 0 := by
  unfold f_isSource f_isIn
  rcases i_tri src 0 with c | c | c
  · have c1 : ¬ src = 0 := fun e => by subst e; revert c; decide
    rw [if_neg c1, if_pos c]
    split
    · rw [if_pos (by decide)]
    · rfl
  · subst c; decide
  · have c1 : ¬ src = 0 := fun e => by subst e; revert c; decide
    rw [if_neg c1, if_neg (i_nlt c), if_pos c]
    split
    · rw [if_pos (by decide)]
    · rfl
theorem src1 (t src : Int32) (ht : ¬ t ≤ 0) : f_isSource t src = f_isIn src 0 1 := by
  unfold f_isSource f_isIn
  rw [if_neg ht]
  rcases i_tri src 0 with c | c | c
  · have c1 : ¬ src = 0 := fun e => by subst e; revert c; decide
    have c2 : ¬ src = 1 := fun e => by subst e; revert c; decide
    rw [if_neg c1, if_neg c2, if_pos c]
  · subst c; decide
  · have c1 : ¬ src = 0 := fun e => by subst e; revert c; decide
    rw [if_neg c1, if_neg (i_nlt c)]
    rcases i_tri src 1 with d | d | d
    · rw [Int32.lt_iff_toInt_lt] at c d
      have e0 : (0 : Int32).toInt = 0 := by decide
      have e1 : (1 : Int32).toInt = 1 := by decide
      omega
    · subst d; decide
    · have c2 : ¬ src = 1 := fun e => by subst e; revert d; decide
      rw [if_neg c2, if_pos d]
theorem rng {x lo hi : Int32} {a z : Nat} (e1 : lo.toInt = a) (e2 : hi.toInt = z) (h1 : ¬ x < lo) (h2 : x ≤ hi) (hz : z < 2 ^ 30) : ∃ q : Nat, a ≤ q ∧ q ≤ z ∧ x = nI q := by
  rw [Int32.lt_iff_toInt_lt] at h1
  rw [Int32.le_iff_toInt_le] at h2
  refine ⟨x.toInt.toNat, by omega, by omega, ?_⟩
  apply Int32.toInt_inj.mp
  rw [nI_toInt (by omega)]
  omega
theorem isIn_per (x lo hi : Int32) : f_isIn x lo hi = 0 ↔ x < lo ∨ hi < x := by
  unfold f_isIn
  by_cases c : x < lo
  · rw [if_pos c]; exact ⟨fun _ => Or.inl c, fun _ => rfl⟩
  · rw [if_neg c]
    by_cases c2 : hi < x
    · rw [if_pos c2]; exact ⟨fun _ => Or.inr c2, fun _ => rfl⟩
    · rw [if_neg c2]; exact ⟨fun q => absurd q (by decide), fun q => absurd q (fun z => z.elim c c2)⟩
theorem i_le {x c : Int32} : x ≤ c ↔ ¬ c < x := by
  rw [Int32.le_iff_toInt_le, Int32.lt_iff_toInt_lt]; omega
theorem bI_01 (x : Bool) : bI x = 0 ∨ bI x = 1 := by cases x <;> decide
theorem put_RR {σ μ : St} {n t q : Nat} (h : RR σ μ n) (ht : t < 8) (src per : Int32) (x : Bool) (h1 : 1 ≤ q) (h2 : q ≤ 65535) (e : per = nI q) : RR (up2 (up2 (up2 (up2 (up2 σ (5 + t) 2 src) (5 + t) 0 per) (5 + t) 1 per) (5 + t) 3 (bI x)) (5 + t) 4 0) (g_put μ t src per x) n := by
  obtain ⟨hR, hI, hO, h5, h4⟩ := h
  have r1 : ∀ (τ : St) (k : Nat) (v : Int32), up2 τ (5 + t) k v 1 = τ 1 := fun τ k v => up2_n τ k v (by omega)
  unfold g_put
  refine ⟨((((hR.T ht (k := 2) (by decide) src).T ht (k := 0) (by decide) per).T ht (k := 1) (by decide) per).T ht (k := 3) (by decide) (bI x)).T ht (k := 4) (by decide) 0, ?_, ?_, ?_, ?_⟩
  · exact ((((hI.other (by decide) (by decide) (by decide) (by decide) (by decide) (by decide)).t4 h1 h2 e).t5 h1 h2 e).t7 (bI_01 x)).t8 (Or.inl rfl)
  · exact ok_other (ok_other (ok_other (ok_other (ok_other hO (by decide)) (by decide)) (by decide)) (by decide)) (by decide)
  · rw [r1, r1, r1, r1, r1]; exact h5
  · rw [r1, r1, r1, r1, r1]; exact h4
theorem op_set {σ μ : St} {n : Nat} (h : RR σ μ n) (t src per : Int32) (x : Bool) : (f_set σ t src per x).1 = (g_set μ t src per x).1 ∧ RR (f_set σ t src per x).2 (g_set μ t src per x).2 n := by
  unfold f_set g_set
  rw [isTimer_isIn]
  by_cases c0 : f_isIn t 0 7 = 0
  · rw [if_pos c0, if_pos c0]; exact ⟨rfl, h⟩
  · rw [if_neg c0, if_neg c0]
    obtain ⟨j, hj, rfl⟩ := isIn_in (n := 7) (by decide) c0
    have hcl : (nI j).toNatClampNeg = j := nI_clamp (by omega)
    rw [hcl]
    have key : ∀ (y : Int32), ((if y = 0 then ((0 : Int32), σ) else if per < 1 then (0, σ) else if per ≤ 65535 then (1, up2 (up2 (up2 (up2 (up2 σ (5 + j) 2 src) (5 + j) 0 per) (5 + j) 1 per) (5 + j) 3 (bI x)) (5 + j) 4 0) else (0, σ)) : Int32 × St).1 = (if y = 0 then ((0 : Int32), μ) else if f_isIn per 1 65535 = 0 then (0, μ) else (1, g_put μ j src per x) : Int32 × St).1 ∧ RR (if y = 0 then ((0 : Int32), σ) else if per < 1 then (0, σ) else if per ≤ 65535 then (1, up2 (up2 (up2 (up2 (up2 σ (5 + j) 2 src) (5 + j) 0 per) (5 + j) 1 per) (5 + j) 3 (bI x)) (5 + j) 4 0) else (0, σ) : Int32 × St).2 (if y = 0 then ((0 : Int32), μ) else if f_isIn per 1 65535 = 0 then (0, μ) else (1, g_put μ j src per x) : Int32 × St).2 n := by
      intro y
      by_cases c1 : y = 0
      · rw [if_pos c1, if_pos c1]; exact ⟨rfl, h⟩
      · rw [if_neg c1, if_neg c1]
        by_cases c2 : per < 1
        · rw [if_pos c2, if_pos ((isIn_per _ _ _).mpr (Or.inl c2))]; exact ⟨rfl, h⟩
        · rw [if_neg c2]
          by_cases c3 : per ≤ 65535
          · rw [if_pos c3, if_neg (fun q => ((isIn_per _ _ _).mp q).elim c2 (i_le.mp c3))]
            obtain ⟨q, q1, q2, e⟩ := rng (a := 1) (z := 65535) (by decide) (by decide) c2 c3 (by decide)
            exact ⟨rfl, put_RR h hj src per x q1 q2 e⟩
          · rw [if_neg c3, if_pos ((isIn_per _ _ _).mpr (Or.inr (Decidable.of_not_not (fun q => c3 (i_le.mpr q)))))]
            exact ⟨rfl, h⟩
    by_cases cz : nI j = 0
    · rw [if_pos cz, cz, src0]
      exact key _
    · rw [if_neg cz, src1 (nI j) src (fun q => cz (by
        have h0 : ¬ nI j < 0 := nI_pos (by omega)
        rcases i_tri (nI j) 0 with a | a | a
        · exact absurd a h0
        · exact a
        · exact absurd a (i_le.mp q)))]
      exact key _
theorem op_turn {σ μ : St} {n : Nat} (h : RR σ μ n) (t : Int32) (x : Bool) : (f_turn σ t x).1 = (g_turn μ t x).1 ∧ RR (f_turn σ t x).2 (g_turn μ t x).2 n := by
  unfold f_turn g_turn
  rw [isTimer_isIn]
  by_cases c0 : f_isIn t 0 7 = 0
  · rw [if_pos c0, if_pos c0]; exact ⟨rfl, h⟩
  · rw [if_neg c0, if_neg c0]
    obtain ⟨j, hj, rfl⟩ := isIn_in (n := 7) (by decide) c0
    have hcl : (nI j).toNatClampNeg = j := nI_clamp (by omega)
    rw [hcl, show σ (5 + j) 4 = μ 8 j from h.1.rT hj (k := 4) (by decide)]
    by_cases c1 : μ 8 j = bI x
    · rw [if_pos c1, if_pos c1]; exact ⟨rfl, h⟩
    · rw [if_neg c1, if_neg c1]
      obtain ⟨hR, hI, hO, h5, h4⟩ := h
      refine ⟨rfl, hR.T hj (k := 4) (by decide) _, hI.t8 (bI_01 x), ok_other hO (by decide), ?_, ?_⟩
      · dsimp only; rw [up2_n _ _ _ (by omega)]; exact h5
      · dsimp only; rw [up2_n _ _ _ (by omega)]; exact h4
theorem op_gate {σ μ : St} {n : Nat} (h : RR σ μ n) (g mask delay : Int32) : (f_gate σ g mask delay).1 = (g_gate μ g mask delay).1 ∧ RR (f_gate σ g mask delay).2 (g_gate μ g mask delay).2 n := by
  unfold f_gate g_gate
  rw [isGate_isIn, show f_isBitSet mask = f_isIn mask 0 255 from rfl]
  by_cases c0 : f_isIn g 0 3 = 0
  · rw [if_pos c0, if_pos c0]; exact ⟨rfl, h⟩
  · rw [if_neg c0, if_neg c0]
    obtain ⟨j, hj, rfl⟩ := isIn_in (n := 3) (by decide) c0
    have hcl : (nI j).toNatClampNeg = j := nI_clamp (by omega)
    rw [hcl]
    by_cases c1 : f_isIn mask 0 255 = 0
    · rw [if_pos c1, if_pos c1]; exact ⟨rfl, h⟩
    · rw [if_neg c1, if_neg c1]
      by_cases c2 : delay < 1
      · rw [if_pos c2, if_pos ((isIn_per _ _ _).mpr (Or.inl c2))]; exact ⟨rfl, h⟩
      · rw [if_neg c2]
        by_cases c3 : delay ≤ 1000
        · rw [if_pos c3, if_neg (fun q => ((isIn_per _ _ _).mp q).elim c2 (i_le.mp c3))]
          obtain ⟨q, q1, q2, e⟩ := rng (a := 1) (z := 1000) (by decide) (by decide) c2 c3 (by decide)
          obtain ⟨hR, hI, hO, h5, h4⟩ := h
          refine ⟨rfl, (hR.G hj (k := 0) (by decide) mask).G hj (k := 1) (by decide) delay, (hI.other (by decide) (by decide) (by decide) (by decide) (by decide) (by decide)).g11 q2 e, ok_other (ok_other hO (by decide)) (by decide), ?_, ?_⟩
          · dsimp only; rw [up2_n _ _ _ (by omega), up2_n _ _ _ (by omega)]; exact h5
          · dsimp only; rw [up2_n _ _ _ (by omega), up2_n _ _ _ (by omega)]; exact h4
        · rw [if_neg c3, if_pos ((isIn_per _ _ _).mpr (Or.inr (Decidable.of_not_not (fun q => c3 (i_le.mpr q)))))]
          exact ⟨rfl, h⟩
theorem sim_clr {c : Int32} {m : Nat} (hm : m < 256) (ec : c = nI m) : ∀ (k t : Nat) {σ μ : St} {n : Nat}, t + k ≤ 8 → RR σ μ n → RR (clrL c k t σ) (clrM c k t μ) n ∧ clrM c k t μ 0 2 = μ 0 2 := by
  subst ec
  intro k
  induction k with
  | zero => intro t σ μ n _ h; exact ⟨h, rfl⟩
  | succ k ih =>
    intro t σ μ n h8 h
    have ht : t < 8 := by omega
    rw [clrL, clrM, sh_bit0 m hm t ht]
    have e8 : σ (5 + t) 8 = μ 9 (4 * t + 3) := h.1.rO ht (c := 3) (by decide)
    by_cases cb : nI m &&& bit1 (nI t) = 0
    · rw [if_pos cb, if_pos cb, Int32.add_zero, up2_same rfl]
      exact ih (t + 1) (by omega) h
    · rw [if_neg cb, if_neg cb, e8]
      obtain ⟨hR, hI, hO, h5, h4⟩ := h
      refine ih (t + 1) (σ := up2 σ (5 + t) 8 (μ 9 (4 * t + 3) + 1)) (μ := up2 μ 9 (4 * t + 3) (μ 9 (4 * t + 3) + 1)) (by omega) ⟨hR.O ht (c := 3) (by decide) _, hI.other (by decide) (by decide) (by decide) (by decide) (by decide) (by decide), ok_other hO (by decide), ?_, ?_⟩
      · rw [up2_n _ _ _ (by omega)]; exact h5
      · rw [up2_n _ _ _ (by omega)]; exact h4
end
section
theorem and_not1 : ∀ s, s < 256 → ∀ x, x < 256 → nI s &&& ((nI s &&& nI x) ^^^ (-1)) = nI s - (nI s &&& nI x) := by decide +kernel
theorem op_clear {σ μ : St} {n : Nat} (h : RR σ μ n) (x : Int32) : (f_clear σ x).1 = (g_clear μ x).1 ∧ RR (f_clear σ x).2 (g_clear μ x).2 n := by
  unfold f_clear g_clear
  rw [show f_isBitSet x = f_isIn x 0 255 from rfl]
  by_cases c0 : f_isIn x 0 255 = 0
  · rw [if_pos c0, if_pos c0]; exact ⟨rfl, h⟩
  · rw [if_neg c0, if_neg c0]
    obtain ⟨j, hj, rfl⟩ := isIn_in (n := 255) (by decide) c0
    obtain ⟨e3, s, hs, es⟩ := h.2.2.1
    rw [h.1.rS]
    obtain ⟨m, hm, em⟩ := and_lt hs (nI j)
    rw [es, em]
    obtain ⟨r, e2⟩ := sim_clr (c := nI m) hm rfl 8 0 (by decide) h
    rw [es] at e2
    refine ⟨rfl, ?_⟩
    dsimp only
    generalize clrL (nI m) 8 0 σ = L at r ⊢
    generalize clrM (nI m) 8 0 μ = M at r e2 ⊢
    obtain ⟨hR, hI, hO, h5, h4⟩ := r
    have e4 : nI s &&& (nI m ^^^ (-1)) = nI s - nI m := by rw [← em]; exact and_not1 s hs j hj
    rw [hR.rS, e2, e4]
    have hle : m ≤ s := by
      have q : nI (s &&& j) = nI m := by rw [← em]; exact (nx_and s j).symm
      have q2 := (nI_eq (a := s &&& j) (b := m) (by have := Nat.and_le_left (n := s) (m := j); omega) (by omega)).mp q
      rw [← q2]; exact Nat.and_le_left
    exact ⟨hR.S _, hI.other (by decide) (by decide) (by decide) (by decide) (by decide) (by decide), ok_status hO (r := s - m) (by omega) (by rw [pk_sub hle]), h5, h4⟩
theorem op_advance {σ μ : St} {n : Nat} (h : RR σ μ n) (hn : n + 80000 < 2 ^ 30) (x : Int32) : (f_advance σ x).1 = (g_advance μ x).1 ∧ ∃ n', n' ≤ n + 80000 ∧ RR (f_advance σ x).2 (g_advance μ x).2 n' := by
  unfold f_advance g_advance
  rw [show f_isTickCount x = f_isIn x 0 20000 from rfl]
  by_cases c0 : f_isIn x 0 20000 = 0
  · rw [if_pos c0, if_pos c0]; exact ⟨rfl, n, Nat.le_add_right _ _, h⟩
  · rw [if_neg c0, if_neg c0]
    obtain ⟨j, hj, rfl⟩ := isIn_in (n := 20000) (by decide) c0
    rw [nI_clamp (by omega)]
    obtain ⟨n', a, b, e, r⟩ := sim_adv j 0 (by omega) h
    generalize advL j 0 σ = q at e r ⊢
    generalize advM j μ = M at r ⊢
    refine ⟨?_, n', by omega, r⟩
    dsimp only
    rw [e, r.2.2.1.1, h.2.2.1.1, pk_sub a]
    exact Int32.zero_add _
theorem op_next {σ μ : St} {n : Nat} (h : RR σ μ n) (hn : n + 80000 < 2 ^ 30) (x : Int32) : (f_next σ x).1 = (g_next μ x).1 ∧ ∃ n', n' ≤ n + 80000 ∧ RR (f_next σ x).2 (g_next μ x).2 n' := by
  unfold f_next g_next
  rw [show f_isTickCount x = f_isIn x 0 20000 from rfl]
  by_cases c0 : f_isIn x 0 20000 = 0
  · rw [if_pos c0, if_pos c0]; exact ⟨rfl, n, Nat.le_add_right _ _, h⟩
  · rw [if_neg c0, if_neg c0]
    obtain ⟨j, hj, rfl⟩ := isIn_in (n := 20000) (by decide) c0
    rw [nI_clamp (by omega)]
    obtain ⟨e, n', a, b, r⟩ := sim_nxt j 0 (by omega) h (B := μ 0 3) h.2.2.1.1
    rw [Nat.zero_add] at e r
    exact ⟨e, n', by omega, r⟩
theorem op_timer {σ μ : St} {n : Nat} (h : RR σ μ n) (t w : Int32) : f_timer σ t w = g_timer μ t w := by
  unfold f_timer g_timer
  rw [isTimer_isIn]
  by_cases c0 : f_isIn t 0 7 = 0
  · rw [if_pos c0, if_pos c0]
  · rw [if_neg c0, if_neg c0]
    obtain ⟨j, hj, rfl⟩ := isIn_in (n := 7) (by decide) c0
    rw [nI_clamp (by omega)]
    unfold f_Tread g_Tread
    rw [show σ (5 + j) 1 = μ 5 j from h.1.rT hj (k := 1) (by decide), show σ (5 + j) 0 = μ 4 j from h.1.rT hj (k := 0) (by decide), show σ (5 + j) 2 = μ 6 j from h.1.rT hj (k := 2) (by decide), show σ (5 + j) 4 = μ 8 j from h.1.rT hj (k := 4) (by decide), show σ (5 + j) 3 = μ 7 j from h.1.rT hj (k := 3) (by decide),
      show σ (5 + j) 5 = μ 9 (4 * j) from h.1.rO hj (c := 0) (by decide), show σ (5 + j) 6 = μ 9 (4 * j + 1) from h.1.rO hj (c := 1) (by decide), show σ (5 + j) 7 = μ 9 (4 * j + 2) from h.1.rO hj (c := 2) (by decide), show σ (5 + j) 8 = μ 9 (4 * j + 3) from h.1.rO hj (c := 3) (by decide)]
theorem op_gateOf {σ μ : St} {n : Nat} (h : RR σ μ n) (g w : Int32) : f_gateOf σ g w = g_gateOf μ g w := by
  unfold f_gateOf g_gateOf
  rw [isGate_isIn]
  by_cases c0 : f_isIn g 0 3 = 0
  · rw [if_pos c0, if_pos c0]
  · rw [if_neg c0, if_neg c0]
    obtain ⟨j, hj, rfl⟩ := isIn_in (n := 3) (by decide) c0
    rw [nI_clamp (by omega)]
    unfold f_Gread g_Gread
    rw [asks_eq h.1 hj, show σ (13 + j) 2 = μ 12 j from h.1.rG hj (k := 2) (by decide), show σ (13 + j) 0 = μ 10 j from h.1.rG hj (k := 0) (by decide), show σ (13 + j) 1 = μ 11 j from h.1.rG hj (k := 1) (by decide), show σ (13 + j) 3 = μ 14 j from h.1.rG' hj (k := 3) (by decide) (by decide), show σ (13 + j) 4 = μ 15 j from h.1.rG' hj (k := 4) (by decide) (by decide), show σ (13 + j) 5 = μ 16 j from h.1.rG' hj (k := 5) (by decide) (by decide)]
theorem sim_tn {σ μ : St} {n : Nat} (h : RR σ μ n) : ∀ (k t : Nat) (x : Int32), t + k ≤ 8 → tnL σ k t x = mnL μ k t x := by
  intro k
  induction k with
  | zero => intro t x _; rfl
  | succ k ih =>
    intro t x h8
    have ht : t < 8 := by omega
    rw [tnL, mnL]
    have e : stN σ t x = smN μ t x := by
      unfold stN smN
      rw [show σ (5 + t) 1 = μ 5 t from h.1.rT ht (k := 1) (by decide), show σ (5 + t) 2 = μ 6 t from h.1.rT ht (k := 2) (by decide), show σ (5 + t) 4 = μ 8 t from h.1.rT ht (k := 4) (by decide)]
    rw [e]
    exact ih (t + 1) _ (by omega)
theorem op_look {σ μ : St} {n : Nat} (h : RR σ μ n) (w : Int32) : f_look σ w = g_look μ w := by
  unfold f_look g_look
  rw [h.1.rS, h.1.rN, h.1.rC, sim_tn h 8 0 0 (by decide)]
end
section
theorem isIn_nI {j n : Nat} (hj : j < 2 ^ 31) (hn : n < 2 ^ 31) : f_isIn (nI j) 0 (nI n) = if j ≤ n then 1 else 0 := by
  unfold f_isIn
  rw [if_neg (nI_pos hj)]
  by_cases c : j ≤ n
  · rw [if_pos c, if_neg (fun q => by have := (nI_ltI hn hj).mp q; omega)]
  · rw [if_neg c, if_pos ((nI_ltI hn hj).mpr (by omega))]
theorem op_served {σ μ : St} {n : Nat} (h : RR σ μ n) (hn : n < 2 ^ 30) (i w : Int32) : f_Hread σ i w = g_served μ i w := by
  have hnn := mOK_nn h.2.2.1 hn
  obtain ⟨hR, -, hO, h5, h4⟩ := h
  unfold f_Hread g_served
  by_cases c0 : i < 0
  · rw [if_pos c0, if_pos ((isIn_per _ _ _).mpr (Or.inl c0))]
  · rw [if_neg c0]
    obtain ⟨j, hj, rfl⟩ := nI_of c0
    have e15 := isIn_nI hj (show 15 < 2 ^ 31 by decide)
    rw [h4, hO.1, hnn, nI_clamp hj]
    by_cases c1 : j < min n 16
    · rw [if_pos ((nI_ltI hj (by omega)).mpr c1), if_neg (show ¬ f_isIn (nI j) 0 15 = 0 from fun q => by
        have q2 : f_isIn (nI j) 0 (nI 15) = 0 := q
        rw [e15, if_pos (by omega)] at q2
        exact absurd q2 (by decide)), if_neg (show ¬ nI n ≤ nI j from fun q => by have := (nI_leI (by omega) hj).mp q; omega)]
      have ep : (rm16 (σ 1 5 + 16 - 1 - nI j)).toNatClampNeg = (n - 1 - j) % 16 := by
        rw [h5, show nI (n % 16) + 16 = nI (n % 16 + 16) from nI_add _ 16, show nI (n % 16 + 16) - 1 = nI (n % 16 + 15) from nI_pred (n % 16 + 15), pk_sub (by omega), rm16_nI (by omega), nI_clamp (by omega)]
        omega
      rw [ep]
      have hp : (n - 1 - j) % 16 < 16 := Nat.mod_lt _ (by decide)
      rcases sw_cases w 2 (by decide) with s | ⟨k, hk, rfl⟩
      · rw [if_pos ((isIn_per w 0 2).mpr (by
          rcases s with s | s
          · left; rw [Int32.lt_iff_toInt_lt]; exact s
          · right; rw [Int32.lt_iff_toInt_lt]; exact s))]
        simp only [sw_o _ _ s 0 (by decide) (by decide), sw_o _ _ s 1 (by decide) (by decide), sw_o _ _ s 2 (by decide) (by decide), ↓reduceIte]
      · have e2 : ¬ f_isIn (nI k) 0 2 = 0 := fun q => by
          have q2 : f_isIn (nI k) 0 (nI 2) = 0 := q
          rw [isIn_nI (by omega) (by decide), if_pos hk] at q2
          exact absurd q2 (by decide)
        rw [if_neg e2, nI_clamp (by omega)]
        have rd := hR.rR (i := k) (p := (n - 1 - j) % 16) (by omega) hp
        rcases (show k = 0 ∨ k = 1 ∨ k = 2 by omega) with rfl | rfl | rfl
        · simp only [sw_0_0, ↓reduceIte]; exact rd
        · simp only [sw_1_0, sw_1_1, ↓reduceIte]; exact rd
        · simp only [sw_2_0, sw_2_1, sw_2_2, ↓reduceIte]; exact rd
    · rw [if_neg (fun q => c1 ((nI_ltI hj (by omega)).mp q))]
      by_cases c2 : j ≤ 15
      · rw [if_neg (show ¬ f_isIn (nI j) 0 15 = 0 from fun q => by
          have q2 : f_isIn (nI j) 0 (nI 15) = 0 := q
          rw [e15, if_pos c2] at q2
          exact absurd q2 (by decide)), if_pos (show nI n ≤ nI j from (nI_leI (by omega) hj).mpr (by omega))]
      · rw [if_pos (show f_isIn (nI j) 0 15 = 0 from by
          show f_isIn (nI j) 0 (nI 15) = 0
          rw [e15, if_neg c2])]
def vcb (i k : Nat) : Bool := (i == 0 && (k == 3 || k == 4)) || (i == 1 && k == 3) || (decide (2 ≤ i) && decide (i < 5)) || (decide (5 ≤ i) && decide (i < 13) && decide (k < 9)) || (decide (13 ≤ i) && decide (k < 6))
def eqb (i k : Nat) : Bool := decide (s0 i k = m0 (ph i k).1 (ph i k).2)
theorem rl0_key : ∀ i, i < 17 → ∀ k, k < 16 → (!vcb i k || eqb i k) = true := by decide +kernel
theorem rl0 : Rl s0 m0 := by
  intro i k h
  have h2 : i < 17 ∧ k < 16 := by unfold vc at h; omega
  have h3 : vcb i k = true := by
    unfold vc at h
    unfold vcb
    simp only [Bool.or_eq_true, Bool.and_eq_true, beq_iff_eq, decide_eq_true_eq]
    omega
  have h4 := rl0_key i h2.1 k h2.2
  rw [h3] at h4
  exact of_decide_eq_true h4
theorem rr0 : RR s0 m0 0 := by
  refine ⟨rl0, ⟨fun t ht => ?_, fun g hg => ?_⟩, ⟨rfl, 0, by decide, rfl⟩, rfl, rfl⟩
  · have k1 : ∀ t, t < 8 → m0 5 t = nI 1 ∧ m0 4 t = nI 1 ∧ m0 7 t = 0 ∧ m0 8 t = 0 := by decide +kernel
    obtain ⟨a, b, c, d⟩ := k1 t ht
    exact ⟨⟨1, by decide, by decide, a⟩, ⟨1, by decide, by decide, b⟩, Or.inl c, Or.inl d⟩
  · have k2 : ∀ g, g < 4 → m0 12 g = nI 0 ∧ m0 11 g = nI 1 := by decide +kernel
    obtain ⟨a, b⟩ := k2 g hg
    exact ⟨⟨0, by decide, a⟩, ⟨1, by decide, b⟩⟩
end
section
theorem d_law_0 : decode code 0 = .ok (.new 7, 3) := by decide +kernel
theorem d_law_3 : decode code 3 = .ok (.dup, 1) := by decide +kernel
theorem d_law_4 : decode code 4 = .ok (.invokespecial 9, 3) := by decide +kernel
theorem d_law_7 : decode code 7 = .ok (.astore_n 1, 1) := by decide +kernel
theorem d_law_8 : decode code 8 = .ok (.new 10, 3) := by decide +kernel
theorem d_law_11 : decode code 11 = .ok (.dup, 1) := by decide +kernel
theorem d_law_12 : decode code 12 = .ok (.invokespecial 12, 3) := by decide +kernel
theorem d_law_15 : decode code 15 = .ok (.astore_n 2, 1) := by decide +kernel
theorem d_law_16 : decode code 16 = .ok (.iconst 0, 1) := by decide +kernel
theorem d_law_17 : decode code 17 = .ok (.istore_n 3, 1) := by decide +kernel
theorem d_law_18 : decode code 18 = .ok (.iload_n 3, 1) := by decide +kernel
theorem d_law_19 : decode code 19 = .ok (.aload_n 0, 1) := by decide +kernel
theorem d_law_20 : decode code 20 = .ok (.arraylength, 1) := by decide +kernel
theorem d_law_21 : decode code 21 = .ok (.iconst 5, 1) := by decide +kernel
theorem d_law_22 : decode code 22 = .ok (.isub, 1) := by decide +kernel
theorem d_law_23 : decode code 23 = .ok (.if_icmp .gt 423, 3) := by decide +kernel
theorem d_law_26 : decode code 26 = .ok (.aload_n 0, 1) := by decide +kernel
theorem d_law_27 : decode code 27 = .ok (.iload_n 3, 1) := by decide +kernel
theorem d_law_28 : decode code 28 = .ok (.iaload, 1) := by decide +kernel
theorem d_law_29 : decode code 29 = .ok (.bipush 15, 2) := by decide +kernel
theorem d_law_31 : decode code 31 = .ok (.iand, 1) := by decide +kernel
theorem d_law_32 : decode code 32 = .ok (.tableswitch 408 0 9 #[56, 125, 174, 217, 240, 263, 286, 319, 352, 375], 56) := by decide +kernel
theorem d_law_88 : decode code 88 = .ok (.aload_n 1, 1) := by decide +kernel
theorem d_law_89 : decode code 89 = .ok (.aload_n 0, 1) := by decide +kernel
theorem d_law_90 : decode code 90 = .ok (.iload_n 3, 1) := by decide +kernel
theorem d_law_91 : decode code 91 = .ok (.iconst 1, 1) := by decide +kernel
theorem d_law_92 : decode code 92 = .ok (.iadd, 1) := by decide +kernel
theorem d_law_93 : decode code 93 = .ok (.iaload, 1) := by decide +kernel
theorem d_law_94 : decode code 94 = .ok (.aload_n 0, 1) := by decide +kernel
theorem d_law_95 : decode code 95 = .ok (.iload_n 3, 1) := by decide +kernel
theorem d_law_96 : decode code 96 = .ok (.iconst 2, 1) := by decide +kernel
theorem d_law_97 : decode code 97 = .ok (.iadd, 1) := by decide +kernel
theorem d_law_98 : decode code 98 = .ok (.iaload, 1) := by decide +kernel
theorem d_law_99 : decode code 99 = .ok (.aload_n 0, 1) := by decide +kernel
theorem d_law_100 : decode code 100 = .ok (.iload_n 3, 1) := by decide +kernel
theorem d_law_101 : decode code 101 = .ok (.iconst 3, 1) := by decide +kernel
theorem d_law_102 : decode code 102 = .ok (.iadd, 1) := by decide +kernel
theorem d_law_103 : decode code 103 = .ok (.iaload, 1) := by decide +kernel
theorem d_law_104 : decode code 104 = .ok (.aload_n 0, 1) := by decide +kernel
theorem d_law_105 : decode code 105 = .ok (.iload_n 3, 1) := by decide +kernel
theorem d_law_106 : decode code 106 = .ok (.iconst 4, 1) := by decide +kernel
theorem d_law_107 : decode code 107 = .ok (.iadd, 1) := by decide +kernel
theorem d_law_108 : decode code 108 = .ok (.iaload, 1) := by decide +kernel
theorem d_law_109 : decode code 109 = .ok (.ifCond .eq 7, 3) := by decide +kernel
theorem d_law_112 : decode code 112 = .ok (.iconst 1, 1) := by decide +kernel
theorem d_law_113 : decode code 113 = .ok (.goto 4, 3) := by decide +kernel
theorem d_law_116 : decode code 116 = .ok (.iconst 0, 1) := by decide +kernel
theorem d_law_117 : decode code 117 = .ok (.invokevirtual 13, 3) := by decide +kernel
theorem d_law_120 : decode code 120 = .ok (.aload_n 2, 1) := by decide +kernel
theorem d_law_121 : decode code 121 = .ok (.aload_n 0, 1) := by decide +kernel
theorem d_law_122 : decode code 122 = .ok (.iload_n 3, 1) := by decide +kernel
theorem d_law_123 : decode code 123 = .ok (.iconst 1, 1) := by decide +kernel
theorem d_law_124 : decode code 124 = .ok (.iadd, 1) := by decide +kernel
theorem d_law_125 : decode code 125 = .ok (.iaload, 1) := by decide +kernel
theorem d_law_126 : decode code 126 = .ok (.aload_n 0, 1) := by decide +kernel
theorem d_law_127 : decode code 127 = .ok (.iload_n 3, 1) := by decide +kernel
theorem d_law_128 : decode code 128 = .ok (.iconst 2, 1) := by decide +kernel
theorem d_law_129 : decode code 129 = .ok (.iadd, 1) := by decide +kernel
theorem d_law_130 : decode code 130 = .ok (.iaload, 1) := by decide +kernel
theorem d_law_131 : decode code 131 = .ok (.aload_n 0, 1) := by decide +kernel
theorem d_law_132 : decode code 132 = .ok (.iload_n 3, 1) := by decide +kernel
theorem d_law_133 : decode code 133 = .ok (.iconst 3, 1) := by decide +kernel
theorem d_law_134 : decode code 134 = .ok (.iadd, 1) := by decide +kernel
theorem d_law_135 : decode code 135 = .ok (.iaload, 1) := by decide +kernel
theorem d_law_136 : decode code 136 = .ok (.aload_n 0, 1) := by decide +kernel
theorem d_law_137 : decode code 137 = .ok (.iload_n 3, 1) := by decide +kernel
theorem d_law_138 : decode code 138 = .ok (.iconst 4, 1) := by decide +kernel
theorem d_law_139 : decode code 139 = .ok (.iadd, 1) := by decide +kernel
theorem d_law_140 : decode code 140 = .ok (.iaload, 1) := by decide +kernel
theorem d_law_141 : decode code 141 = .ok (.ifCond .eq 7, 3) := by decide +kernel
theorem d_law_144 : decode code 144 = .ok (.iconst 1, 1) := by decide +kernel
theorem d_law_145 : decode code 145 = .ok (.goto 4, 3) := by decide +kernel
theorem d_law_148 : decode code 148 = .ok (.iconst 0, 1) := by decide +kernel
theorem d_law_149 : decode code 149 = .ok (.invokevirtual 17, 3) := by decide +kernel
theorem d_law_152 : decode code 152 = .ok (.if_icmp .eq 288, 3) := by decide +kernel
theorem d_law_155 : decode code 155 = .ok (.iconst 0, 1) := by decide +kernel
theorem d_law_156 : decode code 156 = .ok (.ireturn, 1) := by decide +kernel
theorem d_law_157 : decode code 157 = .ok (.aload_n 1, 1) := by decide +kernel
theorem d_law_158 : decode code 158 = .ok (.aload_n 0, 1) := by decide +kernel
theorem d_law_159 : decode code 159 = .ok (.iload_n 3, 1) := by decide +kernel
theorem d_law_160 : decode code 160 = .ok (.iconst 1, 1) := by decide +kernel
theorem d_law_161 : decode code 161 = .ok (.iadd, 1) := by decide +kernel
theorem d_law_162 : decode code 162 = .ok (.iaload, 1) := by decide +kernel
theorem d_law_163 : decode code 163 = .ok (.aload_n 0, 1) := by decide +kernel
theorem d_law_164 : decode code 164 = .ok (.iload_n 3, 1) := by decide +kernel
theorem d_law_165 : decode code 165 = .ok (.iconst 2, 1) := by decide +kernel
theorem d_law_166 : decode code 166 = .ok (.iadd, 1) := by decide +kernel
theorem d_law_167 : decode code 167 = .ok (.iaload, 1) := by decide +kernel
theorem d_law_168 : decode code 168 = .ok (.ifCond .eq 7, 3) := by decide +kernel
theorem d_law_171 : decode code 171 = .ok (.iconst 1, 1) := by decide +kernel
theorem d_law_172 : decode code 172 = .ok (.goto 4, 3) := by decide +kernel
theorem d_law_175 : decode code 175 = .ok (.iconst 0, 1) := by decide +kernel
theorem d_law_176 : decode code 176 = .ok (.invokevirtual 18, 3) := by decide +kernel
theorem d_law_179 : decode code 179 = .ok (.aload_n 2, 1) := by decide +kernel
theorem d_law_180 : decode code 180 = .ok (.aload_n 0, 1) := by decide +kernel
theorem d_law_181 : decode code 181 = .ok (.iload_n 3, 1) := by decide +kernel
theorem d_law_182 : decode code 182 = .ok (.iconst 1, 1) := by decide +kernel
theorem d_law_183 : decode code 183 = .ok (.iadd, 1) := by decide +kernel
theorem d_law_184 : decode code 184 = .ok (.iaload, 1) := by decide +kernel
theorem d_law_185 : decode code 185 = .ok (.aload_n 0, 1) := by decide +kernel
theorem d_law_186 : decode code 186 = .ok (.iload_n 3, 1) := by decide +kernel
theorem d_law_187 : decode code 187 = .ok (.iconst 2, 1) := by decide +kernel
theorem d_law_188 : decode code 188 = .ok (.iadd, 1) := by decide +kernel
theorem d_law_189 : decode code 189 = .ok (.iaload, 1) := by decide +kernel
theorem d_law_190 : decode code 190 = .ok (.ifCond .eq 7, 3) := by decide +kernel
theorem d_law_193 : decode code 193 = .ok (.iconst 1, 1) := by decide +kernel
theorem d_law_194 : decode code 194 = .ok (.goto 4, 3) := by decide +kernel
theorem d_law_197 : decode code 197 = .ok (.iconst 0, 1) := by decide +kernel
theorem d_law_198 : decode code 198 = .ok (.invokevirtual 22, 3) := by decide +kernel
theorem d_law_201 : decode code 201 = .ok (.if_icmp .eq 239, 3) := by decide +kernel
theorem d_law_204 : decode code 204 = .ok (.iconst 0, 1) := by decide +kernel
theorem d_law_205 : decode code 205 = .ok (.ireturn, 1) := by decide +kernel
theorem d_law_206 : decode code 206 = .ok (.aload_n 1, 1) := by decide +kernel
theorem d_law_207 : decode code 207 = .ok (.aload_n 0, 1) := by decide +kernel
theorem d_law_208 : decode code 208 = .ok (.iload_n 3, 1) := by decide +kernel
theorem d_law_209 : decode code 209 = .ok (.iconst 1, 1) := by decide +kernel
theorem d_law_210 : decode code 210 = .ok (.iadd, 1) := by decide +kernel
theorem d_law_211 : decode code 211 = .ok (.iaload, 1) := by decide +kernel
theorem d_law_212 : decode code 212 = .ok (.aload_n 0, 1) := by decide +kernel
theorem d_law_213 : decode code 213 = .ok (.iload_n 3, 1) := by decide +kernel
theorem d_law_214 : decode code 214 = .ok (.iconst 2, 1) := by decide +kernel
theorem d_law_215 : decode code 215 = .ok (.iadd, 1) := by decide +kernel
theorem d_law_216 : decode code 216 = .ok (.iaload, 1) := by decide +kernel
theorem d_law_217 : decode code 217 = .ok (.aload_n 0, 1) := by decide +kernel
theorem d_law_218 : decode code 218 = .ok (.iload_n 3, 1) := by decide +kernel
theorem d_law_219 : decode code 219 = .ok (.iconst 3, 1) := by decide +kernel
theorem d_law_220 : decode code 220 = .ok (.iadd, 1) := by decide +kernel
theorem d_law_221 : decode code 221 = .ok (.iaload, 1) := by decide +kernel
theorem d_law_222 : decode code 222 = .ok (.invokevirtual 23, 3) := by decide +kernel
theorem d_law_225 : decode code 225 = .ok (.aload_n 2, 1) := by decide +kernel
theorem d_law_226 : decode code 226 = .ok (.aload_n 0, 1) := by decide +kernel
theorem d_law_227 : decode code 227 = .ok (.iload_n 3, 1) := by decide +kernel
theorem d_law_228 : decode code 228 = .ok (.iconst 1, 1) := by decide +kernel
theorem d_law_229 : decode code 229 = .ok (.iadd, 1) := by decide +kernel
theorem d_law_230 : decode code 230 = .ok (.iaload, 1) := by decide +kernel
theorem d_law_231 : decode code 231 = .ok (.aload_n 0, 1) := by decide +kernel
theorem d_law_232 : decode code 232 = .ok (.iload_n 3, 1) := by decide +kernel
theorem d_law_233 : decode code 233 = .ok (.iconst 2, 1) := by decide +kernel
theorem d_law_234 : decode code 234 = .ok (.iadd, 1) := by decide +kernel
theorem d_law_235 : decode code 235 = .ok (.iaload, 1) := by decide +kernel
theorem d_law_236 : decode code 236 = .ok (.aload_n 0, 1) := by decide +kernel
theorem d_law_237 : decode code 237 = .ok (.iload_n 3, 1) := by decide +kernel
theorem d_law_238 : decode code 238 = .ok (.iconst 3, 1) := by decide +kernel
theorem d_law_239 : decode code 239 = .ok (.iadd, 1) := by decide +kernel
theorem d_law_240 : decode code 240 = .ok (.iaload, 1) := by decide +kernel
theorem d_law_241 : decode code 241 = .ok (.invokevirtual 27, 3) := by decide +kernel
theorem d_law_244 : decode code 244 = .ok (.if_icmp .eq 196, 3) := by decide +kernel
theorem d_law_247 : decode code 247 = .ok (.iconst 0, 1) := by decide +kernel
theorem d_law_248 : decode code 248 = .ok (.ireturn, 1) := by decide +kernel
theorem d_law_249 : decode code 249 = .ok (.aload_n 1, 1) := by decide +kernel
theorem d_law_250 : decode code 250 = .ok (.aload_n 0, 1) := by decide +kernel
theorem d_law_251 : decode code 251 = .ok (.iload_n 3, 1) := by decide +kernel
theorem d_law_252 : decode code 252 = .ok (.iconst 1, 1) := by decide +kernel
theorem d_law_253 : decode code 253 = .ok (.iadd, 1) := by decide +kernel
theorem d_law_254 : decode code 254 = .ok (.iaload, 1) := by decide +kernel
theorem d_law_255 : decode code 255 = .ok (.invokevirtual 28, 3) := by decide +kernel
theorem d_law_258 : decode code 258 = .ok (.aload_n 2, 1) := by decide +kernel
theorem d_law_259 : decode code 259 = .ok (.aload_n 0, 1) := by decide +kernel
theorem d_law_260 : decode code 260 = .ok (.iload_n 3, 1) := by decide +kernel
theorem d_law_261 : decode code 261 = .ok (.iconst 1, 1) := by decide +kernel
theorem d_law_262 : decode code 262 = .ok (.iadd, 1) := by decide +kernel
theorem d_law_263 : decode code 263 = .ok (.iaload, 1) := by decide +kernel
theorem d_law_264 : decode code 264 = .ok (.invokevirtual 32, 3) := by decide +kernel
theorem d_law_267 : decode code 267 = .ok (.if_icmp .eq 173, 3) := by decide +kernel
theorem d_law_270 : decode code 270 = .ok (.iconst 0, 1) := by decide +kernel
theorem d_law_271 : decode code 271 = .ok (.ireturn, 1) := by decide +kernel
theorem d_law_272 : decode code 272 = .ok (.aload_n 1, 1) := by decide +kernel
theorem d_law_273 : decode code 273 = .ok (.aload_n 0, 1) := by decide +kernel
theorem d_law_274 : decode code 274 = .ok (.iload_n 3, 1) := by decide +kernel
theorem d_law_275 : decode code 275 = .ok (.iconst 1, 1) := by decide +kernel
theorem d_law_276 : decode code 276 = .ok (.iadd, 1) := by decide +kernel
theorem d_law_277 : decode code 277 = .ok (.iaload, 1) := by decide +kernel
theorem d_law_278 : decode code 278 = .ok (.invokevirtual 33, 3) := by decide +kernel
theorem d_law_281 : decode code 281 = .ok (.aload_n 2, 1) := by decide +kernel
theorem d_law_282 : decode code 282 = .ok (.aload_n 0, 1) := by decide +kernel
theorem d_law_283 : decode code 283 = .ok (.iload_n 3, 1) := by decide +kernel
theorem d_law_284 : decode code 284 = .ok (.iconst 1, 1) := by decide +kernel
theorem d_law_285 : decode code 285 = .ok (.iadd, 1) := by decide +kernel
theorem d_law_286 : decode code 286 = .ok (.iaload, 1) := by decide +kernel
theorem d_law_287 : decode code 287 = .ok (.invokevirtual 36, 3) := by decide +kernel
theorem d_law_290 : decode code 290 = .ok (.if_icmp .eq 150, 3) := by decide +kernel
theorem d_law_293 : decode code 293 = .ok (.iconst 0, 1) := by decide +kernel
theorem d_law_294 : decode code 294 = .ok (.ireturn, 1) := by decide +kernel
theorem d_law_295 : decode code 295 = .ok (.aload_n 1, 1) := by decide +kernel
theorem d_law_296 : decode code 296 = .ok (.aload_n 0, 1) := by decide +kernel
theorem d_law_297 : decode code 297 = .ok (.iload_n 3, 1) := by decide +kernel
theorem d_law_298 : decode code 298 = .ok (.iconst 1, 1) := by decide +kernel
theorem d_law_299 : decode code 299 = .ok (.iadd, 1) := by decide +kernel
theorem d_law_300 : decode code 300 = .ok (.iaload, 1) := by decide +kernel
theorem d_law_301 : decode code 301 = .ok (.invokevirtual 37, 3) := by decide +kernel
theorem d_law_304 : decode code 304 = .ok (.aload_n 2, 1) := by decide +kernel
theorem d_law_305 : decode code 305 = .ok (.aload_n 0, 1) := by decide +kernel
theorem d_law_306 : decode code 306 = .ok (.iload_n 3, 1) := by decide +kernel
theorem d_law_307 : decode code 307 = .ok (.iconst 1, 1) := by decide +kernel
theorem d_law_308 : decode code 308 = .ok (.iadd, 1) := by decide +kernel
theorem d_law_309 : decode code 309 = .ok (.iaload, 1) := by decide +kernel
theorem d_law_310 : decode code 310 = .ok (.invokevirtual 40, 3) := by decide +kernel
theorem d_law_313 : decode code 313 = .ok (.if_icmp .eq 127, 3) := by decide +kernel
theorem d_law_316 : decode code 316 = .ok (.iconst 0, 1) := by decide +kernel
theorem d_law_317 : decode code 317 = .ok (.ireturn, 1) := by decide +kernel
theorem d_law_318 : decode code 318 = .ok (.aload_n 1, 1) := by decide +kernel
theorem d_law_319 : decode code 319 = .ok (.aload_n 0, 1) := by decide +kernel
theorem d_law_320 : decode code 320 = .ok (.iload_n 3, 1) := by decide +kernel
theorem d_law_321 : decode code 321 = .ok (.iconst 1, 1) := by decide +kernel
theorem d_law_322 : decode code 322 = .ok (.iadd, 1) := by decide +kernel
theorem d_law_323 : decode code 323 = .ok (.iaload, 1) := by decide +kernel
theorem d_law_324 : decode code 324 = .ok (.aload_n 0, 1) := by decide +kernel
theorem d_law_325 : decode code 325 = .ok (.iload_n 3, 1) := by decide +kernel
theorem d_law_326 : decode code 326 = .ok (.iconst 2, 1) := by decide +kernel
theorem d_law_327 : decode code 327 = .ok (.iadd, 1) := by decide +kernel
theorem d_law_328 : decode code 328 = .ok (.iaload, 1) := by decide +kernel
theorem d_law_329 : decode code 329 = .ok (.invokevirtual 41, 3) := by decide +kernel
theorem d_law_332 : decode code 332 = .ok (.aload_n 2, 1) := by decide +kernel
theorem d_law_333 : decode code 333 = .ok (.aload_n 0, 1) := by decide +kernel
theorem d_law_334 : decode code 334 = .ok (.iload_n 3, 1) := by decide +kernel
theorem d_law_335 : decode code 335 = .ok (.iconst 1, 1) := by decide +kernel
theorem d_law_336 : decode code 336 = .ok (.iadd, 1) := by decide +kernel
theorem d_law_337 : decode code 337 = .ok (.iaload, 1) := by decide +kernel
theorem d_law_338 : decode code 338 = .ok (.aload_n 0, 1) := by decide +kernel
theorem d_law_339 : decode code 339 = .ok (.iload_n 3, 1) := by decide +kernel
theorem d_law_340 : decode code 340 = .ok (.iconst 2, 1) := by decide +kernel
theorem d_law_341 : decode code 341 = .ok (.iadd, 1) := by decide +kernel
theorem d_law_342 : decode code 342 = .ok (.iaload, 1) := by decide +kernel
theorem d_law_343 : decode code 343 = .ok (.invokevirtual 45, 3) := by decide +kernel
theorem d_law_346 : decode code 346 = .ok (.if_icmp .eq 94, 3) := by decide +kernel
theorem d_law_349 : decode code 349 = .ok (.iconst 0, 1) := by decide +kernel
theorem d_law_350 : decode code 350 = .ok (.ireturn, 1) := by decide +kernel
theorem d_law_351 : decode code 351 = .ok (.aload_n 1, 1) := by decide +kernel
theorem d_law_352 : decode code 352 = .ok (.aload_n 0, 1) := by decide +kernel
theorem d_law_353 : decode code 353 = .ok (.iload_n 3, 1) := by decide +kernel
theorem d_law_354 : decode code 354 = .ok (.iconst 1, 1) := by decide +kernel
theorem d_law_355 : decode code 355 = .ok (.iadd, 1) := by decide +kernel
theorem d_law_356 : decode code 356 = .ok (.iaload, 1) := by decide +kernel
theorem d_law_357 : decode code 357 = .ok (.aload_n 0, 1) := by decide +kernel
theorem d_law_358 : decode code 358 = .ok (.iload_n 3, 1) := by decide +kernel
theorem d_law_359 : decode code 359 = .ok (.iconst 2, 1) := by decide +kernel
theorem d_law_360 : decode code 360 = .ok (.iadd, 1) := by decide +kernel
theorem d_law_361 : decode code 361 = .ok (.iaload, 1) := by decide +kernel
theorem d_law_362 : decode code 362 = .ok (.invokevirtual 46, 3) := by decide +kernel
theorem d_law_365 : decode code 365 = .ok (.aload_n 2, 1) := by decide +kernel
theorem d_law_366 : decode code 366 = .ok (.aload_n 0, 1) := by decide +kernel
theorem d_law_367 : decode code 367 = .ok (.iload_n 3, 1) := by decide +kernel
theorem d_law_368 : decode code 368 = .ok (.iconst 1, 1) := by decide +kernel
theorem d_law_369 : decode code 369 = .ok (.iadd, 1) := by decide +kernel
theorem d_law_370 : decode code 370 = .ok (.iaload, 1) := by decide +kernel
theorem d_law_371 : decode code 371 = .ok (.aload_n 0, 1) := by decide +kernel
theorem d_law_372 : decode code 372 = .ok (.iload_n 3, 1) := by decide +kernel
theorem d_law_373 : decode code 373 = .ok (.iconst 2, 1) := by decide +kernel
theorem d_law_374 : decode code 374 = .ok (.iadd, 1) := by decide +kernel
theorem d_law_375 : decode code 375 = .ok (.iaload, 1) := by decide +kernel
theorem d_law_376 : decode code 376 = .ok (.invokevirtual 49, 3) := by decide +kernel
theorem d_law_379 : decode code 379 = .ok (.if_icmp .eq 61, 3) := by decide +kernel
theorem d_law_382 : decode code 382 = .ok (.iconst 0, 1) := by decide +kernel
theorem d_law_383 : decode code 383 = .ok (.ireturn, 1) := by decide +kernel
theorem d_law_384 : decode code 384 = .ok (.aload_n 1, 1) := by decide +kernel
theorem d_law_385 : decode code 385 = .ok (.aload_n 0, 1) := by decide +kernel
theorem d_law_386 : decode code 386 = .ok (.iload_n 3, 1) := by decide +kernel
theorem d_law_387 : decode code 387 = .ok (.iconst 1, 1) := by decide +kernel
theorem d_law_388 : decode code 388 = .ok (.iadd, 1) := by decide +kernel
theorem d_law_389 : decode code 389 = .ok (.iaload, 1) := by decide +kernel
theorem d_law_390 : decode code 390 = .ok (.invokevirtual 50, 3) := by decide +kernel
theorem d_law_393 : decode code 393 = .ok (.aload_n 2, 1) := by decide +kernel
theorem d_law_394 : decode code 394 = .ok (.aload_n 0, 1) := by decide +kernel
theorem d_law_395 : decode code 395 = .ok (.iload_n 3, 1) := by decide +kernel
theorem d_law_396 : decode code 396 = .ok (.iconst 1, 1) := by decide +kernel
theorem d_law_397 : decode code 397 = .ok (.iadd, 1) := by decide +kernel
theorem d_law_398 : decode code 398 = .ok (.iaload, 1) := by decide +kernel
theorem d_law_399 : decode code 399 = .ok (.invokevirtual 53, 3) := by decide +kernel
theorem d_law_402 : decode code 402 = .ok (.if_icmp .eq 38, 3) := by decide +kernel
theorem d_law_405 : decode code 405 = .ok (.iconst 0, 1) := by decide +kernel
theorem d_law_406 : decode code 406 = .ok (.ireturn, 1) := by decide +kernel
theorem d_law_407 : decode code 407 = .ok (.aload_n 1, 1) := by decide +kernel
theorem d_law_408 : decode code 408 = .ok (.aload_n 0, 1) := by decide +kernel
theorem d_law_409 : decode code 409 = .ok (.iload_n 3, 1) := by decide +kernel
theorem d_law_410 : decode code 410 = .ok (.iconst 1, 1) := by decide +kernel
theorem d_law_411 : decode code 411 = .ok (.iadd, 1) := by decide +kernel
theorem d_law_412 : decode code 412 = .ok (.iaload, 1) := by decide +kernel
theorem d_law_413 : decode code 413 = .ok (.aload_n 0, 1) := by decide +kernel
theorem d_law_414 : decode code 414 = .ok (.iload_n 3, 1) := by decide +kernel
theorem d_law_415 : decode code 415 = .ok (.iconst 2, 1) := by decide +kernel
theorem d_law_416 : decode code 416 = .ok (.iadd, 1) := by decide +kernel
theorem d_law_417 : decode code 417 = .ok (.iaload, 1) := by decide +kernel
theorem d_law_418 : decode code 418 = .ok (.invokevirtual 54, 3) := by decide +kernel
theorem d_law_421 : decode code 421 = .ok (.aload_n 2, 1) := by decide +kernel
theorem d_law_422 : decode code 422 = .ok (.aload_n 0, 1) := by decide +kernel
theorem d_law_423 : decode code 423 = .ok (.iload_n 3, 1) := by decide +kernel
theorem d_law_424 : decode code 424 = .ok (.iconst 1, 1) := by decide +kernel
theorem d_law_425 : decode code 425 = .ok (.iadd, 1) := by decide +kernel
theorem d_law_426 : decode code 426 = .ok (.iaload, 1) := by decide +kernel
theorem d_law_427 : decode code 427 = .ok (.aload_n 0, 1) := by decide +kernel
theorem d_law_428 : decode code 428 = .ok (.iload_n 3, 1) := by decide +kernel
theorem d_law_429 : decode code 429 = .ok (.iconst 2, 1) := by decide +kernel
theorem d_law_430 : decode code 430 = .ok (.iadd, 1) := by decide +kernel
theorem d_law_431 : decode code 431 = .ok (.iaload, 1) := by decide +kernel
theorem d_law_432 : decode code 432 = .ok (.invokevirtual 57, 3) := by decide +kernel
theorem d_law_435 : decode code 435 = .ok (.if_icmp .eq 5, 3) := by decide +kernel
theorem d_law_438 : decode code 438 = .ok (.iconst 0, 1) := by decide +kernel
theorem d_law_439 : decode code 439 = .ok (.ireturn, 1) := by decide +kernel
theorem d_law_440 : decode code 440 = .ok (.iinc 3 5, 3) := by decide +kernel
theorem d_law_443 : decode code 443 = .ok (.goto (-425), 3) := by decide +kernel
theorem d_law_446 : decode code 446 = .ok (.iconst 1, 1) := by decide +kernel
theorem d_law_447 : decode code 447 = .ok (.ireturn, 1) := by decide +kernel
end
section
def lw_P (b : Addr) (xs : List Int32) (args : Array Value) (s : State) : Prop := args = #[.ref b] ∧ s.IntsAt b xs ∧ xs.length ≤ 2560 ∧ (Jvm.Cond.and given_1 narrow_1).before args s = true
def lw_Q (_ : Array Value) (s : State) (o : Outcome) (t : State) : Prop := o = .returned (some (.int 1)) ∧ Framed s o t [] 600000 7302250
def lw_Z (below : List Frame) (a : Array Value) (s : State) : State → Prop := fun t => ∃ o, t.status = .running ∧ Ended t below o ∧ lw_Q a s o t
/-- the law's own end, with 1 on the stack, nothing written that was there before, its room as the claim has it -/
theorem lw_ret {p : Program} {l : Launch} {e : Env} {s : State} {m : MethodId} {below : List Frame} {meth : Method} {c : Code} {b : Nat} (hx : p.tables.exec = Jvm.exec) (hb : c.code = code) (hr : meth.sig.returnType = ret) (hlocks : meth.locks = false) {pc : Nat} {H : Heap} {ls : Array Slot} (hdg : decode code pc = .ok (.ireturn, 1)) : W p l e room_1 s m #[Value.ref b] below meth c H [] 600000 7302250 (lw_Z below #[Value.ref b] s) (F0 m pc ls [.int 1]) := by
  intro T hT X
  obtain ⟨fs, hret, hrun, hended, hW, hframe⟩ := X.leave (v := some (.int 1)) (hlocks := hlocks) (fun h => by rw [hr] at h; cases h)
  have hmeth' : T.vm.method? m = some meth := X.method'
  refine ⟨T.setFrames fs, ?_, .returned (some (.int 1)), hrun, hended, rfl, ⟨_, rfl⟩, hW, hframe⟩
  jvm_step X.here [X.here.top, hx, hb, hdg, hmeth', hr, ret, narrow_b1]
  (try refine ⟨rfl, ?_⟩); (try refine ⟨rfl, ?_⟩)
  first | (intro acts; rw [hret _ acts rfl rfl rfl]) | rw [hret _ _ rfl rfl rfl]
  exact Steps.refl _
/-- what holds at the law's entry: the machine, the code, the tables' words (any of lw_tbl by 'hts w (by decide +kernel)'), the script of L ints xs at the cell b, what the Statement gives of the start (any of its parts by flat_of_before) -/
def lw_At (p : Program) (s : State) (m : MethodId) (meth : Method) (c : Code) (b L : Nat) (xs : Nat → Int32) : Prop :=
  p.tables.exec = Jvm.exec ∧ c.code = code ∧ meth.sig.returnType = ret ∧ c.maxLocals = 4 ∧ s.vm.findClass R_law = some m.cls ∧ (∀ w ∈ lw_tbl, w.before #[Value.ref b] s = true) ∧ va_X b L xs s s.heap ∧ b < s.heap.size ∧ meth.locks = false ∧ (Jvm.Cond.and given_1 narrow_1).before #[Value.ref b] s = true
theorem xN.of {A : Array Value} {s : State} (h : ∀ w ∈ NESTS, w.before A s = true) : xN s := fun w hw => by
  have h2 := h w hw
  rcases isNest_cases (NESTS_ok w hw) with ⟨a, i, b, n, d, k, rfl⟩ | ⟨a, i, x, k, rfl⟩ | ⟨C, rfl⟩
  · exact va_Nw.of rfl h2
  · exact va_Nw.of rfl h2
  · exact va_AO.of h2
theorem law_lt {L k : Nat} (hL : L ≤ 2560) (hk : k ≤ 2560) (h : ¬ nI L - 5 < nI k) : k + 5 ≤ L := by
  rw [Int32.lt_iff_toInt_lt, show nI L - 5 = nI L - nI 5 from rfl, pk_sub_toInt (by omega) (by decide), nI_toInt (by omega)] at h
  omega
section LWS
variable {p : Program} {l : Launch} {e : Env} {R : Room} {s : State} {m : MethodId} {args : Array Value} {below : List Frame} {meth : Method} {c : Code} {H : Heap} {locs : List Loc} {cells slots : Nat} {Q : State → Prop} {cc : ByteArray} {pc : Nat} {ls : Array Slot} {rest : List Value} {b L : Nat} {xs : Nat → Int32} {A : Nat → Prop}
theorem lw_sld (hx : p.tables.exec = Jvm.exec) (hb : c.code = cc) (hX : va_X b L xs s s.heap) (hbl : b < s.heap.size) (hbA : ¬ A b) (hS : va_S A s.heap H locs) (i : Nat) (hi : i < L) (hL : L < 2 ^ 31) {v : Int32} (hv : v = nI i) (hdg : decode cc pc = .ok (.iaload, 1))
    (kk : W p l e R s m args below meth c H locs cells slots Q (F0 m (pc + 1) ls (.int (xs i) :: rest))) : W p l e R s m args below meth c H locs cells slots Q (F0 m pc ls (.int v :: .ref b :: rest)) := by
  subst hv
  refine va_sld hx hb hX hbl hbA hS (vp_in_nI hi hL) hdg ?_
  rw [nI_clamp (Nat.lt_trans hi hL)]
  exact kk
end LWS
set_option maxHeartbeats 8000000 in
set_option maxRecDepth 100000 in
/-- THE LAW'S LOOP: with k ints read the class and the reference are tied -/
theorem law_loop {p : Program} {l : Launch} {e : Env} {s : State} {m : MethodId} {below : List Frame} {meth : Method} {c : Code} {D : va_G} {a bb : Nat → Nat} {ca cb : Nat → ClassId} {b L : Nat} {xs : Nat → Int32} (hL : L ≤ 2560) (C0 : lw_At p s m meth c b L xs) (hKx : va_K D classes (tX ca) s) (hKm : va_K D classes (tM cb) s) :
    ∀ (n k : Nat) (σ μ : St) (N : Nat), k ≤ L → L + 1 ≤ k + n → N ≤ 16000 * k → RR σ μ N → ∀ (H : Heap) (locs : List Loc) (ls : Array Slot), va_P D classes (wX a ca σ ++ wM bb cb μ) H → va_D (fun q : Nat => s.heap.size ≤ q) (wX a ca σ ++ wM bb cb μ) → va_S (fun q : Nat => s.heap.size ≤ q) s.heap H locs → lv_has ls 4 [(3, .int (nI k)), (2, .ref (bb 0)), (1, .ref (a 0)), (0, .ref b)] → W p l e room_1 s m #[Value.ref b] below meth c H locs 34 333 (lw_Z below #[Value.ref b] s) (F0 m 18 ls []) := by
  obtain ⟨hx, hb, hr, hml, hown, hts, hX, hbl, hlocks, hgv⟩ := C0
  have hA : ∀ q : Nat, s.heap.size ≤ q → (fun q : Nat => s.heap.size ≤ q) q := fun _ h => h
  have hbA : ¬ (fun q : Nat => s.heap.size ≤ q) b := Nat.not_le.mpr hbl
  have hG : ∀ w ∈ BIG, w.before #[Value.ref b] s = true := fun w h => hts w (BIG_in h)
  have hN : xN s := xN.of (fun w h => hts w (NESTS_in h))
  intro n
  induction n with
  | zero =>
    intro k σ μ N h1 h2
    exact absurd h2 (by omega)
  | succ n ih =>
    intro k σ μ N hkL hfu hNk hR H locs ls hP hD hS hl
    refine lv_iload_n hx hb d_law_18 rfl (lv_at hl 0 rfl) ?_
    refine lv_aload_n hx hb d_law_19 rfl (lv_at hl 3 rfl) ?_
    refine va_slen hx hb hX hbl hbA hS d_law_20 ?_
    refine lv_iconst (v := 5) hx hb d_law_21 (by decide) ?_
    refine lv_isub hx hb d_law_22 ?_
    refine lv_icmp_gt (tgt := 446) hx hb d_law_23 (by decide) (fun c_1 => ?_) (fun c_1 => ?_)
    · refine lv_iconst (v := 1) hx hb d_law_446 (by decide) ?_
      refine va_forget (fun q hq => hS.2.2 q hq) ?_
      refine W.widen (k := 600000) (n := 7302250) (by decide) (by decide) ?_
      exact lw_ret hx hb hr hlocks d_law_447
    · have hk5 : k + 5 ≤ L := law_lt hL (by omega) c_1
      refine lv_aload_n hx hb d_law_26 rfl (lv_at hl 3 rfl) ?_
      refine lv_iload_n hx hb d_law_27 rfl (lv_at hl 0 rfl) ?_
      refine lw_sld hx hb hX hbl hbA hS (k) (by omega) (by omega) (rfl) d_law_28 ?_
      refine lv_bipush (v := 15) hx hb d_law_29 (by decide) ?_
      refine lv_iand hx hb d_law_31 ?_
      rcases sw_cases ((xs (k)) &&& 15) 9 (by decide) with s_2 | ⟨k_3, k_3_l, s_2⟩
      · refine lv_tableOut (tgt := 440) hx hb d_law_32 s_2 (by decide) ?_
        refine lv_iinc (v := nI (k + 5)) (lv' := [(3, .int (nI (k + 5))), (2, .ref (bb 0)), (1, .ref (a 0)), (0, .ref b)]) hx hb d_law_440 hl (k := 0) rfl (nI_add k 5) (by decide) rfl (fun ls hl => ?_)
        refine lv_goto (tgt := 18) hx hb d_law_443 (by decide) ?_
        exact ih (k + 5) σ μ N (by omega) (by omega) (by omega) hR _ _ _ hP hD hS (lv_sub hl [0, 1, 2, 3] rfl)
      · rcases (show k_3 = 0 ∨ k_3 = 1 ∨ k_3 = 2 ∨ k_3 = 3 ∨ k_3 = 4 ∨ k_3 = 5 ∨ k_3 = 6 ∨ k_3 = 7 ∨ k_3 = 8 ∨ k_3 = 9 by omega) with rfl | rfl | rfl | rfl | rfl | rfl | rfl | rfl | rfl | rfl
        · refine lv_tableIn (off := 56) (tgt := 88) hx hb d_law_32 (by rw [s_2]; decide) (by rw [s_2]; decide) (by rw [s_2]; decide) (by decide) ?_
          refine lv_aload_n hx hb d_law_88 rfl (lv_at hl 2 rfl) ?_
          refine lv_aload_n hx hb d_law_89 rfl (lv_at hl 3 rfl) ?_
          refine lv_iload_n hx hb d_law_90 rfl (lv_at hl 0 rfl) ?_
          refine lv_iconst (v := 1) hx hb d_law_91 (by decide) ?_
          refine lv_iadd hx hb d_law_92 ?_
          refine lw_sld hx hb hX hbl hbA hS (k + 1) (by omega) (by omega) (nI_add k 1) d_law_93 ?_
          refine lv_aload_n hx hb d_law_94 rfl (lv_at hl 3 rfl) ?_
          refine lv_iload_n hx hb d_law_95 rfl (lv_at hl 0 rfl) ?_
          refine lv_iconst (v := 2) hx hb d_law_96 (by decide) ?_
          refine lv_iadd hx hb d_law_97 ?_
          refine lw_sld hx hb hX hbl hbA hS (k + 2) (by omega) (by omega) (nI_add k 2) d_law_98 ?_
          refine lv_aload_n hx hb d_law_99 rfl (lv_at hl 3 rfl) ?_
          refine lv_iload_n hx hb d_law_100 rfl (lv_at hl 0 rfl) ?_
          refine lv_iconst (v := 3) hx hb d_law_101 (by decide) ?_
          refine lv_iadd hx hb d_law_102 ?_
          refine lw_sld hx hb hX hbl hbA hS (k + 3) (by omega) (by omega) (nI_add k 3) d_law_103 ?_
          refine lv_aload_n hx hb d_law_104 rfl (lv_at hl 3 rfl) ?_
          refine lv_iload_n hx hb d_law_105 rfl (lv_at hl 0 rfl) ?_
          refine lv_iconst (v := 4) hx hb d_law_106 (by decide) ?_
          refine lv_iadd hx hb d_law_107 ?_
          refine lw_sld hx hb hX hbl hbA hS (k + 4) (by omega) (by omega) (nI_add k 4) d_law_108 ?_
          refine lv_if_eq (tgt := 116) hx hb d_law_109 (by decide) (fun c_4 => ?_) (fun c_4 => ?_)
          · refine lv_iconst (v := 0) hx hb d_law_116 (by decide) ?_
            have hP := k_swapP hP
            have hD := k_swapD hD
            refine k_fV (w := wM bb cb μ) (wf := wX a ca) (σ := σ) (rest := []) hx hb hml hown hG hKx hN hA hP hD hS (c_set l D a ca σ (xs (k + 1)) (xs (k + 2)) (xs (k + 3)) false) ok_set io_set L_law_13 ⟨rfl, rfl, by decide, by decide⟩ 0 wX_X rfl rfl hl.1 rfl (Nat.le_of_ble_eq_true rfl) ⟨Nat.le_of_ble_eq_true rfl, Nat.le_of_ble_eq_true rfl⟩ d_law_117 (fun H locs hP hD hS => ?_)
            have hP := k_swapP hP
            have hD := k_swapD hD
            refine lv_aload_n hx hb d_law_120 rfl (lv_at hl 1 rfl) ?_
            refine lv_aload_n hx hb d_law_121 rfl (lv_at hl 3 rfl) ?_
            refine lv_iload_n hx hb d_law_122 rfl (lv_at hl 0 rfl) ?_
            refine lv_iconst (v := 1) hx hb d_law_123 (by decide) ?_
            refine lv_iadd hx hb d_law_124 ?_
            refine lw_sld hx hb hX hbl hbA hS (k + 1) (by omega) (by omega) (nI_add k 1) d_law_125 ?_
            refine lv_aload_n hx hb d_law_126 rfl (lv_at hl 3 rfl) ?_
            refine lv_iload_n hx hb d_law_127 rfl (lv_at hl 0 rfl) ?_
            refine lv_iconst (v := 2) hx hb d_law_128 (by decide) ?_
            refine lv_iadd hx hb d_law_129 ?_
            refine lw_sld hx hb hX hbl hbA hS (k + 2) (by omega) (by omega) (nI_add k 2) d_law_130 ?_
            refine lv_aload_n hx hb d_law_131 rfl (lv_at hl 3 rfl) ?_
            refine lv_iload_n hx hb d_law_132 rfl (lv_at hl 0 rfl) ?_
            refine lv_iconst (v := 3) hx hb d_law_133 (by decide) ?_
            refine lv_iadd hx hb d_law_134 ?_
            refine lw_sld hx hb hX hbl hbA hS (k + 3) (by omega) (by omega) (nI_add k 3) d_law_135 ?_
            refine lv_aload_n hx hb d_law_136 rfl (lv_at hl 3 rfl) ?_
            refine lv_iload_n hx hb d_law_137 rfl (lv_at hl 0 rfl) ?_
            refine lv_iconst (v := 4) hx hb d_law_138 (by decide) ?_
            refine lv_iadd hx hb d_law_139 ?_
            refine lw_sld hx hb hX hbl hbA hS (k + 4) (by omega) (by omega) (nI_add k 4) d_law_140 ?_
            refine lv_if_eq (tgt := 148) hx hb d_law_141 (by decide) (fun c_5 => ?_) (fun c_5 => absurd c_4 c_5)
            refine lv_iconst (v := 0) hx hb d_law_148 (by decide) ?_
            refine k_fV (w := wX a ca ((f_set σ (xs (k + 1)) (xs (k + 2)) (xs (k + 3)) false).2)) (wf := wM bb cb) (σ := μ) (rest := [.int ((f_set σ (xs (k + 1)) (xs (k + 2)) (xs (k + 3)) false).1)]) hx hb hml hown hG hKm hN hA hP hD hS (c_m_set l D bb cb μ (xs (k + 1)) (xs (k + 2)) (xs (k + 3)) false) ok_m_set io_m_set L_law_17 ⟨rfl, rfl, by decide, by decide⟩ 0 wM_M rfl rfl hl.1 rfl (Nat.le_of_ble_eq_true rfl) ⟨Nat.le_of_ble_eq_true rfl, Nat.le_of_ble_eq_true rfl⟩ d_law_149 (fun H locs hP hD hS => ?_)
            refine lv_icmp_eq (tgt := 440) hx hb d_law_152 (by decide) (fun c_6 => ?_) (fun c_6 => absurd ((op_set hR (xs (k + 1)) (xs (k + 2)) (xs (k + 3)) false).1) c_6)
            refine lv_iinc (v := nI (k + 5)) (lv' := [(3, .int (nI (k + 5))), (2, .ref (bb 0)), (1, .ref (a 0)), (0, .ref b)]) hx hb d_law_440 hl (k := 0) rfl (nI_add k 5) (by decide) rfl (fun ls hl => ?_)
            refine lv_goto (tgt := 18) hx hb d_law_443 (by decide) ?_
            exact ih (k + 5) (f_set σ (xs (k + 1)) (xs (k + 2)) (xs (k + 3)) false).2 (g_set μ (xs (k + 1)) (xs (k + 2)) (xs (k + 3)) false).2 N (by omega) (by omega) (by omega) (op_set hR (xs (k + 1)) (xs (k + 2)) (xs (k + 3)) false).2 _ _ _ hP hD hS (lv_sub hl [0, 1, 2, 3] rfl)
          · refine lv_iconst (v := 1) hx hb d_law_112 (by decide) ?_
            refine lv_goto (tgt := 117) hx hb d_law_113 (by decide) ?_
            have hP := k_swapP hP
            have hD := k_swapD hD
            refine k_fV (w := wM bb cb μ) (wf := wX a ca) (σ := σ) (rest := []) hx hb hml hown hG hKx hN hA hP hD hS (c_set l D a ca σ (xs (k + 1)) (xs (k + 2)) (xs (k + 3)) true) ok_set io_set L_law_13 ⟨rfl, rfl, by decide, by decide⟩ 0 wX_X rfl rfl hl.1 rfl (Nat.le_of_ble_eq_true rfl) ⟨Nat.le_of_ble_eq_true rfl, Nat.le_of_ble_eq_true rfl⟩ d_law_117 (fun H locs hP hD hS => ?_)
            have hP := k_swapP hP
            have hD := k_swapD hD
            refine lv_aload_n hx hb d_law_120 rfl (lv_at hl 1 rfl) ?_
            refine lv_aload_n hx hb d_law_121 rfl (lv_at hl 3 rfl) ?_
            refine lv_iload_n hx hb d_law_122 rfl (lv_at hl 0 rfl) ?_
            refine lv_iconst (v := 1) hx hb d_law_123 (by decide) ?_
            refine lv_iadd hx hb d_law_124 ?_
            refine lw_sld hx hb hX hbl hbA hS (k + 1) (by omega) (by omega) (nI_add k 1) d_law_125 ?_
            refine lv_aload_n hx hb d_law_126 rfl (lv_at hl 3 rfl) ?_
            refine lv_iload_n hx hb d_law_127 rfl (lv_at hl 0 rfl) ?_
            refine lv_iconst (v := 2) hx hb d_law_128 (by decide) ?_
            refine lv_iadd hx hb d_law_129 ?_
            refine lw_sld hx hb hX hbl hbA hS (k + 2) (by omega) (by omega) (nI_add k 2) d_law_130 ?_
            refine lv_aload_n hx hb d_law_131 rfl (lv_at hl 3 rfl) ?_
            refine lv_iload_n hx hb d_law_132 rfl (lv_at hl 0 rfl) ?_
            refine lv_iconst (v := 3) hx hb d_law_133 (by decide) ?_
            refine lv_iadd hx hb d_law_134 ?_
            refine lw_sld hx hb hX hbl hbA hS (k + 3) (by omega) (by omega) (nI_add k 3) d_law_135 ?_
            refine lv_aload_n hx hb d_law_136 rfl (lv_at hl 3 rfl) ?_
            refine lv_iload_n hx hb d_law_137 rfl (lv_at hl 0 rfl) ?_
            refine lv_iconst (v := 4) hx hb d_law_138 (by decide) ?_
            refine lv_iadd hx hb d_law_139 ?_
            refine lw_sld hx hb hX hbl hbA hS (k + 4) (by omega) (by omega) (nI_add k 4) d_law_140 ?_
            refine lv_if_eq (tgt := 148) hx hb d_law_141 (by decide) (fun c_7 => absurd c_7 c_4) (fun c_7 => ?_)
            refine lv_iconst (v := 1) hx hb d_law_144 (by decide) ?_
            refine lv_goto (tgt := 149) hx hb d_law_145 (by decide) ?_
            refine k_fV (w := wX a ca ((f_set σ (xs (k + 1)) (xs (k + 2)) (xs (k + 3)) true).2)) (wf := wM bb cb) (σ := μ) (rest := [.int ((f_set σ (xs (k + 1)) (xs (k + 2)) (xs (k + 3)) true).1)]) hx hb hml hown hG hKm hN hA hP hD hS (c_m_set l D bb cb μ (xs (k + 1)) (xs (k + 2)) (xs (k + 3)) true) ok_m_set io_m_set L_law_17 ⟨rfl, rfl, by decide, by decide⟩ 0 wM_M rfl rfl hl.1 rfl (Nat.le_of_ble_eq_true rfl) ⟨Nat.le_of_ble_eq_true rfl, Nat.le_of_ble_eq_true rfl⟩ d_law_149 (fun H locs hP hD hS => ?_)
            refine lv_icmp_eq (tgt := 440) hx hb d_law_152 (by decide) (fun c_8 => ?_) (fun c_8 => absurd ((op_set hR (xs (k + 1)) (xs (k + 2)) (xs (k + 3)) true).1) c_8)
            refine lv_iinc (v := nI (k + 5)) (lv' := [(3, .int (nI (k + 5))), (2, .ref (bb 0)), (1, .ref (a 0)), (0, .ref b)]) hx hb d_law_440 hl (k := 0) rfl (nI_add k 5) (by decide) rfl (fun ls hl => ?_)
            refine lv_goto (tgt := 18) hx hb d_law_443 (by decide) ?_
            exact ih (k + 5) (f_set σ (xs (k + 1)) (xs (k + 2)) (xs (k + 3)) true).2 (g_set μ (xs (k + 1)) (xs (k + 2)) (xs (k + 3)) true).2 N (by omega) (by omega) (by omega) (op_set hR (xs (k + 1)) (xs (k + 2)) (xs (k + 3)) true).2 _ _ _ hP hD hS (lv_sub hl [0, 1, 2, 3] rfl)
        · refine lv_tableIn (off := 125) (tgt := 157) hx hb d_law_32 (by rw [s_2]; decide) (by rw [s_2]; decide) (by rw [s_2]; decide) (by decide) ?_
          refine lv_aload_n hx hb d_law_157 rfl (lv_at hl 2 rfl) ?_
          refine lv_aload_n hx hb d_law_158 rfl (lv_at hl 3 rfl) ?_
          refine lv_iload_n hx hb d_law_159 rfl (lv_at hl 0 rfl) ?_
          refine lv_iconst (v := 1) hx hb d_law_160 (by decide) ?_
          refine lv_iadd hx hb d_law_161 ?_
          refine lw_sld hx hb hX hbl hbA hS (k + 1) (by omega) (by omega) (nI_add k 1) d_law_162 ?_
          refine lv_aload_n hx hb d_law_163 rfl (lv_at hl 3 rfl) ?_
          refine lv_iload_n hx hb d_law_164 rfl (lv_at hl 0 rfl) ?_
          refine lv_iconst (v := 2) hx hb d_law_165 (by decide) ?_
          refine lv_iadd hx hb d_law_166 ?_
          refine lw_sld hx hb hX hbl hbA hS (k + 2) (by omega) (by omega) (nI_add k 2) d_law_167 ?_
          refine lv_if_eq (tgt := 175) hx hb d_law_168 (by decide) (fun c_9 => ?_) (fun c_9 => ?_)
          · refine lv_iconst (v := 0) hx hb d_law_175 (by decide) ?_
            have hP := k_swapP hP
            have hD := k_swapD hD
            refine k_fV (w := wM bb cb μ) (wf := wX a ca) (σ := σ) (rest := []) hx hb hml hown hG hKx hN hA hP hD hS (c_turn l D a ca σ (xs (k + 1)) false) ok_turn io_turn L_law_18 ⟨rfl, rfl, by decide, by decide⟩ 0 wX_X rfl rfl hl.1 rfl (Nat.le_of_ble_eq_true rfl) ⟨Nat.le_of_ble_eq_true rfl, Nat.le_of_ble_eq_true rfl⟩ d_law_176 (fun H locs hP hD hS => ?_)
            have hP := k_swapP hP
            have hD := k_swapD hD
            refine lv_aload_n hx hb d_law_179 rfl (lv_at hl 1 rfl) ?_
            refine lv_aload_n hx hb d_law_180 rfl (lv_at hl 3 rfl) ?_
            refine lv_iload_n hx hb d_law_181 rfl (lv_at hl 0 rfl) ?_
            refine lv_iconst (v := 1) hx hb d_law_182 (by decide) ?_
            refine lv_iadd hx hb d_law_183 ?_
            refine lw_sld hx hb hX hbl hbA hS (k + 1) (by omega) (by omega) (nI_add k 1) d_law_184 ?_
            refine lv_aload_n hx hb d_law_185 rfl (lv_at hl 3 rfl) ?_
            refine lv_iload_n hx hb d_law_186 rfl (lv_at hl 0 rfl) ?_
            refine lv_iconst (v := 2) hx hb d_law_187 (by decide) ?_
            refine lv_iadd hx hb d_law_188 ?_
            refine lw_sld hx hb hX hbl hbA hS (k + 2) (by omega) (by omega) (nI_add k 2) d_law_189 ?_
            refine lv_if_eq (tgt := 197) hx hb d_law_190 (by decide) (fun c_10 => ?_) (fun c_10 => absurd c_9 c_10)
            refine lv_iconst (v := 0) hx hb d_law_197 (by decide) ?_
            refine k_fV (w := wX a ca ((f_turn σ (xs (k + 1)) false).2)) (wf := wM bb cb) (σ := μ) (rest := [.int ((f_turn σ (xs (k + 1)) false).1)]) hx hb hml hown hG hKm hN hA hP hD hS (c_m_turn l D bb cb μ (xs (k + 1)) false) ok_m_turn io_m_turn L_law_22 ⟨rfl, rfl, by decide, by decide⟩ 0 wM_M rfl rfl hl.1 rfl (Nat.le_of_ble_eq_true rfl) ⟨Nat.le_of_ble_eq_true rfl, Nat.le_of_ble_eq_true rfl⟩ d_law_198 (fun H locs hP hD hS => ?_)
            refine lv_icmp_eq (tgt := 440) hx hb d_law_201 (by decide) (fun c_11 => ?_) (fun c_11 => absurd ((op_turn hR (xs (k + 1)) false).1) c_11)
            refine lv_iinc (v := nI (k + 5)) (lv' := [(3, .int (nI (k + 5))), (2, .ref (bb 0)), (1, .ref (a 0)), (0, .ref b)]) hx hb d_law_440 hl (k := 0) rfl (nI_add k 5) (by decide) rfl (fun ls hl => ?_)
            refine lv_goto (tgt := 18) hx hb d_law_443 (by decide) ?_
            exact ih (k + 5) (f_turn σ (xs (k + 1)) false).2 (g_turn μ (xs (k + 1)) false).2 N (by omega) (by omega) (by omega) (op_turn hR (xs (k + 1)) false).2 _ _ _ hP hD hS (lv_sub hl [0, 1, 2, 3] rfl)
          · refine lv_iconst (v := 1) hx hb d_law_171 (by decide) ?_
            refine lv_goto (tgt := 176) hx hb d_law_172 (by decide) ?_
            have hP := k_swapP hP
            have hD := k_swapD hD
            refine k_fV (w := wM bb cb μ) (wf := wX a ca) (σ := σ) (rest := []) hx hb hml hown hG hKx hN hA hP hD hS (c_turn l D a ca σ (xs (k + 1)) true) ok_turn io_turn L_law_18 ⟨rfl, rfl, by decide, by decide⟩ 0 wX_X rfl rfl hl.1 rfl (Nat.le_of_ble_eq_true rfl) ⟨Nat.le_of_ble_eq_true rfl, Nat.le_of_ble_eq_true rfl⟩ d_law_176 (fun H locs hP hD hS => ?_)
            have hP := k_swapP hP
            have hD := k_swapD hD
            refine lv_aload_n hx hb d_law_179 rfl (lv_at hl 1 rfl) ?_
            refine lv_aload_n hx hb d_law_180 rfl (lv_at hl 3 rfl) ?_
            refine lv_iload_n hx hb d_law_181 rfl (lv_at hl 0 rfl) ?_
            refine lv_iconst (v := 1) hx hb d_law_182 (by decide) ?_
            refine lv_iadd hx hb d_law_183 ?_
            refine lw_sld hx hb hX hbl hbA hS (k + 1) (by omega) (by omega) (nI_add k 1) d_law_184 ?_
            refine lv_aload_n hx hb d_law_185 rfl (lv_at hl 3 rfl) ?_
            refine lv_iload_n hx hb d_law_186 rfl (lv_at hl 0 rfl) ?_
            refine lv_iconst (v := 2) hx hb d_law_187 (by decide) ?_
            refine lv_iadd hx hb d_law_188 ?_
            refine lw_sld hx hb hX hbl hbA hS (k + 2) (by omega) (by omega) (nI_add k 2) d_law_189 ?_
            refine lv_if_eq (tgt := 197) hx hb d_law_190 (by decide) (fun c_12 => absurd c_12 c_9) (fun c_12 => ?_)
            refine lv_iconst (v := 1) hx hb d_law_193 (by decide) ?_
            refine lv_goto (tgt := 198) hx hb d_law_194 (by decide) ?_
            refine k_fV (w := wX a ca ((f_turn σ (xs (k + 1)) true).2)) (wf := wM bb cb) (σ := μ) (rest := [.int ((f_turn σ (xs (k + 1)) true).1)]) hx hb hml hown hG hKm hN hA hP hD hS (c_m_turn l D bb cb μ (xs (k + 1)) true) ok_m_turn io_m_turn L_law_22 ⟨rfl, rfl, by decide, by decide⟩ 0 wM_M rfl rfl hl.1 rfl (Nat.le_of_ble_eq_true rfl) ⟨Nat.le_of_ble_eq_true rfl, Nat.le_of_ble_eq_true rfl⟩ d_law_198 (fun H locs hP hD hS => ?_)
            refine lv_icmp_eq (tgt := 440) hx hb d_law_201 (by decide) (fun c_13 => ?_) (fun c_13 => absurd ((op_turn hR (xs (k + 1)) true).1) c_13)
            refine lv_iinc (v := nI (k + 5)) (lv' := [(3, .int (nI (k + 5))), (2, .ref (bb 0)), (1, .ref (a 0)), (0, .ref b)]) hx hb d_law_440 hl (k := 0) rfl (nI_add k 5) (by decide) rfl (fun ls hl => ?_)
            refine lv_goto (tgt := 18) hx hb d_law_443 (by decide) ?_
            exact ih (k + 5) (f_turn σ (xs (k + 1)) true).2 (g_turn μ (xs (k + 1)) true).2 N (by omega) (by omega) (by omega) (op_turn hR (xs (k + 1)) true).2 _ _ _ hP hD hS (lv_sub hl [0, 1, 2, 3] rfl)
        · refine lv_tableIn (off := 174) (tgt := 206) hx hb d_law_32 (by rw [s_2]; decide) (by rw [s_2]; decide) (by rw [s_2]; decide) (by decide) ?_
          refine lv_aload_n hx hb d_law_206 rfl (lv_at hl 2 rfl) ?_
          refine lv_aload_n hx hb d_law_207 rfl (lv_at hl 3 rfl) ?_
          refine lv_iload_n hx hb d_law_208 rfl (lv_at hl 0 rfl) ?_
          refine lv_iconst (v := 1) hx hb d_law_209 (by decide) ?_
          refine lv_iadd hx hb d_law_210 ?_
          refine lw_sld hx hb hX hbl hbA hS (k + 1) (by omega) (by omega) (nI_add k 1) d_law_211 ?_
          refine lv_aload_n hx hb d_law_212 rfl (lv_at hl 3 rfl) ?_
          refine lv_iload_n hx hb d_law_213 rfl (lv_at hl 0 rfl) ?_
          refine lv_iconst (v := 2) hx hb d_law_214 (by decide) ?_
          refine lv_iadd hx hb d_law_215 ?_
          refine lw_sld hx hb hX hbl hbA hS (k + 2) (by omega) (by omega) (nI_add k 2) d_law_216 ?_
          refine lv_aload_n hx hb d_law_217 rfl (lv_at hl 3 rfl) ?_
          refine lv_iload_n hx hb d_law_218 rfl (lv_at hl 0 rfl) ?_
          refine lv_iconst (v := 3) hx hb d_law_219 (by decide) ?_
          refine lv_iadd hx hb d_law_220 ?_
          refine lw_sld hx hb hX hbl hbA hS (k + 3) (by omega) (by omega) (nI_add k 3) d_law_221 ?_
          have hP := k_swapP hP
          have hD := k_swapD hD
          refine k_fV (w := wM bb cb μ) (wf := wX a ca) (σ := σ) (rest := []) hx hb hml hown hG hKx hN hA hP hD hS (c_gate l D a ca σ (xs (k + 1)) (xs (k + 2)) (xs (k + 3))) ok_gate io_gate L_law_23 ⟨rfl, rfl, by decide, by decide⟩ 0 wX_X rfl rfl hl.1 rfl (Nat.le_of_ble_eq_true rfl) ⟨Nat.le_of_ble_eq_true rfl, Nat.le_of_ble_eq_true rfl⟩ d_law_222 (fun H locs hP hD hS => ?_)
          have hP := k_swapP hP
          have hD := k_swapD hD
          refine lv_aload_n hx hb d_law_225 rfl (lv_at hl 1 rfl) ?_
          refine lv_aload_n hx hb d_law_226 rfl (lv_at hl 3 rfl) ?_
          refine lv_iload_n hx hb d_law_227 rfl (lv_at hl 0 rfl) ?_
          refine lv_iconst (v := 1) hx hb d_law_228 (by decide) ?_
          refine lv_iadd hx hb d_law_229 ?_
          refine lw_sld hx hb hX hbl hbA hS (k + 1) (by omega) (by omega) (nI_add k 1) d_law_230 ?_
          refine lv_aload_n hx hb d_law_231 rfl (lv_at hl 3 rfl) ?_
          refine lv_iload_n hx hb d_law_232 rfl (lv_at hl 0 rfl) ?_
          refine lv_iconst (v := 2) hx hb d_law_233 (by decide) ?_
          refine lv_iadd hx hb d_law_234 ?_
          refine lw_sld hx hb hX hbl hbA hS (k + 2) (by omega) (by omega) (nI_add k 2) d_law_235 ?_
          refine lv_aload_n hx hb d_law_236 rfl (lv_at hl 3 rfl) ?_
          refine lv_iload_n hx hb d_law_237 rfl (lv_at hl 0 rfl) ?_
          refine lv_iconst (v := 3) hx hb d_law_238 (by decide) ?_
          refine lv_iadd hx hb d_law_239 ?_
          refine lw_sld hx hb hX hbl hbA hS (k + 3) (by omega) (by omega) (nI_add k 3) d_law_240 ?_
          refine k_fV (w := wX a ca ((f_gate σ (xs (k + 1)) (xs (k + 2)) (xs (k + 3))).2)) (wf := wM bb cb) (σ := μ) (rest := [.int ((f_gate σ (xs (k + 1)) (xs (k + 2)) (xs (k + 3))).1)]) hx hb hml hown hG hKm hN hA hP hD hS (c_m_gate l D bb cb μ (xs (k + 1)) (xs (k + 2)) (xs (k + 3))) ok_m_gate io_m_gate L_law_27 ⟨rfl, rfl, by decide, by decide⟩ 0 wM_M rfl rfl hl.1 rfl (Nat.le_of_ble_eq_true rfl) ⟨Nat.le_of_ble_eq_true rfl, Nat.le_of_ble_eq_true rfl⟩ d_law_241 (fun H locs hP hD hS => ?_)
          refine lv_icmp_eq (tgt := 440) hx hb d_law_244 (by decide) (fun c_14 => ?_) (fun c_14 => absurd ((op_gate hR (xs (k + 1)) (xs (k + 2)) (xs (k + 3))).1) c_14)
          refine lv_iinc (v := nI (k + 5)) (lv' := [(3, .int (nI (k + 5))), (2, .ref (bb 0)), (1, .ref (a 0)), (0, .ref b)]) hx hb d_law_440 hl (k := 0) rfl (nI_add k 5) (by decide) rfl (fun ls hl => ?_)
          refine lv_goto (tgt := 18) hx hb d_law_443 (by decide) ?_
          exact ih (k + 5) (f_gate σ (xs (k + 1)) (xs (k + 2)) (xs (k + 3))).2 (g_gate μ (xs (k + 1)) (xs (k + 2)) (xs (k + 3))).2 N (by omega) (by omega) (by omega) (op_gate hR (xs (k + 1)) (xs (k + 2)) (xs (k + 3))).2 _ _ _ hP hD hS (lv_sub hl [0, 1, 2, 3] rfl)
        · refine lv_tableIn (off := 217) (tgt := 249) hx hb d_law_32 (by rw [s_2]; decide) (by rw [s_2]; decide) (by rw [s_2]; decide) (by decide) ?_
          refine lv_aload_n hx hb d_law_249 rfl (lv_at hl 2 rfl) ?_
          refine lv_aload_n hx hb d_law_250 rfl (lv_at hl 3 rfl) ?_
          refine lv_iload_n hx hb d_law_251 rfl (lv_at hl 0 rfl) ?_
          refine lv_iconst (v := 1) hx hb d_law_252 (by decide) ?_
          refine lv_iadd hx hb d_law_253 ?_
          refine lw_sld hx hb hX hbl hbA hS (k + 1) (by omega) (by omega) (nI_add k 1) d_law_254 ?_
          have hP := k_swapP hP
          have hD := k_swapD hD
          refine k_fV (w := wM bb cb μ) (wf := wX a ca) (σ := σ) (rest := []) hx hb hml hown hG hKx hN hA hP hD hS (c_clear l D a ca σ (xs (k + 1))) ok_clear io_clear L_law_28 ⟨rfl, rfl, by decide, by decide⟩ 0 wX_X rfl rfl hl.1 rfl (Nat.le_of_ble_eq_true rfl) ⟨Nat.le_of_ble_eq_true rfl, Nat.le_of_ble_eq_true rfl⟩ d_law_255 (fun H locs hP hD hS => ?_)
          have hP := k_swapP hP
          have hD := k_swapD hD
          refine lv_aload_n hx hb d_law_258 rfl (lv_at hl 1 rfl) ?_
          refine lv_aload_n hx hb d_law_259 rfl (lv_at hl 3 rfl) ?_
          refine lv_iload_n hx hb d_law_260 rfl (lv_at hl 0 rfl) ?_
          refine lv_iconst (v := 1) hx hb d_law_261 (by decide) ?_
          refine lv_iadd hx hb d_law_262 ?_
          refine lw_sld hx hb hX hbl hbA hS (k + 1) (by omega) (by omega) (nI_add k 1) d_law_263 ?_
          refine k_fV (w := wX a ca ((f_clear σ (xs (k + 1))).2)) (wf := wM bb cb) (σ := μ) (rest := [.int ((f_clear σ (xs (k + 1))).1)]) hx hb hml hown hG hKm hN hA hP hD hS (c_m_clear l D bb cb μ (xs (k + 1))) ok_m_clear io_m_clear L_law_32 ⟨rfl, rfl, by decide, by decide⟩ 0 wM_M rfl rfl hl.1 rfl (Nat.le_of_ble_eq_true rfl) ⟨Nat.le_of_ble_eq_true rfl, Nat.le_of_ble_eq_true rfl⟩ d_law_264 (fun H locs hP hD hS => ?_)
          refine lv_icmp_eq (tgt := 440) hx hb d_law_267 (by decide) (fun c_15 => ?_) (fun c_15 => absurd ((op_clear hR (xs (k + 1))).1) c_15)
          refine lv_iinc (v := nI (k + 5)) (lv' := [(3, .int (nI (k + 5))), (2, .ref (bb 0)), (1, .ref (a 0)), (0, .ref b)]) hx hb d_law_440 hl (k := 0) rfl (nI_add k 5) (by decide) rfl (fun ls hl => ?_)
          refine lv_goto (tgt := 18) hx hb d_law_443 (by decide) ?_
          exact ih (k + 5) (f_clear σ (xs (k + 1))).2 (g_clear μ (xs (k + 1))).2 N (by omega) (by omega) (by omega) (op_clear hR (xs (k + 1))).2 _ _ _ hP hD hS (lv_sub hl [0, 1, 2, 3] rfl)
        · refine lv_tableIn (off := 240) (tgt := 272) hx hb d_law_32 (by rw [s_2]; decide) (by rw [s_2]; decide) (by rw [s_2]; decide) (by decide) ?_
          refine lv_aload_n hx hb d_law_272 rfl (lv_at hl 2 rfl) ?_
          refine lv_aload_n hx hb d_law_273 rfl (lv_at hl 3 rfl) ?_
          refine lv_iload_n hx hb d_law_274 rfl (lv_at hl 0 rfl) ?_
          refine lv_iconst (v := 1) hx hb d_law_275 (by decide) ?_
          refine lv_iadd hx hb d_law_276 ?_
          refine lw_sld hx hb hX hbl hbA hS (k + 1) (by omega) (by omega) (nI_add k 1) d_law_277 ?_
          have hP := k_swapP hP
          have hD := k_swapD hD
          refine k_fV (w := wM bb cb μ) (wf := wX a ca) (σ := σ) (rest := []) hx hb hml hown hG hKx hN hA hP hD hS (c_advance l D a ca σ (xs (k + 1)) hR.inv) ok_advance io_advance L_law_33 ⟨rfl, rfl, by decide, by decide⟩ 0 wX_X rfl rfl hl.1 rfl (Nat.le_of_ble_eq_true rfl) ⟨Nat.le_of_ble_eq_true rfl, Nat.le_of_ble_eq_true rfl⟩ d_law_278 (fun H locs hP hD hS => ?_)
          have hP := k_swapP hP
          have hD := k_swapD hD
          refine lv_aload_n hx hb d_law_281 rfl (lv_at hl 1 rfl) ?_
          refine lv_aload_n hx hb d_law_282 rfl (lv_at hl 3 rfl) ?_
          refine lv_iload_n hx hb d_law_283 rfl (lv_at hl 0 rfl) ?_
          refine lv_iconst (v := 1) hx hb d_law_284 (by decide) ?_
          refine lv_iadd hx hb d_law_285 ?_
          refine lw_sld hx hb hX hbl hbA hS (k + 1) (by omega) (by omega) (nI_add k 1) d_law_286 ?_
          refine k_fV (w := wX a ca ((f_advance σ (xs (k + 1))).2)) (wf := wM bb cb) (σ := μ) (rest := [.int ((f_advance σ (xs (k + 1))).1)]) hx hb hml hown hG hKm hN hA hP hD hS (c_m_advance l D bb cb μ (xs (k + 1)) N hR.2.2.1 (by omega)) ok_m_advance io_m_advance L_law_36 ⟨rfl, rfl, by decide, by decide⟩ 0 wM_M rfl rfl hl.1 rfl (Nat.le_of_ble_eq_true rfl) ⟨Nat.le_of_ble_eq_true rfl, Nat.le_of_ble_eq_true rfl⟩ d_law_287 (fun H locs hP hD hS => ?_)
          refine lv_icmp_eq (tgt := 440) hx hb d_law_290 (by decide) (fun c_16 => ?_) (fun c_16 => absurd ((op_advance hR (by omega) (xs (k + 1))).1) c_16)
          refine lv_iinc (v := nI (k + 5)) (lv' := [(3, .int (nI (k + 5))), (2, .ref (bb 0)), (1, .ref (a 0)), (0, .ref b)]) hx hb d_law_440 hl (k := 0) rfl (nI_add k 5) (by decide) rfl (fun ls hl => ?_)
          refine lv_goto (tgt := 18) hx hb d_law_443 (by decide) ?_
          obtain ⟨N2, hN2, hR2⟩ := (op_advance hR (by omega) (xs (k + 1))).2
          exact ih (k + 5) (f_advance σ (xs (k + 1))).2 (g_advance μ (xs (k + 1))).2 N2 (by omega) (by omega) (by omega) hR2 _ _ _ hP hD hS (lv_sub hl [0, 1, 2, 3] rfl)
        · refine lv_tableIn (off := 263) (tgt := 295) hx hb d_law_32 (by rw [s_2]; decide) (by rw [s_2]; decide) (by rw [s_2]; decide) (by decide) ?_
          refine lv_aload_n hx hb d_law_295 rfl (lv_at hl 2 rfl) ?_
          refine lv_aload_n hx hb d_law_296 rfl (lv_at hl 3 rfl) ?_
          refine lv_iload_n hx hb d_law_297 rfl (lv_at hl 0 rfl) ?_
          refine lv_iconst (v := 1) hx hb d_law_298 (by decide) ?_
          refine lv_iadd hx hb d_law_299 ?_
          refine lw_sld hx hb hX hbl hbA hS (k + 1) (by omega) (by omega) (nI_add k 1) d_law_300 ?_
          have hP := k_swapP hP
          have hD := k_swapD hD
          refine k_fV (w := wM bb cb μ) (wf := wX a ca) (σ := σ) (rest := []) hx hb hml hown hG hKx hN hA hP hD hS (c_next l D a ca σ (xs (k + 1)) hR.inv) ok_next io_next L_law_37 ⟨rfl, rfl, by decide, by decide⟩ 0 wX_X rfl rfl hl.1 rfl (Nat.le_of_ble_eq_true rfl) ⟨Nat.le_of_ble_eq_true rfl, Nat.le_of_ble_eq_true rfl⟩ d_law_301 (fun H locs hP hD hS => ?_)
          have hP := k_swapP hP
          have hD := k_swapD hD
          refine lv_aload_n hx hb d_law_304 rfl (lv_at hl 1 rfl) ?_
          refine lv_aload_n hx hb d_law_305 rfl (lv_at hl 3 rfl) ?_
          refine lv_iload_n hx hb d_law_306 rfl (lv_at hl 0 rfl) ?_
          refine lv_iconst (v := 1) hx hb d_law_307 (by decide) ?_
          refine lv_iadd hx hb d_law_308 ?_
          refine lw_sld hx hb hX hbl hbA hS (k + 1) (by omega) (by omega) (nI_add k 1) d_law_309 ?_
          refine k_fV (w := wX a ca ((f_next σ (xs (k + 1))).2)) (wf := wM bb cb) (σ := μ) (rest := [.int ((f_next σ (xs (k + 1))).1)]) hx hb hml hown hG hKm hN hA hP hD hS (c_m_next l D bb cb μ (xs (k + 1)) N hR.2.2.1 (by omega)) ok_m_next io_m_next L_law_40 ⟨rfl, rfl, by decide, by decide⟩ 0 wM_M rfl rfl hl.1 rfl (Nat.le_of_ble_eq_true rfl) ⟨Nat.le_of_ble_eq_true rfl, Nat.le_of_ble_eq_true rfl⟩ d_law_310 (fun H locs hP hD hS => ?_)
          refine lv_icmp_eq (tgt := 440) hx hb d_law_313 (by decide) (fun c_17 => ?_) (fun c_17 => absurd ((op_next hR (by omega) (xs (k + 1))).1) c_17)
          refine lv_iinc (v := nI (k + 5)) (lv' := [(3, .int (nI (k + 5))), (2, .ref (bb 0)), (1, .ref (a 0)), (0, .ref b)]) hx hb d_law_440 hl (k := 0) rfl (nI_add k 5) (by decide) rfl (fun ls hl => ?_)
          refine lv_goto (tgt := 18) hx hb d_law_443 (by decide) ?_
          obtain ⟨N2, hN2, hR2⟩ := (op_next hR (by omega) (xs (k + 1))).2
          exact ih (k + 5) (f_next σ (xs (k + 1))).2 (g_next μ (xs (k + 1))).2 N2 (by omega) (by omega) (by omega) hR2 _ _ _ hP hD hS (lv_sub hl [0, 1, 2, 3] rfl)
        · refine lv_tableIn (off := 286) (tgt := 318) hx hb d_law_32 (by rw [s_2]; decide) (by rw [s_2]; decide) (by rw [s_2]; decide) (by decide) ?_
          refine lv_aload_n hx hb d_law_318 rfl (lv_at hl 2 rfl) ?_
          refine lv_aload_n hx hb d_law_319 rfl (lv_at hl 3 rfl) ?_
          refine lv_iload_n hx hb d_law_320 rfl (lv_at hl 0 rfl) ?_
          refine lv_iconst (v := 1) hx hb d_law_321 (by decide) ?_
          refine lv_iadd hx hb d_law_322 ?_
          refine lw_sld hx hb hX hbl hbA hS (k + 1) (by omega) (by omega) (nI_add k 1) d_law_323 ?_
          refine lv_aload_n hx hb d_law_324 rfl (lv_at hl 3 rfl) ?_
          refine lv_iload_n hx hb d_law_325 rfl (lv_at hl 0 rfl) ?_
          refine lv_iconst (v := 2) hx hb d_law_326 (by decide) ?_
          refine lv_iadd hx hb d_law_327 ?_
          refine lw_sld hx hb hX hbl hbA hS (k + 2) (by omega) (by omega) (nI_add k 2) d_law_328 ?_
          have hP := k_swapP hP
          have hD := k_swapD hD
          refine k_fV (w := wM bb cb μ) (wf := wX a ca) (σ := σ) (rest := []) hx hb hml hown hG hKx hN hA hP hD hS (c_timer l D a ca σ (xs (k + 1)) (xs (k + 2))) ok_timer io_timer L_law_41 ⟨rfl, rfl, by decide, by decide⟩ 0 wX_X rfl rfl hl.1 rfl (Nat.le_of_ble_eq_true rfl) ⟨Nat.le_of_ble_eq_true rfl, Nat.le_of_ble_eq_true rfl⟩ d_law_329 (fun H locs hP hD hS => ?_)
          have hP := k_swapP hP
          have hD := k_swapD hD
          refine lv_aload_n hx hb d_law_332 rfl (lv_at hl 1 rfl) ?_
          refine lv_aload_n hx hb d_law_333 rfl (lv_at hl 3 rfl) ?_
          refine lv_iload_n hx hb d_law_334 rfl (lv_at hl 0 rfl) ?_
          refine lv_iconst (v := 1) hx hb d_law_335 (by decide) ?_
          refine lv_iadd hx hb d_law_336 ?_
          refine lw_sld hx hb hX hbl hbA hS (k + 1) (by omega) (by omega) (nI_add k 1) d_law_337 ?_
          refine lv_aload_n hx hb d_law_338 rfl (lv_at hl 3 rfl) ?_
          refine lv_iload_n hx hb d_law_339 rfl (lv_at hl 0 rfl) ?_
          refine lv_iconst (v := 2) hx hb d_law_340 (by decide) ?_
          refine lv_iadd hx hb d_law_341 ?_
          refine lw_sld hx hb hX hbl hbA hS (k + 2) (by omega) (by omega) (nI_add k 2) d_law_342 ?_
          refine k_fV (w := wX a ca σ) (wf := wM bb cb) (σ := μ) (rest := [.int (f_timer σ (xs (k + 1)) (xs (k + 2)))]) hx hb hml hown hG hKm hN hA hP hD hS (c_m_timer l D bb cb μ (xs (k + 1)) (xs (k + 2))) ok_m_timer io_m_timer L_law_45 ⟨rfl, rfl, by decide, by decide⟩ 0 wM_M rfl rfl hl.1 rfl (Nat.le_of_ble_eq_true rfl) ⟨Nat.le_of_ble_eq_true rfl, Nat.le_of_ble_eq_true rfl⟩ d_law_343 (fun H locs hP hD hS => ?_)
          refine lv_icmp_eq (tgt := 440) hx hb d_law_346 (by decide) (fun c_18 => ?_) (fun c_18 => absurd (op_timer hR (xs (k + 1)) (xs (k + 2))) c_18)
          refine lv_iinc (v := nI (k + 5)) (lv' := [(3, .int (nI (k + 5))), (2, .ref (bb 0)), (1, .ref (a 0)), (0, .ref b)]) hx hb d_law_440 hl (k := 0) rfl (nI_add k 5) (by decide) rfl (fun ls hl => ?_)
          refine lv_goto (tgt := 18) hx hb d_law_443 (by decide) ?_
          exact ih (k + 5) σ μ N (by omega) (by omega) (by omega) hR _ _ _ hP hD hS (lv_sub hl [0, 1, 2, 3] rfl)
        · refine lv_tableIn (off := 319) (tgt := 351) hx hb d_law_32 (by rw [s_2]; decide) (by rw [s_2]; decide) (by rw [s_2]; decide) (by decide) ?_
          refine lv_aload_n hx hb d_law_351 rfl (lv_at hl 2 rfl) ?_
          refine lv_aload_n hx hb d_law_352 rfl (lv_at hl 3 rfl) ?_
          refine lv_iload_n hx hb d_law_353 rfl (lv_at hl 0 rfl) ?_
          refine lv_iconst (v := 1) hx hb d_law_354 (by decide) ?_
          refine lv_iadd hx hb d_law_355 ?_
          refine lw_sld hx hb hX hbl hbA hS (k + 1) (by omega) (by omega) (nI_add k 1) d_law_356 ?_
          refine lv_aload_n hx hb d_law_357 rfl (lv_at hl 3 rfl) ?_
          refine lv_iload_n hx hb d_law_358 rfl (lv_at hl 0 rfl) ?_
          refine lv_iconst (v := 2) hx hb d_law_359 (by decide) ?_
          refine lv_iadd hx hb d_law_360 ?_
          refine lw_sld hx hb hX hbl hbA hS (k + 2) (by omega) (by omega) (nI_add k 2) d_law_361 ?_
          have hP := k_swapP hP
          have hD := k_swapD hD
          refine k_fV (w := wM bb cb μ) (wf := wX a ca) (σ := σ) (rest := []) hx hb hml hown hG hKx hN hA hP hD hS (c_gateOf l D a ca σ (xs (k + 1)) (xs (k + 2))) ok_gateOf io_gateOf L_law_46 ⟨rfl, rfl, by decide, by decide⟩ 0 wX_X rfl rfl hl.1 rfl (Nat.le_of_ble_eq_true rfl) ⟨Nat.le_of_ble_eq_true rfl, Nat.le_of_ble_eq_true rfl⟩ d_law_362 (fun H locs hP hD hS => ?_)
          have hP := k_swapP hP
          have hD := k_swapD hD
          refine lv_aload_n hx hb d_law_365 rfl (lv_at hl 1 rfl) ?_
          refine lv_aload_n hx hb d_law_366 rfl (lv_at hl 3 rfl) ?_
          refine lv_iload_n hx hb d_law_367 rfl (lv_at hl 0 rfl) ?_
          refine lv_iconst (v := 1) hx hb d_law_368 (by decide) ?_
          refine lv_iadd hx hb d_law_369 ?_
          refine lw_sld hx hb hX hbl hbA hS (k + 1) (by omega) (by omega) (nI_add k 1) d_law_370 ?_
          refine lv_aload_n hx hb d_law_371 rfl (lv_at hl 3 rfl) ?_
          refine lv_iload_n hx hb d_law_372 rfl (lv_at hl 0 rfl) ?_
          refine lv_iconst (v := 2) hx hb d_law_373 (by decide) ?_
          refine lv_iadd hx hb d_law_374 ?_
          refine lw_sld hx hb hX hbl hbA hS (k + 2) (by omega) (by omega) (nI_add k 2) d_law_375 ?_
          refine k_fV (w := wX a ca σ) (wf := wM bb cb) (σ := μ) (rest := [.int (f_gateOf σ (xs (k + 1)) (xs (k + 2)))]) hx hb hml hown hG hKm hN hA hP hD hS (c_m_gateOf l D bb cb μ (xs (k + 1)) (xs (k + 2))) ok_m_gateOf io_m_gateOf L_law_49 ⟨rfl, rfl, by decide, by decide⟩ 0 wM_M rfl rfl hl.1 rfl (Nat.le_of_ble_eq_true rfl) ⟨Nat.le_of_ble_eq_true rfl, Nat.le_of_ble_eq_true rfl⟩ d_law_376 (fun H locs hP hD hS => ?_)
          refine lv_icmp_eq (tgt := 440) hx hb d_law_379 (by decide) (fun c_19 => ?_) (fun c_19 => absurd (op_gateOf hR (xs (k + 1)) (xs (k + 2))) c_19)
          refine lv_iinc (v := nI (k + 5)) (lv' := [(3, .int (nI (k + 5))), (2, .ref (bb 0)), (1, .ref (a 0)), (0, .ref b)]) hx hb d_law_440 hl (k := 0) rfl (nI_add k 5) (by decide) rfl (fun ls hl => ?_)
          refine lv_goto (tgt := 18) hx hb d_law_443 (by decide) ?_
          exact ih (k + 5) σ μ N (by omega) (by omega) (by omega) hR _ _ _ hP hD hS (lv_sub hl [0, 1, 2, 3] rfl)
        · refine lv_tableIn (off := 352) (tgt := 384) hx hb d_law_32 (by rw [s_2]; decide) (by rw [s_2]; decide) (by rw [s_2]; decide) (by decide) ?_
          refine lv_aload_n hx hb d_law_384 rfl (lv_at hl 2 rfl) ?_
          refine lv_aload_n hx hb d_law_385 rfl (lv_at hl 3 rfl) ?_
          refine lv_iload_n hx hb d_law_386 rfl (lv_at hl 0 rfl) ?_
          refine lv_iconst (v := 1) hx hb d_law_387 (by decide) ?_
          refine lv_iadd hx hb d_law_388 ?_
          refine lw_sld hx hb hX hbl hbA hS (k + 1) (by omega) (by omega) (nI_add k 1) d_law_389 ?_
          have hP := k_swapP hP
          have hD := k_swapD hD
          refine k_fV (w := wM bb cb μ) (wf := wX a ca) (σ := σ) (rest := []) hx hb hml hown hG hKx hN hA hP hD hS (c_look l D a ca σ (xs (k + 1))) ok_look io_look L_law_50 ⟨rfl, rfl, by decide, by decide⟩ 0 wX_X rfl rfl hl.1 rfl (Nat.le_of_ble_eq_true rfl) ⟨Nat.le_of_ble_eq_true rfl, Nat.le_of_ble_eq_true rfl⟩ d_law_390 (fun H locs hP hD hS => ?_)
          have hP := k_swapP hP
          have hD := k_swapD hD
          refine lv_aload_n hx hb d_law_393 rfl (lv_at hl 1 rfl) ?_
          refine lv_aload_n hx hb d_law_394 rfl (lv_at hl 3 rfl) ?_
          refine lv_iload_n hx hb d_law_395 rfl (lv_at hl 0 rfl) ?_
          refine lv_iconst (v := 1) hx hb d_law_396 (by decide) ?_
          refine lv_iadd hx hb d_law_397 ?_
          refine lw_sld hx hb hX hbl hbA hS (k + 1) (by omega) (by omega) (nI_add k 1) d_law_398 ?_
          refine k_fV (w := wX a ca σ) (wf := wM bb cb) (σ := μ) (rest := [.int (f_look σ (xs (k + 1)))]) hx hb hml hown hG hKm hN hA hP hD hS (c_m_look l D bb cb μ (xs (k + 1))) ok_m_look io_m_look L_law_53 ⟨rfl, rfl, by decide, by decide⟩ 0 wM_M rfl rfl hl.1 rfl (Nat.le_of_ble_eq_true rfl) ⟨Nat.le_of_ble_eq_true rfl, Nat.le_of_ble_eq_true rfl⟩ d_law_399 (fun H locs hP hD hS => ?_)
          refine lv_icmp_eq (tgt := 440) hx hb d_law_402 (by decide) (fun c_20 => ?_) (fun c_20 => absurd (op_look hR (xs (k + 1))) c_20)
          refine lv_iinc (v := nI (k + 5)) (lv' := [(3, .int (nI (k + 5))), (2, .ref (bb 0)), (1, .ref (a 0)), (0, .ref b)]) hx hb d_law_440 hl (k := 0) rfl (nI_add k 5) (by decide) rfl (fun ls hl => ?_)
          refine lv_goto (tgt := 18) hx hb d_law_443 (by decide) ?_
          exact ih (k + 5) σ μ N (by omega) (by omega) (by omega) hR _ _ _ hP hD hS (lv_sub hl [0, 1, 2, 3] rfl)
        · refine lv_tableIn (off := 375) (tgt := 407) hx hb d_law_32 (by rw [s_2]; decide) (by rw [s_2]; decide) (by rw [s_2]; decide) (by decide) ?_
          refine lv_aload_n hx hb d_law_407 rfl (lv_at hl 2 rfl) ?_
          refine lv_aload_n hx hb d_law_408 rfl (lv_at hl 3 rfl) ?_
          refine lv_iload_n hx hb d_law_409 rfl (lv_at hl 0 rfl) ?_
          refine lv_iconst (v := 1) hx hb d_law_410 (by decide) ?_
          refine lv_iadd hx hb d_law_411 ?_
          refine lw_sld hx hb hX hbl hbA hS (k + 1) (by omega) (by omega) (nI_add k 1) d_law_412 ?_
          refine lv_aload_n hx hb d_law_413 rfl (lv_at hl 3 rfl) ?_
          refine lv_iload_n hx hb d_law_414 rfl (lv_at hl 0 rfl) ?_
          refine lv_iconst (v := 2) hx hb d_law_415 (by decide) ?_
          refine lv_iadd hx hb d_law_416 ?_
          refine lw_sld hx hb hX hbl hbA hS (k + 2) (by omega) (by omega) (nI_add k 2) d_law_417 ?_
          have hP := k_swapP hP
          have hD := k_swapD hD
          refine k_fV (w := wM bb cb μ) (wf := wX a ca) (σ := σ) (rest := []) hx hb hml hown hG hKx hN hA hP hD hS (c_served l D a ca σ (xs (k + 1)) (xs (k + 2)) hR.inv) ok_served io_served L_law_54 ⟨rfl, rfl, by decide, by decide⟩ 0 wX_X rfl rfl hl.1 rfl (Nat.le_of_ble_eq_true rfl) ⟨Nat.le_of_ble_eq_true rfl, Nat.le_of_ble_eq_true rfl⟩ d_law_418 (fun H locs hP hD hS => ?_)
          have hP := k_swapP hP
          have hD := k_swapD hD
          refine lv_aload_n hx hb d_law_421 rfl (lv_at hl 1 rfl) ?_
          refine lv_aload_n hx hb d_law_422 rfl (lv_at hl 3 rfl) ?_
          refine lv_iload_n hx hb d_law_423 rfl (lv_at hl 0 rfl) ?_
          refine lv_iconst (v := 1) hx hb d_law_424 (by decide) ?_
          refine lv_iadd hx hb d_law_425 ?_
          refine lw_sld hx hb hX hbl hbA hS (k + 1) (by omega) (by omega) (nI_add k 1) d_law_426 ?_
          refine lv_aload_n hx hb d_law_427 rfl (lv_at hl 3 rfl) ?_
          refine lv_iload_n hx hb d_law_428 rfl (lv_at hl 0 rfl) ?_
          refine lv_iconst (v := 2) hx hb d_law_429 (by decide) ?_
          refine lv_iadd hx hb d_law_430 ?_
          refine lw_sld hx hb hX hbl hbA hS (k + 2) (by omega) (by omega) (nI_add k 2) d_law_431 ?_
          refine k_fV (w := wX a ca σ) (wf := wM bb cb) (σ := μ) (rest := [.int (f_Hread σ (xs (k + 1)) (xs (k + 2)))]) hx hb hml hown hG hKm hN hA hP hD hS (c_m_served l D bb cb μ (xs (k + 1)) (xs (k + 2)) N hR.2.2.1 (by omega)) ok_m_served io_m_served L_law_57 ⟨rfl, rfl, by decide, by decide⟩ 0 wM_M rfl rfl hl.1 rfl (Nat.le_of_ble_eq_true rfl) ⟨Nat.le_of_ble_eq_true rfl, Nat.le_of_ble_eq_true rfl⟩ d_law_432 (fun H locs hP hD hS => ?_)
          refine lv_icmp_eq (tgt := 440) hx hb d_law_435 (by decide) (fun c_21 => ?_) (fun c_21 => absurd (op_served hR (by omega) (xs (k + 1)) (xs (k + 2))) c_21)
          refine lv_iinc (v := nI (k + 5)) (lv' := [(3, .int (nI (k + 5))), (2, .ref (bb 0)), (1, .ref (a 0)), (0, .ref b)]) hx hb d_law_440 hl (k := 0) rfl (nI_add k 5) (by decide) rfl (fun ls hl => ?_)
          refine lv_goto (tgt := 18) hx hb d_law_443 (by decide) ?_
          exact ih (k + 5) σ μ N (by omega) (by omega) (by omega) hR _ _ _ hP hD hS (lv_sub hl [0, 1, 2, 3] rfl)
end
section
set_option maxHeartbeats 8000000 in
set_option maxRecDepth 100000 in
/-- THE LAW, from its entry -/
theorem whole_start {p : Program} {e : Env} {s : State} {m : MethodId} {below : List Frame} {meth : Method} {c : Code} (l : Launch) {b L : Nat} {xs : Nat → Int32} (hL : L ≤ 2560) (C0 : lw_At p s m meth c b L xs) : W p l e room_1 s m #[Value.ref b] below meth c s.heap [] 0 0 (lw_Z below #[Value.ref b] s) (entryFrame m ([Value.ref b] : List Value).toArray 4) := by
  obtain ⟨hx, hb, hr, hml, hown, hts, hX, hbl, hlocks, hgv⟩ := id C0
  have hA : ∀ q : Nat, s.heap.size ≤ q → (fun q : Nat => s.heap.size ≤ q) q := fun _ h => h
  have hG : ∀ w ∈ BIG, w.before #[Value.ref b] s = true := fun w h => hts w (BIG_in h)
  have hN : xN s := xN.of (fun w h => hts w (NESTS_in h))
  obtain ⟨c0, iS0, hKn0⟩ := u_known (C := R_X) (T := F_X) (N := 5) (n := 5) hG i_X (hG _ inst_X)
  obtain ⟨c1, iS1, hKn1⟩ := u_known (C := R_H) (T := F_H) (N := 6) (n := 6) hG i_H (hG _ inst_H)
  obtain ⟨c2, iS2, hKn2⟩ := u_known (C := R_T) (T := F_T) (N := 9) (n := 9) hG i_T (hG _ inst_T)
  obtain ⟨c3, iS3, hKn3⟩ := u_known (C := R_G) (T := F_G) (N := 6) (n := 6) hG i_G (hG _ inst_G)
  obtain ⟨c4, iS4, hKn4⟩ := u_known (C := R_M) (T := F_M) (N := 18) (n := 18) hG i_M (hG _ inst_M)
  obtain ⟨D, hKc⟩ : ∃ D : va_G, ∀ (k : Nat) (q : vw_C), classes[k]? = some q → u_Kn s q.1 q.2.1 q.2.2 (D.1 k) (D.2 k) := by
    refine ⟨(fun k => if k = 0 then c0 else if k = 1 then c1 else if k = 2 then c2 else if k = 3 then c3 else c4, fun k => if k = 0 then iS0 else if k = 1 then iS1 else if k = 2 then iS2 else if k = 3 then iS3 else iS4), ?_⟩
    intro k q hq
    match k, hq with
    | 0, hq => cases hq; exact hKn0
    | 1, hq => cases hq; exact hKn1
    | 2, hq => cases hq; exact hKn2
    | 3, hq => cases hq; exact hKn3
    | 4, hq => cases hq; exact hKn4
    | k + 5, hq => simp [classes] at hq
  have hS : va_S (fun q : Nat => s.heap.size ≤ q) s.heap s.heap [] := va_S.rf
  have hK : va_K D classes [] s := ⟨hKc, fun k q h => by simp at h⟩
  have hP : va_P D classes [] s.heap := fun k q h => by simp at h
  have hD : va_D (fun q : Nat => s.heap.size ≤ q) [] := ⟨fun i j p q h => by simp at h, fun k q h => by simp at h⟩
  have hl := lv_entry ([.ref b]) (n := 4) (Nat.le_of_ble_eq_true rfl)
  rw [lg_entry_eq]
  generalize (lg_sl ([.ref b]) ++ List.replicate (4 - (lg_sl ([.ref b])).length) Slot.unset).toArray = ls at hl ⊢
  have hl : lv_has ls 4 [(0, .ref b)] := hl
  refine va_new (ci := 0) (fs := [.null, .null, .null, .int 0, .int 0]) hx hb hG i_X ft_X ft_X_ok hown (hG _ L_law_7) (hG _ inst_X) (hG _ ini_X) hK hP hD hS hA rfl (fun j hj => by rcases (show j = 0 ∨ j = 1 ∨ j = 2 ∨ j = 3 ∨ j = 4 by omega) with rfl | rfl | rfl | rfl | rfl <;> rfl) (by decide) (by decide) d_law_0 (fun q0 H hP hD hS => ?_)
  refine lv_dup hx hb d_law_3 rfl ?_
  refine k_bI (w := []) (w0 := [(q0, .inr (0, [.null, .null, .null, .int 0, .int 0]))]) (rest := [.ref q0]) hx hb hml hown hG hK hN hA hP hD hS (c_Xinit l D q0) ok_Xinit rfl oi_Xinit L_law_9 ⟨rfl, rfl, by decide, by decide⟩ rfl hl.1 rfl (Nat.le_of_ble_eq_true rfl) ⟨by decide, by decide⟩ d_law_4 (fun H locs t ht hvm hB hJ hS => ?_)
  obtain ⟨a, ca, ea, hP1, hK1, hD1⟩ := hB
  subst ea
  rw [ht] at hP1
  obtain ⟨hP, hD⟩ := hJ _ hP1 hD1
  have hKx := va_K.moved hvm.symm hK1
  have hP : va_P D classes (wX a ca s0) H := hP
  have hD : va_D (fun q : Nat => s.heap.size ≤ q) (wX a ca s0) := hD
  refine lv_astore_n (lv' := [(1, .ref (a 0)), (0, .ref b)]) hx hb d_law_7 rfl hl (by decide) rfl (fun ls hl => ?_)
  refine va_new (ci := 4) (fs := [.int 0, .int 0, .int 0, .int 0, .null, .null, .null, .null, .null, .null, .null, .null, .null, .null, .null, .null, .null, .null]) hx hb hG i_M ft_M ft_M_ok hown (hG _ L_law_10) (hG _ inst_M) (hG _ ini_M) hK hP hD hS hA rfl (fun j hj => by rcases (show j = 0 ∨ j = 1 ∨ j = 2 ∨ j = 3 ∨ j = 4 ∨ j = 5 ∨ j = 6 ∨ j = 7 ∨ j = 8 ∨ j = 9 ∨ j = 10 ∨ j = 11 ∨ j = 12 ∨ j = 13 ∨ j = 14 ∨ j = 15 ∨ j = 16 ∨ j = 17 by omega) with rfl | rfl | rfl | rfl | rfl | rfl | rfl | rfl | rfl | rfl | rfl | rfl | rfl | rfl | rfl | rfl | rfl | rfl <;> rfl) (by decide) (by decide) d_law_8 (fun q1 H hP hD hS => ?_)
  refine lv_dup hx hb d_law_11 rfl ?_
  refine k_bI (w := wX a ca s0) (w0 := [(q1, .inr (4, [.int 0, .int 0, .int 0, .int 0, .null, .null, .null, .null, .null, .null, .null, .null, .null, .null, .null, .null, .null, .null]))]) (rest := [.ref q1]) hx hb hml hown hG hK hN hA hP hD hS (c_Minit l D q1) ok_Minit rfl oi_Minit L_law_12 ⟨rfl, rfl, by decide, by decide⟩ rfl hl.1 rfl (Nat.le_of_ble_eq_true rfl) ⟨by decide, by decide⟩ d_law_12 (fun H locs t ht hvm hB hJ hS => ?_)
  obtain ⟨bb, cb, eb, hP1, hK1, hD1⟩ := hB
  subst eb
  rw [ht] at hP1
  obtain ⟨hP, hD⟩ := hJ _ hP1 hD1
  have hKm := va_K.moved hvm.symm hK1
  refine lv_astore_n (lv' := [(2, .ref (bb 0)), (1, .ref (a 0)), (0, .ref b)]) hx hb d_law_15 rfl hl (by decide) rfl (fun ls hl => ?_)
  refine lv_iconst (v := 0) hx hb d_law_16 (by decide) ?_
  refine lv_istore_n (lv' := [(3, .int 0), (2, .ref (bb 0)), (1, .ref (a 0)), (0, .ref b)]) hx hb d_law_17 rfl hl (by decide) rfl (fun ls hl => ?_)
  refine W.widen (k := 34) (n := 333) (by decide) (by decide) ?_
  exact law_loop hL C0 hKx hKm (L + 1) 0 s0 m0 0 (Nat.zero_le L) (by omega) (Nat.zero_le _) rr0 _ _ _ hP hD hS hl
end
section
set_option maxHeartbeats 4000000 in
theorem lw_walk (l : Launch) (b : Addr) (xs : List Int32) : MetFree l x (headSpec (Jvm.Cond.code x code maxLocals ret :: tables_1) room_1) (lw_P b xs) (fun _ _ _ _ _ => True) lw_Q := by
  refine MetFree.of_bodyS (code := code) (maxLocals := maxLocals) (ret := ret) (by decide) ?_ ?_
  · intro args s m h hn
    obtain ⟨meth, c, h1, h2, h3, h4, h5, h6, -, -⟩ := Cond.code_spec hn (atoms_spec (ws := Jvm.Cond.code x code maxLocals ret :: tables_1) h _ List.mem_cons_self)
    exact ⟨meth, c, h1, h2, h3, h4, h5, h6⟩
  · intro p e s m args below meth c s₁ B hml0 hP _
    obtain ⟨rfl, hx, hbd, hgv⟩ := hP
    obtain ⟨scr, harrAt, hlist, hof, hsmall⟩ := hx
    obtain ⟨hcb, hkn, -, -⟩ := State.arrayAt?_spec harrAt
    have hown : s.vm.findClass R_law = some m.cls := findClass_of_methodNamed B.named
    have hts0 : ∀ c ∈ (Jvm.Cond.code x code maxLocals ret :: tables_1), c.before #[Value.ref b] s = true := atoms_spec (ws := Jvm.Cond.code x code maxLocals ret :: tables_1) B.pre
    have hts : ∀ w ∈ lw_tbl, w.before #[Value.ref b] s = true := k2_hts_sels lw_privs (fun w hw => hts0 w (List.mem_cons_of_mem _ hw)) lw_privs_ok
    have hml : c.maxLocals = 4 := B.maxLocals_eq (hts0 _ List.mem_cons_self)
    have X₀ : Stand p l e room_1 s m #[Value.ref b] below meth c s₁ [] 0 0 := Stand.of_body B
    have hh0 : s₁.heap = s.heap := by rw [B.state]; rfl
    have hsz : scr.slots.size = xs.length := by rw [← Array.length_toList, hlist, List.length_map]
    have hval : ∀ j : Nat, j < xs.length → scr.slots[j]? = some (.int (xs.getD j 0)) := fun j hj => by
      rw [← Array.getElem?_toList, hlist]
      simp [hj]
    have hbl : b < s.heap.size := (Array.getElem?_eq_some_iff.mp hcb).1
    have hX : va_X b xs.length (fun j => xs.getD j 0) s s.heap := ⟨scr, hcb, hof, hkn, hsz, hval⟩
    have K : W p l e room_1 s m #[Value.ref b] below meth c s₁.heap [] 0 0 (lw_Z below #[Value.ref b] s) (entryFrame m ([Value.ref b] : List Value).toArray 4) := by
      rw [hh0]
      exact whole_start l hbd ⟨B.exec, B.bytes, B.returns, hml, hown, hts, hX, hbl, B.notSynchronized, hgv⟩
    obtain ⟨t, a1, o, b1, b2, b3⟩ := K s₁ rfl X₀
    exact ⟨t, o, a1, b1, b2, b3⟩
theorem lw_pre_spec {args : Array Value} {s : State} (h : (Jvm.Cond.and given_1 narrow_1).before args s = true) (hr : rest_1_c.before args s = true) : ∃ (b : Addr) (xs : List Int32), lw_P b xs args s := by
  have hs := flat_of_before _ h
  have hq := flat_of_before _ hr
  have hc : (Cond.count 1).before args s = true := hs _ (by decide +kernel)
  have harr : (Cond.arrayOf (.arg 0) .int).before args s = true := hs _ (by decide +kernel)
  have hle : (Cond.le (.length (.arg 0)) (.int 2560)).before args s = true := hs _ (by decide +kernel)
  have hlen : (Cond.isInt (.length (.arg 0))).before args s = true := hq _ (by decide +kernel)
  have hall : (Cond.all (.arg 0) (.isInt (.elem (.arg 0) (.index 0)))).before args s = true := hq _ (by decide +kernel)
  obtain ⟨b, xs, hb, hx⟩ := State.ints_of_pre rfl harr hlen hall
  have hsm : xs.length < 2 ^ 31 := hx.choose_spec.2.2.2
  have hev : (Term.length (.arg 0)).eval args s none [] s = some (.int xs.length.toInt32) := hx.length_eval hb
  have hv := Cond.le_ints hev (show (Term.int 2560).eval args s none [] s = some (.int 2560) from rfl)
  have hd : xs.length.toInt32 ≤ 2560 := by
    simpa [Cond.before, Cond.holds, hv] using hle
  have hN : xs.length ≤ 2560 := (Int32.ofNat_le_ofNat hsm (by decide)).mp (show Int32.ofNat xs.length ≤ Int32.ofNat 2560 from hd)
  exact ⟨b, xs, Cond.one_arg hc (show args[0]? = some (.ref b) from hb), hx, hN, h⟩
theorem lw_comes (l : Launch) : Comes l x (Jvm.Cond.code x code maxLocals ret :: tables_1) room_1 (fun tb e args s => Calls_1 tb e args s ∧ rest_1 tb e args s ∧ Pre_1 tb e args s)
    (fun _ _ args s o t => lw_Q args s o t) := by
  intro p e ha hc hk s m args below hf hfit hheap happ hpre
  obtain ⟨b, xs, hP⟩ := lw_pre_spec hpre.2.2 hpre.2.1
  obtain ⟨k, o, h1, h2, h3, hQ⟩ := lw_walk l b xs p e ha hc hk s m args below hf ((Spec.applies_iff_loose hf).mp happ).1 hP trivial
  exact ⟨k, o, h1, h2, h3, hQ⟩
theorem lw_frame {s t : State} {o : Outcome} {args : Array Value} (h : Framed s o t [] 600000 7302250) :
    Framed s o t (fieldLocs frame_1_writes args s ++ arrayLocs frame_1_arrays args s ++ staticLocs frame_1_statics s) 600000 7302250 := h
theorem lw_limb (L : Cond) (hL : ∀ (args : Array Value) (s t : State), L.after args s (.returned (some (.int 1))) t = true) :
    ArmFor flags0 classFile x code maxLocals ret World_1 tables_1 room_1 Calls_1 rest_1 Pre_1
      (fun tb e a s o t => postC L tb e a s o t ∧ Framed s o t (fieldLocs frame_1_writes a s ++ arrayLocs frame_1_arrays a s ++ staticLocs frame_1_statics s) 600000 7302250) := by
  intro l _ _ _ p e ha hc hk s m args below hf hfit hheap happ hpre
  obtain ⟨k, o, h1, h2, h3, rfl, hF⟩ := lw_comes l p e ha hc hk s m args below hf hfit hheap happ hpre
  exact ⟨k, _, h1, h2, h3, hL args s _, lw_frame hF⟩
theorem i_vc : Claimed_1_1 ∧ Claimed_1_2 := ⟨lw_limb limb_1_1 (fun args s t => by simp [limb_1_1, Cond.after, Cond.holds, Cond.value]), lw_limb limb_1_2 (fun args s t => Cond.after_iff.mpr (by
  first | (rw [show limb_1_2 = Cond.eq .result (.int 1) from rfl, Cond.eq_ints (x := 1) (y := 1) rfl rfl]; simp; done) | (simp [limb_1_2, Cond.value, Term.eval]; done)))⟩
end
