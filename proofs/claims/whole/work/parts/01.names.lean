-- PART A of the skeleton (a starting text of the kit), then names
-- ===== PART A: goes FIRST, ahead of the names: the tables' words, and 'selects' of the private methods out of them =====
/-- a private method of a class that the tables say can be made, by its rows of tables_1 -/
def lw_okq (q : MethodName × Nat) : Prop := (q.1.cls ≠ "java/lang/invoke/MethodHandle" ∧ q.1.cls ≠ "java/lang/invoke/VarHandle") ∧ Cond.instantiable q.1.cls q.2 ∈ tables_1 ∧ Cond.privateMethod q.1 ∈ tables_1 ∧ Cond.instanceMethod q.1 ∈ tables_1
theorem lw_p0 : lw_okq (⟨"TimerGates", "tick", "()I"⟩, 5) := ⟨⟨by decide +kernel, by decide +kernel⟩, List.mem_of_getElem? (i := 7) (by decide +kernel), List.mem_of_getElem? (i := 169) (by decide +kernel), List.mem_of_getElem? (i := 170) (by decide +kernel)⟩
theorem lw_p1 : lw_okq (⟨"TimerGates", "tickTimers", "()V"⟩, 5) := ⟨⟨by decide +kernel, by decide +kernel⟩, List.mem_of_getElem? (i := 7) (by decide +kernel), List.mem_of_getElem? (i := 173) (by decide +kernel), List.mem_of_getElem? (i := 174) (by decide +kernel)⟩
theorem lw_p2 : lw_okq (⟨"TimerGates$Timer", "countDown", "()Z"⟩, 9) := ⟨⟨by decide +kernel, by decide +kernel⟩, List.mem_of_getElem? (i := 45) (by decide +kernel), List.mem_of_getElem? (i := 177) (by decide +kernel), List.mem_of_getElem? (i := 178) (by decide +kernel)⟩
theorem lw_p3 : lw_okq (⟨"TimerGates", "raise", "(I)V"⟩, 5) := ⟨⟨by decide +kernel, by decide +kernel⟩, List.mem_of_getElem? (i := 7) (by decide +kernel), List.mem_of_getElem? (i := 181) (by decide +kernel), List.mem_of_getElem? (i := 182) (by decide +kernel)⟩
theorem lw_p4 : lw_okq (⟨"TimerGates", "tickGates", "()I"⟩, 5) := ⟨⟨by decide +kernel, by decide +kernel⟩, List.mem_of_getElem? (i := 7) (by decide +kernel), List.mem_of_getElem? (i := 185) (by decide +kernel), List.mem_of_getElem? (i := 186) (by decide +kernel)⟩
theorem lw_p5 : lw_okq (⟨"TimerGates$Gate", "waitEnds", "()Z"⟩, 6) := ⟨⟨by decide +kernel, by decide +kernel⟩, List.mem_of_getElem? (i := 86) (by decide +kernel), List.mem_of_getElem? (i := 189) (by decide +kernel), List.mem_of_getElem? (i := 190) (by decide +kernel)⟩
theorem lw_p6 : lw_okq (⟨"TimerGates", "serve", "(I)Z"⟩, 5) := ⟨⟨by decide +kernel, by decide +kernel⟩, List.mem_of_getElem? (i := 7) (by decide +kernel), List.mem_of_getElem? (i := 193) (by decide +kernel), List.mem_of_getElem? (i := 194) (by decide +kernel)⟩
theorem lw_p7 : lw_okq (⟨"TimerGates$Gate", "asks", "(I)Z"⟩, 6) := ⟨⟨by decide +kernel, by decide +kernel⟩, List.mem_of_getElem? (i := 86) (by decide +kernel), List.mem_of_getElem? (i := 197) (by decide +kernel), List.mem_of_getElem? (i := 198) (by decide +kernel)⟩
theorem lw_p8 : lw_okq (⟨"TimerGates$History", "add", "(III)V"⟩, 6) := ⟨⟨by decide +kernel, by decide +kernel⟩, List.mem_of_getElem? (i := 19) (by decide +kernel), List.mem_of_getElem? (i := 204) (by decide +kernel), List.mem_of_getElem? (i := 205) (by decide +kernel)⟩
theorem lw_p9 : lw_okq (⟨"TimerGates", "wakeGates", "()V"⟩, 5) := ⟨⟨by decide +kernel, by decide +kernel⟩, List.mem_of_getElem? (i := 7) (by decide +kernel), List.mem_of_getElem? (i := 208) (by decide +kernel), List.mem_of_getElem? (i := 209) (by decide +kernel)⟩
theorem lw_p10 : lw_okq (⟨"TimerGates$Timer", "read", "(I)I"⟩, 9) := ⟨⟨by decide +kernel, by decide +kernel⟩, List.mem_of_getElem? (i := 45) (by decide +kernel), List.mem_of_getElem? (i := 220) (by decide +kernel), List.mem_of_getElem? (i := 221) (by decide +kernel)⟩
theorem lw_p11 : lw_okq (⟨"TimerGates$Gate", "read", "(II)I"⟩, 6) := ⟨⟨by decide +kernel, by decide +kernel⟩, List.mem_of_getElem? (i := 86) (by decide +kernel), List.mem_of_getElem? (i := 228) (by decide +kernel), List.mem_of_getElem? (i := 229) (by decide +kernel)⟩
theorem lw_p12 : lw_okq (⟨"TimerGates", "ticksToNextEnd", "()I"⟩, 5) := ⟨⟨by decide +kernel, by decide +kernel⟩, List.mem_of_getElem? (i := 7) (by decide +kernel), List.mem_of_getElem? (i := 237) (by decide +kernel), List.mem_of_getElem? (i := 238) (by decide +kernel)⟩
theorem lw_p13 : lw_okq (⟨"TimerGates$History", "read", "(II)I"⟩, 6) := ⟨⟨by decide +kernel, by decide +kernel⟩, List.mem_of_getElem? (i := 19) (by decide +kernel), List.mem_of_getElem? (i := 245) (by decide +kernel), List.mem_of_getElem? (i := 246) (by decide +kernel)⟩
theorem lw_p14 : lw_okq (⟨"TimerGatesModel", "tick", "()V"⟩, 18) := ⟨⟨by decide +kernel, by decide +kernel⟩, List.mem_of_getElem? (i := 249) (by decide +kernel), List.mem_of_getElem? (i := 334) (by decide +kernel), List.mem_of_getElem? (i := 335) (by decide +kernel)⟩
theorem lw_p15 : lw_okq (⟨"TimerGatesModel", "event", "(I)Z"⟩, 18) := ⟨⟨by decide +kernel, by decide +kernel⟩, List.mem_of_getElem? (i := 249) (by decide +kernel), List.mem_of_getElem? (i := 338) (by decide +kernel), List.mem_of_getElem? (i := 339) (by decide +kernel)⟩
def lw_privs_1 : List (MethodName × Nat) := [(⟨"TimerGates", "tick", "()I"⟩, 5), (⟨"TimerGates", "tickTimers", "()V"⟩, 5), (⟨"TimerGates$Timer", "countDown", "()Z"⟩, 9), (⟨"TimerGates", "raise", "(I)V"⟩, 5), (⟨"TimerGates", "tickGates", "()I"⟩, 5), (⟨"TimerGates$Gate", "waitEnds", "()Z"⟩, 6), (⟨"TimerGates", "serve", "(I)Z"⟩, 5), (⟨"TimerGates$Gate", "asks", "(I)Z"⟩, 6), (⟨"TimerGates$History", "add", "(III)V"⟩, 6), (⟨"TimerGates", "wakeGates", "()V"⟩, 5), (⟨"TimerGates$Timer", "read", "(I)I"⟩, 9), (⟨"TimerGates$Gate", "read", "(II)I"⟩, 6), (⟨"TimerGates", "ticksToNextEnd", "()I"⟩, 5), (⟨"TimerGates$History", "read", "(II)I"⟩, 6), (⟨"TimerGatesModel", "tick", "()V"⟩, 18), (⟨"TimerGatesModel", "event", "(I)Z"⟩, 18)]
theorem lw_r1 : ∀ q ∈ lw_privs_1, lw_okq q := List.forall_mem_cons.mpr ⟨lw_p0, List.forall_mem_cons.mpr ⟨lw_p1, List.forall_mem_cons.mpr ⟨lw_p2, List.forall_mem_cons.mpr ⟨lw_p3, List.forall_mem_cons.mpr ⟨lw_p4, List.forall_mem_cons.mpr ⟨lw_p5, List.forall_mem_cons.mpr ⟨lw_p6, List.forall_mem_cons.mpr ⟨lw_p7, List.forall_mem_cons.mpr ⟨lw_p8, List.forall_mem_cons.mpr ⟨lw_p9, List.forall_mem_cons.mpr ⟨lw_p10, List.forall_mem_cons.mpr ⟨lw_p11, List.forall_mem_cons.mpr ⟨lw_p12, List.forall_mem_cons.mpr ⟨lw_p13, List.forall_mem_cons.mpr ⟨lw_p14, List.forall_mem_cons.mpr ⟨lw_p15, fun _ h => absurd h List.not_mem_nil⟩⟩⟩⟩⟩⟩⟩⟩⟩⟩⟩⟩⟩⟩⟩⟩
theorem lw_p16 : lw_okq (⟨"TimerGatesModel", "serve", "(I)V"⟩, 18) := ⟨⟨by decide +kernel, by decide +kernel⟩, List.mem_of_getElem? (i := 249) (by decide +kernel), List.mem_of_getElem? (i := 342) (by decide +kernel), List.mem_of_getElem? (i := 343) (by decide +kernel)⟩
theorem lw_p17 : lw_okq (⟨"TimerGatesModel", "asks", "(I)Z"⟩, 18) := ⟨⟨by decide +kernel, by decide +kernel⟩, List.mem_of_getElem? (i := 249) (by decide +kernel), List.mem_of_getElem? (i := 346) (by decide +kernel), List.mem_of_getElem? (i := 347) (by decide +kernel)⟩
def lw_privs_2 : List (MethodName × Nat) := [(⟨"TimerGatesModel", "serve", "(I)V"⟩, 18), (⟨"TimerGatesModel", "asks", "(I)Z"⟩, 18)]
theorem lw_r2 : ∀ q ∈ lw_privs_2, lw_okq q := List.forall_mem_cons.mpr ⟨lw_p16, List.forall_mem_cons.mpr ⟨lw_p17, fun _ h => absurd h List.not_mem_nil⟩⟩
def lw_privs : List (MethodName × Nat) := lw_privs_1 ++ (lw_privs_2)
def lw_tbl : List Cond := k2_sels lw_privs ++ tables_1
theorem lw_privs_ok : ∀ q ∈ lw_privs, lw_okq q := by
  show ∀ q ∈ lw_privs_1 ++ (lw_privs_2), lw_okq q
  exact List.forall_mem_append.mpr ⟨lw_r1, lw_r2⟩

def BIG : List Cond := lw_tbl.filter goodWord
def isNest (w : Cond) : Bool := match w with
  | .fieldLinkNest _ _ _ _ _ _ => true
  | .methodLinkNest _ _ _ _ => true
  | .arrayOver (.object _) => true
  | _ => false
def NESTS : List Cond := lw_tbl.filter isNest
theorem big_at {w : Cond} (i : Nat) (h : lw_tbl[i]? = some w) (hg : goodWord w = true) : w ∈ BIG := List.mem_filter.mpr ⟨List.mem_of_getElem? h, hg⟩
theorem nest_at {w : Cond} (i : Nat) (h : lw_tbl[i]? = some w) (hg : isNest w = true) : w ∈ NESTS := List.mem_filter.mpr ⟨List.mem_of_getElem? h, hg⟩
theorem BIG_in {w : Cond} (h : w ∈ BIG) : w ∈ lw_tbl := (List.mem_filter.mp h).1
theorem BIG_good {w : Cond} (h : w ∈ BIG) : goodWord w = true := (List.mem_filter.mp h).2
theorem NESTS_in {w : Cond} (h : w ∈ NESTS) : w ∈ lw_tbl := (List.mem_filter.mp h).1
theorem NESTS_ok : ∀ w ∈ NESTS, isNest w = true := fun _ h => (List.mem_filter.mp h).2
def R_G : String := "TimerGates$Gate"
def F_G : u_T := fun k => match k with
  | 0 => ("TimerGates$Gate", "mask", "I", false)
  | 1 => ("TimerGates$Gate", "delay", "I", false)
  | 2 => ("TimerGates$Gate", "toWait", "I", false)
  | 3 => ("TimerGates$Gate", "bitsServed", "I", false)
  | 4 => ("TimerGates$Gate", "timesIdle", "I", false)
  | _ => ("TimerGates$Gate", "latest", "I", false)
def ft_G : Nat → FieldType := fun k => match k with
  | 0 => .int
  | 1 => .int
  | 2 => .int
  | 3 => .int
  | 4 => .int
  | _ => .int
theorem n_G : ∀ a, a < 6 → ∀ b, b < 6 → a ≠ b → (F_G a).2.1 ≠ (F_G b).2.1 := by decide +kernel
theorem ft_G_ok : ∀ k, k < 6 → parseFieldDescriptor (F_G k).2.2.1 = some (ft_G k) := by decide +kernel
theorem i_G : ∀ w ∈ u_ws R_G F_G 6, w ∈ BIG := by decide +kernel
theorem inst_G : Cond.instantiable R_G 6 ∈ BIG := big_at 104 (by decide +kernel) (by decide +kernel)
theorem ini_G : Cond.initialized R_G ∈ BIG := big_at 22 (by decide +kernel) (by decide +kernel)
def R_H : String := "TimerGates$History"
def F_H : u_T := fun k => match k with
  | 0 => ("TimerGates$History", "bits", "[I", true)
  | 1 => ("TimerGates$History", "servers", "[I", true)
  | 2 => ("TimerGates$History", "times", "[I", true)
  | 3 => ("TimerGates$History", "total", "I", false)
  | 4 => ("TimerGates$History", "filled", "I", false)
  | _ => ("TimerGates$History", "place", "I", false)
def ft_H : Nat → FieldType := fun k => match k with
  | 0 => .array (.int)
  | 1 => .array (.int)
  | 2 => .array (.int)
  | 3 => .int
  | 4 => .int
  | _ => .int
theorem n_H : ∀ a, a < 6 → ∀ b, b < 6 → a ≠ b → (F_H a).2.1 ≠ (F_H b).2.1 := by decide +kernel
theorem ft_H_ok : ∀ k, k < 6 → parseFieldDescriptor (F_H k).2.2.1 = some (ft_H k) := by decide +kernel
theorem i_H : ∀ w ∈ u_ws R_H F_H 6, w ∈ BIG := by decide +kernel
theorem inst_H : Cond.instantiable R_H 6 ∈ BIG := big_at 37 (by decide +kernel) (by decide +kernel)
theorem ini_H : Cond.initialized R_H ∈ BIG := big_at 20 (by decide +kernel) (by decide +kernel)
def R_T : String := "TimerGates$Timer"
def F_T : u_T := fun k => match k with
  | 0 => ("TimerGates$Timer", "period", "I", false)
  | 1 => ("TimerGates$Timer", "count", "I", false)
  | 2 => ("TimerGates$Timer", "source", "I", false)
  | 3 => ("TimerGates$Timer", "once", "Z", false)
  | 4 => ("TimerGates$Timer", "runs", "Z", false)
  | 5 => ("TimerGates$Timer", "timesEnded", "I", false)
  | 6 => ("TimerGates$Timer", "timesMissed", "I", false)
  | 7 => ("TimerGates$Timer", "timesServed", "I", false)
  | _ => ("TimerGates$Timer", "timesCleared", "I", false)
def ft_T : Nat → FieldType := fun k => match k with
  | 0 => .int
  | 1 => .int
  | 2 => .int
  | 3 => .boolean
  | 4 => .boolean
  | 5 => .int
  | 6 => .int
  | 7 => .int
  | _ => .int
theorem n_T : ∀ a, a < 9 → ∀ b, b < 9 → a ≠ b → (F_T a).2.1 ≠ (F_T b).2.1 := by decide +kernel
theorem ft_T_ok : ∀ k, k < 9 → parseFieldDescriptor (F_T k).2.2.1 = some (ft_T k) := by decide +kernel
theorem i_T : ∀ w ∈ u_ws R_T F_T 9, w ∈ BIG := by decide +kernel
theorem inst_T : Cond.instantiable R_T 9 ∈ BIG := big_at 63 (by decide +kernel) (by decide +kernel)
theorem ini_T : Cond.initialized R_T ∈ BIG := big_at 21 (by decide +kernel) (by decide +kernel)
def R_X : String := "TimerGates"
def F_X : u_T := fun k => match k with
  | 0 => ("TimerGates", "timers", "[LTimerGates$Timer;", true)
  | 1 => ("TimerGates", "gates", "[LTimerGates$Gate;", true)
  | 2 => ("TimerGates", "history", "LTimerGates$History;", true)
  | 3 => ("TimerGates", "status", "I", false)
  | _ => ("TimerGates", "now", "I", false)
def ft_X : Nat → FieldType := fun k => match k with
  | 0 => .array (.object "TimerGates$Timer")
  | 1 => .array (.object "TimerGates$Gate")
  | 2 => .object "TimerGates$History"
  | 3 => .int
  | _ => .int
theorem n_X : ∀ a, a < 5 → ∀ b, b < 5 → a ≠ b → (F_X a).2.1 ≠ (F_X b).2.1 := by decide +kernel
theorem ft_X_ok : ∀ k, k < 5 → parseFieldDescriptor (F_X k).2.2.1 = some (ft_X k) := by decide +kernel
theorem i_X : ∀ w ∈ u_ws R_X F_X 5, w ∈ BIG := by decide +kernel
theorem inst_X : Cond.instantiable R_X 5 ∈ BIG := big_at 25 (by decide +kernel) (by decide +kernel)
theorem ini_X : Cond.initialized R_X ∈ BIG := big_at 19 (by decide +kernel) (by decide +kernel)
def R_M : String := "TimerGatesModel"
def F_M : u_T := fun k => match k with
  | 0 => ("TimerGatesModel", "thrown", "I", false)
  | 1 => ("TimerGatesModel", "now", "I", false)
  | 2 => ("TimerGatesModel", "status", "I", false)
  | 3 => ("TimerGatesModel", "served", "I", false)
  | 4 => ("TimerGatesModel", "period", "[I", true)
  | 5 => ("TimerGatesModel", "count", "[I", true)
  | 6 => ("TimerGatesModel", "source", "[I", true)
  | 7 => ("TimerGatesModel", "once", "[Z", true)
  | 8 => ("TimerGatesModel", "runs", "[Z", true)
  | 9 => ("TimerGatesModel", "often", "[I", true)
  | 10 => ("TimerGatesModel", "mask", "[I", true)
  | 11 => ("TimerGatesModel", "delay", "[I", true)
  | 12 => ("TimerGatesModel", "waits", "[I", true)
  | 13 => ("TimerGatesModel", "done", "[Z", true)
  | 14 => ("TimerGatesModel", "servedBy", "[I", true)
  | 15 => ("TimerGatesModel", "idle", "[I", true)
  | 16 => ("TimerGatesModel", "latest", "[I", true)
  | _ => ("TimerGatesModel", "row", "[I", true)
def ft_M : Nat → FieldType := fun k => match k with
  | 0 => .int
  | 1 => .int
  | 2 => .int
  | 3 => .int
  | 4 => .array (.int)
  | 5 => .array (.int)
  | 6 => .array (.int)
  | 7 => .array (.boolean)
  | 8 => .array (.boolean)
  | 9 => .array (.int)
  | 10 => .array (.int)
  | 11 => .array (.int)
  | 12 => .array (.int)
  | 13 => .array (.boolean)
  | 14 => .array (.int)
  | 15 => .array (.int)
  | 16 => .array (.int)
  | _ => .array (.int)
theorem n_M : ∀ a, a < 18 → ∀ b, b < 18 → a ≠ b → (F_M a).2.1 ≠ (F_M b).2.1 := by decide +kernel
theorem ft_M_ok : ∀ k, k < 18 → parseFieldDescriptor (F_M k).2.2.1 = some (ft_M k) := by decide +kernel
theorem i_M : ∀ w ∈ u_ws R_M F_M 18, w ∈ BIG := by decide +kernel
theorem inst_M : Cond.instantiable R_M 18 ∈ BIG := big_at 267 (by decide +kernel) (by decide +kernel)
theorem ini_M : Cond.initialized R_M ∈ BIG := big_at 23 (by decide +kernel) (by decide +kernel)
abbrev classes : List vw_C := [(R_X, F_X, 5), (R_H, F_H, 6), (R_T, F_T, 9), (R_G, F_G, 6), (R_M, F_M, 18)]
def R_law : String := "TimerGatesLaw"
theorem over_T : Cond.arrayOver (.object R_T) ∈ NESTS := nest_at 33 (by decide +kernel) (by decide +kernel)
theorem over_G : Cond.arrayOver (.object R_G) ∈ NESTS := nest_at 35 (by decide +kernel) (by decide +kernel)
theorem arr_int : Cond.arrayClass .int ∈ BIG := big_at 62 (by decide +kernel) (by decide +kernel)
theorem arr_boolean : Cond.arrayClass .boolean ∈ BIG := big_at 326 (by decide +kernel) (by decide +kernel)
abbrev b_Xinit : ByteArray := prog_1_method_1_code
def y_Xinit : MethodName := ⟨R_X, "<init>", "()V"⟩
abbrev rm_Xinit : Room := { frames := 2, cells := 18, slots := 162, locals := 40 }
theorem ok_Xinit : Cond.code y_Xinit b_Xinit 2 none ∈ BIG ∧ Cond.initialized y_Xinit.cls ∈ BIG ∧ y_Xinit.cls ≠ "java/lang/invoke/MethodHandle" ∧ y_Xinit.cls ≠ "java/lang/invoke/VarHandle" ∧ (parseMethodDescriptor y_Xinit.desc).map (fun d => d.parameters.length) = some 0 := ⟨big_at 28 (by decide +kernel) (by decide +kernel), ini_X, by decide +kernel, by decide +kernel, by decide +kernel⟩
theorem oi_Xinit : Cond.instanceMethod y_Xinit ∈ BIG := big_at 27 (by decide +kernel) (by decide +kernel)
abbrev b_set : ByteArray := prog_1_method_2_code
def y_set : MethodName := ⟨R_X, "set", "(IIIZ)Z"⟩
abbrev rm_set : Room := { frames := 1, cells := 0, slots := 0, locals := 21 }
theorem ok_set : Cond.code y_set b_set 6 (some .boolean) ∈ BIG ∧ Cond.initialized y_set.cls ∈ BIG ∧ y_set.cls ≠ "java/lang/invoke/MethodHandle" ∧ y_set.cls ≠ "java/lang/invoke/VarHandle" ∧ (parseMethodDescriptor y_set.desc).map (fun d => d.parameters.length) = some 4 := ⟨big_at 153 (by decide +kernel) (by decide +kernel), ini_X, by decide +kernel, by decide +kernel, by decide +kernel⟩
theorem io_set : Cond.instanceMethod y_set ∈ BIG ∧ Cond.selects y_set.cls y_set y_set ∈ BIG := ⟨big_at 151 (by decide +kernel) (by decide +kernel), big_at 152 (by decide +kernel) (by decide +kernel)⟩
abbrev b_turn : ByteArray := prog_1_method_3_code
def y_turn : MethodName := ⟨R_X, "turn", "(IZ)Z"⟩
abbrev rm_turn : Room := { frames := 1, cells := 0, slots := 0, locals := 20 }
theorem ok_turn : Cond.code y_turn b_turn 3 (some .boolean) ∈ BIG ∧ Cond.initialized y_turn.cls ∈ BIG ∧ y_turn.cls ≠ "java/lang/invoke/MethodHandle" ∧ y_turn.cls ≠ "java/lang/invoke/VarHandle" ∧ (parseMethodDescriptor y_turn.desc).map (fun d => d.parameters.length) = some 2 := ⟨big_at 164 (by decide +kernel) (by decide +kernel), ini_X, by decide +kernel, by decide +kernel, by decide +kernel⟩
theorem io_turn : Cond.instanceMethod y_turn ∈ BIG ∧ Cond.selects y_turn.cls y_turn y_turn ∈ BIG := ⟨big_at 162 (by decide +kernel) (by decide +kernel), big_at 163 (by decide +kernel) (by decide +kernel)⟩
abbrev b_gate : ByteArray := prog_1_method_4_code
def y_gate : MethodName := ⟨R_X, "gate", "(III)Z"⟩
abbrev rm_gate : Room := { frames := 1, cells := 0, slots := 0, locals := 20 }
theorem ok_gate : Cond.code y_gate b_gate 4 (some .boolean) ∈ BIG ∧ Cond.initialized y_gate.cls ∈ BIG ∧ y_gate.cls ≠ "java/lang/invoke/MethodHandle" ∧ y_gate.cls ≠ "java/lang/invoke/VarHandle" ∧ (parseMethodDescriptor y_gate.desc).map (fun d => d.parameters.length) = some 3 := ⟨big_at 168 (by decide +kernel) (by decide +kernel), ini_X, by decide +kernel, by decide +kernel, by decide +kernel⟩
theorem io_gate : Cond.instanceMethod y_gate ∈ BIG ∧ Cond.selects y_gate.cls y_gate y_gate ∈ BIG := ⟨big_at 166 (by decide +kernel) (by decide +kernel), big_at 167 (by decide +kernel) (by decide +kernel)⟩
abbrev b_clear : ByteArray := prog_1_method_5_code
def y_clear : MethodName := ⟨R_X, "clear", "(I)I"⟩
abbrev rm_clear : Room := { frames := 1, cells := 0, slots := 0, locals := 20 }
theorem ok_clear : Cond.code y_clear b_clear 4 (some .int) ∈ BIG ∧ Cond.initialized y_clear.cls ∈ BIG ∧ y_clear.cls ≠ "java/lang/invoke/MethodHandle" ∧ y_clear.cls ≠ "java/lang/invoke/VarHandle" ∧ (parseMethodDescriptor y_clear.desc).map (fun d => d.parameters.length) = some 1 := ⟨big_at 178 (by decide +kernel) (by decide +kernel), ini_X, by decide +kernel, by decide +kernel, by decide +kernel⟩
theorem io_clear : Cond.instanceMethod y_clear ∈ BIG ∧ Cond.selects y_clear.cls y_clear y_clear ∈ BIG := ⟨big_at 176 (by decide +kernel) (by decide +kernel), big_at 177 (by decide +kernel) (by decide +kernel)⟩
abbrev b_advance : ByteArray := prog_1_method_6_code
def y_advance : MethodName := ⟨R_X, "advance", "(I)I"⟩
abbrev rm_advance : Room := { frames := 4, cells := 0, slots := 0, locals := 89 }
theorem ok_advance : Cond.code y_advance b_advance 4 (some .int) ∈ BIG ∧ Cond.initialized y_advance.cls ∈ BIG ∧ y_advance.cls ≠ "java/lang/invoke/MethodHandle" ∧ y_advance.cls ≠ "java/lang/invoke/VarHandle" ∧ (parseMethodDescriptor y_advance.desc).map (fun d => d.parameters.length) = some 1 := ⟨big_at 182 (by decide +kernel) (by decide +kernel), ini_X, by decide +kernel, by decide +kernel, by decide +kernel⟩
theorem io_advance : Cond.instanceMethod y_advance ∈ BIG ∧ Cond.selects y_advance.cls y_advance y_advance ∈ BIG := ⟨big_at 180 (by decide +kernel) (by decide +kernel), big_at 181 (by decide +kernel) (by decide +kernel)⟩
abbrev b_next : ByteArray := prog_1_method_7_code
def y_next : MethodName := ⟨R_X, "next", "(I)I"⟩
abbrev rm_next : Room := { frames := 4, cells := 0, slots := 0, locals := 89 }
theorem ok_next : Cond.code y_next b_next 3 (some .int) ∈ BIG ∧ Cond.initialized y_next.cls ∈ BIG ∧ y_next.cls ≠ "java/lang/invoke/MethodHandle" ∧ y_next.cls ≠ "java/lang/invoke/VarHandle" ∧ (parseMethodDescriptor y_next.desc).map (fun d => d.parameters.length) = some 1 := ⟨big_at 232 (by decide +kernel) (by decide +kernel), ini_X, by decide +kernel, by decide +kernel, by decide +kernel⟩
theorem io_next : Cond.instanceMethod y_next ∈ BIG ∧ Cond.selects y_next.cls y_next y_next ∈ BIG := ⟨big_at 230 (by decide +kernel) (by decide +kernel), big_at 231 (by decide +kernel) (by decide +kernel)⟩
abbrev b_timer : ByteArray := prog_1_method_8_code
def y_timer : MethodName := ⟨R_X, "timer", "(II)I"⟩
abbrev rm_timer : Room := { frames := 1, cells := 0, slots := 0, locals := 21 }
theorem ok_timer : Cond.code y_timer b_timer 3 (some .int) ∈ BIG ∧ Cond.initialized y_timer.cls ∈ BIG ∧ y_timer.cls ≠ "java/lang/invoke/MethodHandle" ∧ y_timer.cls ≠ "java/lang/invoke/VarHandle" ∧ (parseMethodDescriptor y_timer.desc).map (fun d => d.parameters.length) = some 2 := ⟨big_at 236 (by decide +kernel) (by decide +kernel), ini_X, by decide +kernel, by decide +kernel, by decide +kernel⟩
theorem io_timer : Cond.instanceMethod y_timer ∈ BIG ∧ Cond.selects y_timer.cls y_timer y_timer ∈ BIG := ⟨big_at 234 (by decide +kernel) (by decide +kernel), big_at 235 (by decide +kernel) (by decide +kernel)⟩
abbrev b_gateOf : ByteArray := prog_1_method_9_code
def y_gateOf : MethodName := ⟨R_X, "gateOf", "(II)I"⟩
abbrev rm_gateOf : Room := { frames := 2, cells := 0, slots := 0, locals := 43 }
theorem ok_gateOf : Cond.code y_gateOf b_gateOf 3 (some .int) ∈ BIG ∧ Cond.initialized y_gateOf.cls ∈ BIG ∧ y_gateOf.cls ≠ "java/lang/invoke/MethodHandle" ∧ y_gateOf.cls ≠ "java/lang/invoke/VarHandle" ∧ (parseMethodDescriptor y_gateOf.desc).map (fun d => d.parameters.length) = some 2 := ⟨big_at 244 (by decide +kernel) (by decide +kernel), ini_X, by decide +kernel, by decide +kernel, by decide +kernel⟩
theorem io_gateOf : Cond.instanceMethod y_gateOf ∈ BIG ∧ Cond.selects y_gateOf.cls y_gateOf y_gateOf ∈ BIG := ⟨big_at 242 (by decide +kernel) (by decide +kernel), big_at 243 (by decide +kernel) (by decide +kernel)⟩
abbrev b_look : ByteArray := prog_1_method_10_code
def y_look : MethodName := ⟨R_X, "look", "(I)I"⟩
abbrev rm_look : Room := { frames := 1, cells := 0, slots := 0, locals := 24 }
theorem ok_look : Cond.code y_look b_look 2 (some .int) ∈ BIG ∧ Cond.initialized y_look.cls ∈ BIG ∧ y_look.cls ≠ "java/lang/invoke/MethodHandle" ∧ y_look.cls ≠ "java/lang/invoke/VarHandle" ∧ (parseMethodDescriptor y_look.desc).map (fun d => d.parameters.length) = some 1 := ⟨big_at 253 (by decide +kernel) (by decide +kernel), ini_X, by decide +kernel, by decide +kernel, by decide +kernel⟩
theorem io_look : Cond.instanceMethod y_look ∈ BIG ∧ Cond.selects y_look.cls y_look y_look ∈ BIG := ⟨big_at 251 (by decide +kernel) (by decide +kernel), big_at 252 (by decide +kernel) (by decide +kernel)⟩
abbrev b_served : ByteArray := prog_1_method_11_code
def y_served : MethodName := ⟨R_X, "served", "(II)I"⟩
abbrev rm_served : Room := { frames := 1, cells := 0, slots := 0, locals := 23 }
theorem ok_served : Cond.code y_served b_served 3 (some .int) ∈ BIG ∧ Cond.initialized y_served.cls ∈ BIG ∧ y_served.cls ≠ "java/lang/invoke/MethodHandle" ∧ y_served.cls ≠ "java/lang/invoke/VarHandle" ∧ (parseMethodDescriptor y_served.desc).map (fun d => d.parameters.length) = some 2 := ⟨big_at 261 (by decide +kernel) (by decide +kernel), ini_X, by decide +kernel, by decide +kernel, by decide +kernel⟩
theorem io_served : Cond.instanceMethod y_served ∈ BIG ∧ Cond.selects y_served.cls y_served y_served ∈ BIG := ⟨big_at 259 (by decide +kernel) (by decide +kernel), big_at 260 (by decide +kernel) (by decide +kernel)⟩
abbrev b_isTimer : ByteArray := prog_1_method_12_code
def y_isTimer : MethodName := ⟨R_X, "isTimer", "(I)Z"⟩
abbrev rm_isTimer : Room := { frames := 0, cells := 0, slots := 0, locals := 0 }
theorem ok_isTimer : Cond.code y_isTimer b_isTimer 1 (some .boolean) ∈ BIG ∧ Cond.initialized y_isTimer.cls ∈ BIG ∧ y_isTimer.cls ≠ "java/lang/invoke/MethodHandle" ∧ y_isTimer.cls ≠ "java/lang/invoke/VarHandle" ∧ (parseMethodDescriptor y_isTimer.desc).map (fun d => d.parameters.length) = some 1 := ⟨big_at 156 (by decide +kernel) (by decide +kernel), ini_X, by decide +kernel, by decide +kernel, by decide +kernel⟩
theorem so_isTimer : Cond.static y_isTimer ∈ BIG := big_at 155 (by decide +kernel) (by decide +kernel)
abbrev b_isGate : ByteArray := prog_1_method_13_code
def y_isGate : MethodName := ⟨R_X, "isGate", "(I)Z"⟩
abbrev rm_isGate : Room := { frames := 0, cells := 0, slots := 0, locals := 0 }
theorem ok_isGate : Cond.code y_isGate b_isGate 1 (some .boolean) ∈ BIG ∧ Cond.initialized y_isGate.cls ∈ BIG ∧ y_isGate.cls ≠ "java/lang/invoke/MethodHandle" ∧ y_isGate.cls ≠ "java/lang/invoke/VarHandle" ∧ (parseMethodDescriptor y_isGate.desc).map (fun d => d.parameters.length) = some 1 := ⟨big_at 171 (by decide +kernel) (by decide +kernel), ini_X, by decide +kernel, by decide +kernel, by decide +kernel⟩
theorem so_isGate : Cond.static y_isGate ∈ BIG := big_at 170 (by decide +kernel) (by decide +kernel)
abbrev b_isSource : ByteArray := prog_1_method_14_code
def y_isSource : MethodName := ⟨R_X, "isSource", "(II)Z"⟩
abbrev rm_isSource : Room := { frames := 0, cells := 0, slots := 0, locals := 0 }
theorem ok_isSource : Cond.code y_isSource b_isSource 2 (some .boolean) ∈ BIG ∧ Cond.initialized y_isSource.cls ∈ BIG ∧ y_isSource.cls ≠ "java/lang/invoke/MethodHandle" ∧ y_isSource.cls ≠ "java/lang/invoke/VarHandle" ∧ (parseMethodDescriptor y_isSource.desc).map (fun d => d.parameters.length) = some 2 := ⟨big_at 159 (by decide +kernel) (by decide +kernel), ini_X, by decide +kernel, by decide +kernel, by decide +kernel⟩
theorem so_isSource : Cond.static y_isSource ∈ BIG := big_at 158 (by decide +kernel) (by decide +kernel)
abbrev b_isBitSet : ByteArray := prog_1_method_15_code
def y_isBitSet : MethodName := ⟨R_X, "isBitSet", "(I)Z"⟩
abbrev rm_isBitSet : Room := { frames := 0, cells := 0, slots := 0, locals := 0 }
theorem ok_isBitSet : Cond.code y_isBitSet b_isBitSet 1 (some .boolean) ∈ BIG ∧ Cond.initialized y_isBitSet.cls ∈ BIG ∧ y_isBitSet.cls ≠ "java/lang/invoke/MethodHandle" ∧ y_isBitSet.cls ≠ "java/lang/invoke/VarHandle" ∧ (parseMethodDescriptor y_isBitSet.desc).map (fun d => d.parameters.length) = some 1 := ⟨big_at 174 (by decide +kernel) (by decide +kernel), ini_X, by decide +kernel, by decide +kernel, by decide +kernel⟩
theorem so_isBitSet : Cond.static y_isBitSet ∈ BIG := big_at 173 (by decide +kernel) (by decide +kernel)
abbrev b_isTickCount : ByteArray := prog_1_method_16_code
def y_isTickCount : MethodName := ⟨R_X, "isTickCount", "(I)Z"⟩
abbrev rm_isTickCount : Room := { frames := 0, cells := 0, slots := 0, locals := 0 }
theorem ok_isTickCount : Cond.code y_isTickCount b_isTickCount 1 (some .boolean) ∈ BIG ∧ Cond.initialized y_isTickCount.cls ∈ BIG ∧ y_isTickCount.cls ≠ "java/lang/invoke/MethodHandle" ∧ y_isTickCount.cls ≠ "java/lang/invoke/VarHandle" ∧ (parseMethodDescriptor y_isTickCount.desc).map (fun d => d.parameters.length) = some 1 := ⟨big_at 185 (by decide +kernel) (by decide +kernel), ini_X, by decide +kernel, by decide +kernel, by decide +kernel⟩
theorem so_isTickCount : Cond.static y_isTickCount ∈ BIG := big_at 184 (by decide +kernel) (by decide +kernel)
abbrev b_tick : ByteArray := prog_1_method_17_code
def y_tick : MethodName := ⟨R_X, "tick", "()I"⟩
abbrev rm_tick : Room := { frames := 3, cells := 0, slots := 0, locals := 68 }
theorem ok_tick : Cond.code y_tick b_tick 2 (some .int) ∈ BIG ∧ Cond.initialized y_tick.cls ∈ BIG ∧ y_tick.cls ≠ "java/lang/invoke/MethodHandle" ∧ y_tick.cls ≠ "java/lang/invoke/VarHandle" ∧ (parseMethodDescriptor y_tick.desc).map (fun d => d.parameters.length) = some 0 := ⟨big_at 189 (by decide +kernel) (by decide +kernel), ini_X, by decide +kernel, by decide +kernel, by decide +kernel⟩
theorem io_tick : Cond.instanceMethod y_tick ∈ BIG ∧ Cond.selects y_tick.cls y_tick y_tick ∈ BIG := ⟨big_at 188 (by decide +kernel) (by decide +kernel), big_at 0 (by decide +kernel) (by decide +kernel)⟩
abbrev b_tickTimers : ByteArray := prog_1_method_18_code
def y_tickTimers : MethodName := ⟨R_X, "tickTimers", "()V"⟩
abbrev rm_tickTimers : Room := { frames := 1, cells := 0, slots := 0, locals := 22 }
theorem ok_tickTimers : Cond.code y_tickTimers b_tickTimers 5 none ∈ BIG ∧ Cond.initialized y_tickTimers.cls ∈ BIG ∧ y_tickTimers.cls ≠ "java/lang/invoke/MethodHandle" ∧ y_tickTimers.cls ≠ "java/lang/invoke/VarHandle" ∧ (parseMethodDescriptor y_tickTimers.desc).map (fun d => d.parameters.length) = some 0 := ⟨big_at 193 (by decide +kernel) (by decide +kernel), ini_X, by decide +kernel, by decide +kernel, by decide +kernel⟩
theorem io_tickTimers : Cond.instanceMethod y_tickTimers ∈ BIG ∧ Cond.selects y_tickTimers.cls y_tickTimers y_tickTimers ∈ BIG := ⟨big_at 192 (by decide +kernel) (by decide +kernel), big_at 1 (by decide +kernel) (by decide +kernel)⟩
abbrev b_raise : ByteArray := prog_1_method_19_code
def y_raise : MethodName := ⟨R_X, "raise", "(I)V"⟩
abbrev rm_raise : Room := { frames := 0, cells := 0, slots := 0, locals := 0 }
theorem ok_raise : Cond.code y_raise b_raise 3 none ∈ BIG ∧ Cond.initialized y_raise.cls ∈ BIG ∧ y_raise.cls ≠ "java/lang/invoke/MethodHandle" ∧ y_raise.cls ≠ "java/lang/invoke/VarHandle" ∧ (parseMethodDescriptor y_raise.desc).map (fun d => d.parameters.length) = some 1 := ⟨big_at 201 (by decide +kernel) (by decide +kernel), ini_X, by decide +kernel, by decide +kernel, by decide +kernel⟩
theorem io_raise : Cond.instanceMethod y_raise ∈ BIG ∧ Cond.selects y_raise.cls y_raise y_raise ∈ BIG := ⟨big_at 200 (by decide +kernel) (by decide +kernel), big_at 3 (by decide +kernel) (by decide +kernel)⟩
abbrev b_tickGates : ByteArray := prog_1_method_20_code
def y_tickGates : MethodName := ⟨R_X, "tickGates", "()I"⟩
abbrev rm_tickGates : Room := { frames := 2, cells := 0, slots := 0, locals := 46 }
theorem ok_tickGates : Cond.code y_tickGates b_tickGates 3 (some .int) ∈ BIG ∧ Cond.initialized y_tickGates.cls ∈ BIG ∧ y_tickGates.cls ≠ "java/lang/invoke/MethodHandle" ∧ y_tickGates.cls ≠ "java/lang/invoke/VarHandle" ∧ (parseMethodDescriptor y_tickGates.desc).map (fun d => d.parameters.length) = some 0 := ⟨big_at 205 (by decide +kernel) (by decide +kernel), ini_X, by decide +kernel, by decide +kernel, by decide +kernel⟩
theorem io_tickGates : Cond.instanceMethod y_tickGates ∈ BIG ∧ Cond.selects y_tickGates.cls y_tickGates y_tickGates ∈ BIG := ⟨big_at 204 (by decide +kernel) (by decide +kernel), big_at 4 (by decide +kernel) (by decide +kernel)⟩
abbrev b_serve : ByteArray := prog_1_method_21_code
def y_serve : MethodName := ⟨R_X, "serve", "(I)Z"⟩
abbrev rm_serve : Room := { frames := 1, cells := 0, slots := 0, locals := 23 }
theorem ok_serve : Cond.code y_serve b_serve 4 (some .boolean) ∈ BIG ∧ Cond.initialized y_serve.cls ∈ BIG ∧ y_serve.cls ≠ "java/lang/invoke/MethodHandle" ∧ y_serve.cls ≠ "java/lang/invoke/VarHandle" ∧ (parseMethodDescriptor y_serve.desc).map (fun d => d.parameters.length) = some 1 := ⟨big_at 213 (by decide +kernel) (by decide +kernel), ini_X, by decide +kernel, by decide +kernel, by decide +kernel⟩
theorem io_serve : Cond.instanceMethod y_serve ∈ BIG ∧ Cond.selects y_serve.cls y_serve y_serve ∈ BIG := ⟨big_at 212 (by decide +kernel) (by decide +kernel), big_at 6 (by decide +kernel) (by decide +kernel)⟩
abbrev b_leastBit : ByteArray := prog_1_method_22_code
def y_leastBit : MethodName := ⟨R_X, "leastBit", "(I)I"⟩
abbrev rm_leastBit : Room := { frames := 0, cells := 0, slots := 0, locals := 0 }
theorem ok_leastBit : Cond.code y_leastBit b_leastBit 2 (some .int) ∈ BIG ∧ Cond.initialized y_leastBit.cls ∈ BIG ∧ y_leastBit.cls ≠ "java/lang/invoke/MethodHandle" ∧ y_leastBit.cls ≠ "java/lang/invoke/VarHandle" ∧ (parseMethodDescriptor y_leastBit.desc).map (fun d => d.parameters.length) = some 1 := ⟨big_at 220 (by decide +kernel) (by decide +kernel), ini_X, by decide +kernel, by decide +kernel, by decide +kernel⟩
theorem so_leastBit : Cond.static y_leastBit ∈ BIG := big_at 219 (by decide +kernel) (by decide +kernel)
abbrev b_wakeGates : ByteArray := prog_1_method_23_code
def y_wakeGates : MethodName := ⟨R_X, "wakeGates", "()V"⟩
abbrev rm_wakeGates : Room := { frames := 1, cells := 0, slots := 0, locals := 21 }
theorem ok_wakeGates : Cond.code y_wakeGates b_wakeGates 3 none ∈ BIG ∧ Cond.initialized y_wakeGates.cls ∈ BIG ∧ y_wakeGates.cls ≠ "java/lang/invoke/MethodHandle" ∧ y_wakeGates.cls ≠ "java/lang/invoke/VarHandle" ∧ (parseMethodDescriptor y_wakeGates.desc).map (fun d => d.parameters.length) = some 0 := ⟨big_at 228 (by decide +kernel) (by decide +kernel), ini_X, by decide +kernel, by decide +kernel, by decide +kernel⟩
theorem io_wakeGates : Cond.instanceMethod y_wakeGates ∈ BIG ∧ Cond.selects y_wakeGates.cls y_wakeGates y_wakeGates ∈ BIG := ⟨big_at 227 (by decide +kernel) (by decide +kernel), big_at 9 (by decide +kernel) (by decide +kernel)⟩
abbrev b_ticksToNextEnd : ByteArray := prog_1_method_24_code
def y_ticksToNextEnd : MethodName := ⟨R_X, "ticksToNextEnd", "()I"⟩
abbrev rm_ticksToNextEnd : Room := { frames := 0, cells := 0, slots := 0, locals := 0 }
theorem ok_ticksToNextEnd : Cond.code y_ticksToNextEnd b_ticksToNextEnd 5 (some .int) ∈ BIG ∧ Cond.initialized y_ticksToNextEnd.cls ∈ BIG ∧ y_ticksToNextEnd.cls ≠ "java/lang/invoke/MethodHandle" ∧ y_ticksToNextEnd.cls ≠ "java/lang/invoke/VarHandle" ∧ (parseMethodDescriptor y_ticksToNextEnd.desc).map (fun d => d.parameters.length) = some 0 := ⟨big_at 257 (by decide +kernel) (by decide +kernel), ini_X, by decide +kernel, by decide +kernel, by decide +kernel⟩
theorem io_ticksToNextEnd : Cond.instanceMethod y_ticksToNextEnd ∈ BIG ∧ Cond.selects y_ticksToNextEnd.cls y_ticksToNextEnd y_ticksToNextEnd ∈ BIG := ⟨big_at 256 (by decide +kernel) (by decide +kernel), big_at 12 (by decide +kernel) (by decide +kernel)⟩
abbrev b_Minit : ByteArray := prog_6_method_1_code
def y_Minit : MethodName := ⟨R_M, "<init>", "()V"⟩
abbrev rm_Minit : Room := { frames := 1, cells := 14, slots := 148, locals := 20 }
theorem ok_Minit : Cond.code y_Minit b_Minit 1 none ∈ BIG ∧ Cond.initialized y_Minit.cls ∈ BIG ∧ y_Minit.cls ≠ "java/lang/invoke/MethodHandle" ∧ y_Minit.cls ≠ "java/lang/invoke/VarHandle" ∧ (parseMethodDescriptor y_Minit.desc).map (fun d => d.parameters.length) = some 0 := ⟨big_at 270 (by decide +kernel) (by decide +kernel), ini_M, by decide +kernel, by decide +kernel, by decide +kernel⟩
theorem oi_Minit : Cond.instanceMethod y_Minit ∈ BIG := big_at 269 (by decide +kernel) (by decide +kernel)
abbrev b_m_isIn : ByteArray := prog_6_method_3_code
def y_m_isIn : MethodName := ⟨R_M, "isIn", "(III)Z"⟩
abbrev rm_m_isIn : Room := { frames := 0, cells := 0, slots := 0, locals := 0 }
theorem ok_m_isIn : Cond.code y_m_isIn b_m_isIn 3 (some .boolean) ∈ BIG ∧ Cond.initialized y_m_isIn.cls ∈ BIG ∧ y_m_isIn.cls ≠ "java/lang/invoke/MethodHandle" ∧ y_m_isIn.cls ≠ "java/lang/invoke/VarHandle" ∧ (parseMethodDescriptor y_m_isIn.desc).map (fun d => d.parameters.length) = some 3 := ⟨big_at 333 (by decide +kernel) (by decide +kernel), ini_M, by decide +kernel, by decide +kernel, by decide +kernel⟩
theorem so_m_isIn : Cond.static y_m_isIn ∈ BIG := big_at 332 (by decide +kernel) (by decide +kernel)
abbrev b_m_set : ByteArray := prog_6_method_4_code
def y_m_set : MethodName := ⟨R_M, "set", "(IIIZ)Z"⟩
abbrev rm_m_set : Room := { frames := 1, cells := 0, slots := 0, locals := 22 }
theorem ok_m_set : Cond.code y_m_set b_m_set 5 (some .boolean) ∈ BIG ∧ Cond.initialized y_m_set.cls ∈ BIG ∧ y_m_set.cls ≠ "java/lang/invoke/MethodHandle" ∧ y_m_set.cls ≠ "java/lang/invoke/VarHandle" ∧ (parseMethodDescriptor y_m_set.desc).map (fun d => d.parameters.length) = some 4 := ⟨big_at 330 (by decide +kernel) (by decide +kernel), ini_M, by decide +kernel, by decide +kernel, by decide +kernel⟩
theorem io_m_set : Cond.instanceMethod y_m_set ∈ BIG ∧ Cond.selects y_m_set.cls y_m_set y_m_set ∈ BIG := ⟨big_at 328 (by decide +kernel) (by decide +kernel), big_at 329 (by decide +kernel) (by decide +kernel)⟩
abbrev b_m_turn : ByteArray := prog_6_method_5_code
def y_m_turn : MethodName := ⟨R_M, "turn", "(IZ)Z"⟩
abbrev rm_m_turn : Room := { frames := 1, cells := 0, slots := 0, locals := 22 }
theorem ok_m_turn : Cond.code y_m_turn b_m_turn 3 (some .boolean) ∈ BIG ∧ Cond.initialized y_m_turn.cls ∈ BIG ∧ y_m_turn.cls ≠ "java/lang/invoke/MethodHandle" ∧ y_m_turn.cls ≠ "java/lang/invoke/VarHandle" ∧ (parseMethodDescriptor y_m_turn.desc).map (fun d => d.parameters.length) = some 2 := ⟨big_at 338 (by decide +kernel) (by decide +kernel), ini_M, by decide +kernel, by decide +kernel, by decide +kernel⟩
theorem io_m_turn : Cond.instanceMethod y_m_turn ∈ BIG ∧ Cond.selects y_m_turn.cls y_m_turn y_m_turn ∈ BIG := ⟨big_at 336 (by decide +kernel) (by decide +kernel), big_at 337 (by decide +kernel) (by decide +kernel)⟩
abbrev b_m_gate : ByteArray := prog_6_method_6_code
def y_m_gate : MethodName := ⟨R_M, "gate", "(III)Z"⟩
abbrev rm_m_gate : Room := { frames := 1, cells := 0, slots := 0, locals := 22 }
theorem ok_m_gate : Cond.code y_m_gate b_m_gate 4 (some .boolean) ∈ BIG ∧ Cond.initialized y_m_gate.cls ∈ BIG ∧ y_m_gate.cls ≠ "java/lang/invoke/MethodHandle" ∧ y_m_gate.cls ≠ "java/lang/invoke/VarHandle" ∧ (parseMethodDescriptor y_m_gate.desc).map (fun d => d.parameters.length) = some 3 := ⟨big_at 342 (by decide +kernel) (by decide +kernel), ini_M, by decide +kernel, by decide +kernel, by decide +kernel⟩
theorem io_m_gate : Cond.instanceMethod y_m_gate ∈ BIG ∧ Cond.selects y_m_gate.cls y_m_gate y_m_gate ∈ BIG := ⟨big_at 340 (by decide +kernel) (by decide +kernel), big_at 341 (by decide +kernel) (by decide +kernel)⟩
abbrev b_m_clear : ByteArray := prog_6_method_7_code
def y_m_clear : MethodName := ⟨R_M, "clear", "(I)I"⟩
abbrev rm_m_clear : Room := { frames := 1, cells := 0, slots := 0, locals := 22 }
theorem ok_m_clear : Cond.code y_m_clear b_m_clear 4 (some .int) ∈ BIG ∧ Cond.initialized y_m_clear.cls ∈ BIG ∧ y_m_clear.cls ≠ "java/lang/invoke/MethodHandle" ∧ y_m_clear.cls ≠ "java/lang/invoke/VarHandle" ∧ (parseMethodDescriptor y_m_clear.desc).map (fun d => d.parameters.length) = some 1 := ⟨big_at 346 (by decide +kernel) (by decide +kernel), ini_M, by decide +kernel, by decide +kernel, by decide +kernel⟩
theorem io_m_clear : Cond.instanceMethod y_m_clear ∈ BIG ∧ Cond.selects y_m_clear.cls y_m_clear y_m_clear ∈ BIG := ⟨big_at 344 (by decide +kernel) (by decide +kernel), big_at 345 (by decide +kernel) (by decide +kernel)⟩
abbrev b_m_event : ByteArray := prog_6_method_8_code
def y_m_event : MethodName := ⟨R_M, "event", "(I)Z"⟩
abbrev rm_m_event : Room := { frames := 0, cells := 0, slots := 0, locals := 0 }
theorem ok_m_event : Cond.code y_m_event b_m_event 2 (some .boolean) ∈ BIG ∧ Cond.initialized y_m_event.cls ∈ BIG ∧ y_m_event.cls ≠ "java/lang/invoke/MethodHandle" ∧ y_m_event.cls ≠ "java/lang/invoke/VarHandle" ∧ (parseMethodDescriptor y_m_event.desc).map (fun d => d.parameters.length) = some 1 := ⟨big_at 358 (by decide +kernel) (by decide +kernel), ini_M, by decide +kernel, by decide +kernel, by decide +kernel⟩
theorem io_m_event : Cond.instanceMethod y_m_event ∈ BIG ∧ Cond.selects y_m_event.cls y_m_event y_m_event ∈ BIG := ⟨big_at 357 (by decide +kernel) (by decide +kernel), big_at 15 (by decide +kernel) (by decide +kernel)⟩
abbrev b_m_asks : ByteArray := prog_6_method_9_code
def y_m_asks : MethodName := ⟨R_M, "asks", "(I)Z"⟩
abbrev rm_m_asks : Room := { frames := 0, cells := 0, slots := 0, locals := 0 }
theorem ok_m_asks : Cond.code y_m_asks b_m_asks 2 (some .boolean) ∈ BIG ∧ Cond.initialized y_m_asks.cls ∈ BIG ∧ y_m_asks.cls ≠ "java/lang/invoke/MethodHandle" ∧ y_m_asks.cls ≠ "java/lang/invoke/VarHandle" ∧ (parseMethodDescriptor y_m_asks.desc).map (fun d => d.parameters.length) = some 1 := ⟨big_at 366 (by decide +kernel) (by decide +kernel), ini_M, by decide +kernel, by decide +kernel, by decide +kernel⟩
theorem io_m_asks : Cond.instanceMethod y_m_asks ∈ BIG ∧ Cond.selects y_m_asks.cls y_m_asks y_m_asks ∈ BIG := ⟨big_at 365 (by decide +kernel) (by decide +kernel), big_at 17 (by decide +kernel) (by decide +kernel)⟩
abbrev b_m_serve : ByteArray := prog_6_method_10_code
def y_m_serve : MethodName := ⟨R_M, "serve", "(I)V"⟩
abbrev rm_m_serve : Room := { frames := 1, cells := 0, slots := 0, locals := 21 }
theorem ok_m_serve : Cond.code y_m_serve b_m_serve 4 none ∈ BIG ∧ Cond.initialized y_m_serve.cls ∈ BIG ∧ y_m_serve.cls ≠ "java/lang/invoke/MethodHandle" ∧ y_m_serve.cls ≠ "java/lang/invoke/VarHandle" ∧ (parseMethodDescriptor y_m_serve.desc).map (fun d => d.parameters.length) = some 1 := ⟨big_at 362 (by decide +kernel) (by decide +kernel), ini_M, by decide +kernel, by decide +kernel, by decide +kernel⟩
theorem io_m_serve : Cond.instanceMethod y_m_serve ∈ BIG ∧ Cond.selects y_m_serve.cls y_m_serve y_m_serve ∈ BIG := ⟨big_at 361 (by decide +kernel) (by decide +kernel), big_at 16 (by decide +kernel) (by decide +kernel)⟩
abbrev b_m_tick : ByteArray := prog_6_method_11_code
def y_m_tick : MethodName := ⟨R_M, "tick", "()V"⟩
abbrev rm_m_tick : Room := { frames := 2, cells := 0, slots := 0, locals := 44 }
theorem ok_m_tick : Cond.code y_m_tick b_m_tick 3 none ∈ BIG ∧ Cond.initialized y_m_tick.cls ∈ BIG ∧ y_m_tick.cls ≠ "java/lang/invoke/MethodHandle" ∧ y_m_tick.cls ≠ "java/lang/invoke/VarHandle" ∧ (parseMethodDescriptor y_m_tick.desc).map (fun d => d.parameters.length) = some 0 := ⟨big_at 354 (by decide +kernel) (by decide +kernel), ini_M, by decide +kernel, by decide +kernel, by decide +kernel⟩
theorem io_m_tick : Cond.instanceMethod y_m_tick ∈ BIG ∧ Cond.selects y_m_tick.cls y_m_tick y_m_tick ∈ BIG := ⟨big_at 353 (by decide +kernel) (by decide +kernel), big_at 14 (by decide +kernel) (by decide +kernel)⟩
abbrev b_m_advance : ByteArray := prog_6_method_12_code
def y_m_advance : MethodName := ⟨R_M, "advance", "(I)I"⟩
abbrev rm_m_advance : Room := { frames := 3, cells := 0, slots := 0, locals := 66 }
theorem ok_m_advance : Cond.code y_m_advance b_m_advance 4 (some .int) ∈ BIG ∧ Cond.initialized y_m_advance.cls ∈ BIG ∧ y_m_advance.cls ≠ "java/lang/invoke/MethodHandle" ∧ y_m_advance.cls ≠ "java/lang/invoke/VarHandle" ∧ (parseMethodDescriptor y_m_advance.desc).map (fun d => d.parameters.length) = some 1 := ⟨big_at 350 (by decide +kernel) (by decide +kernel), ini_M, by decide +kernel, by decide +kernel, by decide +kernel⟩
theorem io_m_advance : Cond.instanceMethod y_m_advance ∈ BIG ∧ Cond.selects y_m_advance.cls y_m_advance y_m_advance ∈ BIG := ⟨big_at 348 (by decide +kernel) (by decide +kernel), big_at 349 (by decide +kernel) (by decide +kernel)⟩
abbrev b_m_next : ByteArray := prog_6_method_13_code
def y_m_next : MethodName := ⟨R_M, "next", "(I)I"⟩
abbrev rm_m_next : Room := { frames := 3, cells := 0, slots := 0, locals := 66 }
theorem ok_m_next : Cond.code y_m_next b_m_next 4 (some .int) ∈ BIG ∧ Cond.initialized y_m_next.cls ∈ BIG ∧ y_m_next.cls ≠ "java/lang/invoke/MethodHandle" ∧ y_m_next.cls ≠ "java/lang/invoke/VarHandle" ∧ (parseMethodDescriptor y_m_next.desc).map (fun d => d.parameters.length) = some 1 := ⟨big_at 370 (by decide +kernel) (by decide +kernel), ini_M, by decide +kernel, by decide +kernel, by decide +kernel⟩
theorem io_m_next : Cond.instanceMethod y_m_next ∈ BIG ∧ Cond.selects y_m_next.cls y_m_next y_m_next ∈ BIG := ⟨big_at 368 (by decide +kernel) (by decide +kernel), big_at 369 (by decide +kernel) (by decide +kernel)⟩
abbrev b_m_timer : ByteArray := prog_6_method_14_code
def y_m_timer : MethodName := ⟨R_M, "timer", "(II)I"⟩
abbrev rm_m_timer : Room := { frames := 1, cells := 0, slots := 0, locals := 22 }
theorem ok_m_timer : Cond.code y_m_timer b_m_timer 3 (some .int) ∈ BIG ∧ Cond.initialized y_m_timer.cls ∈ BIG ∧ y_m_timer.cls ≠ "java/lang/invoke/MethodHandle" ∧ y_m_timer.cls ≠ "java/lang/invoke/VarHandle" ∧ (parseMethodDescriptor y_m_timer.desc).map (fun d => d.parameters.length) = some 2 := ⟨big_at 374 (by decide +kernel) (by decide +kernel), ini_M, by decide +kernel, by decide +kernel, by decide +kernel⟩
theorem io_m_timer : Cond.instanceMethod y_m_timer ∈ BIG ∧ Cond.selects y_m_timer.cls y_m_timer y_m_timer ∈ BIG := ⟨big_at 372 (by decide +kernel) (by decide +kernel), big_at 373 (by decide +kernel) (by decide +kernel)⟩
abbrev b_m_gateOf : ByteArray := prog_6_method_15_code
def y_m_gateOf : MethodName := ⟨R_M, "gateOf", "(II)I"⟩
abbrev rm_m_gateOf : Room := { frames := 1, cells := 0, slots := 0, locals := 22 }
theorem ok_m_gateOf : Cond.code y_m_gateOf b_m_gateOf 3 (some .int) ∈ BIG ∧ Cond.initialized y_m_gateOf.cls ∈ BIG ∧ y_m_gateOf.cls ≠ "java/lang/invoke/MethodHandle" ∧ y_m_gateOf.cls ≠ "java/lang/invoke/VarHandle" ∧ (parseMethodDescriptor y_m_gateOf.desc).map (fun d => d.parameters.length) = some 2 := ⟨big_at 378 (by decide +kernel) (by decide +kernel), ini_M, by decide +kernel, by decide +kernel, by decide +kernel⟩
theorem io_m_gateOf : Cond.instanceMethod y_m_gateOf ∈ BIG ∧ Cond.selects y_m_gateOf.cls y_m_gateOf y_m_gateOf ∈ BIG := ⟨big_at 376 (by decide +kernel) (by decide +kernel), big_at 377 (by decide +kernel) (by decide +kernel)⟩
abbrev b_m_look : ByteArray := prog_6_method_16_code
def y_m_look : MethodName := ⟨R_M, "look", "(I)I"⟩
abbrev rm_m_look : Room := { frames := 0, cells := 0, slots := 0, locals := 0 }
theorem ok_m_look : Cond.code y_m_look b_m_look 4 (some .int) ∈ BIG ∧ Cond.initialized y_m_look.cls ∈ BIG ∧ y_m_look.cls ≠ "java/lang/invoke/MethodHandle" ∧ y_m_look.cls ≠ "java/lang/invoke/VarHandle" ∧ (parseMethodDescriptor y_m_look.desc).map (fun d => d.parameters.length) = some 1 := ⟨big_at 382 (by decide +kernel) (by decide +kernel), ini_M, by decide +kernel, by decide +kernel, by decide +kernel⟩
theorem io_m_look : Cond.instanceMethod y_m_look ∈ BIG ∧ Cond.selects y_m_look.cls y_m_look y_m_look ∈ BIG := ⟨big_at 380 (by decide +kernel) (by decide +kernel), big_at 381 (by decide +kernel) (by decide +kernel)⟩
abbrev b_m_served : ByteArray := prog_6_method_17_code
def y_m_served : MethodName := ⟨R_M, "served", "(II)I"⟩
abbrev rm_m_served : Room := { frames := 1, cells := 0, slots := 0, locals := 22 }
theorem ok_m_served : Cond.code y_m_served b_m_served 3 (some .int) ∈ BIG ∧ Cond.initialized y_m_served.cls ∈ BIG ∧ y_m_served.cls ≠ "java/lang/invoke/MethodHandle" ∧ y_m_served.cls ≠ "java/lang/invoke/VarHandle" ∧ (parseMethodDescriptor y_m_served.desc).map (fun d => d.parameters.length) = some 2 := ⟨big_at 386 (by decide +kernel) (by decide +kernel), ini_M, by decide +kernel, by decide +kernel, by decide +kernel⟩
theorem io_m_served : Cond.instanceMethod y_m_served ∈ BIG ∧ Cond.selects y_m_served.cls y_m_served y_m_served ∈ BIG := ⟨big_at 384 (by decide +kernel) (by decide +kernel), big_at 385 (by decide +kernel) (by decide +kernel)⟩
abbrev b_Ginit : ByteArray := prog_2_method_1_code
def y_Ginit : MethodName := ⟨R_G, "<init>", "()V"⟩
abbrev rm_Ginit : Room := { frames := 1, cells := 0, slots := 0, locals := 20 }
theorem ok_Ginit : Cond.code y_Ginit b_Ginit 1 none ∈ BIG ∧ Cond.initialized y_Ginit.cls ∈ BIG ∧ y_Ginit.cls ≠ "java/lang/invoke/MethodHandle" ∧ y_Ginit.cls ≠ "java/lang/invoke/VarHandle" ∧ (parseMethodDescriptor y_Ginit.desc).map (fun d => d.parameters.length) = some 0 := ⟨big_at 107 (by decide +kernel) (by decide +kernel), ini_G, by decide +kernel, by decide +kernel, by decide +kernel⟩
theorem oi_Ginit : Cond.instanceMethod y_Ginit ∈ BIG := big_at 106 (by decide +kernel) (by decide +kernel)
abbrev b_asks : ByteArray := prog_2_method_2_code
def y_asks : MethodName := ⟨R_G, "asks", "(I)Z"⟩
abbrev rm_asks : Room := { frames := 0, cells := 0, slots := 0, locals := 0 }
theorem ok_asks : Cond.code y_asks b_asks 2 (some .boolean) ∈ BIG ∧ Cond.initialized y_asks.cls ∈ BIG ∧ y_asks.cls ≠ "java/lang/invoke/MethodHandle" ∧ y_asks.cls ≠ "java/lang/invoke/VarHandle" ∧ (parseMethodDescriptor y_asks.desc).map (fun d => d.parameters.length) = some 1 := ⟨big_at 217 (by decide +kernel) (by decide +kernel), ini_G, by decide +kernel, by decide +kernel, by decide +kernel⟩
theorem io_asks : Cond.instanceMethod y_asks ∈ BIG ∧ Cond.selects y_asks.cls y_asks y_asks ∈ BIG := ⟨big_at 216 (by decide +kernel) (by decide +kernel), big_at 7 (by decide +kernel) (by decide +kernel)⟩
abbrev b_waitEnds : ByteArray := prog_2_method_3_code
def y_waitEnds : MethodName := ⟨R_G, "waitEnds", "()Z"⟩
abbrev rm_waitEnds : Room := { frames := 0, cells := 0, slots := 0, locals := 0 }
theorem ok_waitEnds : Cond.code y_waitEnds b_waitEnds 1 (some .boolean) ∈ BIG ∧ Cond.initialized y_waitEnds.cls ∈ BIG ∧ y_waitEnds.cls ≠ "java/lang/invoke/MethodHandle" ∧ y_waitEnds.cls ≠ "java/lang/invoke/VarHandle" ∧ (parseMethodDescriptor y_waitEnds.desc).map (fun d => d.parameters.length) = some 0 := ⟨big_at 209 (by decide +kernel) (by decide +kernel), ini_G, by decide +kernel, by decide +kernel, by decide +kernel⟩
theorem io_waitEnds : Cond.instanceMethod y_waitEnds ∈ BIG ∧ Cond.selects y_waitEnds.cls y_waitEnds y_waitEnds ∈ BIG := ⟨big_at 208 (by decide +kernel) (by decide +kernel), big_at 5 (by decide +kernel) (by decide +kernel)⟩
abbrev b_Gread : ByteArray := prog_2_method_4_code
def y_Gread : MethodName := ⟨R_G, "read", "(II)I"⟩
abbrev rm_Gread : Room := { frames := 1, cells := 0, slots := 0, locals := 21 }
theorem ok_Gread : Cond.code y_Gread b_Gread 3 (some .int) ∈ BIG ∧ Cond.initialized y_Gread.cls ∈ BIG ∧ y_Gread.cls ≠ "java/lang/invoke/MethodHandle" ∧ y_Gread.cls ≠ "java/lang/invoke/VarHandle" ∧ (parseMethodDescriptor y_Gread.desc).map (fun d => d.parameters.length) = some 2 := ⟨big_at 248 (by decide +kernel) (by decide +kernel), ini_G, by decide +kernel, by decide +kernel, by decide +kernel⟩
theorem io_Gread : Cond.instanceMethod y_Gread ∈ BIG ∧ Cond.selects y_Gread.cls y_Gread y_Gread ∈ BIG := ⟨big_at 247 (by decide +kernel) (by decide +kernel), big_at 11 (by decide +kernel) (by decide +kernel)⟩
abbrev b_Hinit : ByteArray := prog_3_method_1_code
def y_Hinit : MethodName := ⟨R_H, "<init>", "()V"⟩
abbrev rm_Hinit : Room := { frames := 1, cells := 3, slots := 48, locals := 20 }
theorem ok_Hinit : Cond.code y_Hinit b_Hinit 1 none ∈ BIG ∧ Cond.initialized y_Hinit.cls ∈ BIG ∧ y_Hinit.cls ≠ "java/lang/invoke/MethodHandle" ∧ y_Hinit.cls ≠ "java/lang/invoke/VarHandle" ∧ (parseMethodDescriptor y_Hinit.desc).map (fun d => d.parameters.length) = some 0 := ⟨big_at 40 (by decide +kernel) (by decide +kernel), ini_H, by decide +kernel, by decide +kernel, by decide +kernel⟩
theorem oi_Hinit : Cond.instanceMethod y_Hinit ∈ BIG := big_at 39 (by decide +kernel) (by decide +kernel)
abbrev b_add : ByteArray := prog_3_method_2_code
def y_add : MethodName := ⟨R_H, "add", "(III)V"⟩
abbrev rm_add : Room := { frames := 0, cells := 0, slots := 0, locals := 0 }
theorem ok_add : Cond.code y_add b_add 4 none ∈ BIG ∧ Cond.initialized y_add.cls ∈ BIG ∧ y_add.cls ≠ "java/lang/invoke/MethodHandle" ∧ y_add.cls ≠ "java/lang/invoke/VarHandle" ∧ (parseMethodDescriptor y_add.desc).map (fun d => d.parameters.length) = some 3 := ⟨big_at 224 (by decide +kernel) (by decide +kernel), ini_H, by decide +kernel, by decide +kernel, by decide +kernel⟩
theorem io_add : Cond.instanceMethod y_add ∈ BIG ∧ Cond.selects y_add.cls y_add y_add ∈ BIG := ⟨big_at 223 (by decide +kernel) (by decide +kernel), big_at 8 (by decide +kernel) (by decide +kernel)⟩
abbrev b_Hread : ByteArray := prog_3_method_3_code
def y_Hread : MethodName := ⟨R_H, "read", "(II)I"⟩
abbrev rm_Hread : Room := { frames := 0, cells := 0, slots := 0, locals := 0 }
theorem ok_Hread : Cond.code y_Hread b_Hread 4 (some .int) ∈ BIG ∧ Cond.initialized y_Hread.cls ∈ BIG ∧ y_Hread.cls ≠ "java/lang/invoke/MethodHandle" ∧ y_Hread.cls ≠ "java/lang/invoke/VarHandle" ∧ (parseMethodDescriptor y_Hread.desc).map (fun d => d.parameters.length) = some 2 := ⟨big_at 265 (by decide +kernel) (by decide +kernel), ini_H, by decide +kernel, by decide +kernel, by decide +kernel⟩
theorem io_Hread : Cond.instanceMethod y_Hread ∈ BIG ∧ Cond.selects y_Hread.cls y_Hread y_Hread ∈ BIG := ⟨big_at 264 (by decide +kernel) (by decide +kernel), big_at 13 (by decide +kernel) (by decide +kernel)⟩
abbrev b_Tinit : ByteArray := prog_4_method_1_code
def y_Tinit : MethodName := ⟨R_T, "<init>", "()V"⟩
abbrev rm_Tinit : Room := { frames := 1, cells := 0, slots := 0, locals := 20 }
theorem ok_Tinit : Cond.code y_Tinit b_Tinit 1 none ∈ BIG ∧ Cond.initialized y_Tinit.cls ∈ BIG ∧ y_Tinit.cls ≠ "java/lang/invoke/MethodHandle" ∧ y_Tinit.cls ≠ "java/lang/invoke/VarHandle" ∧ (parseMethodDescriptor y_Tinit.desc).map (fun d => d.parameters.length) = some 0 := ⟨big_at 66 (by decide +kernel) (by decide +kernel), ini_T, by decide +kernel, by decide +kernel, by decide +kernel⟩
theorem oi_Tinit : Cond.instanceMethod y_Tinit ∈ BIG := big_at 65 (by decide +kernel) (by decide +kernel)
abbrev b_countDown : ByteArray := prog_4_method_2_code
def y_countDown : MethodName := ⟨R_T, "countDown", "()Z"⟩
abbrev rm_countDown : Room := { frames := 0, cells := 0, slots := 0, locals := 0 }
theorem ok_countDown : Cond.code y_countDown b_countDown 1 (some .boolean) ∈ BIG ∧ Cond.initialized y_countDown.cls ∈ BIG ∧ y_countDown.cls ≠ "java/lang/invoke/MethodHandle" ∧ y_countDown.cls ≠ "java/lang/invoke/VarHandle" ∧ (parseMethodDescriptor y_countDown.desc).map (fun d => d.parameters.length) = some 0 := ⟨big_at 197 (by decide +kernel) (by decide +kernel), ini_T, by decide +kernel, by decide +kernel, by decide +kernel⟩
theorem io_countDown : Cond.instanceMethod y_countDown ∈ BIG ∧ Cond.selects y_countDown.cls y_countDown y_countDown ∈ BIG := ⟨big_at 196 (by decide +kernel) (by decide +kernel), big_at 2 (by decide +kernel) (by decide +kernel)⟩
abbrev b_Tread : ByteArray := prog_4_method_3_code
def y_Tread : MethodName := ⟨R_T, "read", "(I)I"⟩
abbrev rm_Tread : Room := { frames := 0, cells := 0, slots := 0, locals := 0 }
theorem ok_Tread : Cond.code y_Tread b_Tread 2 (some .int) ∈ BIG ∧ Cond.initialized y_Tread.cls ∈ BIG ∧ y_Tread.cls ≠ "java/lang/invoke/MethodHandle" ∧ y_Tread.cls ≠ "java/lang/invoke/VarHandle" ∧ (parseMethodDescriptor y_Tread.desc).map (fun d => d.parameters.length) = some 1 := ⟨big_at 240 (by decide +kernel) (by decide +kernel), ini_T, by decide +kernel, by decide +kernel, by decide +kernel⟩
theorem io_Tread : Cond.instanceMethod y_Tread ∈ BIG ∧ Cond.selects y_Tread.cls y_Tread y_Tread ∈ BIG := ⟨big_at 239 (by decide +kernel) (by decide +kernel), big_at 10 (by decide +kernel) (by decide +kernel)⟩
theorem objI : Cond.instanceMethod objectInit ∈ BIG := big_at 30 (by decide +kernel) (by decide +kernel)
theorem objC : Cond.code objectInit ⟨#[0xb1]⟩ 1 none ∈ BIG := big_at 31 (by decide +kernel) (by decide +kernel)
theorem L_law_7 : Cond.classLink R_law 7 R_X ∈ BIG := big_at 24 (by decide +kernel) (by decide +kernel)
theorem L_law_9 : Cond.methodLink R_law 9 y_Xinit ∈ BIG := big_at 26 (by decide +kernel) (by decide +kernel)
theorem L_X_1 : Cond.methodLink R_X 1 objectInit ∈ BIG := big_at 29 (by decide +kernel) (by decide +kernel)
theorem L_X_9 : Cond.classLink R_X 9 R_T ∈ BIG := big_at 32 (by decide +kernel) (by decide +kernel)
theorem L_X_15 : Cond.classLink R_X 15 R_G ∈ BIG := big_at 34 (by decide +kernel) (by decide +kernel)
theorem L_X_21 : Cond.classLink R_X 21 R_H ∈ BIG := big_at 36 (by decide +kernel) (by decide +kernel)
theorem L_X_23 : Cond.methodLinkNest R_X 23 y_Hinit "TimerGates" ∈ NESTS := nest_at 38 (by decide +kernel) (by decide +kernel)
theorem L_H_3 : Cond.methodLink R_H 3 objectInit ∈ BIG := big_at 41 (by decide +kernel) (by decide +kernel)
theorem L_H_11 : Cond.fieldLink R_H 11 "TimerGates$History" "bits" "[I" ∈ BIG := big_at 42 (by decide +kernel) (by decide +kernel)
theorem L_H_15 : Cond.fieldLink R_H 15 "TimerGates$History" "servers" "[I" ∈ BIG := big_at 43 (by decide +kernel) (by decide +kernel)
theorem L_H_18 : Cond.fieldLink R_H 18 "TimerGates$History" "times" "[I" ∈ BIG := big_at 44 (by decide +kernel) (by decide +kernel)
theorem L_H_21 : Cond.fieldLink R_H 21 "TimerGates$History" "total" "I" ∈ BIG := big_at 45 (by decide +kernel) (by decide +kernel)
theorem L_X_91 : Cond.fieldLinkNest R_X 91 "TimerGates$History" "total" "I" "TimerGates" ∈ NESTS := nest_at 46 (by decide +kernel) (by decide +kernel)
theorem L_H_25 : Cond.fieldLink R_H 25 "TimerGates$History" "filled" "I" ∈ BIG := big_at 47 (by decide +kernel) (by decide +kernel)
theorem L_H_28 : Cond.fieldLink R_H 28 "TimerGates$History" "place" "I" ∈ BIG := big_at 48 (by decide +kernel) (by decide +kernel)
theorem L_X_35 : Cond.methodLinkNest R_X 35 y_Tinit "TimerGates" ∈ NESTS := nest_at 64 (by decide +kernel) (by decide +kernel)
theorem L_T_3 : Cond.methodLink R_T 3 objectInit ∈ BIG := big_at 67 (by decide +kernel) (by decide +kernel)
theorem L_T_9 : Cond.fieldLink R_T 9 "TimerGates$Timer" "period" "I" ∈ BIG := big_at 68 (by decide +kernel) (by decide +kernel)
theorem L_X_49 : Cond.fieldLinkNest R_X 49 "TimerGates$Timer" "period" "I" "TimerGates" ∈ NESTS := nest_at 69 (by decide +kernel) (by decide +kernel)
theorem L_T_15 : Cond.fieldLink R_T 15 "TimerGates$Timer" "count" "I" ∈ BIG := big_at 70 (by decide +kernel) (by decide +kernel)
theorem L_X_52 : Cond.fieldLinkNest R_X 52 "TimerGates$Timer" "count" "I" "TimerGates" ∈ NESTS := nest_at 71 (by decide +kernel) (by decide +kernel)
theorem L_T_18 : Cond.fieldLink R_T 18 "TimerGates$Timer" "source" "I" ∈ BIG := big_at 72 (by decide +kernel) (by decide +kernel)
theorem L_X_46 : Cond.fieldLinkNest R_X 46 "TimerGates$Timer" "source" "I" "TimerGates" ∈ NESTS := nest_at 73 (by decide +kernel) (by decide +kernel)
theorem L_T_21 : Cond.fieldLink R_T 21 "TimerGates$Timer" "once" "Z" ∈ BIG := big_at 74 (by decide +kernel) (by decide +kernel)
theorem L_X_55 : Cond.fieldLinkNest R_X 55 "TimerGates$Timer" "once" "Z" "TimerGates" ∈ NESTS := nest_at 75 (by decide +kernel) (by decide +kernel)
theorem L_T_25 : Cond.fieldLink R_T 25 "TimerGates$Timer" "runs" "Z" ∈ BIG := big_at 76 (by decide +kernel) (by decide +kernel)
theorem L_X_59 : Cond.fieldLinkNest R_X 59 "TimerGates$Timer" "runs" "Z" "TimerGates" ∈ NESTS := nest_at 77 (by decide +kernel) (by decide +kernel)
theorem L_T_28 : Cond.fieldLink R_T 28 "TimerGates$Timer" "timesEnded" "I" ∈ BIG := big_at 78 (by decide +kernel) (by decide +kernel)
theorem L_T_31 : Cond.fieldLink R_T 31 "TimerGates$Timer" "timesMissed" "I" ∈ BIG := big_at 79 (by decide +kernel) (by decide +kernel)
theorem L_X_115 : Cond.fieldLinkNest R_X 115 "TimerGates$Timer" "timesMissed" "I" "TimerGates" ∈ NESTS := nest_at 80 (by decide +kernel) (by decide +kernel)
theorem L_T_34 : Cond.fieldLink R_T 34 "TimerGates$Timer" "timesServed" "I" ∈ BIG := big_at 81 (by decide +kernel) (by decide +kernel)
theorem L_X_133 : Cond.fieldLinkNest R_X 133 "TimerGates$Timer" "timesServed" "I" "TimerGates" ∈ NESTS := nest_at 82 (by decide +kernel) (by decide +kernel)
theorem L_T_37 : Cond.fieldLink R_T 37 "TimerGates$Timer" "timesCleared" "I" ∈ BIG := big_at 83 (by decide +kernel) (by decide +kernel)
theorem L_X_74 : Cond.fieldLinkNest R_X 74 "TimerGates$Timer" "timesCleared" "I" "TimerGates" ∈ NESTS := nest_at 84 (by decide +kernel) (by decide +kernel)
theorem L_X_36 : Cond.methodLinkNest R_X 36 y_Ginit "TimerGates" ∈ NESTS := nest_at 105 (by decide +kernel) (by decide +kernel)
theorem L_G_3 : Cond.methodLink R_G 3 objectInit ∈ BIG := big_at 108 (by decide +kernel) (by decide +kernel)
theorem L_G_9 : Cond.fieldLink R_G 9 "TimerGates$Gate" "mask" "I" ∈ BIG := big_at 109 (by decide +kernel) (by decide +kernel)
theorem L_X_68 : Cond.fieldLinkNest R_X 68 "TimerGates$Gate" "mask" "I" "TimerGates" ∈ NESTS := nest_at 110 (by decide +kernel) (by decide +kernel)
theorem L_G_15 : Cond.fieldLink R_G 15 "TimerGates$Gate" "delay" "I" ∈ BIG := big_at 111 (by decide +kernel) (by decide +kernel)
theorem L_X_71 : Cond.fieldLinkNest R_X 71 "TimerGates$Gate" "delay" "I" "TimerGates" ∈ NESTS := nest_at 112 (by decide +kernel) (by decide +kernel)
theorem L_G_18 : Cond.fieldLink R_G 18 "TimerGates$Gate" "toWait" "I" ∈ BIG := big_at 113 (by decide +kernel) (by decide +kernel)
theorem L_X_146 : Cond.fieldLinkNest R_X 146 "TimerGates$Gate" "toWait" "I" "TimerGates" ∈ NESTS := nest_at 114 (by decide +kernel) (by decide +kernel)
theorem L_G_21 : Cond.fieldLink R_G 21 "TimerGates$Gate" "bitsServed" "I" ∈ BIG := big_at 115 (by decide +kernel) (by decide +kernel)
theorem L_X_136 : Cond.fieldLinkNest R_X 136 "TimerGates$Gate" "bitsServed" "I" "TimerGates" ∈ NESTS := nest_at 116 (by decide +kernel) (by decide +kernel)
theorem L_G_24 : Cond.fieldLink R_G 24 "TimerGates$Gate" "timesIdle" "I" ∈ BIG := big_at 117 (by decide +kernel) (by decide +kernel)
theorem L_X_127 : Cond.fieldLinkNest R_X 127 "TimerGates$Gate" "timesIdle" "I" "TimerGates" ∈ NESTS := nest_at 118 (by decide +kernel) (by decide +kernel)
theorem L_G_27 : Cond.fieldLink R_G 27 "TimerGates$Gate" "latest" "I" ∈ BIG := big_at 119 (by decide +kernel) (by decide +kernel)
theorem L_X_139 : Cond.fieldLinkNest R_X 139 "TimerGates$Gate" "latest" "I" "TimerGates" ∈ NESTS := nest_at 120 (by decide +kernel) (by decide +kernel)
theorem L_X_11 : Cond.fieldLink R_X 11 "TimerGates" "timers" "[LTimerGates$Timer;" ∈ BIG := big_at 134 (by decide +kernel) (by decide +kernel)
theorem L_X_17 : Cond.fieldLink R_X 17 "TimerGates" "gates" "[LTimerGates$Gate;" ∈ BIG := big_at 135 (by decide +kernel) (by decide +kernel)
theorem L_X_24 : Cond.fieldLink R_X 24 "TimerGates" "history" "LTimerGates$History;" ∈ BIG := big_at 136 (by decide +kernel) (by decide +kernel)
theorem L_X_28 : Cond.fieldLink R_X 28 "TimerGates" "status" "I" ∈ BIG := big_at 137 (by decide +kernel) (by decide +kernel)
theorem L_X_32 : Cond.fieldLink R_X 32 "TimerGates" "now" "I" ∈ BIG := big_at 138 (by decide +kernel) (by decide +kernel)
theorem L_law_13 : Cond.methodLink R_law 13 y_set ∈ BIG := big_at 150 (by decide +kernel) (by decide +kernel)
theorem L_X_37 : Cond.methodLink R_X 37 y_isTimer ∈ BIG := big_at 154 (by decide +kernel) (by decide +kernel)
theorem L_X_41 : Cond.methodLink R_X 41 y_isSource ∈ BIG := big_at 157 (by decide +kernel) (by decide +kernel)
theorem L_X_45 : Cond.constant R_X 45 (65535 : Int32) ∈ BIG := big_at 160 (by decide +kernel) (by decide +kernel)
theorem L_law_18 : Cond.methodLink R_law 18 y_turn ∈ BIG := big_at 161 (by decide +kernel) (by decide +kernel)
theorem L_law_23 : Cond.methodLink R_law 23 y_gate ∈ BIG := big_at 165 (by decide +kernel) (by decide +kernel)
theorem L_X_62 : Cond.methodLink R_X 62 y_isGate ∈ BIG := big_at 169 (by decide +kernel) (by decide +kernel)
theorem L_X_65 : Cond.methodLink R_X 65 y_isBitSet ∈ BIG := big_at 172 (by decide +kernel) (by decide +kernel)
theorem L_law_28 : Cond.methodLink R_law 28 y_clear ∈ BIG := big_at 175 (by decide +kernel) (by decide +kernel)
theorem L_law_33 : Cond.methodLink R_law 33 y_advance ∈ BIG := big_at 179 (by decide +kernel) (by decide +kernel)
theorem L_X_77 : Cond.methodLink R_X 77 y_isTickCount ∈ BIG := big_at 183 (by decide +kernel) (by decide +kernel)
theorem L_X_80 : Cond.methodLink R_X 80 y_tick ∈ BIG := big_at 186 (by decide +kernel) (by decide +kernel)
theorem L_X_98 : Cond.methodLink R_X 98 y_tickTimers ∈ BIG := big_at 190 (by decide +kernel) (by decide +kernel)
theorem L_X_107 : Cond.methodLinkNest R_X 107 y_countDown "TimerGates" ∈ NESTS := nest_at 194 (by decide +kernel) (by decide +kernel)
theorem L_X_111 : Cond.methodLink R_X 111 y_raise ∈ BIG := big_at 198 (by decide +kernel) (by decide +kernel)
theorem L_X_101 : Cond.methodLink R_X 101 y_tickGates ∈ BIG := big_at 202 (by decide +kernel) (by decide +kernel)
theorem L_X_118 : Cond.methodLinkNest R_X 118 y_waitEnds "TimerGates" ∈ NESTS := nest_at 206 (by decide +kernel) (by decide +kernel)
theorem L_X_121 : Cond.methodLink R_X 121 y_serve ∈ BIG := big_at 210 (by decide +kernel) (by decide +kernel)
theorem L_X_124 : Cond.methodLinkNest R_X 124 y_asks "TimerGates" ∈ NESTS := nest_at 214 (by decide +kernel) (by decide +kernel)
theorem L_X_130 : Cond.methodLink R_X 130 y_leastBit ∈ BIG := big_at 218 (by decide +kernel) (by decide +kernel)
theorem L_X_142 : Cond.methodLinkNest R_X 142 y_add "TimerGates" ∈ NESTS := nest_at 221 (by decide +kernel) (by decide +kernel)
theorem L_X_104 : Cond.methodLink R_X 104 y_wakeGates ∈ BIG := big_at 225 (by decide +kernel) (by decide +kernel)
theorem L_law_37 : Cond.methodLink R_law 37 y_next ∈ BIG := big_at 229 (by decide +kernel) (by decide +kernel)
theorem L_law_41 : Cond.methodLink R_law 41 y_timer ∈ BIG := big_at 233 (by decide +kernel) (by decide +kernel)
theorem L_X_84 : Cond.methodLinkNest R_X 84 y_Tread "TimerGates" ∈ NESTS := nest_at 237 (by decide +kernel) (by decide +kernel)
theorem L_law_46 : Cond.methodLink R_law 46 y_gateOf ∈ BIG := big_at 241 (by decide +kernel) (by decide +kernel)
theorem L_X_88 : Cond.methodLinkNest R_X 88 y_Gread "TimerGates" ∈ NESTS := nest_at 245 (by decide +kernel) (by decide +kernel)
theorem L_G_30 : Cond.methodLink R_G 30 y_asks ∈ BIG := big_at 249 (by decide +kernel) (by decide +kernel)
theorem L_law_50 : Cond.methodLink R_law 50 y_look ∈ BIG := big_at 250 (by decide +kernel) (by decide +kernel)
theorem L_X_94 : Cond.methodLink R_X 94 y_ticksToNextEnd ∈ BIG := big_at 254 (by decide +kernel) (by decide +kernel)
theorem L_law_54 : Cond.methodLink R_law 54 y_served ∈ BIG := big_at 258 (by decide +kernel) (by decide +kernel)
theorem L_X_97 : Cond.methodLinkNest R_X 97 y_Hread "TimerGates" ∈ NESTS := nest_at 262 (by decide +kernel) (by decide +kernel)
theorem L_law_10 : Cond.classLink R_law 10 R_M ∈ BIG := big_at 266 (by decide +kernel) (by decide +kernel)
theorem L_law_12 : Cond.methodLink R_law 12 y_Minit ∈ BIG := big_at 268 (by decide +kernel) (by decide +kernel)
theorem L_M_1 : Cond.methodLink R_M 1 objectInit ∈ BIG := big_at 271 (by decide +kernel) (by decide +kernel)
theorem L_M_69 : Cond.fieldLink R_M 69 "TimerGatesModel" "now" "I" ∈ BIG := big_at 272 (by decide +kernel) (by decide +kernel)
theorem L_M_62 : Cond.fieldLink R_M 62 "TimerGatesModel" "status" "I" ∈ BIG := big_at 273 (by decide +kernel) (by decide +kernel)
theorem L_M_72 : Cond.fieldLink R_M 72 "TimerGatesModel" "served" "I" ∈ BIG := big_at 274 (by decide +kernel) (by decide +kernel)
theorem L_M_7 : Cond.fieldLink R_M 7 "TimerGatesModel" "period" "[I" ∈ BIG := big_at 275 (by decide +kernel) (by decide +kernel)
theorem L_M_13 : Cond.fieldLink R_M 13 "TimerGatesModel" "count" "[I" ∈ BIG := big_at 276 (by decide +kernel) (by decide +kernel)
theorem L_M_16 : Cond.fieldLink R_M 16 "TimerGatesModel" "source" "[I" ∈ BIG := big_at 277 (by decide +kernel) (by decide +kernel)
theorem L_M_19 : Cond.fieldLink R_M 19 "TimerGatesModel" "once" "[Z" ∈ BIG := big_at 278 (by decide +kernel) (by decide +kernel)
theorem L_M_23 : Cond.fieldLink R_M 23 "TimerGatesModel" "runs" "[Z" ∈ BIG := big_at 279 (by decide +kernel) (by decide +kernel)
theorem L_M_26 : Cond.fieldLink R_M 26 "TimerGatesModel" "often" "[I" ∈ BIG := big_at 280 (by decide +kernel) (by decide +kernel)
theorem L_M_29 : Cond.fieldLink R_M 29 "TimerGatesModel" "mask" "[I" ∈ BIG := big_at 281 (by decide +kernel) (by decide +kernel)
theorem L_M_32 : Cond.fieldLink R_M 32 "TimerGatesModel" "delay" "[I" ∈ BIG := big_at 282 (by decide +kernel) (by decide +kernel)
theorem L_M_35 : Cond.fieldLink R_M 35 "TimerGatesModel" "waits" "[I" ∈ BIG := big_at 283 (by decide +kernel) (by decide +kernel)
theorem L_M_38 : Cond.fieldLink R_M 38 "TimerGatesModel" "done" "[Z" ∈ BIG := big_at 284 (by decide +kernel) (by decide +kernel)
theorem L_M_41 : Cond.fieldLink R_M 41 "TimerGatesModel" "servedBy" "[I" ∈ BIG := big_at 285 (by decide +kernel) (by decide +kernel)
theorem L_M_44 : Cond.fieldLink R_M 44 "TimerGatesModel" "idle" "[I" ∈ BIG := big_at 286 (by decide +kernel) (by decide +kernel)
theorem L_M_47 : Cond.fieldLink R_M 47 "TimerGatesModel" "latest" "[I" ∈ BIG := big_at 287 (by decide +kernel) (by decide +kernel)
theorem L_M_50 : Cond.fieldLink R_M 50 "TimerGatesModel" "row" "[I" ∈ BIG := big_at 288 (by decide +kernel) (by decide +kernel)
theorem L_law_17 : Cond.methodLink R_law 17 y_m_set ∈ BIG := big_at 327 (by decide +kernel) (by decide +kernel)
theorem L_M_57 : Cond.methodLink R_M 57 y_m_isIn ∈ BIG := big_at 331 (by decide +kernel) (by decide +kernel)
theorem L_M_61 : Cond.constant R_M 61 (65535 : Int32) ∈ BIG := big_at 334 (by decide +kernel) (by decide +kernel)
theorem L_law_22 : Cond.methodLink R_law 22 y_m_turn ∈ BIG := big_at 335 (by decide +kernel) (by decide +kernel)
theorem L_law_27 : Cond.methodLink R_law 27 y_m_gate ∈ BIG := big_at 339 (by decide +kernel) (by decide +kernel)
theorem L_law_32 : Cond.methodLink R_law 32 y_m_clear ∈ BIG := big_at 343 (by decide +kernel) (by decide +kernel)
theorem L_law_36 : Cond.methodLink R_law 36 y_m_advance ∈ BIG := big_at 347 (by decide +kernel) (by decide +kernel)
theorem L_M_82 : Cond.methodLink R_M 82 y_m_tick ∈ BIG := big_at 351 (by decide +kernel) (by decide +kernel)
theorem L_M_75 : Cond.methodLink R_M 75 y_m_event ∈ BIG := big_at 355 (by decide +kernel) (by decide +kernel)
theorem L_M_78 : Cond.methodLink R_M 78 y_m_serve ∈ BIG := big_at 359 (by decide +kernel) (by decide +kernel)
theorem L_M_65 : Cond.methodLink R_M 65 y_m_asks ∈ BIG := big_at 363 (by decide +kernel) (by decide +kernel)
theorem L_law_40 : Cond.methodLink R_law 40 y_m_next ∈ BIG := big_at 367 (by decide +kernel) (by decide +kernel)
theorem L_law_45 : Cond.methodLink R_law 45 y_m_timer ∈ BIG := big_at 371 (by decide +kernel) (by decide +kernel)
theorem L_law_49 : Cond.methodLink R_law 49 y_m_gateOf ∈ BIG := big_at 375 (by decide +kernel) (by decide +kernel)
theorem L_law_53 : Cond.methodLink R_law 53 y_m_look ∈ BIG := big_at 379 (by decide +kernel) (by decide +kernel)
theorem L_law_57 : Cond.methodLink R_law 57 y_m_served ∈ BIG := big_at 383 (by decide +kernel) (by decide +kernel)
