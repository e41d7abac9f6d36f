def lw_P (b : Addr) (xs : List Int32) (args : Array Value) (s : State) : Prop := args = #[.ref b] ∧ s.IntsAt b xs ∧ xs.length ≤ 2560 ∧ (Jvm.Cond.and given_1 narrow_1).before args s = true
def lw_Q (_ : Array Value) (s : State) (o : Outcome) (t : State) : Prop := o = .returned (some (.int 1)) ∧ Framed s o t [] 600000 7302250
def lw_Z (below : List Frame) (a : Array Value) (s : State) : State → Prop := fun t => ∃ o, t.status = .running ∧ Ended t below o ∧ lw_Q a s o t
/-- the law's own end, with 1 on the stack, nothing written that was there before, its room as the claim has it -/
theorem lw_ret {p : Program} {l : Launch} {e : Env} {s : State} {m : MethodId} {below : List Frame} {meth : Method} {c : Code} {b : Nat} (hx : p.tables.exec = Jvm.exec) (hb : c.code = code) (hr : meth.sig.returnType = ret) (hlocks : meth.locks = false) {pc : Nat} {H : Heap} {ls : Array Slot} (hdg : decode code pc = .ok (.ireturn, 1)) : W p l e room_1 s m #[Value.ref b] below meth c H [] 600000 7302250 (lw_Z below #[Value.ref b] s) (F0 m pc ls [.int 1]) := by
  intro T hT X
  obtain ⟨fs, hret, hrun, hended, hW, hframe⟩ := X.leave (v := some (.int 1)) (hlocks := hlocks) (fun h => by rw [hr] at h; cases h)
  have hmeth' : T.vm.method? m = some meth := X.method'
  refine ⟨T.setFrames fs, ?_, .returned (some (.int 1)), hrun, hended, rfl, ⟨_, rfl⟩, hW, hframe⟩
  jvm_step X.here [X.here.top, hx, hb, hdg, hmeth', hr, ret, narrow_b1]
  (try refine ⟨rfl, ?_⟩); (try refine ⟨rfl, ?_⟩)
  first | (intro acts; rw [hret _ acts rfl rfl rfl]) | rw [hret _ _ rfl rfl rfl]
  exact Steps.refl _
/-- what holds at the law's entry: the machine, the code, the tables' words (any of lw_tbl by 'hts w (by decide +kernel)'), the script of L ints xs at the cell b, what the Statement gives of the start (any of its parts by flat_of_before) -/
def lw_At (p : Program) (s : State) (m : MethodId) (meth : Method) (c : Code) (b L : Nat) (xs : Nat → Int32) : Prop :=
  p.tables.exec = Jvm.exec ∧ c.code = code ∧ meth.sig.returnType = ret ∧ c.maxLocals = 4 ∧ s.vm.findClass R_law = some m.cls ∧ (∀ w ∈ lw_tbl, w.before #[Value.ref b] s = true) ∧ va_X b L xs s s.heap ∧ b < s.heap.size ∧ meth.locks = false ∧ (Jvm.Cond.and given_1 narrow_1).before #[Value.ref b] s = true
theorem xN.of {A : Array Value} {s : State} (h : ∀ w ∈ NESTS, w.before A s = true) : xN s := fun w hw => by
  have h2 := h w hw
  rcases isNest_cases (NESTS_ok w hw) with ⟨a, i, b, n, d, k, rfl⟩ | ⟨a, i, x, k, rfl⟩ | ⟨C, rfl⟩
  · exact va_Nw.of rfl h2
  · exact va_Nw.of rfl h2
  · exact va_AO.of h2
theorem law_lt {L k : Nat} (hL : L ≤ 2560) (hk : k ≤ 2560) (h : ¬ nI L - 5 < nI k) : k + 5 ≤ L := by
  rw [Int32.lt_iff_toInt_lt, show nI L - 5 = nI L - nI 5 from rfl, pk_sub_toInt (by omega) (by decide), nI_toInt (by omega)] at h
  omega
section LWS
variable {p : Program} {l : Launch} {e : Env} {R : Room} {s : State} {m : MethodId} {args : Array Value} {below : List Frame} {meth : Method} {c : Code} {H : Heap} {locs : List Loc} {cells slots : Nat} {Q : State → Prop} {cc : ByteArray} {pc : Nat} {ls : Array Slot} {rest : List Value} {b L : Nat} {xs : Nat → Int32} {A : Nat → Prop}
theorem lw_sld (hx : p.tables.exec = Jvm.exec) (hb : c.code = cc) (hX : va_X b L xs s s.heap) (hbl : b < s.heap.size) (hbA : ¬ A b) (hS : va_S A s.heap H locs) (i : Nat) (hi : i < L) (hL : L < 2 ^ 31) {v : Int32} (hv : v = nI i) (hdg : decode cc pc = .ok (.iaload, 1))
    (kk : W p l e R s m args below meth c H locs cells slots Q (F0 m (pc + 1) ls (.int (xs i) :: rest))) : W p l e R s m args below meth c H locs cells slots Q (F0 m pc ls (.int v :: .ref b :: rest)) := by
  subst hv
  refine va_sld hx hb hX hbl hbA hS (vp_in_nI hi hL) hdg ?_
  rw [nI_clamp (Nat.lt_trans hi hL)]
  exact kk
end LWS
set_option maxHeartbeats 8000000 in
set_option maxRecDepth 100000 in
/-- THE LAW'S LOOP: with k ints read the class and the reference are tied -/
theorem law_loop {p : Program} {l : Launch} {e : Env} {s : State} {m : MethodId} {below : List Frame} {meth : Method} {c : Code} {D : va_G} {a bb : Nat → Nat} {ca cb : Nat → ClassId} {b L : Nat} {xs : Nat → Int32} (hL : L ≤ 2560) (C0 : lw_At p s m meth c b L xs) (hKx : va_K D classes (tX ca) s) (hKm : va_K D classes (tM cb) s) :
    ∀ (n k : Nat) (σ μ : St) (N : Nat), k ≤ L → L + 1 ≤ k + n → N ≤ 16000 * k → RR σ μ N → ∀ (H : Heap) (locs : List Loc) (ls : Array Slot), va_P D classes (wX a ca σ ++ wM bb cb μ) H → va_D (fun q : Nat => s.heap.size ≤ q) (wX a ca σ ++ wM bb cb μ) → va_S (fun q : Nat => s.heap.size ≤ q) s.heap H locs → lv_has ls 4 [(3, .int (nI k)), (2, .ref (bb 0)), (1, .ref (a 0)), (0, .ref b)] → W p l e room_1 s m #[Value.ref b] below meth c H locs 34 333 (lw_Z below #[Value.ref b] s) (F0 m 18 ls []) := by
  obtain ⟨hx, hb, hr, hml, hown, hts, hX, hbl, hlocks, hgv⟩ := C0
  have hA : ∀ q : Nat, s.heap.size ≤ q → (fun q : Nat => s.heap.size ≤ q) q := fun _ h => h
  have hbA : ¬ (fun q : Nat => s.heap.size ≤ q) b := Nat.not_le.mpr hbl
  have hG : ∀ w ∈ BIG, w.before #[Value.ref b] s = true := fun w h => hts w (BIG_in h)
  have hN : xN s := xN.of (fun w h => hts w (NESTS_in h))
  intro n
  induction n with
  | zero =>
    intro k σ μ N h1 h2
    exact absurd h2 (by omega)
  | succ n ih =>
    intro k σ μ N hkL hfu hNk hR H locs ls hP hD hS hl
    refine lv_iload_n hx hb d_law_18 rfl (lv_at hl 0 rfl) ?_
    refine lv_aload_n hx hb d_law_19 rfl (lv_at hl 3 rfl) ?_
    refine va_slen hx hb hX hbl hbA hS d_law_20 ?_
    refine lv_iconst (v := 5) hx hb d_law_21 (by decide) ?_
    refine lv_isub hx hb d_law_22 ?_
    refine lv_icmp_gt (tgt := 446) hx hb d_law_23 (by decide) (fun c_1 => ?_) (fun c_1 => ?_)
    · refine lv_iconst (v := 1) hx hb d_law_446 (by decide) ?_
      refine va_forget (fun q hq => hS.2.2 q hq) ?_
      refine W.widen (k := 600000) (n := 7302250) (by decide) (by decide) ?_
      exact lw_ret hx hb hr hlocks d_law_447
    · have hk5 : k + 5 ≤ L := law_lt hL (by omega) c_1
      refine lv_aload_n hx hb d_law_26 rfl (lv_at hl 3 rfl) ?_
      refine lv_iload_n hx hb d_law_27 rfl (lv_at hl 0 rfl) ?_
      refine lw_sld hx hb hX hbl hbA hS (k) (by omega) (by omega) (rfl) d_law_28 ?_
      refine lv_bipush (v := 15) hx hb d_law_29 (by decide) ?_
      refine lv_iand hx hb d_law_31 ?_
      rcases sw_cases ((xs (k)) &&& 15) 9 (by decide) with s_2 | ⟨k_3, k_3_l, s_2⟩
      · refine lv_tableOut (tgt := 440) hx hb d_law_32 s_2 (by decide) ?_
        refine lv_iinc (v := nI (k + 5)) (lv' := [(3, .int (nI (k + 5))), (2, .ref (bb 0)), (1, .ref (a 0)), (0, .ref b)]) hx hb d_law_440 hl (k := 0) rfl (nI_add k 5) (by decide) rfl (fun ls hl => ?_)
        refine lv_goto (tgt := 18) hx hb d_law_443 (by decide) ?_
        exact ih (k + 5) σ μ N (by omega) (by omega) (by omega) hR _ _ _ hP hD hS (lv_sub hl [0, 1, 2, 3] rfl)
      · rcases (show k_3 = 0 ∨ k_3 = 1 ∨ k_3 = 2 ∨ k_3 = 3 ∨ k_3 = 4 ∨ k_3 = 5 ∨ k_3 = 6 ∨ k_3 = 7 ∨ k_3 = 8 ∨ k_3 = 9 by omega) with rfl | rfl | rfl | rfl | rfl | rfl | rfl | rfl | rfl | rfl
        · refine lv_tableIn (off := 56) (tgt := 88) hx hb d_law_32 (by rw [s_2]; decide) (by rw [s_2]; decide) (by rw [s_2]; decide) (by decide) ?_
          refine lv_aload_n hx hb d_law_88 rfl (lv_at hl 2 rfl) ?_
          refine lv_aload_n hx hb d_law_89 rfl (lv_at hl 3 rfl) ?_
          refine lv_iload_n hx hb d_law_90 rfl (lv_at hl 0 rfl) ?_
          refine lv_iconst (v := 1) hx hb d_law_91 (by decide) ?_
          refine lv_iadd hx hb d_law_92 ?_
          refine lw_sld hx hb hX hbl hbA hS (k + 1) (by omega) (by omega) (nI_add k 1) d_law_93 ?_
          refine lv_aload_n hx hb d_law_94 rfl (lv_at hl 3 rfl) ?_
          refine lv_iload_n hx hb d_law_95 rfl (lv_at hl 0 rfl) ?_
          refine lv_iconst (v := 2) hx hb d_law_96 (by decide) ?_
          refine lv_iadd hx hb d_law_97 ?_
          refine lw_sld hx hb hX hbl hbA hS (k + 2) (by omega) (by omega) (nI_add k 2) d_law_98 ?_
          refine lv_aload_n hx hb d_law_99 rfl (lv_at hl 3 rfl) ?_
          refine lv_iload_n hx hb d_law_100 rfl (lv_at hl 0 rfl) ?_
          refine lv_iconst (v := 3) hx hb d_law_101 (by decide) ?_
          refine lv_iadd hx hb d_law_102 ?_
          refine lw_sld hx hb hX hbl hbA hS (k + 3) (by omega) (by omega) (nI_add k 3) d_law_103 ?_
          refine lv_aload_n hx hb d_law_104 rfl (lv_at hl 3 rfl) ?_
          refine lv_iload_n hx hb d_law_105 rfl (lv_at hl 0 rfl) ?_
          refine lv_iconst (v := 4) hx hb d_law_106 (by decide) ?_
          refine lv_iadd hx hb d_law_107 ?_
          refine lw_sld hx hb hX hbl hbA hS (k + 4) (by omega) (by omega) (nI_add k 4) d_law_108 ?_
          refine lv_if_eq (tgt := 116) hx hb d_law_109 (by decide) (fun c_4 => ?_) (fun c_4 => ?_)
          · refine lv_iconst (v := 0) hx hb d_law_116 (by decide) ?_
            have hP := k_swapP hP
            have hD := k_swapD hD
            refine k_fV (w := wM bb cb μ) (wf := wX a ca) (σ := σ) (rest := []) hx hb hml hown hG hKx hN hA hP hD hS (c_set l D a ca σ (xs (k + 1)) (xs (k + 2)) (xs (k + 3)) false) ok_set io_set L_law_13 ⟨rfl, rfl, by decide, by decide⟩ 0 wX_X rfl rfl hl.1 rfl (Nat.le_of_ble_eq_true rfl) ⟨Nat.le_of_ble_eq_true rfl, Nat.le_of_ble_eq_true rfl⟩ d_law_117 (fun H locs hP hD hS => ?_)
            have hP := k_swapP hP
            have hD := k_swapD hD
            refine lv_aload_n hx hb d_law_120 rfl (lv_at hl 1 rfl) ?_
            refine lv_aload_n hx hb d_law_121 rfl (lv_at hl 3 rfl) ?_
            refine lv_iload_n hx hb d_law_122 rfl (lv_at hl 0 rfl) ?_
            refine lv_iconst (v := 1) hx hb d_law_123 (by decide) ?_
            refine lv_iadd hx hb d_law_124 ?_
            refine lw_sld hx hb hX hbl hbA hS (k + 1) (by omega) (by omega) (nI_add k 1) d_law_125 ?_
            refine lv_aload_n hx hb d_law_126 rfl (lv_at hl 3 rfl) ?_
            refine lv_iload_n hx hb d_law_127 rfl (lv_at hl 0 rfl) ?_
            refine lv_iconst (v := 2) hx hb d_law_128 (by decide) ?_
            refine lv_iadd hx hb d_law_129 ?_
            refine lw_sld hx hb hX hbl hbA hS (k + 2) (by omega) (by omega) (nI_add k 2) d_law_130 ?_
            refine lv_aload_n hx hb d_law_131 rfl (lv_at hl 3 rfl) ?_
            refine lv_iload_n hx hb d_law_132 rfl (lv_at hl 0 rfl) ?_
            refine lv_iconst (v := 3) hx hb d_law_133 (by decide) ?_
            refine lv_iadd hx hb d_law_134 ?_
            refine lw_sld hx hb hX hbl hbA hS (k + 3) (by omega) (by omega) (nI_add k 3) d_law_135 ?_
            refine lv_aload_n hx hb d_law_136 rfl (lv_at hl 3 rfl) ?_
            refine lv_iload_n hx hb d_law_137 rfl (lv_at hl 0 rfl) ?_
            refine lv_iconst (v := 4) hx hb d_law_138 (by decide) ?_
            refine lv_iadd hx hb d_law_139 ?_
            refine lw_sld hx hb hX hbl hbA hS (k + 4) (by omega) (by omega) (nI_add k 4) d_law_140 ?_
            refine lv_if_eq (tgt := 148) hx hb d_law_141 (by decide) (fun c_5 => ?_) (fun c_5 => absurd c_4 c_5)
            refine lv_iconst (v := 0) hx hb d_law_148 (by decide) ?_
            refine k_fV (w := wX a ca ((f_set σ (xs (k + 1)) (xs (k + 2)) (xs (k + 3)) false).2)) (wf := wM bb cb) (σ := μ) (rest := [.int ((f_set σ (xs (k + 1)) (xs (k + 2)) (xs (k + 3)) false).1)]) hx hb hml hown hG hKm hN hA hP hD hS (c_m_set l D bb cb μ (xs (k + 1)) (xs (k + 2)) (xs (k + 3)) false) ok_m_set io_m_set L_law_17 ⟨rfl, rfl, by decide, by decide⟩ 0 wM_M rfl rfl hl.1 rfl (Nat.le_of_ble_eq_true rfl) ⟨Nat.le_of_ble_eq_true rfl, Nat.le_of_ble_eq_true rfl⟩ d_law_149 (fun H locs hP hD hS => ?_)
            refine lv_icmp_eq (tgt := 440) hx hb d_law_152 (by decide) (fun c_6 => ?_) (fun c_6 => absurd ((op_set hR (xs (k + 1)) (xs (k + 2)) (xs (k + 3)) false).1) c_6)
            refine lv_iinc (v := nI (k + 5)) (lv' := [(3, .int (nI (k + 5))), (2, .ref (bb 0)), (1, .ref (a 0)), (0, .ref b)]) hx hb d_law_440 hl (k := 0) rfl (nI_add k 5) (by decide) rfl (fun ls hl => ?_)
            refine lv_goto (tgt := 18) hx hb d_law_443 (by decide) ?_
            exact ih (k + 5) (f_set σ (xs (k + 1)) (xs (k + 2)) (xs (k + 3)) false).2 (g_set μ (xs (k + 1)) (xs (k + 2)) (xs (k + 3)) false).2 N (by omega) (by omega) (by omega) (op_set hR (xs (k + 1)) (xs (k + 2)) (xs (k + 3)) false).2 _ _ _ hP hD hS (lv_sub hl [0, 1, 2, 3] rfl)
          · refine lv_iconst (v := 1) hx hb d_law_112 (by decide) ?_
            refine lv_goto (tgt := 117) hx hb d_law_113 (by decide) ?_
            have hP := k_swapP hP
            have hD := k_swapD hD
            refine k_fV (w := wM bb cb μ) (wf := wX a ca) (σ := σ) (rest := []) hx hb hml hown hG hKx hN hA hP hD hS (c_set l D a ca σ (xs (k + 1)) (xs (k + 2)) (xs (k + 3)) true) ok_set io_set L_law_13 ⟨rfl, rfl, by decide, by decide⟩ 0 wX_X rfl rfl hl.1 rfl (Nat.le_of_ble_eq_true rfl) ⟨Nat.le_of_ble_eq_true rfl, Nat.le_of_ble_eq_true rfl⟩ d_law_117 (fun H locs hP hD hS => ?_)
            have hP := k_swapP hP
            have hD := k_swapD hD
            refine lv_aload_n hx hb d_law_120 rfl (lv_at hl 1 rfl) ?_
            refine lv_aload_n hx hb d_law_121 rfl (lv_at hl 3 rfl) ?_
            refine lv_iload_n hx hb d_law_122 rfl (lv_at hl 0 rfl) ?_
            refine lv_iconst (v := 1) hx hb d_law_123 (by decide) ?_
            refine lv_iadd hx hb d_law_124 ?_
            refine lw_sld hx hb hX hbl hbA hS (k + 1) (by omega) (by omega) (nI_add k 1) d_law_125 ?_
            refine lv_aload_n hx hb d_law_126 rfl (lv_at hl 3 rfl) ?_
            refine lv_iload_n hx hb d_law_127 rfl (lv_at hl 0 rfl) ?_
            refine lv_iconst (v := 2) hx hb d_law_128 (by decide) ?_
            refine lv_iadd hx hb d_law_129 ?_
            refine lw_sld hx hb hX hbl hbA hS (k + 2) (by omega) (by omega) (nI_add k 2) d_law_130 ?_
            refine lv_aload_n hx hb d_law_131 rfl (lv_at hl 3 rfl) ?_
            refine lv_iload_n hx hb d_law_132 rfl (lv_at hl 0 rfl) ?_
            refine lv_iconst (v := 3) hx hb d_law_133 (by decide) ?_
            refine lv_iadd hx hb d_law_134 ?_
            refine lw_sld hx hb hX hbl hbA hS (k + 3) (by omega) (by omega) (nI_add k 3) d_law_135 ?_
            refine lv_aload_n hx hb d_law_136 rfl (lv_at hl 3 rfl) ?_
            refine lv_iload_n hx hb d_law_137 rfl (lv_at hl 0 rfl) ?_
            refine lv_iconst (v := 4) hx hb d_law_138 (by decide) ?_
            refine lv_iadd hx hb d_law_139 ?_
            refine lw_sld hx hb hX hbl hbA hS (k + 4) (by omega) (by omega) (nI_add k 4) d_law_140 ?_
            refine lv_if_eq (tgt := 148) hx hb d_law_141 (by decide) (fun c_7 => absurd c_7 c_4) (fun c_7 => ?_)
            refine lv_iconst (v := 1) hx hb d_law_144 (by decide) ?_
            refine lv_goto (tgt := 149) hx hb d_law_145 (by decide) ?_
            refine k_fV (w := wX a ca ((f_set σ (xs (k + 1)) (xs (k + 2)) (xs (k + 3)) true).2)) (wf := wM bb cb) (σ := μ) (rest := [.int ((f_set σ (xs (k + 1)) (xs (k + 2)) (xs (k + 3)) true).1)]) hx hb hml hown hG hKm hN hA hP hD hS (c_m_set l D bb cb μ (xs (k + 1)) (xs (k + 2)) (xs (k + 3)) true) ok_m_set io_m_set L_law_17 ⟨rfl, rfl, by decide, by decide⟩ 0 wM_M rfl rfl hl.1 rfl (Nat.le_of_ble_eq_true rfl) ⟨Nat.le_of_ble_eq_true rfl, Nat.le_of_ble_eq_true rfl⟩ d_law_149 (fun H locs hP hD hS => ?_)
            refine lv_icmp_eq (tgt := 440) hx hb d_law_152 (by decide) (fun c_8 => ?_) (fun c_8 => absurd ((op_set hR (xs (k + 1)) (xs (k + 2)) (xs (k + 3)) true).1) c_8)
            refine lv_iinc (v := nI (k + 5)) (lv' := [(3, .int (nI (k + 5))), (2, .ref (bb 0)), (1, .ref (a 0)), (0, .ref b)]) hx hb d_law_440 hl (k := 0) rfl (nI_add k 5) (by decide) rfl (fun ls hl => ?_)
            refine lv_goto (tgt := 18) hx hb d_law_443 (by decide) ?_
            exact ih (k + 5) (f_set σ (xs (k + 1)) (xs (k + 2)) (xs (k + 3)) true).2 (g_set μ (xs (k + 1)) (xs (k + 2)) (xs (k + 3)) true).2 N (by omega) (by omega) (by omega) (op_set hR (xs (k + 1)) (xs (k + 2)) (xs (k + 3)) true).2 _ _ _ hP hD hS (lv_sub hl [0, 1, 2, 3] rfl)
        · refine lv_tableIn (off := 125) (tgt := 157) hx hb d_law_32 (by rw [s_2]; decide) (by rw [s_2]; decide) (by rw [s_2]; decide) (by decide) ?_
          refine lv_aload_n hx hb d_law_157 rfl (lv_at hl 2 rfl) ?_
          refine lv_aload_n hx hb d_law_158 rfl (lv_at hl 3 rfl) ?_
          refine lv_iload_n hx hb d_law_159 rfl (lv_at hl 0 rfl) ?_
          refine lv_iconst (v := 1) hx hb d_law_160 (by decide) ?_
          refine lv_iadd hx hb d_law_161 ?_
          refine lw_sld hx hb hX hbl hbA hS (k + 1) (by omega) (by omega) (nI_add k 1) d_law_162 ?_
          refine lv_aload_n hx hb d_law_163 rfl (lv_at hl 3 rfl) ?_
          refine lv_iload_n hx hb d_law_164 rfl (lv_at hl 0 rfl) ?_
          refine lv_iconst (v := 2) hx hb d_law_165 (by decide) ?_
          refine lv_iadd hx hb d_law_166 ?_
          refine lw_sld hx hb hX hbl hbA hS (k + 2) (by omega) (by omega) (nI_add k 2) d_law_167 ?_
          refine lv_if_eq (tgt := 175) hx hb d_law_168 (by decide) (fun c_9 => ?_) (fun c_9 => ?_)
          · refine lv_iconst (v := 0) hx hb d_law_175 (by decide) ?_
            have hP := k_swapP hP
            have hD := k_swapD hD
            refine k_fV (w := wM bb cb μ) (wf := wX a ca) (σ := σ) (rest := []) hx hb hml hown hG hKx hN hA hP hD hS (c_turn l D a ca σ (xs (k + 1)) false) ok_turn io_turn L_law_18 ⟨rfl, rfl, by decide, by decide⟩ 0 wX_X rfl rfl hl.1 rfl (Nat.le_of_ble_eq_true rfl) ⟨Nat.le_of_ble_eq_true rfl, Nat.le_of_ble_eq_true rfl⟩ d_law_176 (fun H locs hP hD hS => ?_)
            have hP := k_swapP hP
            have hD := k_swapD hD
            refine lv_aload_n hx hb d_law_179 rfl (lv_at hl 1 rfl) ?_
            refine lv_aload_n hx hb d_law_180 rfl (lv_at hl 3 rfl) ?_
            refine lv_iload_n hx hb d_law_181 rfl (lv_at hl 0 rfl) ?_
            refine lv_iconst (v := 1) hx hb d_law_182 (by decide) ?_
            refine lv_iadd hx hb d_law_183 ?_
            refine lw_sld hx hb hX hbl hbA hS (k + 1) (by omega) (by omega) (nI_add k 1) d_law_184 ?_
            refine lv_aload_n hx hb d_law_185 rfl (lv_at hl 3 rfl) ?_
            refine lv_iload_n hx hb d_law_186 rfl (lv_at hl 0 rfl) ?_
            refine lv_iconst (v := 2) hx hb d_law_187 (by decide) ?_
            refine lv_iadd hx hb d_law_188 ?_
            refine lw_sld hx hb hX hbl hbA hS (k + 2) (by omega) (by omega) (nI_add k 2) d_law_189 ?_
            refine lv_if_eq (tgt := 197) hx hb d_law_190 (by decide) (fun c_10 => ?_) (fun c_10 => absurd c_9 c_10)
            refine lv_iconst (v := 0) hx hb d_law_197 (by decide) ?_
            refine k_fV (w := wX a ca ((f_turn σ (xs (k + 1)) false).2)) (wf := wM bb cb) (σ := μ) (rest := [.int ((f_turn σ (xs (k + 1)) false).1)]) hx hb hml hown hG hKm hN hA hP hD hS (c_m_turn l D bb cb μ (xs (k + 1)) false) ok_m_turn io_m_turn L_law_22 ⟨rfl, rfl, by decide, by decide⟩ 0 wM_M rfl rfl hl.1 rfl (Nat.le_of_ble_eq_true rfl) ⟨Nat.le_of_ble_eq_true rfl, Nat.le_of_ble_eq_true rfl⟩ d_law_198 (fun H locs hP hD hS => ?_)
            refine lv_icmp_eq (tgt := 440) hx hb d_law_201 (by decide) (fun c_11 => ?_) (fun c_11 => absurd ((op_turn hR (xs (k + 1)) false).1) c_11)
            refine lv_iinc (v := nI (k + 5)) (lv' := [(3, .int (nI (k + 5))), (2, .ref (bb 0)), (1, .ref (a 0)), (0, .ref b)]) hx hb d_law_440 hl (k := 0) rfl (nI_add k 5) (by decide) rfl (fun ls hl => ?_)
            refine lv_goto (tgt := 18) hx hb d_law_443 (by decide) ?_
            exact ih (k + 5) (f_turn σ (xs (k + 1)) false).2 (g_turn μ (xs (k + 1)) false).2 N (by omega) (by omega) (by omega) (op_turn hR (xs (k + 1)) false).2 _ _ _ hP hD hS (lv_sub hl [0, 1, 2, 3] rfl)
          · refine lv_iconst (v := 1) hx hb d_law_171 (by decide) ?_
            refine lv_goto (tgt := 176) hx hb d_law_172 (by decide) ?_
            have hP := k_swapP hP
            have hD := k_swapD hD
            refine k_fV (w := wM bb cb μ) (wf := wX a ca) (σ := σ) (rest := []) hx hb hml hown hG hKx hN hA hP hD hS (c_turn l D a ca σ (xs (k + 1)) true) ok_turn io_turn L_law_18 ⟨rfl, rfl, by decide, by decide⟩ 0 wX_X rfl rfl hl.1 rfl (Nat.le_of_ble_eq_true rfl) ⟨Nat.le_of_ble_eq_true rfl, Nat.le_of_ble_eq_true rfl⟩ d_law_176 (fun H locs hP hD hS => ?_)
            have hP := k_swapP hP
            have hD := k_swapD hD
            refine lv_aload_n hx hb d_law_179 rfl (lv_at hl 1 rfl) ?_
            refine lv_aload_n hx hb d_law_180 rfl (lv_at hl 3 rfl) ?_
            refine lv_iload_n hx hb d_law_181 rfl (lv_at hl 0 rfl) ?_
            refine lv_iconst (v := 1) hx hb d_law_182 (by decide) ?_
            refine lv_iadd hx hb d_law_183 ?_
            refine lw_sld hx hb hX hbl hbA hS (k + 1) (by omega) (by omega) (nI_add k 1) d_law_184 ?_
            refine lv_aload_n hx hb d_law_185 rfl (lv_at hl 3 rfl) ?_
            refine lv_iload_n hx hb d_law_186 rfl (lv_at hl 0 rfl) ?_
            refine lv_iconst (v := 2) hx hb d_law_187 (by decide) ?_
            refine lv_iadd hx hb d_law_188 ?_
            refine lw_sld hx hb hX hbl hbA hS (k + 2) (by omega) (by omega) (nI_add k 2) d_law_189 ?_
            refine lv_if_eq (tgt := 197) hx hb d_law_190 (by decide) (fun c_12 => absurd c_12 c_9) (fun c_12 => ?_)
            refine lv_iconst (v := 1) hx hb d_law_193 (by decide) ?_
            refine lv_goto (tgt := 198) hx hb d_law_194 (by decide) ?_
            refine k_fV (w := wX a ca ((f_turn σ (xs (k + 1)) true).2)) (wf := wM bb cb) (σ := μ) (rest := [.int ((f_turn σ (xs (k + 1)) true).1)]) hx hb hml hown hG hKm hN hA hP hD hS (c_m_turn l D bb cb μ (xs (k + 1)) true) ok_m_turn io_m_turn L_law_22 ⟨rfl, rfl, by decide, by decide⟩ 0 wM_M rfl rfl hl.1 rfl (Nat.le_of_ble_eq_true rfl) ⟨Nat.le_of_ble_eq_true rfl, Nat.le_of_ble_eq_true rfl⟩ d_law_198 (fun H locs hP hD hS => ?_)
            refine lv_icmp_eq (tgt := 440) hx hb d_law_201 (by decide) (fun c_13 => ?_) (fun c_13 => absurd ((op_turn hR (xs (k + 1)) true).1) c_13)
            refine lv_iinc (v := nI (k + 5)) (lv' := [(3, .int (nI (k + 5))), (2, .ref (bb 0)), (1, .ref (a 0)), (0, .ref b)]) hx hb d_law_440 hl (k := 0) rfl (nI_add k 5) (by decide) rfl (fun ls hl => ?_)
            refine lv_goto (tgt := 18) hx hb d_law_443 (by decide) ?_
            exact ih (k + 5) (f_turn σ (xs (k + 1)) true).2 (g_turn μ (xs (k + 1)) true).2 N (by omega) (by omega) (by omega) (op_turn hR (xs (k + 1)) true).2 _ _ _ hP hD hS (lv_sub hl [0, 1, 2, 3] rfl)
        · refine lv_tableIn (off := 174) (tgt := 206) hx hb d_law_32 (by rw [s_2]; decide) (by rw [s_2]; decide) (by rw [s_2]; decide) (by decide) ?_
          refine lv_aload_n hx hb d_law_206 rfl (lv_at hl 2 rfl) ?_
          refine lv_aload_n hx hb d_law_207 rfl (lv_at hl 3 rfl) ?_
          refine lv_iload_n hx hb d_law_208 rfl (lv_at hl 0 rfl) ?_
          refine lv_iconst (v := 1) hx hb d_law_209 (by decide) ?_
          refine lv_iadd hx hb d_law_210 ?_
          refine lw_sld hx hb hX hbl hbA hS (k + 1) (by omega) (by omega) (nI_add k 1) d_law_211 ?_
          refine lv_aload_n hx hb d_law_212 rfl (lv_at hl 3 rfl) ?_
          refine lv_iload_n hx hb d_law_213 rfl (lv_at hl 0 rfl) ?_
          refine lv_iconst (v := 2) hx hb d_law_214 (by decide) ?_
          refine lv_iadd hx hb d_law_215 ?_
          refine lw_sld hx hb hX hbl hbA hS (k + 2) (by omega) (by omega) (nI_add k 2) d_law_216 ?_
          refine lv_aload_n hx hb d_law_217 rfl (lv_at hl 3 rfl) ?_
          refine lv_iload_n hx hb d_law_218 rfl (lv_at hl 0 rfl) ?_
          refine lv_iconst (v := 3) hx hb d_law_219 (by decide) ?_
          refine lv_iadd hx hb d_law_220 ?_
          refine lw_sld hx hb hX hbl hbA hS (k + 3) (by omega) (by omega) (nI_add k 3) d_law_221 ?_
          have hP := k_swapP hP
          have hD := k_swapD hD
          refine k_fV (w := wM bb cb μ) (wf := wX a ca) (σ := σ) (rest := []) hx hb hml hown hG hKx hN hA hP hD hS (c_gate l D a ca σ (xs (k + 1)) (xs (k + 2)) (xs (k + 3))) ok_gate io_gate L_law_23 ⟨rfl, rfl, by decide, by decide⟩ 0 wX_X rfl rfl hl.1 rfl (Nat.le_of_ble_eq_true rfl) ⟨Nat.le_of_ble_eq_true rfl, Nat.le_of_ble_eq_true rfl⟩ d_law_222 (fun H locs hP hD hS => ?_)
          have hP := k_swapP hP
          have hD := k_swapD hD
          refine lv_aload_n hx hb d_law_225 rfl (lv_at hl 1 rfl) ?_
          refine lv_aload_n hx hb d_law_226 rfl (lv_at hl 3 rfl) ?_
          refine lv_iload_n hx hb d_law_227 rfl (lv_at hl 0 rfl) ?_
          refine lv_iconst (v := 1) hx hb d_law_228 (by decide) ?_
          refine lv_iadd hx hb d_law_229 ?_
          refine lw_sld hx hb hX hbl hbA hS (k + 1) (by omega) (by omega) (nI_add k 1) d_law_230 ?_
          refine lv_aload_n hx hb d_law_231 rfl (lv_at hl 3 rfl) ?_
          refine lv_iload_n hx hb d_law_232 rfl (lv_at hl 0 rfl) ?_
          refine lv_iconst (v := 2) hx hb d_law_233 (by decide) ?_
          refine lv_iadd hx hb d_law_234 ?_
          refine lw_sld hx hb hX hbl hbA hS (k + 2) (by omega) (by omega) (nI_add k 2) d_law_235 ?_
          refine lv_aload_n hx hb d_law_236 rfl (lv_at hl 3 rfl) ?_
          refine lv_iload_n hx hb d_law_237 rfl (lv_at hl 0 rfl) ?_
          refine lv_iconst (v := 3) hx hb d_law_238 (by decide) ?_
          refine lv_iadd hx hb d_law_239 ?_
          refine lw_sld hx hb hX hbl hbA hS (k + 3) (by omega) (by omega) (nI_add k 3) d_law_240 ?_
          refine k_fV (w := wX a ca ((f_gate σ (xs (k + 1)) (xs (k + 2)) (xs (k + 3))).2)) (wf := wM bb cb) (σ := μ) (rest := [.int ((f_gate σ (xs (k + 1)) (xs (k + 2)) (xs (k + 3))).1)]) hx hb hml hown hG hKm hN hA hP hD hS (c_m_gate l D bb cb μ (xs (k + 1)) (xs (k + 2)) (xs (k + 3))) ok_m_gate io_m_gate L_law_27 ⟨rfl, rfl, by decide, by decide⟩ 0 wM_M rfl rfl hl.1 rfl (Nat.le_of_ble_eq_true rfl) ⟨Nat.le_of_ble_eq_true rfl, Nat.le_of_ble_eq_true rfl⟩ d_law_241 (fun H locs hP hD hS => ?_)
          refine lv_icmp_eq (tgt := 440) hx hb d_law_244 (by decide) (fun c_14 => ?_) (fun c_14 => absurd ((op_gate hR (xs (k + 1)) (xs (k + 2)) (xs (k + 3))).1) c_14)
          refine lv_iinc (v := nI (k + 5)) (lv' := [(3, .int (nI (k + 5))), (2, .ref (bb 0)), (1, .ref (a 0)), (0, .ref b)]) hx hb d_law_440 hl (k := 0) rfl (nI_add k 5) (by decide) rfl (fun ls hl => ?_)
          refine lv_goto (tgt := 18) hx hb d_law_443 (by decide) ?_
          exact ih (k + 5) (f_gate σ (xs (k + 1)) (xs (k + 2)) (xs (k + 3))).2 (g_gate μ (xs (k + 1)) (xs (k + 2)) (xs (k + 3))).2 N (by omega) (by omega) (by omega) (op_gate hR (xs (k + 1)) (xs (k + 2)) (xs (k + 3))).2 _ _ _ hP hD hS (lv_sub hl [0, 1, 2, 3] rfl)
        · refine lv_tableIn (off := 217) (tgt := 249) hx hb d_law_32 (by rw [s_2]; decide) (by rw [s_2]; decide) (by rw [s_2]; decide) (by decide) ?_
          refine lv_aload_n hx hb d_law_249 rfl (lv_at hl 2 rfl) ?_
          refine lv_aload_n hx hb d_law_250 rfl (lv_at hl 3 rfl) ?_
          refine lv_iload_n hx hb d_law_251 rfl (lv_at hl 0 rfl) ?_
          refine lv_iconst (v := 1) hx hb d_law_252 (by decide) ?_
          refine lv_iadd hx hb d_law_253 ?_
          refine lw_sld hx hb hX hbl hbA hS (k + 1) (by omega) (by omega) (nI_add k 1) d_law_254 ?_
          have hP := k_swapP hP
          have hD := k_swapD hD
          refine k_fV (w := wM bb cb μ) (wf := wX a ca) (σ := σ) (rest := []) hx hb hml hown hG hKx hN hA hP hD hS (c_clear l D a ca σ (xs (k + 1))) ok_clear io_clear L_law_28 ⟨rfl, rfl, by decide, by decide⟩ 0 wX_X rfl rfl hl.1 rfl (Nat.le_of_ble_eq_true rfl) ⟨Nat.le_of_ble_eq_true rfl, Nat.le_of_ble_eq_true rfl⟩ d_law_255 (fun H locs hP hD hS => ?_)
          have hP := k_swapP hP
          have hD := k_swapD hD
          refine lv_aload_n hx hb d_law_258 rfl (lv_at hl 1 rfl) ?_
          refine lv_aload_n hx hb d_law_259 rfl (lv_at hl 3 rfl) ?_
          refine lv_iload_n hx hb d_law_260 rfl (lv_at hl 0 rfl) ?_
          refine lv_iconst (v := 1) hx hb d_law_261 (by decide) ?_
          refine lv_iadd hx hb d_law_262 ?_
          refine lw_sld hx hb hX hbl hbA hS (k + 1) (by omega) (by omega) (nI_add k 1) d_law_263 ?_
          refine k_fV (w := wX a ca ((f_clear σ (xs (k + 1))).2)) (wf := wM bb cb) (σ := μ) (rest := [.int ((f_clear σ (xs (k + 1))).1)]) hx hb hml hown hG hKm hN hA hP hD hS (c_m_clear l D bb cb μ (xs (k + 1))) ok_m_clear io_m_clear L_law_32 ⟨rfl, rfl, by decide, by decide⟩ 0 wM_M rfl rfl hl.1 rfl (Nat.le_of_ble_eq_true rfl) ⟨Nat.le_of_ble_eq_true rfl, Nat.le_of_ble_eq_true rfl⟩ d_law_264 (fun H locs hP hD hS => ?_)
          refine lv_icmp_eq (tgt := 440) hx hb d_law_267 (by decide) (fun c_15 => ?_) (fun c_15 => absurd ((op_clear hR (xs (k + 1))).1) c_15)
          refine lv_iinc (v := nI (k + 5)) (lv' := [(3, .int (nI (k + 5))), (2, .ref (bb 0)), (1, .ref (a 0)), (0, .ref b)]) hx hb d_law_440 hl (k := 0) rfl (nI_add k 5) (by decide) rfl (fun ls hl => ?_)
          refine lv_goto (tgt := 18) hx hb d_law_443 (by decide) ?_
          exact ih (k + 5) (f_clear σ (xs (k + 1))).2 (g_clear μ (xs (k + 1))).2 N (by omega) (by omega) (by omega) (op_clear hR (xs (k + 1))).2 _ _ _ hP hD hS (lv_sub hl [0, 1, 2, 3] rfl)
        · refine lv_tableIn (off := 240) (tgt := 272) hx hb d_law_32 (by rw [s_2]; decide) (by rw [s_2]; decide) (by rw [s_2]; decide) (by decide) ?_
          refine lv_aload_n hx hb d_law_272 rfl (lv_at hl 2 rfl) ?_
          refine lv_aload_n hx hb d_law_273 rfl (lv_at hl 3 rfl) ?_
          refine lv_iload_n hx hb d_law_274 rfl (lv_at hl 0 rfl) ?_
          refine lv_iconst (v := 1) hx hb d_law_275 (by decide) ?_
          refine lv_iadd hx hb d_law_276 ?_
          refine lw_sld hx hb hX hbl hbA hS (k + 1) (by omega) (by omega) (nI_add k 1) d_law_277 ?_
          have hP := k_swapP hP
          have hD := k_swapD hD
          refine k_fV (w := wM bb cb μ) (wf := wX a ca) (σ := σ) (rest := []) hx hb hml hown hG hKx hN hA hP hD hS (c_advance l D a ca σ (xs (k + 1)) hR.inv) ok_advance io_advance L_law_33 ⟨rfl, rfl, by decide, by decide⟩ 0 wX_X rfl rfl hl.1 rfl (Nat.le_of_ble_eq_true rfl) ⟨Nat.le_of_ble_eq_true rfl, Nat.le_of_ble_eq_true rfl⟩ d_law_278 (fun H locs hP hD hS => ?_)
          have hP := k_swapP hP
          have hD := k_swapD hD
          refine lv_aload_n hx hb d_law_281 rfl (lv_at hl 1 rfl) ?_
          refine lv_aload_n hx hb d_law_282 rfl (lv_at hl 3 rfl) ?_
          refine lv_iload_n hx hb d_law_283 rfl (lv_at hl 0 rfl) ?_
          refine lv_iconst (v := 1) hx hb d_law_284 (by decide) ?_
          refine lv_iadd hx hb d_law_285 ?_
          refine lw_sld hx hb hX hbl hbA hS (k + 1) (by omega) (by omega) (nI_add k 1) d_law_286 ?_
          refine k_fV (w := wX a ca ((f_advance σ (xs (k + 1))).2)) (wf := wM bb cb) (σ := μ) (rest := [.int ((f_advance σ (xs (k + 1))).1)]) hx hb hml hown hG hKm hN hA hP hD hS (c_m_advance l D bb cb μ (xs (k + 1)) N hR.2.2.1 (by omega)) ok_m_advance io_m_advance L_law_36 ⟨rfl, rfl, by decide, by decide⟩ 0 wM_M rfl rfl hl.1 rfl (Nat.le_of_ble_eq_true rfl) ⟨Nat.le_of_ble_eq_true rfl, Nat.le_of_ble_eq_true rfl⟩ d_law_287 (fun H locs hP hD hS => ?_)
          refine lv_icmp_eq (tgt := 440) hx hb d_law_290 (by decide) (fun c_16 => ?_) (fun c_16 => absurd ((op_advance hR (by omega) (xs (k + 1))).1) c_16)
          refine lv_iinc (v := nI (k + 5)) (lv' := [(3, .int (nI (k + 5))), (2, .ref (bb 0)), (1, .ref (a 0)), (0, .ref b)]) hx hb d_law_440 hl (k := 0) rfl (nI_add k 5) (by decide) rfl (fun ls hl => ?_)
          refine lv_goto (tgt := 18) hx hb d_law_443 (by decide) ?_
          obtain ⟨N2, hN2, hR2⟩ := (op_advance hR (by omega) (xs (k + 1))).2
          exact ih (k + 5) (f_advance σ (xs (k + 1))).2 (g_advance μ (xs (k + 1))).2 N2 (by omega) (by omega) (by omega) hR2 _ _ _ hP hD hS (lv_sub hl [0, 1, 2, 3] rfl)
        · refine lv_tableIn (off := 263) (tgt := 295) hx hb d_law_32 (by rw [s_2]; decide) (by rw [s_2]; decide) (by rw [s_2]; decide) (by decide) ?_
          refine lv_aload_n hx hb d_law_295 rfl (lv_at hl 2 rfl) ?_
          refine lv_aload_n hx hb d_law_296 rfl (lv_at hl 3 rfl) ?_
          refine lv_iload_n hx hb d_law_297 rfl (lv_at hl 0 rfl) ?_
          refine lv_iconst (v := 1) hx hb d_law_298 (by decide) ?_
          refine lv_iadd hx hb d_law_299 ?_
          refine lw_sld hx hb hX hbl hbA hS (k + 1) (by omega) (by omega) (nI_add k 1) d_law_300 ?_
          have hP := k_swapP hP
          have hD := k_swapD hD
          refine k_fV (w := wM bb cb μ) (wf := wX a ca) (σ := σ) (rest := []) hx hb hml hown hG hKx hN hA hP hD hS (c_next l D a ca σ (xs (k + 1)) hR.inv) ok_next io_next L_law_37 ⟨rfl, rfl, by decide, by decide⟩ 0 wX_X rfl rfl hl.1 rfl (Nat.le_of_ble_eq_true rfl) ⟨Nat.le_of_ble_eq_true rfl, Nat.le_of_ble_eq_true rfl⟩ d_law_301 (fun H locs hP hD hS => ?_)
          have hP := k_swapP hP
          have hD := k_swapD hD
          refine lv_aload_n hx hb d_law_304 rfl (lv_at hl 1 rfl) ?_
          refine lv_aload_n hx hb d_law_305 rfl (lv_at hl 3 rfl) ?_
          refine lv_iload_n hx hb d_law_306 rfl (lv_at hl 0 rfl) ?_
          refine lv_iconst (v := 1) hx hb d_law_307 (by decide) ?_
          refine lv_iadd hx hb d_law_308 ?_
          refine lw_sld hx hb hX hbl hbA hS (k + 1) (by omega) (by omega) (nI_add k 1) d_law_309 ?_
          refine k_fV (w := wX a ca ((f_next σ (xs (k + 1))).2)) (wf := wM bb cb) (σ := μ) (rest := [.int ((f_next σ (xs (k + 1))).1)]) hx hb hml hown hG hKm hN hA hP hD hS (c_m_next l D bb cb μ (xs (k + 1)) N hR.2.2.1 (by omega)) ok_m_next io_m_next L_law_40 ⟨rfl, rfl, by decide, by decide⟩ 0 wM_M rfl rfl hl.1 rfl (Nat.le_of_ble_eq_true rfl) ⟨Nat.le_of_ble_eq_true rfl, Nat.le_of_ble_eq_true rfl⟩ d_law_310 (fun H locs hP hD hS => ?_)
          refine lv_icmp_eq (tgt := 440) hx hb d_law_313 (by decide) (fun c_17 => ?_) (fun c_17 => absurd ((op_next hR (by omega) (xs (k + 1))).1) c_17)
          refine lv_iinc (v := nI (k + 5)) (lv' := [(3, .int (nI (k + 5))), (2, .ref (bb 0)), (1, .ref (a 0)), (0, .ref b)]) hx hb d_law_440 hl (k := 0) rfl (nI_add k 5) (by decide) rfl (fun ls hl => ?_)
          refine lv_goto (tgt := 18) hx hb d_law_443 (by decide) ?_
          obtain ⟨N2, hN2, hR2⟩ := (op_next hR (by omega) (xs (k + 1))).2
          exact ih (k + 5) (f_next σ (xs (k + 1))).2 (g_next μ (xs (k + 1))).2 N2 (by omega) (by omega) (by omega) hR2 _ _ _ hP hD hS (lv_sub hl [0, 1, 2, 3] rfl)
        · refine lv_tableIn (off := 286) (tgt := 318) hx hb d_law_32 (by rw [s_2]; decide) (by rw [s_2]; decide) (by rw [s_2]; decide) (by decide) ?_
          refine lv_aload_n hx hb d_law_318 rfl (lv_at hl 2 rfl) ?_
          refine lv_aload_n hx hb d_law_319 rfl (lv_at hl 3 rfl) ?_
          refine lv_iload_n hx hb d_law_320 rfl (lv_at hl 0 rfl) ?_
          refine lv_iconst (v := 1) hx hb d_law_321 (by decide) ?_
          refine lv_iadd hx hb d_law_322 ?_
          refine lw_sld hx hb hX hbl hbA hS (k + 1) (by omega) (by omega) (nI_add k 1) d_law_323 ?_
          refine lv_aload_n hx hb d_law_324 rfl (lv_at hl 3 rfl) ?_
          refine lv_iload_n hx hb d_law_325 rfl (lv_at hl 0 rfl) ?_
          refine lv_iconst (v := 2) hx hb d_law_326 (by decide) ?_
          refine lv_iadd hx hb d_law_327 ?_
          refine lw_sld hx hb hX hbl hbA hS (k + 2) (by omega) (by omega) (nI_add k 2) d_law_328 ?_
          have hP := k_swapP hP
          have hD := k_swapD hD
          refine k_fV (w := wM bb cb μ) (wf := wX a ca) (σ := σ) (rest := []) hx hb hml hown hG hKx hN hA hP hD hS (c_timer l D a ca σ (xs (k + 1)) (xs (k + 2))) ok_timer io_timer L_law_41 ⟨rfl, rfl, by decide, by decide⟩ 0 wX_X rfl rfl hl.1 rfl (Nat.le_of_ble_eq_true rfl) ⟨Nat.le_of_ble_eq_true rfl, Nat.le_of_ble_eq_true rfl⟩ d_law_329 (fun H locs hP hD hS => ?_)
          have hP := k_swapP hP
          have hD := k_swapD hD
          refine lv_aload_n hx hb d_law_332 rfl (lv_at hl 1 rfl) ?_
          refine lv_aload_n hx hb d_law_333 rfl (lv_at hl 3 rfl) ?_
          refine lv_iload_n hx hb d_law_334 rfl (lv_at hl 0 rfl) ?_
          refine lv_iconst (v := 1) hx hb d_law_335 (by decide) ?_
          refine lv_iadd hx hb d_law_336 ?_
          refine lw_sld hx hb hX hbl hbA hS (k + 1) (by omega) (by omega) (nI_add k 1) d_law_337 ?_
          refine lv_aload_n hx hb d_law_338 rfl (lv_at hl 3 rfl) ?_
          refine lv_iload_n hx hb d_law_339 rfl (lv_at hl 0 rfl) ?_
          refine lv_iconst (v := 2) hx hb d_law_340 (by decide) ?_
          refine lv_iadd hx hb d_law_341 ?_
          refine lw_sld hx hb hX hbl hbA hS (k + 2) (by omega) (by omega) (nI_add k 2) d_law_342 ?_
          refine k_fV (w := wX a ca σ) (wf := wM bb cb) (σ := μ) (rest := [.int (f_timer σ (xs (k + 1)) (xs (k + 2)))]) hx hb hml hown hG hKm hN hA hP hD hS (c_m_timer l D bb cb μ (xs (k + 1)) (xs (k + 2))) ok_m_timer io_m_timer L_law_45 ⟨rfl, rfl, by decide, by decide⟩ 0 wM_M rfl rfl hl.1 rfl (Nat.le_of_ble_eq_true rfl) ⟨Nat.le_of_ble_eq_true rfl, Nat.le_of_ble_eq_true rfl⟩ d_law_343 (fun H locs hP hD hS => ?_)
          refine lv_icmp_eq (tgt := 440) hx hb d_law_346 (by decide) (fun c_18 => ?_) (fun c_18 => absurd (op_timer hR (xs (k + 1)) (xs (k + 2))) c_18)
          refine lv_iinc (v := nI (k + 5)) (lv' := [(3, .int (nI (k + 5))), (2, .ref (bb 0)), (1, .ref (a 0)), (0, .ref b)]) hx hb d_law_440 hl (k := 0) rfl (nI_add k 5) (by decide) rfl (fun ls hl => ?_)
          refine lv_goto (tgt := 18) hx hb d_law_443 (by decide) ?_
          exact ih (k + 5) σ μ N (by omega) (by omega) (by omega) hR _ _ _ hP hD hS (lv_sub hl [0, 1, 2, 3] rfl)
        · refine lv_tableIn (off := 319) (tgt := 351) hx hb d_law_32 (by rw [s_2]; decide) (by rw [s_2]; decide) (by rw [s_2]; decide) (by decide) ?_
          refine lv_aload_n hx hb d_law_351 rfl (lv_at hl 2 rfl) ?_
          refine lv_aload_n hx hb d_law_352 rfl (lv_at hl 3 rfl) ?_
          refine lv_iload_n hx hb d_law_353 rfl (lv_at hl 0 rfl) ?_
          refine lv_iconst (v := 1) hx hb d_law_354 (by decide) ?_
          refine lv_iadd hx hb d_law_355 ?_
          refine lw_sld hx hb hX hbl hbA hS (k + 1) (by omega) (by omega) (nI_add k 1) d_law_356 ?_
          refine lv_aload_n hx hb d_law_357 rfl (lv_at hl 3 rfl) ?_
          refine lv_iload_n hx hb d_law_358 rfl (lv_at hl 0 rfl) ?_
          refine lv_iconst (v := 2) hx hb d_law_359 (by decide) ?_
          refine lv_iadd hx hb d_law_360 ?_
          refine lw_sld hx hb hX hbl hbA hS (k + 2) (by omega) (by omega) (nI_add k 2) d_law_361 ?_
          have hP := k_swapP hP
          have hD := k_swapD hD
          refine k_fV (w := wM bb cb μ) (wf := wX a ca) (σ := σ) (rest := []) hx hb hml hown hG hKx hN hA hP hD hS (c_gateOf l D a ca σ (xs (k + 1)) (xs (k + 2))) ok_gateOf io_gateOf L_law_46 ⟨rfl, rfl, by decide, by decide⟩ 0 wX_X rfl rfl hl.1 rfl (Nat.le_of_ble_eq_true rfl) ⟨Nat.le_of_ble_eq_true rfl, Nat.le_of_ble_eq_true rfl⟩ d_law_362 (fun H locs hP hD hS => ?_)
          have hP := k_swapP hP
          have hD := k_swapD hD
          refine lv_aload_n hx hb d_law_365 rfl (lv_at hl 1 rfl) ?_
          refine lv_aload_n hx hb d_law_366 rfl (lv_at hl 3 rfl) ?_
          refine lv_iload_n hx hb d_law_367 rfl (lv_at hl 0 rfl) ?_
          refine lv_iconst (v := 1) hx hb d_law_368 (by decide) ?_
          refine lv_iadd hx hb d_law_369 ?_
          refine lw_sld hx hb hX hbl hbA hS (k + 1) (by omega) (by omega) (nI_add k 1) d_law_370 ?_
          refine lv_aload_n hx hb d_law_371 rfl (lv_at hl 3 rfl) ?_
          refine lv_iload_n hx hb d_law_372 rfl (lv_at hl 0 rfl) ?_
          refine lv_iconst (v := 2) hx hb d_law_373 (by decide) ?_
          refine lv_iadd hx hb d_law_374 ?_
          refine lw_sld hx hb hX hbl hbA hS (k + 2) (by omega) (by omega) (nI_add k 2) d_law_375 ?_
          refine k_fV (w := wX a ca σ) (wf := wM bb cb) (σ := μ) (rest := [.int (f_gateOf σ (xs (k + 1)) (xs (k + 2)))]) hx hb hml hown hG hKm hN hA hP hD hS (c_m_gateOf l D bb cb μ (xs (k + 1)) (xs (k + 2))) ok_m_gateOf io_m_gateOf L_law_49 ⟨rfl, rfl, by decide, by decide⟩ 0 wM_M rfl rfl hl.1 rfl (Nat.le_of_ble_eq_true rfl) ⟨Nat.le_of_ble_eq_true rfl, Nat.le_of_ble_eq_true rfl⟩ d_law_376 (fun H locs hP hD hS => ?_)
          refine lv_icmp_eq (tgt := 440) hx hb d_law_379 (by decide) (fun c_19 => ?_) (fun c_19 => absurd (op_gateOf hR (xs (k + 1)) (xs (k + 2))) c_19)
          refine lv_iinc (v := nI (k + 5)) (lv' := [(3, .int (nI (k + 5))), (2, .ref (bb 0)), (1, .ref (a 0)), (0, .ref b)]) hx hb d_law_440 hl (k := 0) rfl (nI_add k 5) (by decide) rfl (fun ls hl => ?_)
          refine lv_goto (tgt := 18) hx hb d_law_443 (by decide) ?_
          exact ih (k + 5) σ μ N (by omega) (by omega) (by omega) hR _ _ _ hP hD hS (lv_sub hl [0, 1, 2, 3] rfl)
        · refine lv_tableIn (off := 352) (tgt := 384) hx hb d_law_32 (by rw [s_2]; decide) (by rw [s_2]; decide) (by rw [s_2]; decide) (by decide) ?_
          refine lv_aload_n hx hb d_law_384 rfl (lv_at hl 2 rfl) ?_
          refine lv_aload_n hx hb d_law_385 rfl (lv_at hl 3 rfl) ?_
          refine lv_iload_n hx hb d_law_386 rfl (lv_at hl 0 rfl) ?_
          refine lv_iconst (v := 1) hx hb d_law_387 (by decide) ?_
          refine lv_iadd hx hb d_law_388 ?_
          refine lw_sld hx hb hX hbl hbA hS (k + 1) (by omega) (by omega) (nI_add k 1) d_law_389 ?_
          have hP := k_swapP hP
          have hD := k_swapD hD
          refine k_fV (w := wM bb cb μ) (wf := wX a ca) (σ := σ) (rest := []) hx hb hml hown hG hKx hN hA hP hD hS (c_look l D a ca σ (xs (k + 1))) ok_look io_look L_law_50 ⟨rfl, rfl, by decide, by decide⟩ 0 wX_X rfl rfl hl.1 rfl (Nat.le_of_ble_eq_true rfl) ⟨Nat.le_of_ble_eq_true rfl, Nat.le_of_ble_eq_true rfl⟩ d_law_390 (fun H locs hP hD hS => ?_)
          have hP := k_swapP hP
          have hD := k_swapD hD
          refine lv_aload_n hx hb d_law_393 rfl (lv_at hl 1 rfl) ?_
          refine lv_aload_n hx hb d_law_394 rfl (lv_at hl 3 rfl) ?_
          refine lv_iload_n hx hb d_law_395 rfl (lv_at hl 0 rfl) ?_
          refine lv_iconst (v := 1) hx hb d_law_396 (by decide) ?_
          refine lv_iadd hx hb d_law_397 ?_
          refine lw_sld hx hb hX hbl hbA hS (k + 1) (by omega) (by omega) (nI_add k 1) d_law_398 ?_
          refine k_fV (w := wX a ca σ) (wf := wM bb cb) (σ := μ) (rest := [.int (f_look σ (xs (k + 1)))]) hx hb hml hown hG hKm hN hA hP hD hS (c_m_look l D bb cb μ (xs (k + 1))) ok_m_look io_m_look L_law_53 ⟨rfl, rfl, by decide, by decide⟩ 0 wM_M rfl rfl hl.1 rfl (Nat.le_of_ble_eq_true rfl) ⟨Nat.le_of_ble_eq_true rfl, Nat.le_of_ble_eq_true rfl⟩ d_law_399 (fun H locs hP hD hS => ?_)
          refine lv_icmp_eq (tgt := 440) hx hb d_law_402 (by decide) (fun c_20 => ?_) (fun c_20 => absurd (op_look hR (xs (k + 1))) c_20)
          refine lv_iinc (v := nI (k + 5)) (lv' := [(3, .int (nI (k + 5))), (2, .ref (bb 0)), (1, .ref (a 0)), (0, .ref b)]) hx hb d_law_440 hl (k := 0) rfl (nI_add k 5) (by decide) rfl (fun ls hl => ?_)
          refine lv_goto (tgt := 18) hx hb d_law_443 (by decide) ?_
          exact ih (k + 5) σ μ N (by omega) (by omega) (by omega) hR _ _ _ hP hD hS (lv_sub hl [0, 1, 2, 3] rfl)
        · refine lv_tableIn (off := 375) (tgt := 407) hx hb d_law_32 (by rw [s_2]; decide) (by rw [s_2]; decide) (by rw [s_2]; decide) (by decide) ?_
          refine lv_aload_n hx hb d_law_407 rfl (lv_at hl 2 rfl) ?_
          refine lv_aload_n hx hb d_law_408 rfl (lv_at hl 3 rfl) ?_
          refine lv_iload_n hx hb d_law_409 rfl (lv_at hl 0 rfl) ?_
          refine lv_iconst (v := 1) hx hb d_law_410 (by decide) ?_
          refine lv_iadd hx hb d_law_411 ?_
          refine lw_sld hx hb hX hbl hbA hS (k + 1) (by omega) (by omega) (nI_add k 1) d_law_412 ?_
          refine lv_aload_n hx hb d_law_413 rfl (lv_at hl 3 rfl) ?_
          refine lv_iload_n hx hb d_law_414 rfl (lv_at hl 0 rfl) ?_
          refine lv_iconst (v := 2) hx hb d_law_415 (by decide) ?_
          refine lv_iadd hx hb d_law_416 ?_
          refine lw_sld hx hb hX hbl hbA hS (k + 2) (by omega) (by omega) (nI_add k 2) d_law_417 ?_
          have hP := k_swapP hP
          have hD := k_swapD hD
          refine k_fV (w := wM bb cb μ) (wf := wX a ca) (σ := σ) (rest := []) hx hb hml hown hG hKx hN hA hP hD hS (c_served l D a ca σ (xs (k + 1)) (xs (k + 2)) hR.inv) ok_served io_served L_law_54 ⟨rfl, rfl, by decide, by decide⟩ 0 wX_X rfl rfl hl.1 rfl (Nat.le_of_ble_eq_true rfl) ⟨Nat.le_of_ble_eq_true rfl, Nat.le_of_ble_eq_true rfl⟩ d_law_418 (fun H locs hP hD hS => ?_)
          have hP := k_swapP hP
          have hD := k_swapD hD
          refine lv_aload_n hx hb d_law_421 rfl (lv_at hl 1 rfl) ?_
          refine lv_aload_n hx hb d_law_422 rfl (lv_at hl 3 rfl) ?_
          refine lv_iload_n hx hb d_law_423 rfl (lv_at hl 0 rfl) ?_
          refine lv_iconst (v := 1) hx hb d_law_424 (by decide) ?_
          refine lv_iadd hx hb d_law_425 ?_
          refine lw_sld hx hb hX hbl hbA hS (k + 1) (by omega) (by omega) (nI_add k 1) d_law_426 ?_
          refine lv_aload_n hx hb d_law_427 rfl (lv_at hl 3 rfl) ?_
          refine lv_iload_n hx hb d_law_428 rfl (lv_at hl 0 rfl) ?_
          refine lv_iconst (v := 2) hx hb d_law_429 (by decide) ?_
          refine lv_iadd hx hb d_law_430 ?_
          refine lw_sld hx hb hX hbl hbA hS (k + 2) (by omega) (by omega) (nI_add k 2) d_law_431 ?_
          refine k_fV (w := wX a ca σ) (wf := wM bb cb) (σ := μ) (rest := [.int (f_Hread σ (xs (k + 1)) (xs (k + 2)))]) hx hb hml hown hG hKm hN hA hP hD hS (c_m_served l D bb cb μ (xs (k + 1)) (xs (k + 2)) N hR.2.2.1 (by omega)) ok_m_served io_m_served L_law_57 ⟨rfl, rfl, by decide, by decide⟩ 0 wM_M rfl rfl hl.1 rfl (Nat.le_of_ble_eq_true rfl) ⟨Nat.le_of_ble_eq_true rfl, Nat.le_of_ble_eq_true rfl⟩ d_law_432 (fun H locs hP hD hS => ?_)
          refine lv_icmp_eq (tgt := 440) hx hb d_law_435 (by decide) (fun c_21 => ?_) (fun c_21 => absurd (op_served hR (by omega) (xs (k + 1)) (xs (k + 2))) c_21)
          refine lv_iinc (v := nI (k + 5)) (lv' := [(3, .int (nI (k + 5))), (2, .ref (bb 0)), (1, .ref (a 0)), (0, .ref b)]) hx hb d_law_440 hl (k := 0) rfl (nI_add k 5) (by decide) rfl (fun ls hl => ?_)
          refine lv_goto (tgt := 18) hx hb d_law_443 (by decide) ?_
          exact ih (k + 5) σ μ N (by omega) (by omega) (by omega) hR _ _ _ hP hD hS (lv_sub hl [0, 1, 2, 3] rfl)
