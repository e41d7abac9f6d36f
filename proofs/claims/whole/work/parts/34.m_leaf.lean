set_option maxHeartbeats 4000000 in
set_option maxRecDepth 100000 in
theorem c_m_isIn (l : Launch) (D : va_G) (b : Nat → Nat) (cb : Nat → ClassId) (μ : St) (v : Int32) (lo : Int32) (hi : Int32) : KI l D (tM cb) (wM b cb) rm_m_isIn y_m_isIn b_m_isIn 3 .boolean [.int v, .int lo, .int hi] μ (f_isIn v lo hi) μ := by
  refine KI.of (by decide) (Nat.le_of_ble_eq_true rfl) ?_
  intro p e s m args below meth c A Q ls hx hb hml hown hG hK hN hA hP hD hS hl hret
  have hown : s.vm.findClass R_M = some m.cls := hown
  have hl : lv_has ls 3 [(0, .int v), (1, .int lo), (2, .int hi)] := hl
  refine lv_iload_n hx hb d_m_isIn_0 rfl (lv_at hl 0 rfl) ?_
  refine lv_iload_n hx hb d_m_isIn_1 rfl (lv_at hl 1 rfl) ?_
  refine lv_icmp_lt (tgt := 14) hx hb d_m_isIn_2 (by decide) (fun c_1 => ?_) (fun c_1 => ?_)
  · refine lv_iconst (v := 0) hx hb d_m_isIn_14 (by decide) ?_
    exact hret _ _ _ 15 0 μ hP hD hS rfl d_m_isIn_15 (by simp only [f_isIn, c_1, ↓reduceIte]) (rfl)
  · refine lv_iload_n hx hb d_m_isIn_5 rfl (lv_at hl 0 rfl) ?_
    refine lv_iload_n hx hb d_m_isIn_6 rfl (lv_at hl 2 rfl) ?_
    refine lv_icmp_gt (tgt := 14) hx hb d_m_isIn_7 (by decide) (fun c_2 => ?_) (fun c_2 => ?_)
    · refine lv_iconst (v := 0) hx hb d_m_isIn_14 (by decide) ?_
      exact hret _ _ _ 15 0 μ hP hD hS rfl d_m_isIn_15 (by simp only [f_isIn, c_1, c_2, ↓reduceIte]) (rfl)
    · refine lv_iconst (v := 1) hx hb d_m_isIn_10 (by decide) ?_
      refine lv_goto (tgt := 15) hx hb d_m_isIn_11 (by decide) ?_
      exact hret _ _ _ 15 1 μ hP hD hS rfl d_m_isIn_15 (by simp only [f_isIn, c_1, c_2, ↓reduceIte]) (rfl)
set_option maxHeartbeats 4000000 in
set_option maxRecDepth 100000 in
theorem c_m_asks (l : Launch) (D : va_G) (b : Nat → Nat) (cb : Nat → ClassId) (μ : St) (j : Nat) (hj : j < 4) : KI l D (tM cb) (wM b cb) rm_m_asks y_m_asks b_m_asks 2 .boolean [.ref (b 0), .int (nI j)] μ (g_asks μ j) μ := by
  refine KI.of (by decide) (Nat.le_of_ble_eq_true rfl) ?_
  intro p e s m args below meth c A Q ls hx hb hml hown hG hK hN hA hP hD hS hl hret
  have hown : s.vm.findClass R_M = some m.cls := hown
  have hl : lv_has ls 2 [(0, .ref (b 0)), (1, .int (nI j))] := hl
  refine lv_aload_n hx hb d_m_asks_0 rfl (lv_at hl 0 rfl) ?_
  refine va_get (v := .int (μ 0 2)) hx hb hG i_M hown hK hP 0 wM_M rfl 2 (by decide) (hG _ L_M_62) (fun _ h9 => h9) rfl d_m_asks_1 ?_
  refine lv_aload_n hx hb d_m_asks_4 rfl (lv_at hl 0 rfl) ?_
  refine va_get (v := .ref (b 10)) hx hb hG i_M hown hK hP 0 wM_M rfl 10 (by decide) (hG _ L_M_29) (fun _ h9 => h9) rfl d_m_asks_5 ?_
  refine lv_iload_n hx hb d_m_asks_8 rfl (lv_at hl 1 rfl) ?_
  refine m_ild hx hb hK hP wM_10 (j) hj (by decide) (rfl) d_m_asks_9 ?_
  refine lv_iand hx hb d_m_asks_10 ?_
  refine lv_if_eq (tgt := 18) hx hb d_m_asks_11 (by decide) (fun c_1 => ?_) (fun c_1 => ?_)
  · refine lv_iconst (v := 0) hx hb d_m_asks_18 (by decide) ?_
    exact hret _ _ _ 19 0 μ hP hD hS rfl d_m_asks_19 (by simp only [g_asks, c_1, ↓reduceIte]) (rfl)
  · refine lv_iconst (v := 1) hx hb d_m_asks_14 (by decide) ?_
    refine lv_goto (tgt := 19) hx hb d_m_asks_15 (by decide) ?_
    exact hret _ _ _ 19 1 μ hP hD hS rfl d_m_asks_19 (by simp only [g_asks, c_1, ↓reduceIte]) (rfl)
set_option maxHeartbeats 4000000 in
set_option maxRecDepth 100000 in
theorem c_m_event (l : Launch) (D : va_G) (b : Nat → Nat) (cb : Nat → ClassId) (μ : St) (j : Nat) (hj : j < 8) : KI l D (tM cb) (wM b cb) rm_m_event y_m_event b_m_event 2 .boolean [.ref (b 0), .int (nI j)] μ ((g_event μ j).1) ((g_event μ j).2) := by
  refine KI.of (by decide) (Nat.le_of_ble_eq_true rfl) ?_
  intro p e s m args below meth c A Q ls hx hb hml hown hG hK hN hA hP hD hS hl hret
  have hown : s.vm.findClass R_M = some m.cls := hown
  have hl : lv_has ls 2 [(0, .ref (b 0)), (1, .int (nI j))] := hl
  refine lv_aload_n hx hb d_m_event_0 rfl (lv_at hl 0 rfl) ?_
  refine va_get (v := .ref (b 8)) hx hb hG i_M hown hK hP 0 wM_M rfl 8 (by decide) (hG _ L_M_23) (fun _ h9 => h9) rfl d_m_event_1 ?_
  refine lv_iload_n hx hb d_m_event_4 rfl (lv_at hl 1 rfl) ?_
  refine m_zld hx hb hK hP wM_8 (j) hj (by decide) (rfl) d_m_event_5 ?_
  refine lv_if_ne (tgt := 11) hx hb d_m_event_6 (by decide) (fun c_1 => ?_) (fun c_1 => ?_)
  · refine lv_aload_n hx hb d_m_event_11 rfl (lv_at hl 0 rfl) ?_
    refine va_get (v := .ref (b 5)) hx hb hG i_M hown hK hP 0 wM_M rfl 5 (by decide) (hG _ L_M_13) (fun _ h9 => h9) rfl d_m_event_12 ?_
    refine lv_iload_n hx hb d_m_event_15 rfl (lv_at hl 1 rfl) ?_
    refine lv_dup2_11 hx hb d_m_event_16 rfl rfl ?_
    refine m_ild hx hb hK hP wM_5 (j) hj (by decide) (rfl) d_m_event_17 ?_
    refine lv_iconst (v := 1) hx hb d_m_event_18 (by decide) ?_
    refine lv_isub hx hb d_m_event_19 ?_
    refine m_ist (x := (μ 5 j) - 1) hx hb hK hP hD hS wM_5 wM_p5 (j) hj (by decide) (rfl) d_m_event_20 (fun H locs hP hD hS => ?_)
    refine lv_aload_n hx hb d_m_event_21 rfl (lv_at hl 0 rfl) ?_
    refine va_get (v := .ref (b 5)) hx hb hG i_M hown hK hP 0 wM_M rfl 5 (by decide) (hG _ L_M_13) (fun _ h9 => h9) rfl d_m_event_22 ?_
    refine lv_iload_n hx hb d_m_event_25 rfl (lv_at hl 1 rfl) ?_
    refine m_ild hx hb hK hP wM_5 (j) hj (by decide) (rfl) d_m_event_26 ?_
    refine lv_if_le (tgt := 32) hx hb d_m_event_27 (by decide) (fun c_2 => ?_) (fun c_2 => ?_)
    · refine lv_aload_n hx hb d_m_event_32 rfl (lv_at hl 0 rfl) ?_
      refine va_get (v := .ref (b 5)) hx hb hG i_M hown hK hP 0 wM_M rfl 5 (by decide) (hG _ L_M_13) (fun _ h9 => h9) rfl d_m_event_33 ?_
      refine lv_iload_n hx hb d_m_event_36 rfl (lv_at hl 1 rfl) ?_
      refine lv_aload_n hx hb d_m_event_37 rfl (lv_at hl 0 rfl) ?_
      refine va_get (v := .ref (b 4)) hx hb hG i_M hown hK hP 0 wM_M rfl 4 (by decide) (hG _ L_M_7) (fun _ h9 => h9) rfl d_m_event_38 ?_
      refine lv_iload_n hx hb d_m_event_41 rfl (lv_at hl 1 rfl) ?_
      refine m_ild hx hb hK hP wM_4 (j) hj (by decide) (rfl) d_m_event_42 ?_
      refine m_ist (x := (up2 μ 5 j ((μ 5 j) - 1)) 4 j) hx hb hK hP hD hS wM_5 wM_p5 (j) hj (by decide) (rfl) d_m_event_43 (fun H locs hP hD hS => ?_)
      refine lv_aload_n hx hb d_m_event_44 rfl (lv_at hl 0 rfl) ?_
      refine va_get (v := .ref (b 8)) hx hb hG i_M hown hK hP 0 wM_M rfl 8 (by decide) (hG _ L_M_23) (fun _ h9 => h9) rfl d_m_event_45 ?_
      refine lv_iload_n hx hb d_m_event_48 rfl (lv_at hl 1 rfl) ?_
      refine lv_aload_n hx hb d_m_event_49 rfl (lv_at hl 0 rfl) ?_
      refine va_get (v := .ref (b 7)) hx hb hG i_M hown hK hP 0 wM_M rfl 7 (by decide) (hG _ L_M_19) (fun _ h9 => h9) rfl d_m_event_50 ?_
      refine lv_iload_n hx hb d_m_event_53 rfl (lv_at hl 1 rfl) ?_
      refine m_zld hx hb hK hP wM_7 (j) hj (by decide) (rfl) d_m_event_54 ?_
      refine lv_if_ne (tgt := 62) hx hb d_m_event_55 (by decide) (fun c_3 => ?_) (fun c_3 => ?_)
      · refine lv_iconst (v := 0) hx hb d_m_event_62 (by decide) ?_
        refine m_zst (x := 0) hx hb hK hP hD hS wM_8 wM_p8 (j) hj (by decide) (rfl) (rfl) d_m_event_63 (fun H locs hP hD hS => ?_)
        refine lv_aload_n hx hb d_m_event_64 rfl (lv_at hl 0 rfl) ?_
        refine va_get (v := .ref (b 9)) hx hb hG i_M hown hK hP 0 wM_M rfl 9 (by decide) (hG _ L_M_26) (fun _ h9 => h9) rfl d_m_event_65 ?_
        refine lv_iconst (v := 4) hx hb d_m_event_68 (by decide) ?_
        refine lv_iload_n hx hb d_m_event_69 rfl (lv_at hl 1 rfl) ?_
        refine lv_imul hx hb d_m_event_70 ?_
        refine lv_dup2_11 hx hb d_m_event_71 rfl rfl ?_
        refine m_ild hx hb hK hP wM_9 (4 * j) (show 4 * j < 32 by have := hj; omega) (by decide) (m_ix0 j) d_m_event_72 ?_
        refine lv_iconst (v := 1) hx hb d_m_event_73 (by decide) ?_
        refine lv_iadd hx hb d_m_event_74 ?_
        refine m_ist (x := ((up2 (up2 (up2 μ 5 j ((μ 5 j) - 1)) 5 j ((up2 μ 5 j ((μ 5 j) - 1)) 4 j)) 8 j 0) 9 (4 * j)) + 1) hx hb hK hP hD hS wM_9 wM_p9 (4 * j) (show 4 * j < 32 by have := hj; omega) (by decide) (m_ix0 j) d_m_event_75 (fun H locs hP hD hS => ?_)
        refine lv_aload_n hx hb d_m_event_76 rfl (lv_at hl 0 rfl) ?_
        refine va_get (v := .ref (b 9)) hx hb hG i_M hown hK hP 0 wM_M rfl 9 (by decide) (hG _ L_M_26) (fun _ h9 => h9) rfl d_m_event_77 ?_
        refine lv_iconst (v := 4) hx hb d_m_event_80 (by decide) ?_
        refine lv_iload_n hx hb d_m_event_81 rfl (lv_at hl 1 rfl) ?_
        refine lv_imul hx hb d_m_event_82 ?_
        refine lv_iconst (v := 1) hx hb d_m_event_83 (by decide) ?_
        refine lv_iadd hx hb d_m_event_84 ?_
        refine lv_dup2_11 hx hb d_m_event_85 rfl rfl ?_
        refine m_ild hx hb hK hP wM_9 (4 * j + 1) (show 4 * j + 1 < 32 by have := hj; omega) (by decide) (m_ix j 1) d_m_event_86 ?_
        refine lv_aload_n hx hb d_m_event_87 rfl (lv_at hl 0 rfl) ?_
        refine va_get (v := .int ((up2 (up2 (up2 (up2 μ 5 j ((μ 5 j) - 1)) 5 j ((up2 μ 5 j ((μ 5 j) - 1)) 4 j)) 8 j 0) 9 (4 * j) (((up2 (up2 (up2 μ 5 j ((μ 5 j) - 1)) 5 j ((up2 μ 5 j ((μ 5 j) - 1)) 4 j)) 8 j 0) 9 (4 * j)) + 1)) 0 2)) hx hb hG i_M hown hK hP 0 wM_M rfl 2 (by decide) (hG _ L_M_62) (fun _ h9 => h9) rfl d_m_event_88 ?_
        refine lv_iload_n hx hb d_m_event_91 rfl (lv_at hl 1 rfl) ?_
        refine lv_ishr hx hb d_m_event_92 ?_
        refine lv_iconst (v := 1) hx hb d_m_event_93 (by decide) ?_
        refine lv_iand hx hb d_m_event_94 ?_
        refine lv_iadd hx hb d_m_event_95 ?_
        refine m_ist (x := ((up2 (up2 (up2 (up2 μ 5 j ((μ 5 j) - 1)) 5 j ((up2 μ 5 j ((μ 5 j) - 1)) 4 j)) 8 j 0) 9 (4 * j) (((up2 (up2 (up2 μ 5 j ((μ 5 j) - 1)) 5 j ((up2 μ 5 j ((μ 5 j) - 1)) 4 j)) 8 j 0) 9 (4 * j)) + 1)) 9 (4 * j + 1)) + ((((up2 (up2 (up2 (up2 μ 5 j ((μ 5 j) - 1)) 5 j ((up2 μ 5 j ((μ 5 j) - 1)) 4 j)) 8 j 0) 9 (4 * j) (((up2 (up2 (up2 μ 5 j ((μ 5 j) - 1)) 5 j ((up2 μ 5 j ((μ 5 j) - 1)) 4 j)) 8 j 0) 9 (4 * j)) + 1)) 0 2) >>> ((nI j) &&& 31)) &&& 1)) hx hb hK hP hD hS wM_9 wM_p9 (4 * j + 1) (show 4 * j + 1 < 32 by have := hj; omega) (by decide) (m_ix j 1) d_m_event_96 (fun H locs hP hD hS => ?_)
        refine lv_aload_n hx hb d_m_event_97 rfl (lv_at hl 0 rfl) ?_
        refine lv_dup hx hb d_m_event_98 rfl ?_
        refine va_get (v := .int ((up2 (up2 (up2 (up2 (up2 μ 5 j ((μ 5 j) - 1)) 5 j ((up2 μ 5 j ((μ 5 j) - 1)) 4 j)) 8 j 0) 9 (4 * j) (((up2 (up2 (up2 μ 5 j ((μ 5 j) - 1)) 5 j ((up2 μ 5 j ((μ 5 j) - 1)) 4 j)) 8 j 0) 9 (4 * j)) + 1)) 9 (4 * j + 1) (((up2 (up2 (up2 (up2 μ 5 j ((μ 5 j) - 1)) 5 j ((up2 μ 5 j ((μ 5 j) - 1)) 4 j)) 8 j 0) 9 (4 * j) (((up2 (up2 (up2 μ 5 j ((μ 5 j) - 1)) 5 j ((up2 μ 5 j ((μ 5 j) - 1)) 4 j)) 8 j 0) 9 (4 * j)) + 1)) 9 (4 * j + 1)) + ((((up2 (up2 (up2 (up2 μ 5 j ((μ 5 j) - 1)) 5 j ((up2 μ 5 j ((μ 5 j) - 1)) 4 j)) 8 j 0) 9 (4 * j) (((up2 (up2 (up2 μ 5 j ((μ 5 j) - 1)) 5 j ((up2 μ 5 j ((μ 5 j) - 1)) 4 j)) 8 j 0) 9 (4 * j)) + 1)) 0 2) >>> ((nI j) &&& 31)) &&& 1))) 0 2)) hx hb hG i_M hown hK hP 0 wM_M rfl 2 (by decide) (hG _ L_M_62) (fun _ h9 => h9) rfl d_m_event_99 ?_
        refine lv_iconst (v := 1) hx hb d_m_event_102 (by decide) ?_
        refine lv_iload_n hx hb d_m_event_103 rfl (lv_at hl 1 rfl) ?_
        refine lv_ishl hx hb d_m_event_104 ?_
        refine lv_ior hx hb d_m_event_105 ?_
        refine va_put (ty := .int) (v := .int (((up2 (up2 (up2 (up2 (up2 μ 5 j ((μ 5 j) - 1)) 5 j ((up2 μ 5 j ((μ 5 j) - 1)) 4 j)) 8 j 0) 9 (4 * j) (((up2 (up2 (up2 μ 5 j ((μ 5 j) - 1)) 5 j ((up2 μ 5 j ((μ 5 j) - 1)) 4 j)) 8 j 0) 9 (4 * j)) + 1)) 9 (4 * j + 1) (((up2 (up2 (up2 (up2 μ 5 j ((μ 5 j) - 1)) 5 j ((up2 μ 5 j ((μ 5 j) - 1)) 4 j)) 8 j 0) 9 (4 * j) (((up2 (up2 (up2 μ 5 j ((μ 5 j) - 1)) 5 j ((up2 μ 5 j ((μ 5 j) - 1)) 4 j)) 8 j 0) 9 (4 * j)) + 1)) 9 (4 * j + 1)) + ((((up2 (up2 (up2 (up2 μ 5 j ((μ 5 j) - 1)) 5 j ((up2 μ 5 j ((μ 5 j) - 1)) 4 j)) 8 j 0) 9 (4 * j) (((up2 (up2 (up2 μ 5 j ((μ 5 j) - 1)) 5 j ((up2 μ 5 j ((μ 5 j) - 1)) 4 j)) 8 j 0) 9 (4 * j)) + 1)) 0 2) >>> ((nI j) &&& 31)) &&& 1))) 0 2) ||| ((1 : Int32) <<< ((nI j) &&& 31)))) hx hb hG i_M ft_M ft_M_ok n_M hown hK hP hD hS 0 wM_M rfl 2 (by decide) (hG _ L_M_62) (fun _ h9 => h9) rfl (by decide +kernel) rfl rfl (Nat.le_of_ble_eq_true rfl) d_m_event_106 (fun H locs hP hD hS => ?_)
        rw [wM_putM2] at hP hD
        refine lv_iconst (v := 1) hx hb d_m_event_109 (by decide) ?_
        exact hret _ _ _ 110 1 (up2 (up2 (up2 (up2 (up2 (up2 μ 5 j ((μ 5 j) - 1)) 5 j ((up2 μ 5 j ((μ 5 j) - 1)) 4 j)) 8 j 0) 9 (4 * j) (((up2 (up2 (up2 μ 5 j ((μ 5 j) - 1)) 5 j ((up2 μ 5 j ((μ 5 j) - 1)) 4 j)) 8 j 0) 9 (4 * j)) + 1)) 9 (4 * j + 1) (((up2 (up2 (up2 (up2 μ 5 j ((μ 5 j) - 1)) 5 j ((up2 μ 5 j ((μ 5 j) - 1)) 4 j)) 8 j 0) 9 (4 * j) (((up2 (up2 (up2 μ 5 j ((μ 5 j) - 1)) 5 j ((up2 μ 5 j ((μ 5 j) - 1)) 4 j)) 8 j 0) 9 (4 * j)) + 1)) 9 (4 * j + 1)) + ((((up2 (up2 (up2 (up2 μ 5 j ((μ 5 j) - 1)) 5 j ((up2 μ 5 j ((μ 5 j) - 1)) 4 j)) 8 j 0) 9 (4 * j) (((up2 (up2 (up2 μ 5 j ((μ 5 j) - 1)) 5 j ((up2 μ 5 j ((μ 5 j) - 1)) 4 j)) 8 j 0) 9 (4 * j)) + 1)) 0 2) >>> ((nI j) &&& 31)) &&& 1))) 0 2 (((up2 (up2 (up2 (up2 (up2 μ 5 j ((μ 5 j) - 1)) 5 j ((up2 μ 5 j ((μ 5 j) - 1)) 4 j)) 8 j 0) 9 (4 * j) (((up2 (up2 (up2 μ 5 j ((μ 5 j) - 1)) 5 j ((up2 μ 5 j ((μ 5 j) - 1)) 4 j)) 8 j 0) 9 (4 * j)) + 1)) 9 (4 * j + 1) (((up2 (up2 (up2 (up2 μ 5 j ((μ 5 j) - 1)) 5 j ((up2 μ 5 j ((μ 5 j) - 1)) 4 j)) 8 j 0) 9 (4 * j) (((up2 (up2 (up2 μ 5 j ((μ 5 j) - 1)) 5 j ((up2 μ 5 j ((μ 5 j) - 1)) 4 j)) 8 j 0) 9 (4 * j)) + 1)) 9 (4 * j + 1)) + ((((up2 (up2 (up2 (up2 μ 5 j ((μ 5 j) - 1)) 5 j ((up2 μ 5 j ((μ 5 j) - 1)) 4 j)) 8 j 0) 9 (4 * j) (((up2 (up2 (up2 μ 5 j ((μ 5 j) - 1)) 5 j ((up2 μ 5 j ((μ 5 j) - 1)) 4 j)) 8 j 0) 9 (4 * j)) + 1)) 0 2) >>> ((nI j) &&& 31)) &&& 1))) 0 2) ||| ((1 : Int32) <<< ((nI j) &&& 31)))) hP hD hS rfl d_m_event_110 (by simp only [g_event, g_end, bit1, c_1, c_2, c_3, ↓reduceIte]) (by simp only [g_event, g_end, bit1, c_1, c_2, c_3, ↓reduceIte])
      · refine lv_iconst (v := 1) hx hb d_m_event_58 (by decide) ?_
        refine lv_goto (tgt := 63) hx hb d_m_event_59 (by decide) ?_
        refine m_zst (x := 1) hx hb hK hP hD hS wM_8 wM_p8 (j) hj (by decide) (rfl) (rfl) d_m_event_63 (fun H locs hP hD hS => ?_)
        refine lv_aload_n hx hb d_m_event_64 rfl (lv_at hl 0 rfl) ?_
        refine va_get (v := .ref (b 9)) hx hb hG i_M hown hK hP 0 wM_M rfl 9 (by decide) (hG _ L_M_26) (fun _ h9 => h9) rfl d_m_event_65 ?_
        refine lv_iconst (v := 4) hx hb d_m_event_68 (by decide) ?_
        refine lv_iload_n hx hb d_m_event_69 rfl (lv_at hl 1 rfl) ?_
        refine lv_imul hx hb d_m_event_70 ?_
        refine lv_dup2_11 hx hb d_m_event_71 rfl rfl ?_
        refine m_ild hx hb hK hP wM_9 (4 * j) (show 4 * j < 32 by have := hj; omega) (by decide) (m_ix0 j) d_m_event_72 ?_
        refine lv_iconst (v := 1) hx hb d_m_event_73 (by decide) ?_
        refine lv_iadd hx hb d_m_event_74 ?_
        refine m_ist (x := ((up2 (up2 (up2 μ 5 j ((μ 5 j) - 1)) 5 j ((up2 μ 5 j ((μ 5 j) - 1)) 4 j)) 8 j 1) 9 (4 * j)) + 1) hx hb hK hP hD hS wM_9 wM_p9 (4 * j) (show 4 * j < 32 by have := hj; omega) (by decide) (m_ix0 j) d_m_event_75 (fun H locs hP hD hS => ?_)
        refine lv_aload_n hx hb d_m_event_76 rfl (lv_at hl 0 rfl) ?_
        refine va_get (v := .ref (b 9)) hx hb hG i_M hown hK hP 0 wM_M rfl 9 (by decide) (hG _ L_M_26) (fun _ h9 => h9) rfl d_m_event_77 ?_
        refine lv_iconst (v := 4) hx hb d_m_event_80 (by decide) ?_
        refine lv_iload_n hx hb d_m_event_81 rfl (lv_at hl 1 rfl) ?_
        refine lv_imul hx hb d_m_event_82 ?_
        refine lv_iconst (v := 1) hx hb d_m_event_83 (by decide) ?_
        refine lv_iadd hx hb d_m_event_84 ?_
        refine lv_dup2_11 hx hb d_m_event_85 rfl rfl ?_
        refine m_ild hx hb hK hP wM_9 (4 * j + 1) (show 4 * j + 1 < 32 by have := hj; omega) (by decide) (m_ix j 1) d_m_event_86 ?_
        refine lv_aload_n hx hb d_m_event_87 rfl (lv_at hl 0 rfl) ?_
        refine va_get (v := .int ((up2 (up2 (up2 (up2 μ 5 j ((μ 5 j) - 1)) 5 j ((up2 μ 5 j ((μ 5 j) - 1)) 4 j)) 8 j 1) 9 (4 * j) (((up2 (up2 (up2 μ 5 j ((μ 5 j) - 1)) 5 j ((up2 μ 5 j ((μ 5 j) - 1)) 4 j)) 8 j 1) 9 (4 * j)) + 1)) 0 2)) hx hb hG i_M hown hK hP 0 wM_M rfl 2 (by decide) (hG _ L_M_62) (fun _ h9 => h9) rfl d_m_event_88 ?_
        refine lv_iload_n hx hb d_m_event_91 rfl (lv_at hl 1 rfl) ?_
        refine lv_ishr hx hb d_m_event_92 ?_
        refine lv_iconst (v := 1) hx hb d_m_event_93 (by decide) ?_
        refine lv_iand hx hb d_m_event_94 ?_
        refine lv_iadd hx hb d_m_event_95 ?_
        refine m_ist (x := ((up2 (up2 (up2 (up2 μ 5 j ((μ 5 j) - 1)) 5 j ((up2 μ 5 j ((μ 5 j) - 1)) 4 j)) 8 j 1) 9 (4 * j) (((up2 (up2 (up2 μ 5 j ((μ 5 j) - 1)) 5 j ((up2 μ 5 j ((μ 5 j) - 1)) 4 j)) 8 j 1) 9 (4 * j)) + 1)) 9 (4 * j + 1)) + ((((up2 (up2 (up2 (up2 μ 5 j ((μ 5 j) - 1)) 5 j ((up2 μ 5 j ((μ 5 j) - 1)) 4 j)) 8 j 1) 9 (4 * j) (((up2 (up2 (up2 μ 5 j ((μ 5 j) - 1)) 5 j ((up2 μ 5 j ((μ 5 j) - 1)) 4 j)) 8 j 1) 9 (4 * j)) + 1)) 0 2) >>> ((nI j) &&& 31)) &&& 1)) hx hb hK hP hD hS wM_9 wM_p9 (4 * j + 1) (show 4 * j + 1 < 32 by have := hj; omega) (by decide) (m_ix j 1) d_m_event_96 (fun H locs hP hD hS => ?_)
        refine lv_aload_n hx hb d_m_event_97 rfl (lv_at hl 0 rfl) ?_
        refine lv_dup hx hb d_m_event_98 rfl ?_
        refine va_get (v := .int ((up2 (up2 (up2 (up2 (up2 μ 5 j ((μ 5 j) - 1)) 5 j ((up2 μ 5 j ((μ 5 j) - 1)) 4 j)) 8 j 1) 9 (4 * j) (((up2 (up2 (up2 μ 5 j ((μ 5 j) - 1)) 5 j ((up2 μ 5 j ((μ 5 j) - 1)) 4 j)) 8 j 1) 9 (4 * j)) + 1)) 9 (4 * j + 1) (((up2 (up2 (up2 (up2 μ 5 j ((μ 5 j) - 1)) 5 j ((up2 μ 5 j ((μ 5 j) - 1)) 4 j)) 8 j 1) 9 (4 * j) (((up2 (up2 (up2 μ 5 j ((μ 5 j) - 1)) 5 j ((up2 μ 5 j ((μ 5 j) - 1)) 4 j)) 8 j 1) 9 (4 * j)) + 1)) 9 (4 * j + 1)) + ((((up2 (up2 (up2 (up2 μ 5 j ((μ 5 j) - 1)) 5 j ((up2 μ 5 j ((μ 5 j) - 1)) 4 j)) 8 j 1) 9 (4 * j) (((up2 (up2 (up2 μ 5 j ((μ 5 j) - 1)) 5 j ((up2 μ 5 j ((μ 5 j) - 1)) 4 j)) 8 j 1) 9 (4 * j)) + 1)) 0 2) >>> ((nI j) &&& 31)) &&& 1))) 0 2)) hx hb hG i_M hown hK hP 0 wM_M rfl 2 (by decide) (hG _ L_M_62) (fun _ h9 => h9) rfl d_m_event_99 ?_
        refine lv_iconst (v := 1) hx hb d_m_event_102 (by decide) ?_
        refine lv_iload_n hx hb d_m_event_103 rfl (lv_at hl 1 rfl) ?_
        refine lv_ishl hx hb d_m_event_104 ?_
        refine lv_ior hx hb d_m_event_105 ?_
        refine va_put (ty := .int) (v := .int (((up2 (up2 (up2 (up2 (up2 μ 5 j ((μ 5 j) - 1)) 5 j ((up2 μ 5 j ((μ 5 j) - 1)) 4 j)) 8 j 1) 9 (4 * j) (((up2 (up2 (up2 μ 5 j ((μ 5 j) - 1)) 5 j ((up2 μ 5 j ((μ 5 j) - 1)) 4 j)) 8 j 1) 9 (4 * j)) + 1)) 9 (4 * j + 1) (((up2 (up2 (up2 (up2 μ 5 j ((μ 5 j) - 1)) 5 j ((up2 μ 5 j ((μ 5 j) - 1)) 4 j)) 8 j 1) 9 (4 * j) (((up2 (up2 (up2 μ 5 j ((μ 5 j) - 1)) 5 j ((up2 μ 5 j ((μ 5 j) - 1)) 4 j)) 8 j 1) 9 (4 * j)) + 1)) 9 (4 * j + 1)) + ((((up2 (up2 (up2 (up2 μ 5 j ((μ 5 j) - 1)) 5 j ((up2 μ 5 j ((μ 5 j) - 1)) 4 j)) 8 j 1) 9 (4 * j) (((up2 (up2 (up2 μ 5 j ((μ 5 j) - 1)) 5 j ((up2 μ 5 j ((μ 5 j) - 1)) 4 j)) 8 j 1) 9 (4 * j)) + 1)) 0 2) >>> ((nI j) &&& 31)) &&& 1))) 0 2) ||| ((1 : Int32) <<< ((nI j) &&& 31)))) hx hb hG i_M ft_M ft_M_ok n_M hown hK hP hD hS 0 wM_M rfl 2 (by decide) (hG _ L_M_62) (fun _ h9 => h9) rfl (by decide +kernel) rfl rfl (Nat.le_of_ble_eq_true rfl) d_m_event_106 (fun H locs hP hD hS => ?_)
        rw [wM_putM2] at hP hD
        refine lv_iconst (v := 1) hx hb d_m_event_109 (by decide) ?_
        exact hret _ _ _ 110 1 (up2 (up2 (up2 (up2 (up2 (up2 μ 5 j ((μ 5 j) - 1)) 5 j ((up2 μ 5 j ((μ 5 j) - 1)) 4 j)) 8 j 1) 9 (4 * j) (((up2 (up2 (up2 μ 5 j ((μ 5 j) - 1)) 5 j ((up2 μ 5 j ((μ 5 j) - 1)) 4 j)) 8 j 1) 9 (4 * j)) + 1)) 9 (4 * j + 1) (((up2 (up2 (up2 (up2 μ 5 j ((μ 5 j) - 1)) 5 j ((up2 μ 5 j ((μ 5 j) - 1)) 4 j)) 8 j 1) 9 (4 * j) (((up2 (up2 (up2 μ 5 j ((μ 5 j) - 1)) 5 j ((up2 μ 5 j ((μ 5 j) - 1)) 4 j)) 8 j 1) 9 (4 * j)) + 1)) 9 (4 * j + 1)) + ((((up2 (up2 (up2 (up2 μ 5 j ((μ 5 j) - 1)) 5 j ((up2 μ 5 j ((μ 5 j) - 1)) 4 j)) 8 j 1) 9 (4 * j) (((up2 (up2 (up2 μ 5 j ((μ 5 j) - 1)) 5 j ((up2 μ 5 j ((μ 5 j) - 1)) 4 j)) 8 j 1) 9 (4 * j)) + 1)) 0 2) >>> ((nI j) &&& 31)) &&& 1))) 0 2 (((up2 (up2 (up2 (up2 (up2 μ 5 j ((μ 5 j) - 1)) 5 j ((up2 μ 5 j ((μ 5 j) - 1)) 4 j)) 8 j 1) 9 (4 * j) (((up2 (up2 (up2 μ 5 j ((μ 5 j) - 1)) 5 j ((up2 μ 5 j ((μ 5 j) - 1)) 4 j)) 8 j 1) 9 (4 * j)) + 1)) 9 (4 * j + 1) (((up2 (up2 (up2 (up2 μ 5 j ((μ 5 j) - 1)) 5 j ((up2 μ 5 j ((μ 5 j) - 1)) 4 j)) 8 j 1) 9 (4 * j) (((up2 (up2 (up2 μ 5 j ((μ 5 j) - 1)) 5 j ((up2 μ 5 j ((μ 5 j) - 1)) 4 j)) 8 j 1) 9 (4 * j)) + 1)) 9 (4 * j + 1)) + ((((up2 (up2 (up2 (up2 μ 5 j ((μ 5 j) - 1)) 5 j ((up2 μ 5 j ((μ 5 j) - 1)) 4 j)) 8 j 1) 9 (4 * j) (((up2 (up2 (up2 μ 5 j ((μ 5 j) - 1)) 5 j ((up2 μ 5 j ((μ 5 j) - 1)) 4 j)) 8 j 1) 9 (4 * j)) + 1)) 0 2) >>> ((nI j) &&& 31)) &&& 1))) 0 2) ||| ((1 : Int32) <<< ((nI j) &&& 31)))) hP hD hS rfl d_m_event_110 (by simp only [g_event, g_end, bit1, c_1, c_2, c_3, ↓reduceIte]) (by simp only [g_event, g_end, bit1, c_1, c_2, c_3, ↓reduceIte])
    · refine lv_iconst (v := 0) hx hb d_m_event_30 (by decide) ?_
      exact hret _ _ _ 31 0 (up2 μ 5 j ((μ 5 j) - 1)) hP hD hS rfl d_m_event_31 (by simp only [g_event, g_end, bit1, c_1, c_2, ↓reduceIte]) (by simp only [g_event, g_end, bit1, c_1, c_2, ↓reduceIte])
  · refine lv_iconst (v := 0) hx hb d_m_event_9 (by decide) ?_
    exact hret _ _ _ 10 0 μ hP hD hS rfl d_m_event_10 (by simp only [g_event, g_end, bit1, c_1, ↓reduceIte]) (by simp only [g_event, g_end, bit1, c_1, ↓reduceIte])
set_option maxHeartbeats 4000000 in
set_option maxRecDepth 100000 in
theorem c_m_serve (l : Launch) (D : va_G) (b : Nat → Nat) (cb : Nat → ClassId) (μ : St) (j : Nat) (hj : j < 4) (n0 : Nat) (hO : mOK μ n0) (hn : n0 < 2 ^ 30) : KV l D (tM cb) (wM b cb) rm_m_serve y_m_serve b_m_serve 4 [.ref (b 0), .int (nI j)] μ (g_serve μ j) := by
  refine KV.of (by decide) (Nat.le_of_ble_eq_true rfl) ?_
  intro p e s m args below meth c A Q ls hx hb hml hown hG hK hN hA hP hD hS hl hret
  have hown : s.vm.findClass R_M = some m.cls := hown
  have hl : lv_has ls 4 [(0, .ref (b 0)), (1, .int (nI j))] := hl
  refine lv_aload_n hx hb d_m_serve_0 rfl (lv_at hl 0 rfl) ?_
  refine lv_iload_n hx hb d_m_serve_1 rfl (lv_at hl 1 rfl) ?_
  refine k_cV (rest := []) hx hb hml hown hG hK hN hA hP hD hS (c_m_asks l D b cb μ j hj) ok_m_asks io_m_asks L_M_65 ⟨rfl, rfl, by decide, by decide⟩ 0 wM_M rfl rfl hl.1 rfl (Nat.le_of_ble_eq_true rfl) ⟨Nat.zero_le _, Nat.zero_le _⟩ d_m_serve_2 (fun H locs hP hD hS => ?_)
  refine lv_if_ne (tgt := 19) hx hb d_m_serve_5 (by decide) (fun c_1 => ?_) (fun c_1 => ?_)
  · refine lv_iconst (v := 0) hx hb d_m_serve_19 (by decide) ?_
    refine lv_istore_n (lv' := [(2, .int 0), (0, .ref (b 0)), (1, .int (nI j))]) hx hb d_m_serve_20 rfl hl (by decide) rfl (fun ls hl => ?_)
    have loop : ∀ (n : Nat) (k : Nat), (k + n = 7) → (∀ i, i < k → (μ 0 2 &&& μ 10 j) &&& bit1 (nI i) = 0) → (lbN (μ 0 2 &&& μ 10 j) n k = lbN (μ 0 2 &&& μ 10 j) 7 0) → ∀ (H : Heap) (locs : List Loc) (ls : Array Slot), va_P D classes (wM b cb μ) H → va_D A (wM b cb μ) → va_S A s.heap H locs → lv_has ls 4 [(2, .int (nI k)), (1, .int (nI j)), (0, .ref (b 0))] → W p l e rm_m_serve s m args below meth c H locs 0 0 Q (F0 m 21 ls []) := by
      intro n
      induction n with
      | zero =>
        intro k hk7 hz hrel H locs ls hP hD hS hl
        refine lv_aload_n hx hb d_m_serve_21 rfl (lv_at hl 2 rfl) ?_
        refine va_get (v := .int (μ 0 2)) hx hb hG i_M hown hK hP 0 wM_M rfl 2 (by decide) (hG _ L_M_62) (fun _ h9 => h9) rfl d_m_serve_22 ?_
        refine lv_aload_n hx hb d_m_serve_25 rfl (lv_at hl 2 rfl) ?_
        refine va_get (v := .ref (b 10)) hx hb hG i_M hown hK hP 0 wM_M rfl 10 (by decide) (hG _ L_M_29) (fun _ h9 => h9) rfl d_m_serve_26 ?_
        refine lv_iload_n hx hb d_m_serve_29 rfl (lv_at hl 1 rfl) ?_
        refine m_ild hx hb hK hP wM_10 (j) hj (by decide) (rfl) d_m_serve_30 ?_
        refine lv_iand hx hb d_m_serve_31 ?_
        refine lv_iconst (v := 1) hx hb d_m_serve_32 (by decide) ?_
        refine lv_iload_n hx hb d_m_serve_33 rfl (lv_at hl 0 rfl) ?_
        refine lv_ishl hx hb d_m_serve_34 ?_
        refine lv_iand hx hb d_m_serve_35 ?_
        refine lv_if_ne (tgt := 45) hx hb d_m_serve_36 (by decide) (fun c_2 => ?_) (fun c_2 => absurd c_2 (lb_lastk hO c_1 hk7 hz))
        have ek : lbN (μ 0 2 &&& μ 10 j) 7 0 = k := by first | (rw [← hrel]; show 7 = k; omega) | (rw [← hrel]; simp only [lbN, bit1, c_1, c_2, ↓reduceIte])
        have hk : k < 8 := by omega
        refine lv_aload_n hx hb d_m_serve_45 rfl (lv_at hl 2 rfl) ?_
        refine lv_dup hx hb d_m_serve_46 rfl ?_
        refine va_get (v := .int (μ 0 2)) hx hb hG i_M hown hK hP 0 wM_M rfl 2 (by decide) (hG _ L_M_62) (fun _ h9 => h9) rfl d_m_serve_47 ?_
        refine lv_iconst (v := 1) hx hb d_m_serve_50 (by decide) ?_
        refine lv_iload_n hx hb d_m_serve_51 rfl (lv_at hl 0 rfl) ?_
        refine lv_ishl hx hb d_m_serve_52 ?_
        refine lv_isub hx hb d_m_serve_53 ?_
        refine va_put (ty := .int) (v := .int ((μ 0 2) - ((1 : Int32) <<< ((nI k) &&& 31)))) hx hb hG i_M ft_M ft_M_ok n_M hown hK hP hD hS 0 wM_M rfl 2 (by decide) (hG _ L_M_62) (fun _ h9 => h9) rfl (by decide +kernel) rfl rfl (Nat.le_of_ble_eq_true rfl) d_m_serve_54 (fun H locs hP hD hS => ?_)
        rw [wM_putM2] at hP hD
        refine lv_aload_n hx hb d_m_serve_57 rfl (lv_at hl 2 rfl) ?_
        refine va_get (v := .ref (b 9)) hx hb hG i_M hown hK hP 0 wM_M rfl 9 (by decide) (hG _ L_M_26) (fun _ h9 => h9) rfl d_m_serve_58 ?_
        refine lv_iconst (v := 4) hx hb d_m_serve_61 (by decide) ?_
        refine lv_iload_n hx hb d_m_serve_62 rfl (lv_at hl 0 rfl) ?_
        refine lv_imul hx hb d_m_serve_63 ?_
        refine lv_iconst (v := 2) hx hb d_m_serve_64 (by decide) ?_
        refine lv_iadd hx hb d_m_serve_65 ?_
        refine lv_dup2_11 hx hb d_m_serve_66 rfl rfl ?_
        refine m_ild hx hb hK hP wM_9 (4 * k + 2) (show 4 * k + 2 < 32 by have := hk; omega) (by decide) (m_ix k 2) d_m_serve_67 ?_
        refine lv_iconst (v := 1) hx hb d_m_serve_68 (by decide) ?_
        refine lv_iadd hx hb d_m_serve_69 ?_
        refine m_ist (x := ((up2 μ 0 2 ((μ 0 2) - ((1 : Int32) <<< ((nI k) &&& 31)))) 9 (4 * k + 2)) + 1) hx hb hK hP hD hS wM_9 wM_p9 (4 * k + 2) (show 4 * k + 2 < 32 by have := hk; omega) (by decide) (m_ix k 2) d_m_serve_70 (fun H locs hP hD hS => ?_)
        refine lv_aload_n hx hb d_m_serve_71 rfl (lv_at hl 2 rfl) ?_
        refine va_get (v := .ref (b 14)) hx hb hG i_M hown hK hP 0 wM_M rfl 14 (by decide) (hG _ L_M_41) (fun _ h9 => h9) rfl d_m_serve_72 ?_
        refine lv_iload_n hx hb d_m_serve_75 rfl (lv_at hl 1 rfl) ?_
        refine lv_dup2_11 hx hb d_m_serve_76 rfl rfl ?_
        refine m_ild hx hb hK hP wM_14 (j) hj (by decide) (rfl) d_m_serve_77 ?_
        refine lv_iconst (v := 1) hx hb d_m_serve_78 (by decide) ?_
        refine lv_iadd hx hb d_m_serve_79 ?_
        refine m_ist (x := ((up2 (up2 μ 0 2 ((μ 0 2) - ((1 : Int32) <<< ((nI k) &&& 31)))) 9 (4 * k + 2) (((up2 μ 0 2 ((μ 0 2) - ((1 : Int32) <<< ((nI k) &&& 31)))) 9 (4 * k + 2)) + 1)) 14 j) + 1) hx hb hK hP hD hS wM_14 wM_p14 (j) hj (by decide) (rfl) d_m_serve_80 (fun H locs hP hD hS => ?_)
        refine lv_aload_n hx hb d_m_serve_81 rfl (lv_at hl 2 rfl) ?_
        refine va_get (v := .ref (b 16)) hx hb hG i_M hown hK hP 0 wM_M rfl 16 (by decide) (hG _ L_M_47) (fun _ h9 => h9) rfl d_m_serve_82 ?_
        refine lv_iload_n hx hb d_m_serve_85 rfl (lv_at hl 1 rfl) ?_
        refine lv_aload_n hx hb d_m_serve_86 rfl (lv_at hl 2 rfl) ?_
        refine va_get (v := .int ((up2 (up2 (up2 μ 0 2 ((μ 0 2) - ((1 : Int32) <<< ((nI k) &&& 31)))) 9 (4 * k + 2) (((up2 μ 0 2 ((μ 0 2) - ((1 : Int32) <<< ((nI k) &&& 31)))) 9 (4 * k + 2)) + 1)) 14 j (((up2 (up2 μ 0 2 ((μ 0 2) - ((1 : Int32) <<< ((nI k) &&& 31)))) 9 (4 * k + 2) (((up2 μ 0 2 ((μ 0 2) - ((1 : Int32) <<< ((nI k) &&& 31)))) 9 (4 * k + 2)) + 1)) 14 j) + 1)) 0 1)) hx hb hG i_M hown hK hP 0 wM_M rfl 1 (by decide) (hG _ L_M_69) (fun _ h9 => h9) rfl d_m_serve_87 ?_
        refine m_ist (x := (up2 (up2 (up2 μ 0 2 ((μ 0 2) - ((1 : Int32) <<< ((nI k) &&& 31)))) 9 (4 * k + 2) (((up2 μ 0 2 ((μ 0 2) - ((1 : Int32) <<< ((nI k) &&& 31)))) 9 (4 * k + 2)) + 1)) 14 j (((up2 (up2 μ 0 2 ((μ 0 2) - ((1 : Int32) <<< ((nI k) &&& 31)))) 9 (4 * k + 2) (((up2 μ 0 2 ((μ 0 2) - ((1 : Int32) <<< ((nI k) &&& 31)))) 9 (4 * k + 2)) + 1)) 14 j) + 1)) 0 1) hx hb hK hP hD hS wM_16 wM_p16 (j) hj (by decide) (rfl) d_m_serve_90 (fun H locs hP hD hS => ?_)
        refine lv_iconst (v := 3) hx hb d_m_serve_91 (by decide) ?_
        refine lv_aload_n hx hb d_m_serve_92 rfl (lv_at hl 2 rfl) ?_
        refine va_get (v := .int ((up2 (up2 (up2 (up2 μ 0 2 ((μ 0 2) - ((1 : Int32) <<< ((nI k) &&& 31)))) 9 (4 * k + 2) (((up2 μ 0 2 ((μ 0 2) - ((1 : Int32) <<< ((nI k) &&& 31)))) 9 (4 * k + 2)) + 1)) 14 j (((up2 (up2 μ 0 2 ((μ 0 2) - ((1 : Int32) <<< ((nI k) &&& 31)))) 9 (4 * k + 2) (((up2 μ 0 2 ((μ 0 2) - ((1 : Int32) <<< ((nI k) &&& 31)))) 9 (4 * k + 2)) + 1)) 14 j) + 1)) 16 j ((up2 (up2 (up2 μ 0 2 ((μ 0 2) - ((1 : Int32) <<< ((nI k) &&& 31)))) 9 (4 * k + 2) (((up2 μ 0 2 ((μ 0 2) - ((1 : Int32) <<< ((nI k) &&& 31)))) 9 (4 * k + 2)) + 1)) 14 j (((up2 (up2 μ 0 2 ((μ 0 2) - ((1 : Int32) <<< ((nI k) &&& 31)))) 9 (4 * k + 2) (((up2 μ 0 2 ((μ 0 2) - ((1 : Int32) <<< ((nI k) &&& 31)))) 9 (4 * k + 2)) + 1)) 14 j) + 1)) 0 1)) 0 3)) hx hb hG i_M hown hK hP 0 wM_M rfl 3 (by decide) (hG _ L_M_72) (fun _ h9 => h9) rfl d_m_serve_93 ?_
        refine lv_bipush (v := 16) hx hb d_m_serve_96 (by decide) ?_
        refine lv_irem hx hb d_m_serve_98 (by decide) ?_
        refine lv_imul hx hb d_m_serve_99 ?_
        refine lv_topi (fun z ez => ?_)
        obtain rfl := ez.trans (m_at (S := (up2 (up2 (up2 (up2 μ 0 2 ((μ 0 2) - ((1 : Int32) <<< ((nI k) &&& 31)))) 9 (4 * k + 2) (((up2 μ 0 2 ((μ 0 2) - ((1 : Int32) <<< ((nI k) &&& 31)))) 9 (4 * k + 2)) + 1)) 14 j (((up2 (up2 μ 0 2 ((μ 0 2) - ((1 : Int32) <<< ((nI k) &&& 31)))) 9 (4 * k + 2) (((up2 μ 0 2 ((μ 0 2) - ((1 : Int32) <<< ((nI k) &&& 31)))) 9 (4 * k + 2)) + 1)) 14 j) + 1)) 16 j ((up2 (up2 (up2 μ 0 2 ((μ 0 2) - ((1 : Int32) <<< ((nI k) &&& 31)))) 9 (4 * k + 2) (((up2 μ 0 2 ((μ 0 2) - ((1 : Int32) <<< ((nI k) &&& 31)))) 9 (4 * k + 2)) + 1)) 14 j (((up2 (up2 μ 0 2 ((μ 0 2) - ((1 : Int32) <<< ((nI k) &&& 31)))) 9 (4 * k + 2) (((up2 μ 0 2 ((μ 0 2) - ((1 : Int32) <<< ((nI k) &&& 31)))) 9 (4 * k + 2)) + 1)) 14 j) + 1)) 0 1)) 0 3) (n := n0) hO.1 (by omega))
        have enn : nn μ = n0 := mOK_nn hO hn
        refine lv_istore_n (lv' := [(3, .int (nI (3 * (n0 % 16)))), (2, .int (nI k)), (1, .int (nI j)), (0, .ref (b 0))]) hx hb d_m_serve_100 rfl hl (by decide) rfl (fun ls hl => ?_)
        refine lv_aload_n hx hb d_m_serve_101 rfl (lv_at hl 3 rfl) ?_
        refine va_get (v := .ref (b 17)) hx hb hG i_M hown hK hP 0 wM_M rfl 17 (by decide) (hG _ L_M_50) (fun _ h9 => h9) rfl d_m_serve_102 ?_
        refine lv_iload_n hx hb d_m_serve_105 rfl (lv_at hl 0 rfl) ?_
        refine lv_iload_n hx hb d_m_serve_106 rfl (lv_at hl 1 rfl) ?_
        refine m_ist (x := nI k) hx hb hK hP hD hS wM_17 wM_p17 ((3 * (n0 % 16))) (show (3 * (n0 % 16)) < 48 by omega) (by decide) (rfl) d_m_serve_107 (fun H locs hP hD hS => ?_)
        refine lv_aload_n hx hb d_m_serve_108 rfl (lv_at hl 3 rfl) ?_
        refine va_get (v := .ref (b 17)) hx hb hG i_M hown hK hP 0 wM_M rfl 17 (by decide) (hG _ L_M_50) (fun _ h9 => h9) rfl d_m_serve_109 ?_
        refine lv_iload_n hx hb d_m_serve_112 rfl (lv_at hl 0 rfl) ?_
        refine lv_iconst (v := 1) hx hb d_m_serve_113 (by decide) ?_
        refine lv_iadd hx hb d_m_serve_114 ?_
        refine lv_iload_n hx hb d_m_serve_115 rfl (lv_at hl 2 rfl) ?_
        refine m_ist (x := nI j) hx hb hK hP hD hS wM_17 wM_p17 (3 * (n0 % 16) + 1) (show 3 * (n0 % 16) + 1 < 48 by omega) (by decide) (nI_add _ 1) d_m_serve_116 (fun H locs hP hD hS => ?_)
        refine lv_aload_n hx hb d_m_serve_117 rfl (lv_at hl 3 rfl) ?_
        refine va_get (v := .ref (b 17)) hx hb hG i_M hown hK hP 0 wM_M rfl 17 (by decide) (hG _ L_M_50) (fun _ h9 => h9) rfl d_m_serve_118 ?_
        refine lv_iload_n hx hb d_m_serve_121 rfl (lv_at hl 0 rfl) ?_
        refine lv_iconst (v := 2) hx hb d_m_serve_122 (by decide) ?_
        refine lv_iadd hx hb d_m_serve_123 ?_
        refine lv_aload_n hx hb d_m_serve_124 rfl (lv_at hl 3 rfl) ?_
        refine va_get (v := .int ((up2 (up2 (up2 (up2 (up2 (up2 μ 0 2 ((μ 0 2) - ((1 : Int32) <<< ((nI k) &&& 31)))) 9 (4 * k + 2) (((up2 μ 0 2 ((μ 0 2) - ((1 : Int32) <<< ((nI k) &&& 31)))) 9 (4 * k + 2)) + 1)) 14 j (((up2 (up2 μ 0 2 ((μ 0 2) - ((1 : Int32) <<< ((nI k) &&& 31)))) 9 (4 * k + 2) (((up2 μ 0 2 ((μ 0 2) - ((1 : Int32) <<< ((nI k) &&& 31)))) 9 (4 * k + 2)) + 1)) 14 j) + 1)) 16 j ((up2 (up2 (up2 μ 0 2 ((μ 0 2) - ((1 : Int32) <<< ((nI k) &&& 31)))) 9 (4 * k + 2) (((up2 μ 0 2 ((μ 0 2) - ((1 : Int32) <<< ((nI k) &&& 31)))) 9 (4 * k + 2)) + 1)) 14 j (((up2 (up2 μ 0 2 ((μ 0 2) - ((1 : Int32) <<< ((nI k) &&& 31)))) 9 (4 * k + 2) (((up2 μ 0 2 ((μ 0 2) - ((1 : Int32) <<< ((nI k) &&& 31)))) 9 (4 * k + 2)) + 1)) 14 j) + 1)) 0 1)) 17 (3 * (n0 % 16)) (nI k)) 17 (3 * (n0 % 16) + 1) (nI j)) 0 1)) hx hb hG i_M hown hK hP 0 wM_M rfl 1 (by decide) (hG _ L_M_69) (fun _ h9 => h9) rfl d_m_serve_125 ?_
        refine m_ist (x := (up2 (up2 (up2 (up2 (up2 (up2 μ 0 2 ((μ 0 2) - ((1 : Int32) <<< ((nI k) &&& 31)))) 9 (4 * k + 2) (((up2 μ 0 2 ((μ 0 2) - ((1 : Int32) <<< ((nI k) &&& 31)))) 9 (4 * k + 2)) + 1)) 14 j (((up2 (up2 μ 0 2 ((μ 0 2) - ((1 : Int32) <<< ((nI k) &&& 31)))) 9 (4 * k + 2) (((up2 μ 0 2 ((μ 0 2) - ((1 : Int32) <<< ((nI k) &&& 31)))) 9 (4 * k + 2)) + 1)) 14 j) + 1)) 16 j ((up2 (up2 (up2 μ 0 2 ((μ 0 2) - ((1 : Int32) <<< ((nI k) &&& 31)))) 9 (4 * k + 2) (((up2 μ 0 2 ((μ 0 2) - ((1 : Int32) <<< ((nI k) &&& 31)))) 9 (4 * k + 2)) + 1)) 14 j (((up2 (up2 μ 0 2 ((μ 0 2) - ((1 : Int32) <<< ((nI k) &&& 31)))) 9 (4 * k + 2) (((up2 μ 0 2 ((μ 0 2) - ((1 : Int32) <<< ((nI k) &&& 31)))) 9 (4 * k + 2)) + 1)) 14 j) + 1)) 0 1)) 17 (3 * (n0 % 16)) (nI k)) 17 (3 * (n0 % 16) + 1) (nI j)) 0 1) hx hb hK hP hD hS wM_17 wM_p17 (3 * (n0 % 16) + 2) (show 3 * (n0 % 16) + 2 < 48 by omega) (by decide) (nI_add _ 2) d_m_serve_128 (fun H locs hP hD hS => ?_)
        refine lv_aload_n hx hb d_m_serve_129 rfl (lv_at hl 3 rfl) ?_
        refine lv_dup hx hb d_m_serve_130 rfl ?_
        refine va_get (v := .int ((up2 (up2 (up2 (up2 (up2 (up2 (up2 μ 0 2 ((μ 0 2) - ((1 : Int32) <<< ((nI k) &&& 31)))) 9 (4 * k + 2) (((up2 μ 0 2 ((μ 0 2) - ((1 : Int32) <<< ((nI k) &&& 31)))) 9 (4 * k + 2)) + 1)) 14 j (((up2 (up2 μ 0 2 ((μ 0 2) - ((1 : Int32) <<< ((nI k) &&& 31)))) 9 (4 * k + 2) (((up2 μ 0 2 ((μ 0 2) - ((1 : Int32) <<< ((nI k) &&& 31)))) 9 (4 * k + 2)) + 1)) 14 j) + 1)) 16 j ((up2 (up2 (up2 μ 0 2 ((μ 0 2) - ((1 : Int32) <<< ((nI k) &&& 31)))) 9 (4 * k + 2) (((up2 μ 0 2 ((μ 0 2) - ((1 : Int32) <<< ((nI k) &&& 31)))) 9 (4 * k + 2)) + 1)) 14 j (((up2 (up2 μ 0 2 ((μ 0 2) - ((1 : Int32) <<< ((nI k) &&& 31)))) 9 (4 * k + 2) (((up2 μ 0 2 ((μ 0 2) - ((1 : Int32) <<< ((nI k) &&& 31)))) 9 (4 * k + 2)) + 1)) 14 j) + 1)) 0 1)) 17 (3 * (n0 % 16)) (nI k)) 17 (3 * (n0 % 16) + 1) (nI j)) 17 (3 * (n0 % 16) + 2) ((up2 (up2 (up2 (up2 (up2 (up2 μ 0 2 ((μ 0 2) - ((1 : Int32) <<< ((nI k) &&& 31)))) 9 (4 * k + 2) (((up2 μ 0 2 ((μ 0 2) - ((1 : Int32) <<< ((nI k) &&& 31)))) 9 (4 * k + 2)) + 1)) 14 j (((up2 (up2 μ 0 2 ((μ 0 2) - ((1 : Int32) <<< ((nI k) &&& 31)))) 9 (4 * k + 2) (((up2 μ 0 2 ((μ 0 2) - ((1 : Int32) <<< ((nI k) &&& 31)))) 9 (4 * k + 2)) + 1)) 14 j) + 1)) 16 j ((up2 (up2 (up2 μ 0 2 ((μ 0 2) - ((1 : Int32) <<< ((nI k) &&& 31)))) 9 (4 * k + 2) (((up2 μ 0 2 ((μ 0 2) - ((1 : Int32) <<< ((nI k) &&& 31)))) 9 (4 * k + 2)) + 1)) 14 j (((up2 (up2 μ 0 2 ((μ 0 2) - ((1 : Int32) <<< ((nI k) &&& 31)))) 9 (4 * k + 2) (((up2 μ 0 2 ((μ 0 2) - ((1 : Int32) <<< ((nI k) &&& 31)))) 9 (4 * k + 2)) + 1)) 14 j) + 1)) 0 1)) 17 (3 * (n0 % 16)) (nI k)) 17 (3 * (n0 % 16) + 1) (nI j)) 0 1)) 0 3)) hx hb hG i_M hown hK hP 0 wM_M rfl 3 (by decide) (hG _ L_M_72) (fun _ h9 => h9) rfl d_m_serve_131 ?_
        refine lv_iconst (v := 1) hx hb d_m_serve_134 (by decide) ?_
        refine lv_iadd hx hb d_m_serve_135 ?_
        refine va_put (ty := .int) (v := .int (((up2 (up2 (up2 (up2 (up2 (up2 (up2 μ 0 2 ((μ 0 2) - ((1 : Int32) <<< ((nI k) &&& 31)))) 9 (4 * k + 2) (((up2 μ 0 2 ((μ 0 2) - ((1 : Int32) <<< ((nI k) &&& 31)))) 9 (4 * k + 2)) + 1)) 14 j (((up2 (up2 μ 0 2 ((μ 0 2) - ((1 : Int32) <<< ((nI k) &&& 31)))) 9 (4 * k + 2) (((up2 μ 0 2 ((μ 0 2) - ((1 : Int32) <<< ((nI k) &&& 31)))) 9 (4 * k + 2)) + 1)) 14 j) + 1)) 16 j ((up2 (up2 (up2 μ 0 2 ((μ 0 2) - ((1 : Int32) <<< ((nI k) &&& 31)))) 9 (4 * k + 2) (((up2 μ 0 2 ((μ 0 2) - ((1 : Int32) <<< ((nI k) &&& 31)))) 9 (4 * k + 2)) + 1)) 14 j (((up2 (up2 μ 0 2 ((μ 0 2) - ((1 : Int32) <<< ((nI k) &&& 31)))) 9 (4 * k + 2) (((up2 μ 0 2 ((μ 0 2) - ((1 : Int32) <<< ((nI k) &&& 31)))) 9 (4 * k + 2)) + 1)) 14 j) + 1)) 0 1)) 17 (3 * (n0 % 16)) (nI k)) 17 (3 * (n0 % 16) + 1) (nI j)) 17 (3 * (n0 % 16) + 2) ((up2 (up2 (up2 (up2 (up2 (up2 μ 0 2 ((μ 0 2) - ((1 : Int32) <<< ((nI k) &&& 31)))) 9 (4 * k + 2) (((up2 μ 0 2 ((μ 0 2) - ((1 : Int32) <<< ((nI k) &&& 31)))) 9 (4 * k + 2)) + 1)) 14 j (((up2 (up2 μ 0 2 ((μ 0 2) - ((1 : Int32) <<< ((nI k) &&& 31)))) 9 (4 * k + 2) (((up2 μ 0 2 ((μ 0 2) - ((1 : Int32) <<< ((nI k) &&& 31)))) 9 (4 * k + 2)) + 1)) 14 j) + 1)) 16 j ((up2 (up2 (up2 μ 0 2 ((μ 0 2) - ((1 : Int32) <<< ((nI k) &&& 31)))) 9 (4 * k + 2) (((up2 μ 0 2 ((μ 0 2) - ((1 : Int32) <<< ((nI k) &&& 31)))) 9 (4 * k + 2)) + 1)) 14 j (((up2 (up2 μ 0 2 ((μ 0 2) - ((1 : Int32) <<< ((nI k) &&& 31)))) 9 (4 * k + 2) (((up2 μ 0 2 ((μ 0 2) - ((1 : Int32) <<< ((nI k) &&& 31)))) 9 (4 * k + 2)) + 1)) 14 j) + 1)) 0 1)) 17 (3 * (n0 % 16)) (nI k)) 17 (3 * (n0 % 16) + 1) (nI j)) 0 1)) 0 3) + 1)) hx hb hG i_M ft_M ft_M_ok n_M hown hK hP hD hS 0 wM_M rfl 3 (by decide) (hG _ L_M_72) (fun _ h9 => h9) rfl (by decide +kernel) rfl rfl (Nat.le_of_ble_eq_true rfl) d_m_serve_136 (fun H locs hP hD hS => ?_)
        rw [wM_putM3] at hP hD
        exact hret _ _ _ 139 (up2 (up2 (up2 (up2 (up2 (up2 (up2 (up2 μ 0 2 ((μ 0 2) - ((1 : Int32) <<< ((nI k) &&& 31)))) 9 (4 * k + 2) (((up2 μ 0 2 ((μ 0 2) - ((1 : Int32) <<< ((nI k) &&& 31)))) 9 (4 * k + 2)) + 1)) 14 j (((up2 (up2 μ 0 2 ((μ 0 2) - ((1 : Int32) <<< ((nI k) &&& 31)))) 9 (4 * k + 2) (((up2 μ 0 2 ((μ 0 2) - ((1 : Int32) <<< ((nI k) &&& 31)))) 9 (4 * k + 2)) + 1)) 14 j) + 1)) 16 j ((up2 (up2 (up2 μ 0 2 ((μ 0 2) - ((1 : Int32) <<< ((nI k) &&& 31)))) 9 (4 * k + 2) (((up2 μ 0 2 ((μ 0 2) - ((1 : Int32) <<< ((nI k) &&& 31)))) 9 (4 * k + 2)) + 1)) 14 j (((up2 (up2 μ 0 2 ((μ 0 2) - ((1 : Int32) <<< ((nI k) &&& 31)))) 9 (4 * k + 2) (((up2 μ 0 2 ((μ 0 2) - ((1 : Int32) <<< ((nI k) &&& 31)))) 9 (4 * k + 2)) + 1)) 14 j) + 1)) 0 1)) 17 (3 * (n0 % 16)) (nI k)) 17 (3 * (n0 % 16) + 1) (nI j)) 17 (3 * (n0 % 16) + 2) ((up2 (up2 (up2 (up2 (up2 (up2 μ 0 2 ((μ 0 2) - ((1 : Int32) <<< ((nI k) &&& 31)))) 9 (4 * k + 2) (((up2 μ 0 2 ((μ 0 2) - ((1 : Int32) <<< ((nI k) &&& 31)))) 9 (4 * k + 2)) + 1)) 14 j (((up2 (up2 μ 0 2 ((μ 0 2) - ((1 : Int32) <<< ((nI k) &&& 31)))) 9 (4 * k + 2) (((up2 μ 0 2 ((μ 0 2) - ((1 : Int32) <<< ((nI k) &&& 31)))) 9 (4 * k + 2)) + 1)) 14 j) + 1)) 16 j ((up2 (up2 (up2 μ 0 2 ((μ 0 2) - ((1 : Int32) <<< ((nI k) &&& 31)))) 9 (4 * k + 2) (((up2 μ 0 2 ((μ 0 2) - ((1 : Int32) <<< ((nI k) &&& 31)))) 9 (4 * k + 2)) + 1)) 14 j (((up2 (up2 μ 0 2 ((μ 0 2) - ((1 : Int32) <<< ((nI k) &&& 31)))) 9 (4 * k + 2) (((up2 μ 0 2 ((μ 0 2) - ((1 : Int32) <<< ((nI k) &&& 31)))) 9 (4 * k + 2)) + 1)) 14 j) + 1)) 0 1)) 17 (3 * (n0 % 16)) (nI k)) 17 (3 * (n0 % 16) + 1) (nI j)) 0 1)) 0 3 (((up2 (up2 (up2 (up2 (up2 (up2 (up2 μ 0 2 ((μ 0 2) - ((1 : Int32) <<< ((nI k) &&& 31)))) 9 (4 * k + 2) (((up2 μ 0 2 ((μ 0 2) - ((1 : Int32) <<< ((nI k) &&& 31)))) 9 (4 * k + 2)) + 1)) 14 j (((up2 (up2 μ 0 2 ((μ 0 2) - ((1 : Int32) <<< ((nI k) &&& 31)))) 9 (4 * k + 2) (((up2 μ 0 2 ((μ 0 2) - ((1 : Int32) <<< ((nI k) &&& 31)))) 9 (4 * k + 2)) + 1)) 14 j) + 1)) 16 j ((up2 (up2 (up2 μ 0 2 ((μ 0 2) - ((1 : Int32) <<< ((nI k) &&& 31)))) 9 (4 * k + 2) (((up2 μ 0 2 ((μ 0 2) - ((1 : Int32) <<< ((nI k) &&& 31)))) 9 (4 * k + 2)) + 1)) 14 j (((up2 (up2 μ 0 2 ((μ 0 2) - ((1 : Int32) <<< ((nI k) &&& 31)))) 9 (4 * k + 2) (((up2 μ 0 2 ((μ 0 2) - ((1 : Int32) <<< ((nI k) &&& 31)))) 9 (4 * k + 2)) + 1)) 14 j) + 1)) 0 1)) 17 (3 * (n0 % 16)) (nI k)) 17 (3 * (n0 % 16) + 1) (nI j)) 17 (3 * (n0 % 16) + 2) ((up2 (up2 (up2 (up2 (up2 (up2 μ 0 2 ((μ 0 2) - ((1 : Int32) <<< ((nI k) &&& 31)))) 9 (4 * k + 2) (((up2 μ 0 2 ((μ 0 2) - ((1 : Int32) <<< ((nI k) &&& 31)))) 9 (4 * k + 2)) + 1)) 14 j (((up2 (up2 μ 0 2 ((μ 0 2) - ((1 : Int32) <<< ((nI k) &&& 31)))) 9 (4 * k + 2) (((up2 μ 0 2 ((μ 0 2) - ((1 : Int32) <<< ((nI k) &&& 31)))) 9 (4 * k + 2)) + 1)) 14 j) + 1)) 16 j ((up2 (up2 (up2 μ 0 2 ((μ 0 2) - ((1 : Int32) <<< ((nI k) &&& 31)))) 9 (4 * k + 2) (((up2 μ 0 2 ((μ 0 2) - ((1 : Int32) <<< ((nI k) &&& 31)))) 9 (4 * k + 2)) + 1)) 14 j (((up2 (up2 μ 0 2 ((μ 0 2) - ((1 : Int32) <<< ((nI k) &&& 31)))) 9 (4 * k + 2) (((up2 μ 0 2 ((μ 0 2) - ((1 : Int32) <<< ((nI k) &&& 31)))) 9 (4 * k + 2)) + 1)) 14 j) + 1)) 0 1)) 17 (3 * (n0 % 16)) (nI k)) 17 (3 * (n0 % 16) + 1) (nI j)) 0 1)) 0 3) + 1)) hP hD hS d_m_serve_139 (by simp only [g_serve, bit1, c_1, c_2, ek, enn, ↓reduceIte])
      | succ n ih =>
        intro k hk7 hz hrel H locs ls hP hD hS hl
        refine lv_aload_n hx hb d_m_serve_21 rfl (lv_at hl 2 rfl) ?_
        refine va_get (v := .int (μ 0 2)) hx hb hG i_M hown hK hP 0 wM_M rfl 2 (by decide) (hG _ L_M_62) (fun _ h9 => h9) rfl d_m_serve_22 ?_
        refine lv_aload_n hx hb d_m_serve_25 rfl (lv_at hl 2 rfl) ?_
        refine va_get (v := .ref (b 10)) hx hb hG i_M hown hK hP 0 wM_M rfl 10 (by decide) (hG _ L_M_29) (fun _ h9 => h9) rfl d_m_serve_26 ?_
        refine lv_iload_n hx hb d_m_serve_29 rfl (lv_at hl 1 rfl) ?_
        refine m_ild hx hb hK hP wM_10 (j) hj (by decide) (rfl) d_m_serve_30 ?_
        refine lv_iand hx hb d_m_serve_31 ?_
        refine lv_iconst (v := 1) hx hb d_m_serve_32 (by decide) ?_
        refine lv_iload_n hx hb d_m_serve_33 rfl (lv_at hl 0 rfl) ?_
        refine lv_ishl hx hb d_m_serve_34 ?_
        refine lv_iand hx hb d_m_serve_35 ?_
        refine lv_if_ne (tgt := 45) hx hb d_m_serve_36 (by decide) (fun c_3 => ?_) (fun c_3 => ?_)
        · have ek : lbN (μ 0 2 &&& μ 10 j) 7 0 = k := by first | (rw [← hrel]; show 7 = k; omega) | (rw [← hrel]; simp only [lbN, bit1, c_1, c_3, ↓reduceIte])
          have hk : k < 8 := by omega
          refine lv_aload_n hx hb d_m_serve_45 rfl (lv_at hl 2 rfl) ?_
          refine lv_dup hx hb d_m_serve_46 rfl ?_
          refine va_get (v := .int (μ 0 2)) hx hb hG i_M hown hK hP 0 wM_M rfl 2 (by decide) (hG _ L_M_62) (fun _ h9 => h9) rfl d_m_serve_47 ?_
          refine lv_iconst (v := 1) hx hb d_m_serve_50 (by decide) ?_
          refine lv_iload_n hx hb d_m_serve_51 rfl (lv_at hl 0 rfl) ?_
          refine lv_ishl hx hb d_m_serve_52 ?_
          refine lv_isub hx hb d_m_serve_53 ?_
          refine va_put (ty := .int) (v := .int ((μ 0 2) - ((1 : Int32) <<< ((nI k) &&& 31)))) hx hb hG i_M ft_M ft_M_ok n_M hown hK hP hD hS 0 wM_M rfl 2 (by decide) (hG _ L_M_62) (fun _ h9 => h9) rfl (by decide +kernel) rfl rfl (Nat.le_of_ble_eq_true rfl) d_m_serve_54 (fun H locs hP hD hS => ?_)
          rw [wM_putM2] at hP hD
          refine lv_aload_n hx hb d_m_serve_57 rfl (lv_at hl 2 rfl) ?_
          refine va_get (v := .ref (b 9)) hx hb hG i_M hown hK hP 0 wM_M rfl 9 (by decide) (hG _ L_M_26) (fun _ h9 => h9) rfl d_m_serve_58 ?_
          refine lv_iconst (v := 4) hx hb d_m_serve_61 (by decide) ?_
          refine lv_iload_n hx hb d_m_serve_62 rfl (lv_at hl 0 rfl) ?_
          refine lv_imul hx hb d_m_serve_63 ?_
          refine lv_iconst (v := 2) hx hb d_m_serve_64 (by decide) ?_
          refine lv_iadd hx hb d_m_serve_65 ?_
          refine lv_dup2_11 hx hb d_m_serve_66 rfl rfl ?_
          refine m_ild hx hb hK hP wM_9 (4 * k + 2) (show 4 * k + 2 < 32 by have := hk; omega) (by decide) (m_ix k 2) d_m_serve_67 ?_
          refine lv_iconst (v := 1) hx hb d_m_serve_68 (by decide) ?_
          refine lv_iadd hx hb d_m_serve_69 ?_
          refine m_ist (x := ((up2 μ 0 2 ((μ 0 2) - ((1 : Int32) <<< ((nI k) &&& 31)))) 9 (4 * k + 2)) + 1) hx hb hK hP hD hS wM_9 wM_p9 (4 * k + 2) (show 4 * k + 2 < 32 by have := hk; omega) (by decide) (m_ix k 2) d_m_serve_70 (fun H locs hP hD hS => ?_)
          refine lv_aload_n hx hb d_m_serve_71 rfl (lv_at hl 2 rfl) ?_
          refine va_get (v := .ref (b 14)) hx hb hG i_M hown hK hP 0 wM_M rfl 14 (by decide) (hG _ L_M_41) (fun _ h9 => h9) rfl d_m_serve_72 ?_
          refine lv_iload_n hx hb d_m_serve_75 rfl (lv_at hl 1 rfl) ?_
          refine lv_dup2_11 hx hb d_m_serve_76 rfl rfl ?_
          refine m_ild hx hb hK hP wM_14 (j) hj (by decide) (rfl) d_m_serve_77 ?_
          refine lv_iconst (v := 1) hx hb d_m_serve_78 (by decide) ?_
          refine lv_iadd hx hb d_m_serve_79 ?_
          refine m_ist (x := ((up2 (up2 μ 0 2 ((μ 0 2) - ((1 : Int32) <<< ((nI k) &&& 31)))) 9 (4 * k + 2) (((up2 μ 0 2 ((μ 0 2) - ((1 : Int32) <<< ((nI k) &&& 31)))) 9 (4 * k + 2)) + 1)) 14 j) + 1) hx hb hK hP hD hS wM_14 wM_p14 (j) hj (by decide) (rfl) d_m_serve_80 (fun H locs hP hD hS => ?_)
          refine lv_aload_n hx hb d_m_serve_81 rfl (lv_at hl 2 rfl) ?_
          refine va_get (v := .ref (b 16)) hx hb hG i_M hown hK hP 0 wM_M rfl 16 (by decide) (hG _ L_M_47) (fun _ h9 => h9) rfl d_m_serve_82 ?_
          refine lv_iload_n hx hb d_m_serve_85 rfl (lv_at hl 1 rfl) ?_
          refine lv_aload_n hx hb d_m_serve_86 rfl (lv_at hl 2 rfl) ?_
          refine va_get (v := .int ((up2 (up2 (up2 μ 0 2 ((μ 0 2) - ((1 : Int32) <<< ((nI k) &&& 31)))) 9 (4 * k + 2) (((up2 μ 0 2 ((μ 0 2) - ((1 : Int32) <<< ((nI k) &&& 31)))) 9 (4 * k + 2)) + 1)) 14 j (((up2 (up2 μ 0 2 ((μ 0 2) - ((1 : Int32) <<< ((nI k) &&& 31)))) 9 (4 * k + 2) (((up2 μ 0 2 ((μ 0 2) - ((1 : Int32) <<< ((nI k) &&& 31)))) 9 (4 * k + 2)) + 1)) 14 j) + 1)) 0 1)) hx hb hG i_M hown hK hP 0 wM_M rfl 1 (by decide) (hG _ L_M_69) (fun _ h9 => h9) rfl d_m_serve_87 ?_
          refine m_ist (x := (up2 (up2 (up2 μ 0 2 ((μ 0 2) - ((1 : Int32) <<< ((nI k) &&& 31)))) 9 (4 * k + 2) (((up2 μ 0 2 ((μ 0 2) - ((1 : Int32) <<< ((nI k) &&& 31)))) 9 (4 * k + 2)) + 1)) 14 j (((up2 (up2 μ 0 2 ((μ 0 2) - ((1 : Int32) <<< ((nI k) &&& 31)))) 9 (4 * k + 2) (((up2 μ 0 2 ((μ 0 2) - ((1 : Int32) <<< ((nI k) &&& 31)))) 9 (4 * k + 2)) + 1)) 14 j) + 1)) 0 1) hx hb hK hP hD hS wM_16 wM_p16 (j) hj (by decide) (rfl) d_m_serve_90 (fun H locs hP hD hS => ?_)
          refine lv_iconst (v := 3) hx hb d_m_serve_91 (by decide) ?_
          refine lv_aload_n hx hb d_m_serve_92 rfl (lv_at hl 2 rfl) ?_
          refine va_get (v := .int ((up2 (up2 (up2 (up2 μ 0 2 ((μ 0 2) - ((1 : Int32) <<< ((nI k) &&& 31)))) 9 (4 * k + 2) (((up2 μ 0 2 ((μ 0 2) - ((1 : Int32) <<< ((nI k) &&& 31)))) 9 (4 * k + 2)) + 1)) 14 j (((up2 (up2 μ 0 2 ((μ 0 2) - ((1 : Int32) <<< ((nI k) &&& 31)))) 9 (4 * k + 2) (((up2 μ 0 2 ((μ 0 2) - ((1 : Int32) <<< ((nI k) &&& 31)))) 9 (4 * k + 2)) + 1)) 14 j) + 1)) 16 j ((up2 (up2 (up2 μ 0 2 ((μ 0 2) - ((1 : Int32) <<< ((nI k) &&& 31)))) 9 (4 * k + 2) (((up2 μ 0 2 ((μ 0 2) - ((1 : Int32) <<< ((nI k) &&& 31)))) 9 (4 * k + 2)) + 1)) 14 j (((up2 (up2 μ 0 2 ((μ 0 2) - ((1 : Int32) <<< ((nI k) &&& 31)))) 9 (4 * k + 2) (((up2 μ 0 2 ((μ 0 2) - ((1 : Int32) <<< ((nI k) &&& 31)))) 9 (4 * k + 2)) + 1)) 14 j) + 1)) 0 1)) 0 3)) hx hb hG i_M hown hK hP 0 wM_M rfl 3 (by decide) (hG _ L_M_72) (fun _ h9 => h9) rfl d_m_serve_93 ?_
          refine lv_bipush (v := 16) hx hb d_m_serve_96 (by decide) ?_
          refine lv_irem hx hb d_m_serve_98 (by decide) ?_
          refine lv_imul hx hb d_m_serve_99 ?_
          refine lv_topi (fun z ez => ?_)
          obtain rfl := ez.trans (m_at (S := (up2 (up2 (up2 (up2 μ 0 2 ((μ 0 2) - ((1 : Int32) <<< ((nI k) &&& 31)))) 9 (4 * k + 2) (((up2 μ 0 2 ((μ 0 2) - ((1 : Int32) <<< ((nI k) &&& 31)))) 9 (4 * k + 2)) + 1)) 14 j (((up2 (up2 μ 0 2 ((μ 0 2) - ((1 : Int32) <<< ((nI k) &&& 31)))) 9 (4 * k + 2) (((up2 μ 0 2 ((μ 0 2) - ((1 : Int32) <<< ((nI k) &&& 31)))) 9 (4 * k + 2)) + 1)) 14 j) + 1)) 16 j ((up2 (up2 (up2 μ 0 2 ((μ 0 2) - ((1 : Int32) <<< ((nI k) &&& 31)))) 9 (4 * k + 2) (((up2 μ 0 2 ((μ 0 2) - ((1 : Int32) <<< ((nI k) &&& 31)))) 9 (4 * k + 2)) + 1)) 14 j (((up2 (up2 μ 0 2 ((μ 0 2) - ((1 : Int32) <<< ((nI k) &&& 31)))) 9 (4 * k + 2) (((up2 μ 0 2 ((μ 0 2) - ((1 : Int32) <<< ((nI k) &&& 31)))) 9 (4 * k + 2)) + 1)) 14 j) + 1)) 0 1)) 0 3) (n := n0) hO.1 (by omega))
          have enn : nn μ = n0 := mOK_nn hO hn
          refine lv_istore_n (lv' := [(3, .int (nI (3 * (n0 % 16)))), (2, .int (nI k)), (1, .int (nI j)), (0, .ref (b 0))]) hx hb d_m_serve_100 rfl hl (by decide) rfl (fun ls hl => ?_)
          refine lv_aload_n hx hb d_m_serve_101 rfl (lv_at hl 3 rfl) ?_
          refine va_get (v := .ref (b 17)) hx hb hG i_M hown hK hP 0 wM_M rfl 17 (by decide) (hG _ L_M_50) (fun _ h9 => h9) rfl d_m_serve_102 ?_
          refine lv_iload_n hx hb d_m_serve_105 rfl (lv_at hl 0 rfl) ?_
          refine lv_iload_n hx hb d_m_serve_106 rfl (lv_at hl 1 rfl) ?_
          refine m_ist (x := nI k) hx hb hK hP hD hS wM_17 wM_p17 ((3 * (n0 % 16))) (show (3 * (n0 % 16)) < 48 by omega) (by decide) (rfl) d_m_serve_107 (fun H locs hP hD hS => ?_)
          refine lv_aload_n hx hb d_m_serve_108 rfl (lv_at hl 3 rfl) ?_
          refine va_get (v := .ref (b 17)) hx hb hG i_M hown hK hP 0 wM_M rfl 17 (by decide) (hG _ L_M_50) (fun _ h9 => h9) rfl d_m_serve_109 ?_
          refine lv_iload_n hx hb d_m_serve_112 rfl (lv_at hl 0 rfl) ?_
          refine lv_iconst (v := 1) hx hb d_m_serve_113 (by decide) ?_
          refine lv_iadd hx hb d_m_serve_114 ?_
          refine lv_iload_n hx hb d_m_serve_115 rfl (lv_at hl 2 rfl) ?_
          refine m_ist (x := nI j) hx hb hK hP hD hS wM_17 wM_p17 (3 * (n0 % 16) + 1) (show 3 * (n0 % 16) + 1 < 48 by omega) (by decide) (nI_add _ 1) d_m_serve_116 (fun H locs hP hD hS => ?_)
          refine lv_aload_n hx hb d_m_serve_117 rfl (lv_at hl 3 rfl) ?_
          refine va_get (v := .ref (b 17)) hx hb hG i_M hown hK hP 0 wM_M rfl 17 (by decide) (hG _ L_M_50) (fun _ h9 => h9) rfl d_m_serve_118 ?_
          refine lv_iload_n hx hb d_m_serve_121 rfl (lv_at hl 0 rfl) ?_
          refine lv_iconst (v := 2) hx hb d_m_serve_122 (by decide) ?_
          refine lv_iadd hx hb d_m_serve_123 ?_
          refine lv_aload_n hx hb d_m_serve_124 rfl (lv_at hl 3 rfl) ?_
          refine va_get (v := .int ((up2 (up2 (up2 (up2 (up2 (up2 μ 0 2 ((μ 0 2) - ((1 : Int32) <<< ((nI k) &&& 31)))) 9 (4 * k + 2) (((up2 μ 0 2 ((μ 0 2) - ((1 : Int32) <<< ((nI k) &&& 31)))) 9 (4 * k + 2)) + 1)) 14 j (((up2 (up2 μ 0 2 ((μ 0 2) - ((1 : Int32) <<< ((nI k) &&& 31)))) 9 (4 * k + 2) (((up2 μ 0 2 ((μ 0 2) - ((1 : Int32) <<< ((nI k) &&& 31)))) 9 (4 * k + 2)) + 1)) 14 j) + 1)) 16 j ((up2 (up2 (up2 μ 0 2 ((μ 0 2) - ((1 : Int32) <<< ((nI k) &&& 31)))) 9 (4 * k + 2) (((up2 μ 0 2 ((μ 0 2) - ((1 : Int32) <<< ((nI k) &&& 31)))) 9 (4 * k + 2)) + 1)) 14 j (((up2 (up2 μ 0 2 ((μ 0 2) - ((1 : Int32) <<< ((nI k) &&& 31)))) 9 (4 * k + 2) (((up2 μ 0 2 ((μ 0 2) - ((1 : Int32) <<< ((nI k) &&& 31)))) 9 (4 * k + 2)) + 1)) 14 j) + 1)) 0 1)) 17 (3 * (n0 % 16)) (nI k)) 17 (3 * (n0 % 16) + 1) (nI j)) 0 1)) hx hb hG i_M hown hK hP 0 wM_M rfl 1 (by decide) (hG _ L_M_69) (fun _ h9 => h9) rfl d_m_serve_125 ?_
          refine m_ist (x := (up2 (up2 (up2 (up2 (up2 (up2 μ 0 2 ((μ 0 2) - ((1 : Int32) <<< ((nI k) &&& 31)))) 9 (4 * k + 2) (((up2 μ 0 2 ((μ 0 2) - ((1 : Int32) <<< ((nI k) &&& 31)))) 9 (4 * k + 2)) + 1)) 14 j (((up2 (up2 μ 0 2 ((μ 0 2) - ((1 : Int32) <<< ((nI k) &&& 31)))) 9 (4 * k + 2) (((up2 μ 0 2 ((μ 0 2) - ((1 : Int32) <<< ((nI k) &&& 31)))) 9 (4 * k + 2)) + 1)) 14 j) + 1)) 16 j ((up2 (up2 (up2 μ 0 2 ((μ 0 2) - ((1 : Int32) <<< ((nI k) &&& 31)))) 9 (4 * k + 2) (((up2 μ 0 2 ((μ 0 2) - ((1 : Int32) <<< ((nI k) &&& 31)))) 9 (4 * k + 2)) + 1)) 14 j (((up2 (up2 μ 0 2 ((μ 0 2) - ((1 : Int32) <<< ((nI k) &&& 31)))) 9 (4 * k + 2) (((up2 μ 0 2 ((μ 0 2) - ((1 : Int32) <<< ((nI k) &&& 31)))) 9 (4 * k + 2)) + 1)) 14 j) + 1)) 0 1)) 17 (3 * (n0 % 16)) (nI k)) 17 (3 * (n0 % 16) + 1) (nI j)) 0 1) hx hb hK hP hD hS wM_17 wM_p17 (3 * (n0 % 16) + 2) (show 3 * (n0 % 16) + 2 < 48 by omega) (by decide) (nI_add _ 2) d_m_serve_128 (fun H locs hP hD hS => ?_)
          refine lv_aload_n hx hb d_m_serve_129 rfl (lv_at hl 3 rfl) ?_
          refine lv_dup hx hb d_m_serve_130 rfl ?_
          refine va_get (v := .int ((up2 (up2 (up2 (up2 (up2 (up2 (up2 μ 0 2 ((μ 0 2) - ((1 : Int32) <<< ((nI k) &&& 31)))) 9 (4 * k + 2) (((up2 μ 0 2 ((μ 0 2) - ((1 : Int32) <<< ((nI k) &&& 31)))) 9 (4 * k + 2)) + 1)) 14 j (((up2 (up2 μ 0 2 ((μ 0 2) - ((1 : Int32) <<< ((nI k) &&& 31)))) 9 (4 * k + 2) (((up2 μ 0 2 ((μ 0 2) - ((1 : Int32) <<< ((nI k) &&& 31)))) 9 (4 * k + 2)) + 1)) 14 j) + 1)) 16 j ((up2 (up2 (up2 μ 0 2 ((μ 0 2) - ((1 : Int32) <<< ((nI k) &&& 31)))) 9 (4 * k + 2) (((up2 μ 0 2 ((μ 0 2) - ((1 : Int32) <<< ((nI k) &&& 31)))) 9 (4 * k + 2)) + 1)) 14 j (((up2 (up2 μ 0 2 ((μ 0 2) - ((1 : Int32) <<< ((nI k) &&& 31)))) 9 (4 * k + 2) (((up2 μ 0 2 ((μ 0 2) - ((1 : Int32) <<< ((nI k) &&& 31)))) 9 (4 * k + 2)) + 1)) 14 j) + 1)) 0 1)) 17 (3 * (n0 % 16)) (nI k)) 17 (3 * (n0 % 16) + 1) (nI j)) 17 (3 * (n0 % 16) + 2) ((up2 (up2 (up2 (up2 (up2 (up2 μ 0 2 ((μ 0 2) - ((1 : Int32) <<< ((nI k) &&& 31)))) 9 (4 * k + 2) (((up2 μ 0 2 ((μ 0 2) - ((1 : Int32) <<< ((nI k) &&& 31)))) 9 (4 * k + 2)) + 1)) 14 j (((up2 (up2 μ 0 2 ((μ 0 2) - ((1 : Int32) <<< ((nI k) &&& 31)))) 9 (4 * k + 2) (((up2 μ 0 2 ((μ 0 2) - ((1 : Int32) <<< ((nI k) &&& 31)))) 9 (4 * k + 2)) + 1)) 14 j) + 1)) 16 j ((up2 (up2 (up2 μ 0 2 ((μ 0 2) - ((1 : Int32) <<< ((nI k) &&& 31)))) 9 (4 * k + 2) (((up2 μ 0 2 ((μ 0 2) - ((1 : Int32) <<< ((nI k) &&& 31)))) 9 (4 * k + 2)) + 1)) 14 j (((up2 (up2 μ 0 2 ((μ 0 2) - ((1 : Int32) <<< ((nI k) &&& 31)))) 9 (4 * k + 2) (((up2 μ 0 2 ((μ 0 2) - ((1 : Int32) <<< ((nI k) &&& 31)))) 9 (4 * k + 2)) + 1)) 14 j) + 1)) 0 1)) 17 (3 * (n0 % 16)) (nI k)) 17 (3 * (n0 % 16) + 1) (nI j)) 0 1)) 0 3)) hx hb hG i_M hown hK hP 0 wM_M rfl 3 (by decide) (hG _ L_M_72) (fun _ h9 => h9) rfl d_m_serve_131 ?_
          refine lv_iconst (v := 1) hx hb d_m_serve_134 (by decide) ?_
          refine lv_iadd hx hb d_m_serve_135 ?_
          refine va_put (ty := .int) (v := .int (((up2 (up2 (up2 (up2 (up2 (up2 (up2 μ 0 2 ((μ 0 2) - ((1 : Int32) <<< ((nI k) &&& 31)))) 9 (4 * k + 2) (((up2 μ 0 2 ((μ 0 2) - ((1 : Int32) <<< ((nI k) &&& 31)))) 9 (4 * k + 2)) + 1)) 14 j (((up2 (up2 μ 0 2 ((μ 0 2) - ((1 : Int32) <<< ((nI k) &&& 31)))) 9 (4 * k + 2) (((up2 μ 0 2 ((μ 0 2) - ((1 : Int32) <<< ((nI k) &&& 31)))) 9 (4 * k + 2)) + 1)) 14 j) + 1)) 16 j ((up2 (up2 (up2 μ 0 2 ((μ 0 2) - ((1 : Int32) <<< ((nI k) &&& 31)))) 9 (4 * k + 2) (((up2 μ 0 2 ((μ 0 2) - ((1 : Int32) <<< ((nI k) &&& 31)))) 9 (4 * k + 2)) + 1)) 14 j (((up2 (up2 μ 0 2 ((μ 0 2) - ((1 : Int32) <<< ((nI k) &&& 31)))) 9 (4 * k + 2) (((up2 μ 0 2 ((μ 0 2) - ((1 : Int32) <<< ((nI k) &&& 31)))) 9 (4 * k + 2)) + 1)) 14 j) + 1)) 0 1)) 17 (3 * (n0 % 16)) (nI k)) 17 (3 * (n0 % 16) + 1) (nI j)) 17 (3 * (n0 % 16) + 2) ((up2 (up2 (up2 (up2 (up2 (up2 μ 0 2 ((μ 0 2) - ((1 : Int32) <<< ((nI k) &&& 31)))) 9 (4 * k + 2) (((up2 μ 0 2 ((μ 0 2) - ((1 : Int32) <<< ((nI k) &&& 31)))) 9 (4 * k + 2)) + 1)) 14 j (((up2 (up2 μ 0 2 ((μ 0 2) - ((1 : Int32) <<< ((nI k) &&& 31)))) 9 (4 * k + 2) (((up2 μ 0 2 ((μ 0 2) - ((1 : Int32) <<< ((nI k) &&& 31)))) 9 (4 * k + 2)) + 1)) 14 j) + 1)) 16 j ((up2 (up2 (up2 μ 0 2 ((μ 0 2) - ((1 : Int32) <<< ((nI k) &&& 31)))) 9 (4 * k + 2) (((up2 μ 0 2 ((μ 0 2) - ((1 : Int32) <<< ((nI k) &&& 31)))) 9 (4 * k + 2)) + 1)) 14 j (((up2 (up2 μ 0 2 ((μ 0 2) - ((1 : Int32) <<< ((nI k) &&& 31)))) 9 (4 * k + 2) (((up2 μ 0 2 ((μ 0 2) - ((1 : Int32) <<< ((nI k) &&& 31)))) 9 (4 * k + 2)) + 1)) 14 j) + 1)) 0 1)) 17 (3 * (n0 % 16)) (nI k)) 17 (3 * (n0 % 16) + 1) (nI j)) 0 1)) 0 3) + 1)) hx hb hG i_M ft_M ft_M_ok n_M hown hK hP hD hS 0 wM_M rfl 3 (by decide) (hG _ L_M_72) (fun _ h9 => h9) rfl (by decide +kernel) rfl rfl (Nat.le_of_ble_eq_true rfl) d_m_serve_136 (fun H locs hP hD hS => ?_)
          rw [wM_putM3] at hP hD
          exact hret _ _ _ 139 (up2 (up2 (up2 (up2 (up2 (up2 (up2 (up2 μ 0 2 ((μ 0 2) - ((1 : Int32) <<< ((nI k) &&& 31)))) 9 (4 * k + 2) (((up2 μ 0 2 ((μ 0 2) - ((1 : Int32) <<< ((nI k) &&& 31)))) 9 (4 * k + 2)) + 1)) 14 j (((up2 (up2 μ 0 2 ((μ 0 2) - ((1 : Int32) <<< ((nI k) &&& 31)))) 9 (4 * k + 2) (((up2 μ 0 2 ((μ 0 2) - ((1 : Int32) <<< ((nI k) &&& 31)))) 9 (4 * k + 2)) + 1)) 14 j) + 1)) 16 j ((up2 (up2 (up2 μ 0 2 ((μ 0 2) - ((1 : Int32) <<< ((nI k) &&& 31)))) 9 (4 * k + 2) (((up2 μ 0 2 ((μ 0 2) - ((1 : Int32) <<< ((nI k) &&& 31)))) 9 (4 * k + 2)) + 1)) 14 j (((up2 (up2 μ 0 2 ((μ 0 2) - ((1 : Int32) <<< ((nI k) &&& 31)))) 9 (4 * k + 2) (((up2 μ 0 2 ((μ 0 2) - ((1 : Int32) <<< ((nI k) &&& 31)))) 9 (4 * k + 2)) + 1)) 14 j) + 1)) 0 1)) 17 (3 * (n0 % 16)) (nI k)) 17 (3 * (n0 % 16) + 1) (nI j)) 17 (3 * (n0 % 16) + 2) ((up2 (up2 (up2 (up2 (up2 (up2 μ 0 2 ((μ 0 2) - ((1 : Int32) <<< ((nI k) &&& 31)))) 9 (4 * k + 2) (((up2 μ 0 2 ((μ 0 2) - ((1 : Int32) <<< ((nI k) &&& 31)))) 9 (4 * k + 2)) + 1)) 14 j (((up2 (up2 μ 0 2 ((μ 0 2) - ((1 : Int32) <<< ((nI k) &&& 31)))) 9 (4 * k + 2) (((up2 μ 0 2 ((μ 0 2) - ((1 : Int32) <<< ((nI k) &&& 31)))) 9 (4 * k + 2)) + 1)) 14 j) + 1)) 16 j ((up2 (up2 (up2 μ 0 2 ((μ 0 2) - ((1 : Int32) <<< ((nI k) &&& 31)))) 9 (4 * k + 2) (((up2 μ 0 2 ((μ 0 2) - ((1 : Int32) <<< ((nI k) &&& 31)))) 9 (4 * k + 2)) + 1)) 14 j (((up2 (up2 μ 0 2 ((μ 0 2) - ((1 : Int32) <<< ((nI k) &&& 31)))) 9 (4 * k + 2) (((up2 μ 0 2 ((μ 0 2) - ((1 : Int32) <<< ((nI k) &&& 31)))) 9 (4 * k + 2)) + 1)) 14 j) + 1)) 0 1)) 17 (3 * (n0 % 16)) (nI k)) 17 (3 * (n0 % 16) + 1) (nI j)) 0 1)) 0 3 (((up2 (up2 (up2 (up2 (up2 (up2 (up2 μ 0 2 ((μ 0 2) - ((1 : Int32) <<< ((nI k) &&& 31)))) 9 (4 * k + 2) (((up2 μ 0 2 ((μ 0 2) - ((1 : Int32) <<< ((nI k) &&& 31)))) 9 (4 * k + 2)) + 1)) 14 j (((up2 (up2 μ 0 2 ((μ 0 2) - ((1 : Int32) <<< ((nI k) &&& 31)))) 9 (4 * k + 2) (((up2 μ 0 2 ((μ 0 2) - ((1 : Int32) <<< ((nI k) &&& 31)))) 9 (4 * k + 2)) + 1)) 14 j) + 1)) 16 j ((up2 (up2 (up2 μ 0 2 ((μ 0 2) - ((1 : Int32) <<< ((nI k) &&& 31)))) 9 (4 * k + 2) (((up2 μ 0 2 ((μ 0 2) - ((1 : Int32) <<< ((nI k) &&& 31)))) 9 (4 * k + 2)) + 1)) 14 j (((up2 (up2 μ 0 2 ((μ 0 2) - ((1 : Int32) <<< ((nI k) &&& 31)))) 9 (4 * k + 2) (((up2 μ 0 2 ((μ 0 2) - ((1 : Int32) <<< ((nI k) &&& 31)))) 9 (4 * k + 2)) + 1)) 14 j) + 1)) 0 1)) 17 (3 * (n0 % 16)) (nI k)) 17 (3 * (n0 % 16) + 1) (nI j)) 17 (3 * (n0 % 16) + 2) ((up2 (up2 (up2 (up2 (up2 (up2 μ 0 2 ((μ 0 2) - ((1 : Int32) <<< ((nI k) &&& 31)))) 9 (4 * k + 2) (((up2 μ 0 2 ((μ 0 2) - ((1 : Int32) <<< ((nI k) &&& 31)))) 9 (4 * k + 2)) + 1)) 14 j (((up2 (up2 μ 0 2 ((μ 0 2) - ((1 : Int32) <<< ((nI k) &&& 31)))) 9 (4 * k + 2) (((up2 μ 0 2 ((μ 0 2) - ((1 : Int32) <<< ((nI k) &&& 31)))) 9 (4 * k + 2)) + 1)) 14 j) + 1)) 16 j ((up2 (up2 (up2 μ 0 2 ((μ 0 2) - ((1 : Int32) <<< ((nI k) &&& 31)))) 9 (4 * k + 2) (((up2 μ 0 2 ((μ 0 2) - ((1 : Int32) <<< ((nI k) &&& 31)))) 9 (4 * k + 2)) + 1)) 14 j (((up2 (up2 μ 0 2 ((μ 0 2) - ((1 : Int32) <<< ((nI k) &&& 31)))) 9 (4 * k + 2) (((up2 μ 0 2 ((μ 0 2) - ((1 : Int32) <<< ((nI k) &&& 31)))) 9 (4 * k + 2)) + 1)) 14 j) + 1)) 0 1)) 17 (3 * (n0 % 16)) (nI k)) 17 (3 * (n0 % 16) + 1) (nI j)) 0 1)) 0 3) + 1)) hP hD hS d_m_serve_139 (by simp only [g_serve, bit1, c_1, c_3, ek, enn, ↓reduceIte])
        · refine lv_iinc (v := nI (k + 1)) (lv' := [(2, .int (nI (k + 1))), (1, .int (nI j)), (0, .ref (b 0))]) hx hb d_m_serve_39 hl (k := 0) rfl (nI_1 k) (by decide) rfl (fun ls hl => ?_)
          refine lv_goto (tgt := 21) hx hb d_m_serve_42 (by decide) ?_
          exact ih (k + 1) (by omega) (lt_s hz c_3) (by rw [← hrel]; simp only [lbN, bit1, c_1, c_3, ↓reduceIte]) _ _ _ hP hD hS (lv_sub hl [0, 1, 2] rfl)
    exact loop 7 0 (by omega) (fun i hi => absurd hi (Nat.not_lt_zero i)) rfl _ _ _ hP hD hS (lv_sub hl [0, 2, 1] rfl)
  · refine lv_aload_n hx hb d_m_serve_8 rfl (lv_at hl 0 rfl) ?_
    refine va_get (v := .ref (b 15)) hx hb hG i_M hown hK hP 0 wM_M rfl 15 (by decide) (hG _ L_M_44) (fun _ h9 => h9) rfl d_m_serve_9 ?_
    refine lv_iload_n hx hb d_m_serve_12 rfl (lv_at hl 1 rfl) ?_
    refine lv_dup2_11 hx hb d_m_serve_13 rfl rfl ?_
    refine m_ild hx hb hK hP wM_15 (j) hj (by decide) (rfl) d_m_serve_14 ?_
    refine lv_iconst (v := 1) hx hb d_m_serve_15 (by decide) ?_
    refine lv_iadd hx hb d_m_serve_16 ?_
    refine m_ist (x := (μ 15 j) + 1) hx hb hK hP hD hS wM_15 wM_p15 (j) hj (by decide) (rfl) d_m_serve_17 (fun H locs hP hD hS => ?_)
    exact hret _ _ _ 18 (up2 μ 15 j ((μ 15 j) + 1)) hP hD hS d_m_serve_18 (by simp only [g_serve, bit1, c_1, ↓reduceIte])
