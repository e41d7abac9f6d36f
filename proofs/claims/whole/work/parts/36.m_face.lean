set_option maxHeartbeats 4000000 in
set_option maxRecDepth 100000 in
theorem c_m_set (l : Launch) (D : va_G) (b : Nat → Nat) (cb : Nat → ClassId) (μ : St) (t : Int32) (src : Int32) (per : Int32) (x : Bool) : KI l D (tM cb) (wM b cb) rm_m_set y_m_set b_m_set 5 .boolean [.ref (b 0), .int t, .int src, .int per, .int (bI x)] μ ((g_set μ t src per x).1) ((g_set μ t src per x).2) := by
  refine KI.of (by decide) (Nat.le_of_ble_eq_true rfl) ?_
  intro p e s m args below meth c A Q ls hx hb hml hown hG hK hN hA hP hD hS hl hret
  have hown : s.vm.findClass R_M = some m.cls := hown
  have hl : lv_has ls 5 [(0, .ref (b 0)), (1, .int t), (2, .int src), (3, .int per), (4, .int (bI x))] := hl
  refine lv_iload_n hx hb d_m_set_0 rfl (lv_at hl 1 rfl) ?_
  refine lv_iconst (v := 0) hx hb d_m_set_1 (by decide) ?_
  refine lv_bipush (v := 7) hx hb d_m_set_2 (by decide) ?_
  refine k_cS (rest := []) hx hb hml hown hG hK hN hA hP hD hS (c_m_isIn l D b cb μ t 0 7) ok_m_isIn so_m_isIn L_M_57 ⟨rfl, rfl, by decide, by decide⟩ rfl hl.1 rfl (Nat.le_of_ble_eq_true rfl) ⟨Nat.zero_le _, Nat.zero_le _⟩ d_m_set_4 (fun H locs hP hD hS => ?_)
  refine lv_if_eq (tgt := 37) hx hb d_m_set_7 (by decide) (fun c_1 => ?_) (fun c_1 => ?_)
  · refine lv_iconst (v := 0) hx hb d_m_set_37 (by decide) ?_
    exact hret _ _ _ 38 0 μ hP hD hS rfl d_m_set_38 (by simp only [g_set, g_put, c_1, ↓reduceIte]) (by simp only [g_set, g_put, c_1, ↓reduceIte])
  · obtain ⟨j, hj, rfl⟩ := isIn_in (n := 7) (by decide) c_1
    have hclj : (nI j).toNatClampNeg = j := nI_clamp (by omega)
    refine lv_iload_n hx hb d_m_set_10 rfl (lv_at hl 2 rfl) ?_
    refine lv_iconst (v := 0) hx hb d_m_set_11 (by decide) ?_
    refine lv_iload_n hx hb d_m_set_12 rfl (lv_at hl 1 rfl) ?_
    refine lv_if_ne (tgt := 20) hx hb d_m_set_13 (by decide) (fun c_2 => ?_) (fun c_2 => ?_)
    · refine lv_iconst (v := 1) hx hb d_m_set_20 (by decide) ?_
      refine k_cS (rest := []) hx hb hml hown hG hK hN hA hP hD hS (c_m_isIn l D b cb μ src 0 1) ok_m_isIn so_m_isIn L_M_57 ⟨rfl, rfl, by decide, by decide⟩ rfl hl.1 rfl (Nat.le_of_ble_eq_true rfl) ⟨Nat.zero_le _, Nat.zero_le _⟩ d_m_set_21 (fun H locs hP hD hS => ?_)
      refine lv_if_eq (tgt := 37) hx hb d_m_set_24 (by decide) (fun c_3 => ?_) (fun c_3 => ?_)
      · refine lv_iconst (v := 0) hx hb d_m_set_37 (by decide) ?_
        exact hret _ _ _ 38 0 μ hP hD hS rfl d_m_set_38 (by simp only [g_set, g_put, c_1, hclj, c_2, c_3, ↓reduceIte]) (by simp only [g_set, g_put, c_1, hclj, c_2, c_3, ↓reduceIte])
      · refine lv_iload_n hx hb d_m_set_27 rfl (lv_at hl 3 rfl) ?_
        refine lv_iconst (v := 1) hx hb d_m_set_28 (by decide) ?_
        refine lv_ldc (v := 65535) hx hb hown (hG _ L_M_61) d_m_set_29 ?_
        refine k_cS (rest := []) hx hb hml hown hG hK hN hA hP hD hS (c_m_isIn l D b cb μ per 1 65535) ok_m_isIn so_m_isIn L_M_57 ⟨rfl, rfl, by decide, by decide⟩ rfl hl.1 rfl (Nat.le_of_ble_eq_true rfl) ⟨Nat.zero_le _, Nat.zero_le _⟩ d_m_set_31 (fun H locs hP hD hS => ?_)
        refine lv_if_ne (tgt := 39) hx hb d_m_set_34 (by decide) (fun c_4 => ?_) (fun c_4 => ?_)
        · refine lv_aload_n hx hb d_m_set_39 rfl (lv_at hl 0 rfl) ?_
          refine va_get (v := .ref (b 6)) hx hb hG i_M hown hK hP 0 wM_M rfl 6 (by decide) (hG _ L_M_16) (fun _ h9 => h9) rfl d_m_set_40 ?_
          refine lv_iload_n hx hb d_m_set_43 rfl (lv_at hl 1 rfl) ?_
          refine lv_iload_n hx hb d_m_set_44 rfl (lv_at hl 2 rfl) ?_
          refine m_ist (x := src) hx hb hK hP hD hS wM_6 wM_p6 (j) hj (by decide) (rfl) d_m_set_45 (fun H locs hP hD hS => ?_)
          refine lv_aload_n hx hb d_m_set_46 rfl (lv_at hl 0 rfl) ?_
          refine va_get (v := .ref (b 4)) hx hb hG i_M hown hK hP 0 wM_M rfl 4 (by decide) (hG _ L_M_7) (fun _ h9 => h9) rfl d_m_set_47 ?_
          refine lv_iload_n hx hb d_m_set_50 rfl (lv_at hl 1 rfl) ?_
          refine lv_iload_n hx hb d_m_set_51 rfl (lv_at hl 3 rfl) ?_
          refine m_ist (x := per) hx hb hK hP hD hS wM_4 wM_p4 (j) hj (by decide) (rfl) d_m_set_52 (fun H locs hP hD hS => ?_)
          refine lv_aload_n hx hb d_m_set_53 rfl (lv_at hl 0 rfl) ?_
          refine va_get (v := .ref (b 5)) hx hb hG i_M hown hK hP 0 wM_M rfl 5 (by decide) (hG _ L_M_13) (fun _ h9 => h9) rfl d_m_set_54 ?_
          refine lv_iload_n hx hb d_m_set_57 rfl (lv_at hl 1 rfl) ?_
          refine lv_iload_n hx hb d_m_set_58 rfl (lv_at hl 3 rfl) ?_
          refine m_ist (x := per) hx hb hK hP hD hS wM_5 wM_p5 (j) hj (by decide) (rfl) d_m_set_59 (fun H locs hP hD hS => ?_)
          refine lv_aload_n hx hb d_m_set_60 rfl (lv_at hl 0 rfl) ?_
          refine va_get (v := .ref (b 7)) hx hb hG i_M hown hK hP 0 wM_M rfl 7 (by decide) (hG _ L_M_19) (fun _ h9 => h9) rfl d_m_set_61 ?_
          refine lv_iload_n hx hb d_m_set_64 rfl (lv_at hl 1 rfl) ?_
          refine lv_iload hx hb d_m_set_65 (lv_at hl 4 rfl) ?_
          refine m_zst (x := bI x) hx hb hK hP hD hS wM_7 wM_p7 (j) hj (by decide) (bI_v _) (rfl) d_m_set_67 (fun H locs hP hD hS => ?_)
          refine lv_aload_n hx hb d_m_set_68 rfl (lv_at hl 0 rfl) ?_
          refine va_get (v := .ref (b 8)) hx hb hG i_M hown hK hP 0 wM_M rfl 8 (by decide) (hG _ L_M_23) (fun _ h9 => h9) rfl d_m_set_69 ?_
          refine lv_iload_n hx hb d_m_set_72 rfl (lv_at hl 1 rfl) ?_
          refine lv_iconst (v := 0) hx hb d_m_set_73 (by decide) ?_
          refine m_zst (x := 0) hx hb hK hP hD hS wM_8 wM_p8 (j) hj (by decide) (rfl) (rfl) d_m_set_74 (fun H locs hP hD hS => ?_)
          refine lv_iconst (v := 1) hx hb d_m_set_75 (by decide) ?_
          exact hret _ _ _ 76 1 (up2 (up2 (up2 (up2 (up2 μ 6 j src) 4 j per) 5 j per) 7 j (bI x)) 8 j 0) hP hD hS rfl d_m_set_76 (by simp only [g_set, g_put, c_1, hclj, c_2, c_3, c_4, ↓reduceIte]) (by simp only [g_set, g_put, c_1, hclj, c_2, c_3, c_4, ↓reduceIte])
        · refine lv_iconst (v := 0) hx hb d_m_set_37 (by decide) ?_
          exact hret _ _ _ 38 0 μ hP hD hS rfl d_m_set_38 (by simp only [g_set, g_put, c_1, hclj, c_2, c_3, c_4, ↓reduceIte]) (by simp only [g_set, g_put, c_1, hclj, c_2, c_3, c_4, ↓reduceIte])
    · refine lv_iconst (v := 0) hx hb d_m_set_16 (by decide) ?_
      refine lv_goto (tgt := 21) hx hb d_m_set_17 (by decide) ?_
      refine k_cS (rest := []) hx hb hml hown hG hK hN hA hP hD hS (c_m_isIn l D b cb μ src 0 0) ok_m_isIn so_m_isIn L_M_57 ⟨rfl, rfl, by decide, by decide⟩ rfl hl.1 rfl (Nat.le_of_ble_eq_true rfl) ⟨Nat.zero_le _, Nat.zero_le _⟩ d_m_set_21 (fun H locs hP hD hS => ?_)
      refine lv_if_eq (tgt := 37) hx hb d_m_set_24 (by decide) (fun c_5 => ?_) (fun c_5 => ?_)
      · refine lv_iconst (v := 0) hx hb d_m_set_37 (by decide) ?_
        exact hret _ _ _ 38 0 μ hP hD hS rfl d_m_set_38 (by simp only [g_set, g_put, c_1, hclj, (eq_true c_2), c_5, ↓reduceIte]) (by simp only [g_set, g_put, c_1, hclj, (eq_true c_2), c_5, ↓reduceIte])
      · refine lv_iload_n hx hb d_m_set_27 rfl (lv_at hl 3 rfl) ?_
        refine lv_iconst (v := 1) hx hb d_m_set_28 (by decide) ?_
        refine lv_ldc (v := 65535) hx hb hown (hG _ L_M_61) d_m_set_29 ?_
        refine k_cS (rest := []) hx hb hml hown hG hK hN hA hP hD hS (c_m_isIn l D b cb μ per 1 65535) ok_m_isIn so_m_isIn L_M_57 ⟨rfl, rfl, by decide, by decide⟩ rfl hl.1 rfl (Nat.le_of_ble_eq_true rfl) ⟨Nat.zero_le _, Nat.zero_le _⟩ d_m_set_31 (fun H locs hP hD hS => ?_)
        refine lv_if_ne (tgt := 39) hx hb d_m_set_34 (by decide) (fun c_6 => ?_) (fun c_6 => ?_)
        · refine lv_aload_n hx hb d_m_set_39 rfl (lv_at hl 0 rfl) ?_
          refine va_get (v := .ref (b 6)) hx hb hG i_M hown hK hP 0 wM_M rfl 6 (by decide) (hG _ L_M_16) (fun _ h9 => h9) rfl d_m_set_40 ?_
          refine lv_iload_n hx hb d_m_set_43 rfl (lv_at hl 1 rfl) ?_
          refine lv_iload_n hx hb d_m_set_44 rfl (lv_at hl 2 rfl) ?_
          refine m_ist (x := src) hx hb hK hP hD hS wM_6 wM_p6 (j) hj (by decide) (rfl) d_m_set_45 (fun H locs hP hD hS => ?_)
          refine lv_aload_n hx hb d_m_set_46 rfl (lv_at hl 0 rfl) ?_
          refine va_get (v := .ref (b 4)) hx hb hG i_M hown hK hP 0 wM_M rfl 4 (by decide) (hG _ L_M_7) (fun _ h9 => h9) rfl d_m_set_47 ?_
          refine lv_iload_n hx hb d_m_set_50 rfl (lv_at hl 1 rfl) ?_
          refine lv_iload_n hx hb d_m_set_51 rfl (lv_at hl 3 rfl) ?_
          refine m_ist (x := per) hx hb hK hP hD hS wM_4 wM_p4 (j) hj (by decide) (rfl) d_m_set_52 (fun H locs hP hD hS => ?_)
          refine lv_aload_n hx hb d_m_set_53 rfl (lv_at hl 0 rfl) ?_
          refine va_get (v := .ref (b 5)) hx hb hG i_M hown hK hP 0 wM_M rfl 5 (by decide) (hG _ L_M_13) (fun _ h9 => h9) rfl d_m_set_54 ?_
          refine lv_iload_n hx hb d_m_set_57 rfl (lv_at hl 1 rfl) ?_
          refine lv_iload_n hx hb d_m_set_58 rfl (lv_at hl 3 rfl) ?_
          refine m_ist (x := per) hx hb hK hP hD hS wM_5 wM_p5 (j) hj (by decide) (rfl) d_m_set_59 (fun H locs hP hD hS => ?_)
          refine lv_aload_n hx hb d_m_set_60 rfl (lv_at hl 0 rfl) ?_
          refine va_get (v := .ref (b 7)) hx hb hG i_M hown hK hP 0 wM_M rfl 7 (by decide) (hG _ L_M_19) (fun _ h9 => h9) rfl d_m_set_61 ?_
          refine lv_iload_n hx hb d_m_set_64 rfl (lv_at hl 1 rfl) ?_
          refine lv_iload hx hb d_m_set_65 (lv_at hl 4 rfl) ?_
          refine m_zst (x := bI x) hx hb hK hP hD hS wM_7 wM_p7 (j) hj (by decide) (bI_v _) (rfl) d_m_set_67 (fun H locs hP hD hS => ?_)
          refine lv_aload_n hx hb d_m_set_68 rfl (lv_at hl 0 rfl) ?_
          refine va_get (v := .ref (b 8)) hx hb hG i_M hown hK hP 0 wM_M rfl 8 (by decide) (hG _ L_M_23) (fun _ h9 => h9) rfl d_m_set_69 ?_
          refine lv_iload_n hx hb d_m_set_72 rfl (lv_at hl 1 rfl) ?_
          refine lv_iconst (v := 0) hx hb d_m_set_73 (by decide) ?_
          refine m_zst (x := 0) hx hb hK hP hD hS wM_8 wM_p8 (j) hj (by decide) (rfl) (rfl) d_m_set_74 (fun H locs hP hD hS => ?_)
          refine lv_iconst (v := 1) hx hb d_m_set_75 (by decide) ?_
          exact hret _ _ _ 76 1 (up2 (up2 (up2 (up2 (up2 μ 6 j src) 4 j per) 5 j per) 7 j (bI x)) 8 j 0) hP hD hS rfl d_m_set_76 (by simp only [g_set, g_put, c_1, hclj, (eq_true c_2), c_5, c_6, ↓reduceIte]) (by simp only [g_set, g_put, c_1, hclj, (eq_true c_2), c_5, c_6, ↓reduceIte])
        · refine lv_iconst (v := 0) hx hb d_m_set_37 (by decide) ?_
          exact hret _ _ _ 38 0 μ hP hD hS rfl d_m_set_38 (by simp only [g_set, g_put, c_1, hclj, (eq_true c_2), c_5, c_6, ↓reduceIte]) (by simp only [g_set, g_put, c_1, hclj, (eq_true c_2), c_5, c_6, ↓reduceIte])
set_option maxHeartbeats 4000000 in
set_option maxRecDepth 100000 in
theorem c_m_turn (l : Launch) (D : va_G) (b : Nat → Nat) (cb : Nat → ClassId) (μ : St) (t : Int32) (x : Bool) : KI l D (tM cb) (wM b cb) rm_m_turn y_m_turn b_m_turn 3 .boolean [.ref (b 0), .int t, .int (bI x)] μ ((g_turn μ t x).1) ((g_turn μ t x).2) := by
  refine KI.of (by decide) (Nat.le_of_ble_eq_true rfl) ?_
  intro p e s m args below meth c A Q ls hx hb hml hown hG hK hN hA hP hD hS hl hret
  have hown : s.vm.findClass R_M = some m.cls := hown
  have hl : lv_has ls 3 [(0, .ref (b 0)), (1, .int t), (2, .int (bI x))] := hl
  refine lv_iload_n hx hb d_m_turn_0 rfl (lv_at hl 1 rfl) ?_
  refine lv_iconst (v := 0) hx hb d_m_turn_1 (by decide) ?_
  refine lv_bipush (v := 7) hx hb d_m_turn_2 (by decide) ?_
  refine k_cS (rest := []) hx hb hml hown hG hK hN hA hP hD hS (c_m_isIn l D b cb μ t 0 7) ok_m_isIn so_m_isIn L_M_57 ⟨rfl, rfl, by decide, by decide⟩ rfl hl.1 rfl (Nat.le_of_ble_eq_true rfl) ⟨Nat.zero_le _, Nat.zero_le _⟩ d_m_turn_4 (fun H locs hP hD hS => ?_)
  refine lv_if_eq (tgt := 20) hx hb d_m_turn_7 (by decide) (fun c_1 => ?_) (fun c_1 => ?_)
  · refine lv_iconst (v := 0) hx hb d_m_turn_20 (by decide) ?_
    exact hret _ _ _ 21 0 μ hP hD hS rfl d_m_turn_21 (by simp only [g_turn, c_1, ↓reduceIte]) (by simp only [g_turn, c_1, ↓reduceIte])
  · obtain ⟨j, hj, rfl⟩ := isIn_in (n := 7) (by decide) c_1
    have hclj : (nI j).toNatClampNeg = j := nI_clamp (by omega)
    refine lv_aload_n hx hb d_m_turn_10 rfl (lv_at hl 0 rfl) ?_
    refine va_get (v := .ref (b 8)) hx hb hG i_M hown hK hP 0 wM_M rfl 8 (by decide) (hG _ L_M_23) (fun _ h9 => h9) rfl d_m_turn_11 ?_
    refine lv_iload_n hx hb d_m_turn_14 rfl (lv_at hl 1 rfl) ?_
    refine m_zld hx hb hK hP wM_8 (j) hj (by decide) (rfl) d_m_turn_15 ?_
    refine lv_iload_n hx hb d_m_turn_16 rfl (lv_at hl 2 rfl) ?_
    refine lv_icmp_ne (tgt := 22) hx hb d_m_turn_17 (by decide) (fun c_2 => ?_) (fun c_2 => ?_)
    · refine lv_aload_n hx hb d_m_turn_22 rfl (lv_at hl 0 rfl) ?_
      refine va_get (v := .ref (b 8)) hx hb hG i_M hown hK hP 0 wM_M rfl 8 (by decide) (hG _ L_M_23) (fun _ h9 => h9) rfl d_m_turn_23 ?_
      refine lv_iload_n hx hb d_m_turn_26 rfl (lv_at hl 1 rfl) ?_
      refine lv_iload_n hx hb d_m_turn_27 rfl (lv_at hl 2 rfl) ?_
      refine m_zst (x := bI x) hx hb hK hP hD hS wM_8 wM_p8 (j) hj (by decide) (bI_v _) (rfl) d_m_turn_28 (fun H locs hP hD hS => ?_)
      refine lv_iconst (v := 1) hx hb d_m_turn_29 (by decide) ?_
      exact hret _ _ _ 30 1 (up2 μ 8 j (bI x)) hP hD hS rfl d_m_turn_30 (by simp only [g_turn, c_1, hclj, c_2, ↓reduceIte]) (by simp only [g_turn, c_1, hclj, c_2, ↓reduceIte])
    · refine lv_iconst (v := 0) hx hb d_m_turn_20 (by decide) ?_
      exact hret _ _ _ 21 0 μ hP hD hS rfl d_m_turn_21 (by simp only [g_turn, c_1, hclj, c_2, ↓reduceIte]) (by simp only [g_turn, c_1, hclj, c_2, ↓reduceIte])
set_option maxHeartbeats 4000000 in
set_option maxRecDepth 100000 in
theorem c_m_gate (l : Launch) (D : va_G) (b : Nat → Nat) (cb : Nat → ClassId) (μ : St) (g : Int32) (mask : Int32) (delay : Int32) : KI l D (tM cb) (wM b cb) rm_m_gate y_m_gate b_m_gate 4 .boolean [.ref (b 0), .int g, .int mask, .int delay] μ ((g_gate μ g mask delay).1) ((g_gate μ g mask delay).2) := by
  refine KI.of (by decide) (Nat.le_of_ble_eq_true rfl) ?_
  intro p e s m args below meth c A Q ls hx hb hml hown hG hK hN hA hP hD hS hl hret
  have hown : s.vm.findClass R_M = some m.cls := hown
  have hl : lv_has ls 4 [(0, .ref (b 0)), (1, .int g), (2, .int mask), (3, .int delay)] := hl
  refine lv_iload_n hx hb d_m_gate_0 rfl (lv_at hl 1 rfl) ?_
  refine lv_iconst (v := 0) hx hb d_m_gate_1 (by decide) ?_
  refine lv_iconst (v := 3) hx hb d_m_gate_2 (by decide) ?_
  refine k_cS (rest := []) hx hb hml hown hG hK hN hA hP hD hS (c_m_isIn l D b cb μ g 0 3) ok_m_isIn so_m_isIn L_M_57 ⟨rfl, rfl, by decide, by decide⟩ rfl hl.1 rfl (Nat.le_of_ble_eq_true rfl) ⟨Nat.zero_le _, Nat.zero_le _⟩ d_m_gate_3 (fun H locs hP hD hS => ?_)
  refine lv_if_eq (tgt := 31) hx hb d_m_gate_6 (by decide) (fun c_1 => ?_) (fun c_1 => ?_)
  · refine lv_iconst (v := 0) hx hb d_m_gate_31 (by decide) ?_
    exact hret _ _ _ 32 0 μ hP hD hS rfl d_m_gate_32 (by simp only [g_gate, c_1, ↓reduceIte]) (by simp only [g_gate, c_1, ↓reduceIte])
  · obtain ⟨j, hj, rfl⟩ := isIn_in (n := 3) (by decide) c_1
    have hclj : (nI j).toNatClampNeg = j := nI_clamp (by omega)
    refine lv_iload_n hx hb d_m_gate_9 rfl (lv_at hl 2 rfl) ?_
    refine lv_iconst (v := 0) hx hb d_m_gate_10 (by decide) ?_
    refine lv_sipush (v := 255) hx hb d_m_gate_11 (by decide) ?_
    refine k_cS (rest := []) hx hb hml hown hG hK hN hA hP hD hS (c_m_isIn l D b cb μ mask 0 255) ok_m_isIn so_m_isIn L_M_57 ⟨rfl, rfl, by decide, by decide⟩ rfl hl.1 rfl (Nat.le_of_ble_eq_true rfl) ⟨Nat.zero_le _, Nat.zero_le _⟩ d_m_gate_14 (fun H locs hP hD hS => ?_)
    refine lv_if_eq (tgt := 31) hx hb d_m_gate_17 (by decide) (fun c_2 => ?_) (fun c_2 => ?_)
    · refine lv_iconst (v := 0) hx hb d_m_gate_31 (by decide) ?_
      exact hret _ _ _ 32 0 μ hP hD hS rfl d_m_gate_32 (by simp only [g_gate, c_1, hclj, c_2, ↓reduceIte]) (by simp only [g_gate, c_1, hclj, c_2, ↓reduceIte])
    · refine lv_iload_n hx hb d_m_gate_20 rfl (lv_at hl 3 rfl) ?_
      refine lv_iconst (v := 1) hx hb d_m_gate_21 (by decide) ?_
      refine lv_sipush (v := 1000) hx hb d_m_gate_22 (by decide) ?_
      refine k_cS (rest := []) hx hb hml hown hG hK hN hA hP hD hS (c_m_isIn l D b cb μ delay 1 1000) ok_m_isIn so_m_isIn L_M_57 ⟨rfl, rfl, by decide, by decide⟩ rfl hl.1 rfl (Nat.le_of_ble_eq_true rfl) ⟨Nat.zero_le _, Nat.zero_le _⟩ d_m_gate_25 (fun H locs hP hD hS => ?_)
      refine lv_if_ne (tgt := 33) hx hb d_m_gate_28 (by decide) (fun c_3 => ?_) (fun c_3 => ?_)
      · refine lv_aload_n hx hb d_m_gate_33 rfl (lv_at hl 0 rfl) ?_
        refine va_get (v := .ref (b 10)) hx hb hG i_M hown hK hP 0 wM_M rfl 10 (by decide) (hG _ L_M_29) (fun _ h9 => h9) rfl d_m_gate_34 ?_
        refine lv_iload_n hx hb d_m_gate_37 rfl (lv_at hl 1 rfl) ?_
        refine lv_iload_n hx hb d_m_gate_38 rfl (lv_at hl 2 rfl) ?_
        refine m_ist (x := mask) hx hb hK hP hD hS wM_10 wM_p10 (j) hj (by decide) (rfl) d_m_gate_39 (fun H locs hP hD hS => ?_)
        refine lv_aload_n hx hb d_m_gate_40 rfl (lv_at hl 0 rfl) ?_
        refine va_get (v := .ref (b 11)) hx hb hG i_M hown hK hP 0 wM_M rfl 11 (by decide) (hG _ L_M_32) (fun _ h9 => h9) rfl d_m_gate_41 ?_
        refine lv_iload_n hx hb d_m_gate_44 rfl (lv_at hl 1 rfl) ?_
        refine lv_iload_n hx hb d_m_gate_45 rfl (lv_at hl 3 rfl) ?_
        refine m_ist (x := delay) hx hb hK hP hD hS wM_11 wM_p11 (j) hj (by decide) (rfl) d_m_gate_46 (fun H locs hP hD hS => ?_)
        refine lv_iconst (v := 1) hx hb d_m_gate_47 (by decide) ?_
        exact hret _ _ _ 48 1 (up2 (up2 μ 10 j mask) 11 j delay) hP hD hS rfl d_m_gate_48 (by simp only [g_gate, c_1, hclj, c_2, c_3, ↓reduceIte]) (by simp only [g_gate, c_1, hclj, c_2, c_3, ↓reduceIte])
      · refine lv_iconst (v := 0) hx hb d_m_gate_31 (by decide) ?_
        exact hret _ _ _ 32 0 μ hP hD hS rfl d_m_gate_32 (by simp only [g_gate, c_1, hclj, c_2, c_3, ↓reduceIte]) (by simp only [g_gate, c_1, hclj, c_2, c_3, ↓reduceIte])
set_option maxHeartbeats 4000000 in
set_option maxRecDepth 100000 in
theorem c_m_clear (l : Launch) (D : va_G) (b : Nat → Nat) (cb : Nat → ClassId) (μ : St) (x : Int32) : KI l D (tM cb) (wM b cb) rm_m_clear y_m_clear b_m_clear 4 .int [.ref (b 0), .int x] μ ((g_clear μ x).1) ((g_clear μ x).2) := by
  refine KI.of (by decide) (Nat.le_of_ble_eq_true rfl) ?_
  intro p e s m args below meth c A Q ls hx hb hml hown hG hK hN hA hP hD hS hl hret
  have hown : s.vm.findClass R_M = some m.cls := hown
  have hl : lv_has ls 4 [(0, .ref (b 0)), (1, .int x)] := hl
  refine lv_iload_n hx hb d_m_clear_0 rfl (lv_at hl 1 rfl) ?_
  refine lv_iconst (v := 0) hx hb d_m_clear_1 (by decide) ?_
  refine lv_sipush (v := 255) hx hb d_m_clear_2 (by decide) ?_
  refine k_cS (rest := []) hx hb hml hown hG hK hN hA hP hD hS (c_m_isIn l D b cb μ x 0 255) ok_m_isIn so_m_isIn L_M_57 ⟨rfl, rfl, by decide, by decide⟩ rfl hl.1 rfl (Nat.le_of_ble_eq_true rfl) ⟨Nat.zero_le _, Nat.zero_le _⟩ d_m_clear_5 (fun H locs hP hD hS => ?_)
  refine lv_if_ne (tgt := 13) hx hb d_m_clear_8 (by decide) (fun c_1 => ?_) (fun c_1 => ?_)
  · refine lv_aload_n hx hb d_m_clear_13 rfl (lv_at hl 0 rfl) ?_
    refine va_get (v := .int (μ 0 2)) hx hb hG i_M hown hK hP 0 wM_M rfl 2 (by decide) (hG _ L_M_62) (fun _ h9 => h9) rfl d_m_clear_14 ?_
    refine lv_iload_n hx hb d_m_clear_17 rfl (lv_at hl 1 rfl) ?_
    refine lv_iand hx hb d_m_clear_18 ?_
    refine lv_istore_n (lv' := [(2, .int ((μ 0 2) &&& x)), (0, .ref (b 0)), (1, .int x)]) hx hb d_m_clear_19 rfl hl (by decide) rfl (fun ls hl => ?_)
    refine lv_iconst (v := 0) hx hb d_m_clear_20 (by decide) ?_
    refine lv_istore_n (lv' := [(3, .int 0), (2, .int ((μ 0 2) &&& x)), (0, .ref (b 0)), (1, .int x)]) hx hb d_m_clear_21 rfl hl (by decide) rfl (fun ls hl => ?_)
    have loop : ∀ (n : Nat) (t : Nat) (μ1 : St), (t + n = 8) → (clrM (μ 0 2 &&& x) n t μ1 = clrM (μ 0 2 &&& x) 8 0 μ) → ∀ (H : Heap) (locs : List Loc) (ls : Array Slot), va_P D classes (wM b cb μ1) H → va_D A (wM b cb μ1) → va_S A s.heap H locs → lv_has ls 4 [(3, .int (nI t)), (2, .int (μ 0 2 &&& x)), (1, .int x), (0, .ref (b 0))] → W p l e rm_m_clear s m args below meth c H locs 0 0 Q (F0 m 22 ls []) := by
      intro n
      induction n with
      | zero =>
        intro t μ1 ht hrel H locs ls hP hD hS hl
        refine lv_iload_n hx hb d_m_clear_22 rfl (lv_at hl 0 rfl) ?_
        refine lv_bipush (v := 8) hx hb d_m_clear_23 (by decide) ?_
        refine lv_icmp_ge (tgt := 52) hx hb d_m_clear_25 (by decide) (fun c_2 => ?_) (fun c_2 => absurd (nI_le (a := 8) (b := t) (by omega) (by omega)) c_2)
        refine lv_aload_n hx hb d_m_clear_52 rfl (lv_at hl 3 rfl) ?_
        refine lv_dup hx hb d_m_clear_53 rfl ?_
        refine va_get (v := .int (μ1 0 2)) hx hb hG i_M hown hK hP 0 wM_M rfl 2 (by decide) (hG _ L_M_62) (fun _ h9 => h9) rfl d_m_clear_54 ?_
        refine lv_iload_n hx hb d_m_clear_57 rfl (lv_at hl 1 rfl) ?_
        refine lv_isub hx hb d_m_clear_58 ?_
        refine va_put (ty := .int) (v := .int ((μ1 0 2) - (μ 0 2 &&& x))) hx hb hG i_M ft_M ft_M_ok n_M hown hK hP hD hS 0 wM_M rfl 2 (by decide) (hG _ L_M_62) (fun _ h9 => h9) rfl (by decide +kernel) rfl rfl (Nat.le_of_ble_eq_true rfl) d_m_clear_59 (fun H locs hP hD hS => ?_)
        rw [wM_putM2] at hP hD
        refine lv_iload_n hx hb d_m_clear_62 rfl (lv_at hl 1 rfl) ?_
        exact hret _ _ _ 63 (μ 0 2 &&& x) (up2 μ1 0 2 ((μ1 0 2) - (μ 0 2 &&& x))) hP hD hS rfl d_m_clear_63 (by simp only [g_clear, c_1, c_2, ↓reduceIte]) (by have hrel : μ1 = _ := hrel; simp only [g_clear, c_1, c_2, ↓reduceIte]; rw [hrel])
      | succ n ih =>
        intro t μ1 ht hrel H locs ls hP hD hS hl
        refine lv_iload_n hx hb d_m_clear_22 rfl (lv_at hl 0 rfl) ?_
        refine lv_bipush (v := 8) hx hb d_m_clear_23 (by decide) ?_
        refine lv_icmp_ge (tgt := 52) hx hb d_m_clear_25 (by decide) (fun c_3 => absurd c_3 (nI_ge (a := t) (b := 8) (by omega) (by omega))) (fun c_3 => ?_)
        refine lv_aload_n hx hb d_m_clear_28 rfl (lv_at hl 3 rfl) ?_
        refine va_get (v := .ref (b 9)) hx hb hG i_M hown hK hP 0 wM_M rfl 9 (by decide) (hG _ L_M_26) (fun _ h9 => h9) rfl d_m_clear_29 ?_
        refine lv_iconst (v := 4) hx hb d_m_clear_32 (by decide) ?_
        refine lv_iload_n hx hb d_m_clear_33 rfl (lv_at hl 0 rfl) ?_
        refine lv_imul hx hb d_m_clear_34 ?_
        refine lv_iconst (v := 3) hx hb d_m_clear_35 (by decide) ?_
        refine lv_iadd hx hb d_m_clear_36 ?_
        refine lv_dup2_11 hx hb d_m_clear_37 rfl rfl ?_
        refine m_ild hx hb hK hP wM_9 (4 * t + 3) (show 4 * t + 3 < 32 by have := (show t < 8 by omega); omega) (by decide) (m_ix t 3) d_m_clear_38 ?_
        refine lv_iload_n hx hb d_m_clear_39 rfl (lv_at hl 1 rfl) ?_
        refine lv_iload_n hx hb d_m_clear_40 rfl (lv_at hl 0 rfl) ?_
        refine lv_ishr hx hb d_m_clear_41 ?_
        refine lv_iconst (v := 1) hx hb d_m_clear_42 (by decide) ?_
        refine lv_iand hx hb d_m_clear_43 ?_
        refine lv_iadd hx hb d_m_clear_44 ?_
        refine m_ist (x := (μ1 9 (4 * t + 3)) + (((μ 0 2 &&& x) >>> ((nI t) &&& 31)) &&& 1)) hx hb hK hP hD hS wM_9 wM_p9 (4 * t + 3) (show 4 * t + 3 < 32 by have := (show t < 8 by omega); omega) (by decide) (m_ix t 3) d_m_clear_45 (fun H locs hP hD hS => ?_)
        refine lv_iinc (v := nI (t + 1)) (lv' := [(3, .int (nI (t + 1))), (2, .int (μ 0 2 &&& x)), (1, .int x), (0, .ref (b 0))]) hx hb d_m_clear_46 hl (k := 0) rfl (nI_1 t) (by decide) rfl (fun ls hl => ?_)
        refine lv_goto (tgt := 22) hx hb d_m_clear_49 (by decide) ?_
        exact ih (t + 1) (up2 μ1 9 (4 * t + 3) ((μ1 9 (4 * t + 3)) + (((μ 0 2 &&& x) >>> ((nI t) &&& 31)) &&& 1))) (by omega) (by rw [← hrel]; simp only [clrM, c_1, c_3, ↓reduceIte]) _ _ _ hP hD hS (lv_sub hl [0, 1, 2, 3] rfl)
    exact loop 8 0 _ (by omega) rfl _ _ _ hP hD hS (lv_sub hl [0, 1, 3, 2] rfl)
  · refine lv_iconst (v := (-1)) hx hb d_m_clear_11 (by decide) ?_
    exact hret _ _ _ 12 (-1) μ hP hD hS rfl d_m_clear_12 (by simp only [g_clear, c_1, ↓reduceIte]) (by simp only [g_clear, c_1, ↓reduceIte])
set_option maxHeartbeats 4000000 in
set_option maxRecDepth 100000 in
theorem c_m_advance (l : Launch) (D : va_G) (b : Nat → Nat) (cb : Nat → ClassId) (μ : St) (n0 : Int32) (k0 : Nat) (hO : mOK μ k0) (hk0 : k0 + 80000 < 2 ^ 30) : KI l D (tM cb) (wM b cb) rm_m_advance y_m_advance b_m_advance 4 .int [.ref (b 0), .int n0] μ ((g_advance μ n0).1) ((g_advance μ n0).2) := by
  refine KI.of (by decide) (Nat.le_of_ble_eq_true rfl) ?_
  intro p e s m args below meth c A Q ls hx hb hml hown hG hK hN hA hP hD hS hl hret
  have hown : s.vm.findClass R_M = some m.cls := hown
  have hl : lv_has ls 4 [(0, .ref (b 0)), (1, .int n0)] := hl
  refine lv_iload_n hx hb d_m_advance_0 rfl (lv_at hl 1 rfl) ?_
  refine lv_iconst (v := 0) hx hb d_m_advance_1 (by decide) ?_
  refine lv_sipush (v := 20000) hx hb d_m_advance_2 (by decide) ?_
  refine k_cS (rest := []) hx hb hml hown hG hK hN hA hP hD hS (c_m_isIn l D b cb μ n0 0 20000) ok_m_isIn so_m_isIn L_M_57 ⟨rfl, rfl, by decide, by decide⟩ rfl hl.1 rfl (Nat.le_of_ble_eq_true rfl) ⟨Nat.zero_le _, Nat.zero_le _⟩ d_m_advance_5 (fun H locs hP hD hS => ?_)
  refine lv_if_ne (tgt := 13) hx hb d_m_advance_8 (by decide) (fun c_1 => ?_) (fun c_1 => ?_)
  · obtain ⟨j, hj, rfl⟩ := isIn_in (n := 20000) (by decide) c_1
    have hclj : (nI j).toNatClampNeg = j := nI_clamp (by omega)
    refine lv_aload_n hx hb d_m_advance_13 rfl (lv_at hl 0 rfl) ?_
    refine va_get (v := .int (μ 0 3)) hx hb hG i_M hown hK hP 0 wM_M rfl 3 (by decide) (hG _ L_M_72) (fun _ h9 => h9) rfl d_m_advance_14 ?_
    refine lv_istore_n (lv' := [(2, .int (μ 0 3)), (0, .ref (b 0)), (1, .int (nI j))]) hx hb d_m_advance_17 rfl hl (by decide) rfl (fun ls hl => ?_)
    refine lv_iconst (v := 0) hx hb d_m_advance_18 (by decide) ?_
    refine lv_istore_n (lv' := [(3, .int 0), (2, .int (μ 0 3)), (0, .ref (b 0)), (1, .int (nI j))]) hx hb d_m_advance_19 rfl hl (by decide) rfl (fun ls hl => ?_)
    have loop : ∀ (n : Nat) (i : Nat) (μ1 : St) (k1 : Nat), (i + n = j) → (mOK μ1 k1) → (k1 ≤ k0 + 4 * i) → (advM n μ1 = advM j μ) → ∀ (H : Heap) (locs : List Loc) (ls : Array Slot), va_P D classes (wM b cb μ1) H → va_D A (wM b cb μ1) → va_S A s.heap H locs → lv_has ls 4 [(3, .int (nI i)), (2, .int (μ 0 3)), (1, .int (nI j)), (0, .ref (b 0))] → W p l e rm_m_advance s m args below meth c H locs 0 0 Q (F0 m 20 ls []) := by
      intro n
      induction n with
      | zero =>
        intro i μ1 k1 hi hO1 hk1 hrel H locs ls hP hD hS hl
        refine lv_iload_n hx hb d_m_advance_20 rfl (lv_at hl 0 rfl) ?_
        refine lv_iload_n hx hb d_m_advance_21 rfl (lv_at hl 2 rfl) ?_
        refine lv_icmp_ge (tgt := 35) hx hb d_m_advance_22 (by decide) (fun c_2 => ?_) (fun c_2 => absurd (nI_le (a := j) (b := i) (by omega) (by omega)) c_2)
        refine lv_aload_n hx hb d_m_advance_35 rfl (lv_at hl 3 rfl) ?_
        refine va_get (v := .int (μ1 0 3)) hx hb hG i_M hown hK hP 0 wM_M rfl 3 (by decide) (hG _ L_M_72) (fun _ h9 => h9) rfl d_m_advance_36 ?_
        refine lv_iload_n hx hb d_m_advance_39 rfl (lv_at hl 1 rfl) ?_
        refine lv_isub hx hb d_m_advance_40 ?_
        exact hret _ _ _ 41 ((μ1 0 3) - (μ 0 3)) μ1 hP hD hS rfl d_m_advance_41 (by have hrel : μ1 = _ := hrel; simp only [g_advance, c_1, hclj, c_2, ↓reduceIte]; rw [hrel]) (by have hrel : μ1 = _ := hrel; simp only [g_advance, c_1, hclj, c_2, ↓reduceIte]; rw [hrel])
      | succ n ih =>
        intro i μ1 k1 hi hO1 hk1 hrel H locs ls hP hD hS hl
        refine lv_iload_n hx hb d_m_advance_20 rfl (lv_at hl 0 rfl) ?_
        refine lv_iload_n hx hb d_m_advance_21 rfl (lv_at hl 2 rfl) ?_
        refine lv_icmp_ge (tgt := 35) hx hb d_m_advance_22 (by decide) (fun c_3 => absurd c_3 (nI_ge (a := i) (b := j) (by omega) (by omega))) (fun c_3 => ?_)
        refine lv_aload_n hx hb d_m_advance_25 rfl (lv_at hl 3 rfl) ?_
        refine k_cVv (rest := []) hx hb hml hown hG hK hN hA hP hD hS (c_m_tick l D b cb μ1 k1 hO1 (by omega)) ok_m_tick io_m_tick L_M_82 ⟨rfl, rfl, by decide, by decide⟩ 0 wM_M rfl rfl hl.1 rfl (Nat.le_of_ble_eq_true rfl) ⟨Nat.zero_le _, Nat.zero_le _⟩ d_m_advance_26 (fun H locs hP hD hS => ?_)
        obtain ⟨k2, hk2a, hk2b, hO2⟩ := tick_ok hO1
        refine lv_iinc (v := nI (i + 1)) (lv' := [(3, .int (nI (i + 1))), (2, .int (μ 0 3)), (1, .int (nI j)), (0, .ref (b 0))]) hx hb d_m_advance_29 hl (k := 0) rfl (nI_1 i) (by decide) rfl (fun ls hl => ?_)
        refine lv_goto (tgt := 20) hx hb d_m_advance_32 (by decide) ?_
        exact ih (i + 1) (g_tick μ1) k2 (by omega) hO2 (by omega) (by rw [← hrel]; simp only [advM, c_1, hclj, c_3, ↓reduceIte]) _ _ _ hP hD hS (lv_sub hl [0, 1, 2, 3] rfl)
    exact loop j 0 _ k0 (by omega) hO (by omega) rfl _ _ _ hP hD hS (lv_sub hl [0, 1, 3, 2] rfl)
  · refine lv_iconst (v := (-1)) hx hb d_m_advance_11 (by decide) ?_
    exact hret _ _ _ 12 (-1) μ hP hD hS rfl d_m_advance_12 (by simp only [g_advance, c_1, ↓reduceIte]) (by simp only [g_advance, c_1, ↓reduceIte])
set_option maxHeartbeats 4000000 in
set_option maxRecDepth 100000 in
theorem c_m_next (l : Launch) (D : va_G) (b : Nat → Nat) (cb : Nat → ClassId) (μ : St) (n0 : Int32) (k0 : Nat) (hO : mOK μ k0) (hk0 : k0 + 80000 < 2 ^ 30) : KI l D (tM cb) (wM b cb) rm_m_next y_m_next b_m_next 4 .int [.ref (b 0), .int n0] μ ((g_next μ n0).1) ((g_next μ n0).2) := by
  refine KI.of (by decide) (Nat.le_of_ble_eq_true rfl) ?_
  intro p e s m args below meth c A Q ls hx hb hml hown hG hK hN hA hP hD hS hl hret
  have hown : s.vm.findClass R_M = some m.cls := hown
  have hl : lv_has ls 4 [(0, .ref (b 0)), (1, .int n0)] := hl
  refine lv_iload_n hx hb d_m_next_0 rfl (lv_at hl 1 rfl) ?_
  refine lv_iconst (v := 0) hx hb d_m_next_1 (by decide) ?_
  refine lv_sipush (v := 20000) hx hb d_m_next_2 (by decide) ?_
  refine k_cS (rest := []) hx hb hml hown hG hK hN hA hP hD hS (c_m_isIn l D b cb μ n0 0 20000) ok_m_isIn so_m_isIn L_M_57 ⟨rfl, rfl, by decide, by decide⟩ rfl hl.1 rfl (Nat.le_of_ble_eq_true rfl) ⟨Nat.zero_le _, Nat.zero_le _⟩ d_m_next_5 (fun H locs hP hD hS => ?_)
  refine lv_if_ne (tgt := 13) hx hb d_m_next_8 (by decide) (fun c_1 => ?_) (fun c_1 => ?_)
  · obtain ⟨j, hj, rfl⟩ := isIn_in (n := 20000) (by decide) c_1
    have hclj : (nI j).toNatClampNeg = j := nI_clamp (by omega)
    refine lv_aload_n hx hb d_m_next_13 rfl (lv_at hl 0 rfl) ?_
    refine va_get (v := .int (μ 0 3)) hx hb hG i_M hown hK hP 0 wM_M rfl 3 (by decide) (hG _ L_M_72) (fun _ h9 => h9) rfl d_m_next_14 ?_
    refine lv_istore_n (lv' := [(2, .int (μ 0 3)), (0, .ref (b 0)), (1, .int (nI j))]) hx hb d_m_next_17 rfl hl (by decide) rfl (fun ls hl => ?_)
    refine lv_iconst (v := 0) hx hb d_m_next_18 (by decide) ?_
    refine lv_istore_n (lv' := [(3, .int 0), (2, .int (μ 0 3)), (0, .ref (b 0)), (1, .int (nI j))]) hx hb d_m_next_19 rfl hl (by decide) rfl (fun ls hl => ?_)
    have loop : ∀ (n : Nat) (i : Nat) (μ1 : St) (k1 : Nat), (i + n = j) → (mOK μ1 k1) → (k1 ≤ k0 + 4 * i) → (nxtM (μ 0 3) n i μ1 = nxtM (μ 0 3) j 0 μ) → ∀ (H : Heap) (locs : List Loc) (ls : Array Slot), va_P D classes (wM b cb μ1) H → va_D A (wM b cb μ1) → va_S A s.heap H locs → lv_has ls 4 [(3, .int (nI i)), (2, .int (μ 0 3)), (1, .int (nI j)), (0, .ref (b 0))] → W p l e rm_m_next s m args below meth c H locs 0 0 Q (F0 m 20 ls []) := by
      intro n
      induction n with
      | zero =>
        intro i μ1 k1 hi hO1 hk1 hrel H locs ls hP hD hS hl
        refine lv_iload_n hx hb d_m_next_20 rfl (lv_at hl 0 rfl) ?_
        refine lv_iload_n hx hb d_m_next_21 rfl (lv_at hl 2 rfl) ?_
        refine lv_icmp_ge (tgt := 43) hx hb d_m_next_22 (by decide) (fun c_2 => ?_) (fun c_2 => absurd (nI_le (a := j) (b := i) (by omega) (by omega)) c_2)
        refine lv_iload_n hx hb d_m_next_43 rfl (lv_at hl 0 rfl) ?_
        exact hret _ _ _ 44 (nI i) μ1 hP hD hS rfl d_m_next_44 (by simp only [g_next, c_1, hclj, c_2, ↓reduceIte]; rw [← hrel]; simp only [nxtM, c_1, hclj, c_2, ↓reduceIte]) (by simp only [g_next, c_1, hclj, c_2, ↓reduceIte]; rw [← hrel]; simp only [nxtM, c_1, hclj, c_2, ↓reduceIte])
      | succ n ih =>
        intro i μ1 k1 hi hO1 hk1 hrel H locs ls hP hD hS hl
        refine lv_iload_n hx hb d_m_next_20 rfl (lv_at hl 0 rfl) ?_
        refine lv_iload_n hx hb d_m_next_21 rfl (lv_at hl 2 rfl) ?_
        refine lv_icmp_ge (tgt := 43) hx hb d_m_next_22 (by decide) (fun c_3 => absurd c_3 (nI_ge (a := i) (b := j) (by omega) (by omega))) (fun c_3 => ?_)
        refine lv_aload_n hx hb d_m_next_25 rfl (lv_at hl 3 rfl) ?_
        refine va_get (v := .int (μ1 0 3)) hx hb hG i_M hown hK hP 0 wM_M rfl 3 (by decide) (hG _ L_M_72) (fun _ h9 => h9) rfl d_m_next_26 ?_
        refine lv_iload_n hx hb d_m_next_29 rfl (lv_at hl 1 rfl) ?_
        refine lv_icmp_ne (tgt := 43) hx hb d_m_next_30 (by decide) (fun c_4 => ?_) (fun c_4 => ?_)
        · refine lv_iload_n hx hb d_m_next_43 rfl (lv_at hl 0 rfl) ?_
          exact hret _ _ _ 44 (nI i) μ1 hP hD hS rfl d_m_next_44 (by simp only [g_next, c_1, hclj, c_3, c_4, ↓reduceIte]; rw [← hrel]; simp only [nxtM, c_1, hclj, c_3, c_4, ↓reduceIte]) (by simp only [g_next, c_1, hclj, c_3, c_4, ↓reduceIte]; rw [← hrel]; simp only [nxtM, c_1, hclj, c_3, c_4, ↓reduceIte])
        · refine lv_aload_n hx hb d_m_next_33 rfl (lv_at hl 3 rfl) ?_
          refine k_cVv (rest := []) hx hb hml hown hG hK hN hA hP hD hS (c_m_tick l D b cb μ1 k1 hO1 (by omega)) ok_m_tick io_m_tick L_M_82 ⟨rfl, rfl, by decide, by decide⟩ 0 wM_M rfl rfl hl.1 rfl (Nat.le_of_ble_eq_true rfl) ⟨Nat.zero_le _, Nat.zero_le _⟩ d_m_next_34 (fun H locs hP hD hS => ?_)
          obtain ⟨k2, hk2a, hk2b, hO2⟩ := tick_ok hO1
          refine lv_iinc (v := nI (i + 1)) (lv' := [(3, .int (nI (i + 1))), (2, .int (μ 0 3)), (1, .int (nI j)), (0, .ref (b 0))]) hx hb d_m_next_37 hl (k := 0) rfl (nI_1 i) (by decide) rfl (fun ls hl => ?_)
          refine lv_goto (tgt := 20) hx hb d_m_next_40 (by decide) ?_
          exact ih (i + 1) (g_tick μ1) k2 (by omega) hO2 (by omega) (by rw [← hrel]; simp only [nxtM, c_1, hclj, c_3, c_4, ↓reduceIte]) _ _ _ hP hD hS (lv_sub hl [0, 1, 2, 3] rfl)
    exact loop j 0 _ k0 (by omega) hO (by omega) rfl _ _ _ hP hD hS (lv_sub hl [0, 1, 3, 2] rfl)
  · refine lv_iconst (v := (-1)) hx hb d_m_next_11 (by decide) ?_
    exact hret _ _ _ 12 (-1) μ hP hD hS rfl d_m_next_12 (by simp only [g_next, c_1, ↓reduceIte]) (by simp only [g_next, c_1, ↓reduceIte])
set_option maxHeartbeats 4000000 in
set_option maxRecDepth 100000 in
theorem c_m_timer (l : Launch) (D : va_G) (b : Nat → Nat) (cb : Nat → ClassId) (μ : St) (t : Int32) (w : Int32) : KI l D (tM cb) (wM b cb) rm_m_timer y_m_timer b_m_timer 3 .int [.ref (b 0), .int t, .int w] μ (g_timer μ t w) μ := by
  refine KI.of (by decide) (Nat.le_of_ble_eq_true rfl) ?_
  intro p e s m args below meth c A Q ls hx hb hml hown hG hK hN hA hP hD hS hl hret
  have hown : s.vm.findClass R_M = some m.cls := hown
  have hl : lv_has ls 3 [(0, .ref (b 0)), (1, .int t), (2, .int w)] := hl
  refine lv_iload_n hx hb d_m_timer_0 rfl (lv_at hl 1 rfl) ?_
  refine lv_iconst (v := 0) hx hb d_m_timer_1 (by decide) ?_
  refine lv_bipush (v := 7) hx hb d_m_timer_2 (by decide) ?_
  refine k_cS (rest := []) hx hb hml hown hG hK hN hA hP hD hS (c_m_isIn l D b cb μ t 0 7) ok_m_isIn so_m_isIn L_M_57 ⟨rfl, rfl, by decide, by decide⟩ rfl hl.1 rfl (Nat.le_of_ble_eq_true rfl) ⟨Nat.zero_le _, Nat.zero_le _⟩ d_m_timer_4 (fun H locs hP hD hS => ?_)
  refine lv_if_ne (tgt := 12) hx hb d_m_timer_7 (by decide) (fun c_1 => ?_) (fun c_1 => ?_)
  · obtain ⟨j, hj, rfl⟩ := isIn_in (n := 7) (by decide) c_1
    have hclj : (nI j).toNatClampNeg = j := nI_clamp (by omega)
    refine lv_iload_n hx hb d_m_timer_12 rfl (lv_at hl 2 rfl) ?_
    rcases sw_cases w 8 (by decide) with s_2 | ⟨k_3, k_3_l, s_2⟩
    · refine lv_tableOut (tgt := 157) hx hb d_m_timer_13 s_2 (by decide) ?_
      refine lv_iconst (v := (-1)) hx hb d_m_timer_157 (by decide) ?_
      exact hret _ _ _ 158 (-1) μ hP hD hS rfl d_m_timer_158 (by simp only [g_timer, g_Tread, c_1, hclj, sw_o _ _ s_2 0 (by decide) (by decide), sw_o _ _ s_2 1 (by decide) (by decide), sw_o _ _ s_2 2 (by decide) (by decide), sw_o _ _ s_2 3 (by decide) (by decide), sw_o _ _ s_2 4 (by decide) (by decide), sw_o _ _ s_2 5 (by decide) (by decide), sw_o _ _ s_2 6 (by decide) (by decide), sw_o _ _ s_2 7 (by decide) (by decide), sw_o _ _ s_2 8 (by decide) (by decide), ↓reduceIte]) (rfl)
    · rcases (show k_3 = 0 ∨ k_3 = 1 ∨ k_3 = 2 ∨ k_3 = 3 ∨ k_3 = 4 ∨ k_3 = 5 ∨ k_3 = 6 ∨ k_3 = 7 ∨ k_3 = 8 by omega) with rfl | rfl | rfl | rfl | rfl | rfl | rfl | rfl | rfl
      · refine lv_tableIn (off := 51) (tgt := 64) hx hb d_m_timer_13 (by rw [s_2]; decide) (by rw [s_2]; decide) (by rw [s_2]; decide) (by decide) ?_
        refine lv_aload_n hx hb d_m_timer_64 rfl (lv_at hl 0 rfl) ?_
        refine va_get (v := .ref (b 5)) hx hb hG i_M hown hK hP 0 wM_M rfl 5 (by decide) (hG _ L_M_13) (fun _ h9 => h9) rfl d_m_timer_65 ?_
        refine lv_iload_n hx hb d_m_timer_68 rfl (lv_at hl 1 rfl) ?_
        refine m_ild hx hb hK hP wM_5 (j) hj (by decide) (rfl) d_m_timer_69 ?_
        exact hret _ _ _ 70 (μ 5 j) μ hP hD hS rfl d_m_timer_70 (by simp only [g_timer, g_Tread, c_1, hclj, s_2, sw_0_0, ↓reduceIte]) (rfl)
      · refine lv_tableIn (off := 58) (tgt := 71) hx hb d_m_timer_13 (by rw [s_2]; decide) (by rw [s_2]; decide) (by rw [s_2]; decide) (by decide) ?_
        refine lv_aload_n hx hb d_m_timer_71 rfl (lv_at hl 0 rfl) ?_
        refine va_get (v := .ref (b 4)) hx hb hG i_M hown hK hP 0 wM_M rfl 4 (by decide) (hG _ L_M_7) (fun _ h9 => h9) rfl d_m_timer_72 ?_
        refine lv_iload_n hx hb d_m_timer_75 rfl (lv_at hl 1 rfl) ?_
        refine m_ild hx hb hK hP wM_4 (j) hj (by decide) (rfl) d_m_timer_76 ?_
        exact hret _ _ _ 77 (μ 4 j) μ hP hD hS rfl d_m_timer_77 (by simp only [g_timer, g_Tread, c_1, hclj, s_2, sw_1_0, sw_1_1, ↓reduceIte]) (rfl)
      · refine lv_tableIn (off := 65) (tgt := 78) hx hb d_m_timer_13 (by rw [s_2]; decide) (by rw [s_2]; decide) (by rw [s_2]; decide) (by decide) ?_
        refine lv_aload_n hx hb d_m_timer_78 rfl (lv_at hl 0 rfl) ?_
        refine va_get (v := .ref (b 6)) hx hb hG i_M hown hK hP 0 wM_M rfl 6 (by decide) (hG _ L_M_16) (fun _ h9 => h9) rfl d_m_timer_79 ?_
        refine lv_iload_n hx hb d_m_timer_82 rfl (lv_at hl 1 rfl) ?_
        refine m_ild hx hb hK hP wM_6 (j) hj (by decide) (rfl) d_m_timer_83 ?_
        exact hret _ _ _ 84 (μ 6 j) μ hP hD hS rfl d_m_timer_84 (by simp only [g_timer, g_Tread, c_1, hclj, s_2, sw_2_0, sw_2_1, sw_2_2, ↓reduceIte]) (rfl)
      · refine lv_tableIn (off := 72) (tgt := 85) hx hb d_m_timer_13 (by rw [s_2]; decide) (by rw [s_2]; decide) (by rw [s_2]; decide) (by decide) ?_
        refine lv_aload_n hx hb d_m_timer_85 rfl (lv_at hl 0 rfl) ?_
        refine va_get (v := .ref (b 8)) hx hb hG i_M hown hK hP 0 wM_M rfl 8 (by decide) (hG _ L_M_23) (fun _ h9 => h9) rfl d_m_timer_86 ?_
        refine lv_iload_n hx hb d_m_timer_89 rfl (lv_at hl 1 rfl) ?_
        refine m_zld hx hb hK hP wM_8 (j) hj (by decide) (rfl) d_m_timer_90 ?_
        refine lv_if_eq (tgt := 98) hx hb d_m_timer_91 (by decide) (fun c_4 => ?_) (fun c_4 => ?_)
        · refine lv_iconst (v := 0) hx hb d_m_timer_98 (by decide) ?_
          exact hret _ _ _ 99 0 μ hP hD hS rfl d_m_timer_99 (by simp only [g_timer, g_Tread, c_1, hclj, s_2, c_4, sw_3_0, sw_3_1, sw_3_2, sw_3_3, ↓reduceIte]) (rfl)
        · refine lv_iconst (v := 1) hx hb d_m_timer_94 (by decide) ?_
          refine lv_goto (tgt := 99) hx hb d_m_timer_95 (by decide) ?_
          exact hret _ _ _ 99 1 μ hP hD hS rfl d_m_timer_99 (by simp only [g_timer, g_Tread, c_1, hclj, s_2, c_4, sw_3_0, sw_3_1, sw_3_2, sw_3_3, ↓reduceIte]) (rfl)
      · refine lv_tableIn (off := 87) (tgt := 100) hx hb d_m_timer_13 (by rw [s_2]; decide) (by rw [s_2]; decide) (by rw [s_2]; decide) (by decide) ?_
        refine lv_aload_n hx hb d_m_timer_100 rfl (lv_at hl 0 rfl) ?_
        refine va_get (v := .ref (b 7)) hx hb hG i_M hown hK hP 0 wM_M rfl 7 (by decide) (hG _ L_M_19) (fun _ h9 => h9) rfl d_m_timer_101 ?_
        refine lv_iload_n hx hb d_m_timer_104 rfl (lv_at hl 1 rfl) ?_
        refine m_zld hx hb hK hP wM_7 (j) hj (by decide) (rfl) d_m_timer_105 ?_
        refine lv_if_eq (tgt := 113) hx hb d_m_timer_106 (by decide) (fun c_5 => ?_) (fun c_5 => ?_)
        · refine lv_iconst (v := 0) hx hb d_m_timer_113 (by decide) ?_
          exact hret _ _ _ 114 0 μ hP hD hS rfl d_m_timer_114 (by simp only [g_timer, g_Tread, c_1, hclj, s_2, c_5, sw_4_0, sw_4_1, sw_4_2, sw_4_3, sw_4_4, ↓reduceIte]) (rfl)
        · refine lv_iconst (v := 1) hx hb d_m_timer_109 (by decide) ?_
          refine lv_goto (tgt := 114) hx hb d_m_timer_110 (by decide) ?_
          exact hret _ _ _ 114 1 μ hP hD hS rfl d_m_timer_114 (by simp only [g_timer, g_Tread, c_1, hclj, s_2, c_5, sw_4_0, sw_4_1, sw_4_2, sw_4_3, sw_4_4, ↓reduceIte]) (rfl)
      · refine lv_tableIn (off := 102) (tgt := 115) hx hb d_m_timer_13 (by rw [s_2]; decide) (by rw [s_2]; decide) (by rw [s_2]; decide) (by decide) ?_
        refine lv_aload_n hx hb d_m_timer_115 rfl (lv_at hl 0 rfl) ?_
        refine va_get (v := .ref (b 9)) hx hb hG i_M hown hK hP 0 wM_M rfl 9 (by decide) (hG _ L_M_26) (fun _ h9 => h9) rfl d_m_timer_116 ?_
        refine lv_iconst (v := 4) hx hb d_m_timer_119 (by decide) ?_
        refine lv_iload_n hx hb d_m_timer_120 rfl (lv_at hl 1 rfl) ?_
        refine lv_imul hx hb d_m_timer_121 ?_
        refine m_ild hx hb hK hP wM_9 (4 * j) (show 4 * j < 32 by have := hj; omega) (by decide) (m_ix0 j) d_m_timer_122 ?_
        exact hret _ _ _ 123 (μ 9 (4 * j)) μ hP hD hS rfl d_m_timer_123 (by simp only [g_timer, g_Tread, c_1, hclj, s_2, sw_5_0, sw_5_1, sw_5_2, sw_5_3, sw_5_4, sw_5_5, ↓reduceIte]) (rfl)
      · refine lv_tableIn (off := 111) (tgt := 124) hx hb d_m_timer_13 (by rw [s_2]; decide) (by rw [s_2]; decide) (by rw [s_2]; decide) (by decide) ?_
        refine lv_aload_n hx hb d_m_timer_124 rfl (lv_at hl 0 rfl) ?_
        refine va_get (v := .ref (b 9)) hx hb hG i_M hown hK hP 0 wM_M rfl 9 (by decide) (hG _ L_M_26) (fun _ h9 => h9) rfl d_m_timer_125 ?_
        refine lv_iconst (v := 4) hx hb d_m_timer_128 (by decide) ?_
        refine lv_iload_n hx hb d_m_timer_129 rfl (lv_at hl 1 rfl) ?_
        refine lv_imul hx hb d_m_timer_130 ?_
        refine lv_iconst (v := 1) hx hb d_m_timer_131 (by decide) ?_
        refine lv_iadd hx hb d_m_timer_132 ?_
        refine m_ild hx hb hK hP wM_9 (4 * j + 1) (show 4 * j + 1 < 32 by have := hj; omega) (by decide) (m_ix j 1) d_m_timer_133 ?_
        exact hret _ _ _ 134 (μ 9 (4 * j + 1)) μ hP hD hS rfl d_m_timer_134 (by simp only [g_timer, g_Tread, c_1, hclj, s_2, sw_6_0, sw_6_1, sw_6_2, sw_6_3, sw_6_4, sw_6_5, sw_6_6, ↓reduceIte]) (rfl)
      · refine lv_tableIn (off := 122) (tgt := 135) hx hb d_m_timer_13 (by rw [s_2]; decide) (by rw [s_2]; decide) (by rw [s_2]; decide) (by decide) ?_
        refine lv_aload_n hx hb d_m_timer_135 rfl (lv_at hl 0 rfl) ?_
        refine va_get (v := .ref (b 9)) hx hb hG i_M hown hK hP 0 wM_M rfl 9 (by decide) (hG _ L_M_26) (fun _ h9 => h9) rfl d_m_timer_136 ?_
        refine lv_iconst (v := 4) hx hb d_m_timer_139 (by decide) ?_
        refine lv_iload_n hx hb d_m_timer_140 rfl (lv_at hl 1 rfl) ?_
        refine lv_imul hx hb d_m_timer_141 ?_
        refine lv_iconst (v := 2) hx hb d_m_timer_142 (by decide) ?_
        refine lv_iadd hx hb d_m_timer_143 ?_
        refine m_ild hx hb hK hP wM_9 (4 * j + 2) (show 4 * j + 2 < 32 by have := hj; omega) (by decide) (m_ix j 2) d_m_timer_144 ?_
        exact hret _ _ _ 145 (μ 9 (4 * j + 2)) μ hP hD hS rfl d_m_timer_145 (by simp only [g_timer, g_Tread, c_1, hclj, s_2, sw_7_0, sw_7_1, sw_7_2, sw_7_3, sw_7_4, sw_7_5, sw_7_6, sw_7_7, ↓reduceIte]) (rfl)
      · refine lv_tableIn (off := 133) (tgt := 146) hx hb d_m_timer_13 (by rw [s_2]; decide) (by rw [s_2]; decide) (by rw [s_2]; decide) (by decide) ?_
        refine lv_aload_n hx hb d_m_timer_146 rfl (lv_at hl 0 rfl) ?_
        refine va_get (v := .ref (b 9)) hx hb hG i_M hown hK hP 0 wM_M rfl 9 (by decide) (hG _ L_M_26) (fun _ h9 => h9) rfl d_m_timer_147 ?_
        refine lv_iconst (v := 4) hx hb d_m_timer_150 (by decide) ?_
        refine lv_iload_n hx hb d_m_timer_151 rfl (lv_at hl 1 rfl) ?_
        refine lv_imul hx hb d_m_timer_152 ?_
        refine lv_iconst (v := 3) hx hb d_m_timer_153 (by decide) ?_
        refine lv_iadd hx hb d_m_timer_154 ?_
        refine m_ild hx hb hK hP wM_9 (4 * j + 3) (show 4 * j + 3 < 32 by have := hj; omega) (by decide) (m_ix j 3) d_m_timer_155 ?_
        exact hret _ _ _ 156 (μ 9 (4 * j + 3)) μ hP hD hS rfl d_m_timer_156 (by simp only [g_timer, g_Tread, c_1, hclj, s_2, sw_8_0, sw_8_1, sw_8_2, sw_8_3, sw_8_4, sw_8_5, sw_8_6, sw_8_7, sw_8_8, ↓reduceIte]) (rfl)
  · refine lv_iconst (v := (-1)) hx hb d_m_timer_10 (by decide) ?_
    exact hret _ _ _ 11 (-1) μ hP hD hS rfl d_m_timer_11 (by simp only [g_timer, g_Tread, c_1, ↓reduceIte]) (rfl)
set_option maxHeartbeats 4000000 in
set_option maxRecDepth 100000 in
theorem c_m_gateOf (l : Launch) (D : va_G) (b : Nat → Nat) (cb : Nat → ClassId) (μ : St) (g : Int32) (w : Int32) : KI l D (tM cb) (wM b cb) rm_m_gateOf y_m_gateOf b_m_gateOf 3 .int [.ref (b 0), .int g, .int w] μ (g_gateOf μ g w) μ := by
  refine KI.of (by decide) (Nat.le_of_ble_eq_true rfl) ?_
  intro p e s m args below meth c A Q ls hx hb hml hown hG hK hN hA hP hD hS hl hret
  have hown : s.vm.findClass R_M = some m.cls := hown
  have hl : lv_has ls 3 [(0, .ref (b 0)), (1, .int g), (2, .int w)] := hl
  refine lv_iload_n hx hb d_m_gateOf_0 rfl (lv_at hl 1 rfl) ?_
  refine lv_iconst (v := 0) hx hb d_m_gateOf_1 (by decide) ?_
  refine lv_iconst (v := 3) hx hb d_m_gateOf_2 (by decide) ?_
  refine k_cS (rest := []) hx hb hml hown hG hK hN hA hP hD hS (c_m_isIn l D b cb μ g 0 3) ok_m_isIn so_m_isIn L_M_57 ⟨rfl, rfl, by decide, by decide⟩ rfl hl.1 rfl (Nat.le_of_ble_eq_true rfl) ⟨Nat.zero_le _, Nat.zero_le _⟩ d_m_gateOf_3 (fun H locs hP hD hS => ?_)
  refine lv_if_ne (tgt := 11) hx hb d_m_gateOf_6 (by decide) (fun c_1 => ?_) (fun c_1 => ?_)
  · obtain ⟨j, hj, rfl⟩ := isIn_in (n := 3) (by decide) c_1
    have hclj : (nI j).toNatClampNeg = j := nI_clamp (by omega)
    refine lv_iload_n hx hb d_m_gateOf_11 rfl (lv_at hl 2 rfl) ?_
    rcases sw_cases w 6 (by decide) with s_2 | ⟨k_3, k_3_l, s_2⟩
    · refine lv_tableOut (tgt := 112) hx hb d_m_gateOf_12 s_2 (by decide) ?_
      refine lv_iconst (v := (-1)) hx hb d_m_gateOf_112 (by decide) ?_
      exact hret _ _ _ 113 (-1) μ hP hD hS rfl d_m_gateOf_113 (by simp only [g_gateOf, g_Gread, c_1, hclj, sw_o _ _ s_2 0 (by decide) (by decide), sw_o _ _ s_2 1 (by decide) (by decide), sw_o _ _ s_2 2 (by decide) (by decide), sw_o _ _ s_2 3 (by decide) (by decide), sw_o _ _ s_2 4 (by decide) (by decide), sw_o _ _ s_2 5 (by decide) (by decide), sw_o _ _ s_2 6 (by decide) (by decide), ↓reduceIte]) (rfl)
    · rcases (show k_3 = 0 ∨ k_3 = 1 ∨ k_3 = 2 ∨ k_3 = 3 ∨ k_3 = 4 ∨ k_3 = 5 ∨ k_3 = 6 by omega) with rfl | rfl | rfl | rfl | rfl | rfl | rfl
      · refine lv_tableIn (off := 44) (tgt := 56) hx hb d_m_gateOf_12 (by rw [s_2]; decide) (by rw [s_2]; decide) (by rw [s_2]; decide) (by decide) ?_
        refine lv_aload_n hx hb d_m_gateOf_56 rfl (lv_at hl 0 rfl) ?_
        refine lv_iload_n hx hb d_m_gateOf_57 rfl (lv_at hl 1 rfl) ?_
        refine k_cV (rest := []) hx hb hml hown hG hK hN hA hP hD hS (c_m_asks l D b cb μ j hj) ok_m_asks io_m_asks L_M_65 ⟨rfl, rfl, by decide, by decide⟩ 0 wM_M rfl rfl hl.1 rfl (Nat.le_of_ble_eq_true rfl) ⟨Nat.zero_le _, Nat.zero_le _⟩ d_m_gateOf_58 (fun H locs hP hD hS => ?_)
        refine lv_if_eq (tgt := 68) hx hb d_m_gateOf_61 (by decide) (fun c_4 => ?_) (fun c_4 => ?_)
        · refine lv_iconst (v := 0) hx hb d_m_gateOf_68 (by decide) ?_
          exact hret _ _ _ 69 0 μ hP hD hS rfl d_m_gateOf_69 (by simp only [g_gateOf, g_Gread, c_1, hclj, s_2, c_4, sw_0_0, ↓reduceIte]) (rfl)
        · refine lv_iconst (v := 1) hx hb d_m_gateOf_64 (by decide) ?_
          refine lv_goto (tgt := 69) hx hb d_m_gateOf_65 (by decide) ?_
          exact hret _ _ _ 69 1 μ hP hD hS rfl d_m_gateOf_69 (by simp only [g_gateOf, g_Gread, c_1, hclj, s_2, c_4, sw_0_0, ↓reduceIte]) (rfl)
      · refine lv_tableIn (off := 58) (tgt := 70) hx hb d_m_gateOf_12 (by rw [s_2]; decide) (by rw [s_2]; decide) (by rw [s_2]; decide) (by decide) ?_
        refine lv_aload_n hx hb d_m_gateOf_70 rfl (lv_at hl 0 rfl) ?_
        refine va_get (v := .ref (b 12)) hx hb hG i_M hown hK hP 0 wM_M rfl 12 (by decide) (hG _ L_M_35) (fun _ h9 => h9) rfl d_m_gateOf_71 ?_
        refine lv_iload_n hx hb d_m_gateOf_74 rfl (lv_at hl 1 rfl) ?_
        refine m_ild hx hb hK hP wM_12 (j) hj (by decide) (rfl) d_m_gateOf_75 ?_
        exact hret _ _ _ 76 (μ 12 j) μ hP hD hS rfl d_m_gateOf_76 (by simp only [g_gateOf, g_Gread, c_1, hclj, s_2, sw_1_0, sw_1_1, ↓reduceIte]) (rfl)
      · refine lv_tableIn (off := 65) (tgt := 77) hx hb d_m_gateOf_12 (by rw [s_2]; decide) (by rw [s_2]; decide) (by rw [s_2]; decide) (by decide) ?_
        refine lv_aload_n hx hb d_m_gateOf_77 rfl (lv_at hl 0 rfl) ?_
        refine va_get (v := .ref (b 10)) hx hb hG i_M hown hK hP 0 wM_M rfl 10 (by decide) (hG _ L_M_29) (fun _ h9 => h9) rfl d_m_gateOf_78 ?_
        refine lv_iload_n hx hb d_m_gateOf_81 rfl (lv_at hl 1 rfl) ?_
        refine m_ild hx hb hK hP wM_10 (j) hj (by decide) (rfl) d_m_gateOf_82 ?_
        exact hret _ _ _ 83 (μ 10 j) μ hP hD hS rfl d_m_gateOf_83 (by simp only [g_gateOf, g_Gread, c_1, hclj, s_2, sw_2_0, sw_2_1, sw_2_2, ↓reduceIte]) (rfl)
      · refine lv_tableIn (off := 72) (tgt := 84) hx hb d_m_gateOf_12 (by rw [s_2]; decide) (by rw [s_2]; decide) (by rw [s_2]; decide) (by decide) ?_
        refine lv_aload_n hx hb d_m_gateOf_84 rfl (lv_at hl 0 rfl) ?_
        refine va_get (v := .ref (b 11)) hx hb hG i_M hown hK hP 0 wM_M rfl 11 (by decide) (hG _ L_M_32) (fun _ h9 => h9) rfl d_m_gateOf_85 ?_
        refine lv_iload_n hx hb d_m_gateOf_88 rfl (lv_at hl 1 rfl) ?_
        refine m_ild hx hb hK hP wM_11 (j) hj (by decide) (rfl) d_m_gateOf_89 ?_
        exact hret _ _ _ 90 (μ 11 j) μ hP hD hS rfl d_m_gateOf_90 (by simp only [g_gateOf, g_Gread, c_1, hclj, s_2, sw_3_0, sw_3_1, sw_3_2, sw_3_3, ↓reduceIte]) (rfl)
      · refine lv_tableIn (off := 79) (tgt := 91) hx hb d_m_gateOf_12 (by rw [s_2]; decide) (by rw [s_2]; decide) (by rw [s_2]; decide) (by decide) ?_
        refine lv_aload_n hx hb d_m_gateOf_91 rfl (lv_at hl 0 rfl) ?_
        refine va_get (v := .ref (b 14)) hx hb hG i_M hown hK hP 0 wM_M rfl 14 (by decide) (hG _ L_M_41) (fun _ h9 => h9) rfl d_m_gateOf_92 ?_
        refine lv_iload_n hx hb d_m_gateOf_95 rfl (lv_at hl 1 rfl) ?_
        refine m_ild hx hb hK hP wM_14 (j) hj (by decide) (rfl) d_m_gateOf_96 ?_
        exact hret _ _ _ 97 (μ 14 j) μ hP hD hS rfl d_m_gateOf_97 (by simp only [g_gateOf, g_Gread, c_1, hclj, s_2, sw_4_0, sw_4_1, sw_4_2, sw_4_3, sw_4_4, ↓reduceIte]) (rfl)
      · refine lv_tableIn (off := 86) (tgt := 98) hx hb d_m_gateOf_12 (by rw [s_2]; decide) (by rw [s_2]; decide) (by rw [s_2]; decide) (by decide) ?_
        refine lv_aload_n hx hb d_m_gateOf_98 rfl (lv_at hl 0 rfl) ?_
        refine va_get (v := .ref (b 15)) hx hb hG i_M hown hK hP 0 wM_M rfl 15 (by decide) (hG _ L_M_44) (fun _ h9 => h9) rfl d_m_gateOf_99 ?_
        refine lv_iload_n hx hb d_m_gateOf_102 rfl (lv_at hl 1 rfl) ?_
        refine m_ild hx hb hK hP wM_15 (j) hj (by decide) (rfl) d_m_gateOf_103 ?_
        exact hret _ _ _ 104 (μ 15 j) μ hP hD hS rfl d_m_gateOf_104 (by simp only [g_gateOf, g_Gread, c_1, hclj, s_2, sw_5_0, sw_5_1, sw_5_2, sw_5_3, sw_5_4, sw_5_5, ↓reduceIte]) (rfl)
      · refine lv_tableIn (off := 93) (tgt := 105) hx hb d_m_gateOf_12 (by rw [s_2]; decide) (by rw [s_2]; decide) (by rw [s_2]; decide) (by decide) ?_
        refine lv_aload_n hx hb d_m_gateOf_105 rfl (lv_at hl 0 rfl) ?_
        refine va_get (v := .ref (b 16)) hx hb hG i_M hown hK hP 0 wM_M rfl 16 (by decide) (hG _ L_M_47) (fun _ h9 => h9) rfl d_m_gateOf_106 ?_
        refine lv_iload_n hx hb d_m_gateOf_109 rfl (lv_at hl 1 rfl) ?_
        refine m_ild hx hb hK hP wM_16 (j) hj (by decide) (rfl) d_m_gateOf_110 ?_
        exact hret _ _ _ 111 (μ 16 j) μ hP hD hS rfl d_m_gateOf_111 (by simp only [g_gateOf, g_Gread, c_1, hclj, s_2, sw_6_0, sw_6_1, sw_6_2, sw_6_3, sw_6_4, sw_6_5, sw_6_6, ↓reduceIte]) (rfl)
  · refine lv_iconst (v := (-1)) hx hb d_m_gateOf_9 (by decide) ?_
    exact hret _ _ _ 10 (-1) μ hP hD hS rfl d_m_gateOf_10 (by simp only [g_gateOf, g_Gread, c_1, ↓reduceIte]) (rfl)
set_option maxHeartbeats 4000000 in
set_option maxRecDepth 100000 in
theorem c_m_look (l : Launch) (D : va_G) (b : Nat → Nat) (cb : Nat → ClassId) (μ : St) (w : Int32) : KI l D (tM cb) (wM b cb) rm_m_look y_m_look b_m_look 4 .int [.ref (b 0), .int w] μ (g_look μ w) μ := by
  refine KI.of (by decide) (Nat.le_of_ble_eq_true rfl) ?_
  intro p e s m args below meth c A Q ls hx hb hml hown hG hK hN hA hP hD hS hl hret
  have hown : s.vm.findClass R_M = some m.cls := hown
  have hl : lv_has ls 4 [(0, .ref (b 0)), (1, .int w)] := hl
  refine lv_iload_n hx hb d_m_look_0 rfl (lv_at hl 1 rfl) ?_
  refine lv_if_ne (tgt := 9) hx hb d_m_look_1 (by decide) (fun c_1 => ?_) (fun c_1 => ?_)
  · refine lv_iload_n hx hb d_m_look_9 rfl (lv_at hl 1 rfl) ?_
    refine lv_iconst (v := 1) hx hb d_m_look_10 (by decide) ?_
    refine lv_icmp_ne (tgt := 19) hx hb d_m_look_11 (by decide) (fun c_2 => ?_) (fun c_2 => ?_)
    · refine lv_iload_n hx hb d_m_look_19 rfl (lv_at hl 1 rfl) ?_
      refine lv_iconst (v := 2) hx hb d_m_look_20 (by decide) ?_
      refine lv_icmp_ne (tgt := 29) hx hb d_m_look_21 (by decide) (fun c_3 => ?_) (fun c_3 => ?_)
      · refine lv_iload_n hx hb d_m_look_29 rfl (lv_at hl 1 rfl) ?_
        refine lv_iconst (v := 3) hx hb d_m_look_30 (by decide) ?_
        refine lv_icmp_eq (tgt := 36) hx hb d_m_look_31 (by decide) (fun c_4 => ?_) (fun c_4 => ?_)
        · refine lv_iconst (v := 0) hx hb d_m_look_36 (by decide) ?_
          refine lv_istore_n (lv' := [(2, .int 0), (0, .ref (b 0)), (1, .int w)]) hx hb d_m_look_37 rfl hl (by decide) rfl (fun ls hl => ?_)
          refine lv_iconst (v := 0) hx hb d_m_look_38 (by decide) ?_
          refine lv_istore_n (lv' := [(3, .int 0), (2, .int 0), (0, .ref (b 0)), (1, .int w)]) hx hb d_m_look_39 rfl hl (by decide) rfl (fun ls hl => ?_)
          have loop : ∀ (n : Nat) (t : Nat) (x : Int32), (t + n = 8) → (mnL μ n t x = mnL μ 8 0 0) → ∀ (H : Heap) (locs : List Loc) (ls : Array Slot), va_P D classes (wM b cb μ) H → va_D A (wM b cb μ) → va_S A s.heap H locs → lv_has ls 4 [(3, .int (nI t)), (2, .int x), (1, .int w), (0, .ref (b 0))] → W p l e rm_m_look s m args below meth c H locs 0 0 Q (F0 m 40 ls []) := by
            intro n
            induction n with
            | zero =>
              intro t x ht hrel H locs ls hP hD hS hl
              refine lv_iload_n hx hb d_m_look_40 rfl (lv_at hl 0 rfl) ?_
              refine lv_bipush (v := 8) hx hb d_m_look_41 (by decide) ?_
              refine lv_icmp_ge (tgt := 91) hx hb d_m_look_43 (by decide) (fun c_5 => ?_) (fun c_5 => absurd (nI_le (a := 8) (b := t) (by omega) (by omega)) c_5)
              refine lv_iload_n hx hb d_m_look_91 rfl (lv_at hl 1 rfl) ?_
              exact hret _ _ _ 92 x μ hP hD hS rfl d_m_look_92 (by have hrel : x = _ := hrel; simp only [g_look, lit_1_0, lit_2_0, lit_2_1, lit_3_0, lit_3_1, lit_3_2, c_1, c_2, c_3, c_4, c_5, ↓reduceIte]; exact hrel) (rfl)
            | succ n ih =>
              intro t x ht hrel H locs ls hP hD hS hl
              refine lv_iload_n hx hb d_m_look_40 rfl (lv_at hl 0 rfl) ?_
              refine lv_bipush (v := 8) hx hb d_m_look_41 (by decide) ?_
              refine lv_icmp_ge (tgt := 91) hx hb d_m_look_43 (by decide) (fun c_6 => absurd c_6 (nI_ge (a := t) (b := 8) (by omega) (by omega))) (fun c_6 => ?_)
              refine lv_aload_n hx hb d_m_look_46 rfl (lv_at hl 3 rfl) ?_
              refine va_get (v := .ref (b 8)) hx hb hG i_M hown hK hP 0 wM_M rfl 8 (by decide) (hG _ L_M_23) (fun _ h9 => h9) rfl d_m_look_47 ?_
              refine lv_iload_n hx hb d_m_look_50 rfl (lv_at hl 0 rfl) ?_
              refine m_zld hx hb hK hP wM_8 (t) (show t < 8 by omega) (by decide) (rfl) d_m_look_51 ?_
              refine lv_if_eq (tgt := 85) hx hb d_m_look_52 (by decide) (fun c_7 => ?_) (fun c_7 => ?_)
              · refine lv_iinc (v := nI (t + 1)) (lv' := [(3, .int (nI (t + 1))), (2, .int x), (1, .int w), (0, .ref (b 0))]) hx hb d_m_look_85 hl (k := 0) rfl (nI_1 t) (by decide) rfl (fun ls hl => ?_)
                refine lv_goto (tgt := 40) hx hb d_m_look_88 (by decide) ?_
                exact ih (t + 1) x (by omega) (by rw [← hrel]; simp only [mnL, smN, c_1, c_2, c_3, c_4, c_6, c_7, ↓reduceIte]) _ _ _ hP hD hS (lv_sub hl [0, 1, 2, 3] rfl)
              · refine lv_aload_n hx hb d_m_look_55 rfl (lv_at hl 3 rfl) ?_
                refine va_get (v := .ref (b 6)) hx hb hG i_M hown hK hP 0 wM_M rfl 6 (by decide) (hG _ L_M_16) (fun _ h9 => h9) rfl d_m_look_56 ?_
                refine lv_iload_n hx hb d_m_look_59 rfl (lv_at hl 0 rfl) ?_
                refine m_ild hx hb hK hP wM_6 (t) (show t < 8 by omega) (by decide) (rfl) d_m_look_60 ?_
                refine lv_if_ne (tgt := 85) hx hb d_m_look_61 (by decide) (fun c_8 => ?_) (fun c_8 => ?_)
                · refine lv_iinc (v := nI (t + 1)) (lv' := [(3, .int (nI (t + 1))), (2, .int x), (1, .int w), (0, .ref (b 0))]) hx hb d_m_look_85 hl (k := 0) rfl (nI_1 t) (by decide) rfl (fun ls hl => ?_)
                  refine lv_goto (tgt := 40) hx hb d_m_look_88 (by decide) ?_
                  exact ih (t + 1) x (by omega) (by rw [← hrel]; simp only [mnL, smN, c_1, c_2, c_3, c_4, c_6, c_7, c_8, ↓reduceIte]) _ _ _ hP hD hS (lv_sub hl [0, 1, 2, 3] rfl)
                · refine lv_iload_n hx hb d_m_look_64 rfl (lv_at hl 1 rfl) ?_
                  refine lv_if_eq (tgt := 78) hx hb d_m_look_65 (by decide) (fun c_9 => ?_) (fun c_9 => ?_)
                  · refine lv_aload_n hx hb d_m_look_78 rfl (lv_at hl 3 rfl) ?_
                    refine va_get (v := .ref (b 5)) hx hb hG i_M hown hK hP 0 wM_M rfl 5 (by decide) (hG _ L_M_13) (fun _ h9 => h9) rfl d_m_look_79 ?_
                    refine lv_iload_n hx hb d_m_look_82 rfl (lv_at hl 0 rfl) ?_
                    refine m_ild hx hb hK hP wM_5 (t) (show t < 8 by omega) (by decide) (rfl) d_m_look_83 ?_
                    refine lv_istore_n (lv' := [(2, .int (μ 5 t)), (3, .int (nI t)), (1, .int w), (0, .ref (b 0))]) hx hb d_m_look_84 rfl hl (by decide) rfl (fun ls hl => ?_)
                    refine lv_iinc (v := nI (t + 1)) (lv' := [(3, .int (nI (t + 1))), (2, .int (μ 5 t)), (1, .int w), (0, .ref (b 0))]) hx hb d_m_look_85 hl (k := 1) rfl (nI_1 t) (by decide) rfl (fun ls hl => ?_)
                    refine lv_goto (tgt := 40) hx hb d_m_look_88 (by decide) ?_
                    exact ih (t + 1) (μ 5 t) (by omega) (by rw [← hrel]; simp only [mnL, smN, c_1, c_2, c_3, c_4, c_6, c_7, c_8, c_9, ↓reduceIte]) _ _ _ hP hD hS (lv_sub hl [0, 1, 2, 3] rfl)
                  · refine lv_aload_n hx hb d_m_look_68 rfl (lv_at hl 3 rfl) ?_
                    refine va_get (v := .ref (b 5)) hx hb hG i_M hown hK hP 0 wM_M rfl 5 (by decide) (hG _ L_M_13) (fun _ h9 => h9) rfl d_m_look_69 ?_
                    refine lv_iload_n hx hb d_m_look_72 rfl (lv_at hl 0 rfl) ?_
                    refine m_ild hx hb hK hP wM_5 (t) (show t < 8 by omega) (by decide) (rfl) d_m_look_73 ?_
                    refine lv_iload_n hx hb d_m_look_74 rfl (lv_at hl 1 rfl) ?_
                    refine lv_icmp_ge (tgt := 85) hx hb d_m_look_75 (by decide) (fun c_10 => ?_) (fun c_10 => ?_)
                    · refine lv_iinc (v := nI (t + 1)) (lv' := [(3, .int (nI (t + 1))), (2, .int x), (1, .int w), (0, .ref (b 0))]) hx hb d_m_look_85 hl (k := 0) rfl (nI_1 t) (by decide) rfl (fun ls hl => ?_)
                      refine lv_goto (tgt := 40) hx hb d_m_look_88 (by decide) ?_
                      exact ih (t + 1) x (by omega) (by rw [← hrel]; simp only [mnL, smN, c_1, c_2, c_3, c_4, c_6, c_7, c_8, c_9, c_10, ↓reduceIte]) _ _ _ hP hD hS (lv_sub hl [0, 1, 2, 3] rfl)
                    · refine lv_aload_n hx hb d_m_look_78 rfl (lv_at hl 3 rfl) ?_
                      refine va_get (v := .ref (b 5)) hx hb hG i_M hown hK hP 0 wM_M rfl 5 (by decide) (hG _ L_M_13) (fun _ h9 => h9) rfl d_m_look_79 ?_
                      refine lv_iload_n hx hb d_m_look_82 rfl (lv_at hl 0 rfl) ?_
                      refine m_ild hx hb hK hP wM_5 (t) (show t < 8 by omega) (by decide) (rfl) d_m_look_83 ?_
                      refine lv_istore_n (lv' := [(2, .int (μ 5 t)), (3, .int (nI t)), (1, .int w), (0, .ref (b 0))]) hx hb d_m_look_84 rfl hl (by decide) rfl (fun ls hl => ?_)
                      refine lv_iinc (v := nI (t + 1)) (lv' := [(3, .int (nI (t + 1))), (2, .int (μ 5 t)), (1, .int w), (0, .ref (b 0))]) hx hb d_m_look_85 hl (k := 1) rfl (nI_1 t) (by decide) rfl (fun ls hl => ?_)
                      refine lv_goto (tgt := 40) hx hb d_m_look_88 (by decide) ?_
                      exact ih (t + 1) (μ 5 t) (by omega) (by rw [← hrel]; simp only [mnL, smN, c_1, c_2, c_3, c_4, c_6, c_7, c_8, c_9, c_10, ↓reduceIte]) _ _ _ hP hD hS (lv_sub hl [0, 1, 2, 3] rfl)
          exact loop 8 0 0 (by omega) rfl _ _ _ hP hD hS (lv_sub hl [0, 1, 3, 2] rfl)
        · refine lv_iconst (v := (-1)) hx hb d_m_look_34 (by decide) ?_
          exact hret _ _ _ 35 (-1) μ hP hD hS rfl d_m_look_35 (by simp only [g_look, lit_1_0, lit_2_0, lit_2_1, lit_3_0, lit_3_1, lit_3_2, c_1, c_2, c_3, c_4, ↓reduceIte]) (rfl)
      · refine lv_aload_n hx hb d_m_look_24 rfl (lv_at hl 0 rfl) ?_
        refine va_get (v := .int (μ 0 3)) hx hb hG i_M hown hK hP 0 wM_M rfl 3 (by decide) (hG _ L_M_72) (fun _ h9 => h9) rfl d_m_look_25 ?_
        exact hret _ _ _ 28 (μ 0 3) μ hP hD hS rfl d_m_look_28 (by simp only [g_look, lit_1_0, lit_2_0, lit_2_1, lit_3_0, lit_3_1, lit_3_2, c_1, c_2, c_3, ↓reduceIte]) (rfl)
    · refine lv_aload_n hx hb d_m_look_14 rfl (lv_at hl 0 rfl) ?_
      refine va_get (v := .int (μ 0 1)) hx hb hG i_M hown hK hP 0 wM_M rfl 1 (by decide) (hG _ L_M_69) (fun _ h9 => h9) rfl d_m_look_15 ?_
      exact hret _ _ _ 18 (μ 0 1) μ hP hD hS rfl d_m_look_18 (by simp only [g_look, lit_1_0, lit_2_0, lit_2_1, lit_3_0, lit_3_1, lit_3_2, c_1, c_2, ↓reduceIte]) (rfl)
  · refine lv_aload_n hx hb d_m_look_4 rfl (lv_at hl 0 rfl) ?_
    refine va_get (v := .int (μ 0 2)) hx hb hG i_M hown hK hP 0 wM_M rfl 2 (by decide) (hG _ L_M_62) (fun _ h9 => h9) rfl d_m_look_5 ?_
    exact hret _ _ _ 8 (μ 0 2) μ hP hD hS rfl d_m_look_8 (by simp only [g_look, lit_1_0, lit_2_0, lit_2_1, lit_3_0, lit_3_1, lit_3_2, c_1, ↓reduceIte]) (rfl)
set_option maxHeartbeats 4000000 in
set_option maxRecDepth 100000 in
theorem c_m_served (l : Launch) (D : va_G) (b : Nat → Nat) (cb : Nat → ClassId) (μ : St) (i : Int32) (w : Int32) (n0 : Nat) (hO : mOK μ n0) (hn : n0 < 2 ^ 30) : KI l D (tM cb) (wM b cb) rm_m_served y_m_served b_m_served 3 .int [.ref (b 0), .int i, .int w] μ (g_served μ i w) μ := by
  refine KI.of (by decide) (Nat.le_of_ble_eq_true rfl) ?_
  intro p e s m args below meth c A Q ls hx hb hml hown hG hK hN hA hP hD hS hl hret
  have hown : s.vm.findClass R_M = some m.cls := hown
  have hl : lv_has ls 3 [(0, .ref (b 0)), (1, .int i), (2, .int w)] := hl
  refine lv_iload_n hx hb d_m_served_0 rfl (lv_at hl 1 rfl) ?_
  refine lv_iconst (v := 0) hx hb d_m_served_1 (by decide) ?_
  refine lv_bipush (v := 15) hx hb d_m_served_2 (by decide) ?_
  refine k_cS (rest := []) hx hb hml hown hG hK hN hA hP hD hS (c_m_isIn l D b cb μ i 0 15) ok_m_isIn so_m_isIn L_M_57 ⟨rfl, rfl, by decide, by decide⟩ rfl hl.1 rfl (Nat.le_of_ble_eq_true rfl) ⟨Nat.zero_le _, Nat.zero_le _⟩ d_m_served_4 (fun H locs hP hD hS => ?_)
  refine lv_if_eq (tgt := 27) hx hb d_m_served_7 (by decide) (fun c_1 => ?_) (fun c_1 => ?_)
  · refine lv_iconst (v := (-1)) hx hb d_m_served_27 (by decide) ?_
    exact hret _ _ _ 28 (-1) μ hP hD hS rfl d_m_served_28 (by simp only [g_served, c_1, ↓reduceIte]) (rfl)
  · obtain ⟨j, hj, rfl⟩ := isIn_in (n := 15) (by decide) c_1
    have hclj : (nI j).toNatClampNeg = j := nI_clamp (by omega)
    refine lv_iload_n hx hb d_m_served_10 rfl (lv_at hl 1 rfl) ?_
    refine lv_aload_n hx hb d_m_served_11 rfl (lv_at hl 0 rfl) ?_
    refine va_get (v := .int (μ 0 3)) hx hb hG i_M hown hK hP 0 wM_M rfl 3 (by decide) (hG _ L_M_72) (fun _ h9 => h9) rfl d_m_served_12 ?_
    refine lv_icmp_ge (tgt := 27) hx hb d_m_served_15 (by decide) (fun c_2 => ?_) (fun c_2 => ?_)
    · refine lv_iconst (v := (-1)) hx hb d_m_served_27 (by decide) ?_
      exact hret _ _ _ 28 (-1) μ hP hD hS rfl d_m_served_28 (by simp only [g_served, c_1, hclj, c_2, ↓reduceIte]) (rfl)
    · refine lv_iload_n hx hb d_m_served_18 rfl (lv_at hl 2 rfl) ?_
      refine lv_iconst (v := 0) hx hb d_m_served_19 (by decide) ?_
      refine lv_iconst (v := 2) hx hb d_m_served_20 (by decide) ?_
      refine k_cS (rest := []) hx hb hml hown hG hK hN hA hP hD hS (c_m_isIn l D b cb μ w 0 2) ok_m_isIn so_m_isIn L_M_57 ⟨rfl, rfl, by decide, by decide⟩ rfl hl.1 rfl (Nat.le_of_ble_eq_true rfl) ⟨Nat.zero_le _, Nat.zero_le _⟩ d_m_served_21 (fun H locs hP hD hS => ?_)
      refine lv_if_ne (tgt := 29) hx hb d_m_served_24 (by decide) (fun c_3 => ?_) (fun c_3 => ?_)
      · obtain ⟨k, hk, rfl⟩ := isIn_in (n := 2) (by decide) c_3
        have hclk : (nI k).toNatClampNeg = k := nI_clamp (by omega)
        have enn : nn μ = n0 := mOK_nn hO hn
        have hjn : j < n0 := by
          rcases Nat.lt_or_ge j n0 with q | q
          · exact q
          · exact absurd (by rw [hO.1]; exact nI_le q (by omega)) c_2
        refine lv_aload_n hx hb d_m_served_29 rfl (lv_at hl 0 rfl) ?_
        refine va_get (v := .ref (b 17)) hx hb hG i_M hown hK hP 0 wM_M rfl 17 (by decide) (hG _ L_M_50) (fun _ h9 => h9) rfl d_m_served_30 ?_
        refine lv_iconst (v := 3) hx hb d_m_served_33 (by decide) ?_
        refine lv_aload_n hx hb d_m_served_34 rfl (lv_at hl 0 rfl) ?_
        refine va_get (v := .int (μ 0 3)) hx hb hG i_M hown hK hP 0 wM_M rfl 3 (by decide) (hG _ L_M_72) (fun _ h9 => h9) rfl d_m_served_35 ?_
        refine lv_iconst (v := 1) hx hb d_m_served_38 (by decide) ?_
        refine lv_isub hx hb d_m_served_39 ?_
        refine lv_iload_n hx hb d_m_served_40 rfl (lv_at hl 1 rfl) ?_
        refine lv_isub hx hb d_m_served_41 ?_
        refine lv_bipush (v := 16) hx hb d_m_served_42 (by decide) ?_
        refine lv_irem hx hb d_m_served_44 (by decide) ?_
        refine lv_imul hx hb d_m_served_45 ?_
        refine lv_iload_n hx hb d_m_served_46 rfl (lv_at hl 2 rfl) ?_
        refine lv_iadd hx hb d_m_served_47 ?_
        refine m_ild hx hb hK hP wM_17 (3 * ((n0 - 1 - j) % 16) + k) (by omega) (by decide) (m_at2 hO.1 (by omega) hjn) d_m_served_48 ?_
        exact hret _ _ _ 49 (μ 17 (3 * ((n0 - 1 - j) % 16) + k)) μ hP hD hS rfl d_m_served_49 (by simp only [g_served, c_1, hclj, c_2, c_3, hclk, enn, ↓reduceIte]) (rfl)
      · refine lv_iconst (v := (-1)) hx hb d_m_served_27 (by decide) ?_
        exact hret _ _ _ 28 (-1) μ hP hD hS rfl d_m_served_28 (by simp only [g_served, c_1, hclj, c_2, c_3, ↓reduceIte]) (rfl)
