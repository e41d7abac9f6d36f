set_option maxHeartbeats 4000000 in
set_option maxRecDepth 100000 in
theorem c_set (l : Launch) (D : va_G) (a : Nat → Nat) (ca : Nat → ClassId) (σ : St) (t : Int32) (src : Int32) (per : Int32) (b : Bool) : KI l D (tX ca) (wX a ca) rm_set y_set b_set 6 .boolean [.ref (a 0), .int t, .int src, .int per, .int (bI b)] σ ((f_set σ t src per b).1) ((f_set σ t src per b).2) := by
  refine KI.of (by decide) (Nat.le_of_ble_eq_true rfl) ?_
  intro p e s m args below meth c A Q ls hx hb hml hown hG hK hN hA hP hD hS hl hret
  have hown : s.vm.findClass R_X = some m.cls := hown
  have hl : lv_has ls 6 [(0, .ref (a 0)), (1, .int t), (2, .int src), (3, .int per), (4, .int (bI b))] := hl
  refine lv_iload_n hx hb d_set_0 rfl (lv_at hl 1 rfl) ?_
  refine k_cS (rest := []) hx hb hml hown hG hK hN hA hP hD hS (c_isTimer l D a ca σ t) ok_isTimer so_isTimer L_X_37 ⟨rfl, rfl, by decide, by decide⟩ rfl hl.1 rfl (Nat.le_of_ble_eq_true rfl) ⟨Nat.zero_le _, Nat.zero_le _⟩ d_set_1 (fun H locs hP hD hS => ?_)
  refine lv_if_eq (tgt := 26) hx hb d_set_4 (by decide) (fun c_1 => ?_) (fun c_1 => ?_)
  · refine lv_iconst (v := 0) hx hb d_set_26 (by decide) ?_
    exact hret _ _ _ 27 0 σ hP hD hS rfl d_set_27 (by simp only [f_set, c_1, ↓reduceIte]) (by simp only [f_set, c_1, ↓reduceIte])
  · obtain ⟨j, hj, rfl⟩ := isTimer_in c_1
    have hcl : (nI j).toNatClampNeg = j := nI_clamp (by omega)
    refine lv_iload_n hx hb d_set_7 rfl (lv_at hl 1 rfl) ?_
    refine lv_iload_n hx hb d_set_8 rfl (lv_at hl 2 rfl) ?_
    refine k_cS (rest := []) hx hb hml hown hG hK hN hA hP hD hS (c_isSource l D a ca σ (nI j) src) ok_isSource so_isSource L_X_41 ⟨rfl, rfl, by decide, by decide⟩ rfl hl.1 rfl (Nat.le_of_ble_eq_true rfl) ⟨Nat.zero_le _, Nat.zero_le _⟩ d_set_9 (fun H locs hP hD hS => ?_)
    refine lv_if_eq (tgt := 26) hx hb d_set_12 (by decide) (fun c_2 => ?_) (fun c_2 => ?_)
    · refine lv_iconst (v := 0) hx hb d_set_26 (by decide) ?_
      exact hret _ _ _ 27 0 σ hP hD hS rfl d_set_27 (by simp only [f_set, c_1, hcl, c_2, ↓reduceIte]) (by simp only [f_set, c_1, hcl, c_2, ↓reduceIte])
    · refine lv_iload_n hx hb d_set_15 rfl (lv_at hl 3 rfl) ?_
      refine lv_iconst (v := 1) hx hb d_set_16 (by decide) ?_
      refine lv_icmp_lt (tgt := 26) hx hb d_set_17 (by decide) (fun c_3 => ?_) (fun c_3 => ?_)
      · refine lv_iconst (v := 0) hx hb d_set_26 (by decide) ?_
        exact hret _ _ _ 27 0 σ hP hD hS rfl d_set_27 (by simp only [f_set, c_1, hcl, c_2, c_3, ↓reduceIte]) (by simp only [f_set, c_1, hcl, c_2, c_3, ↓reduceIte])
      · refine lv_iload_n hx hb d_set_20 rfl (lv_at hl 3 rfl) ?_
        refine lv_ldc (v := 65535) hx hb hown (hG _ L_X_45) d_set_21 ?_
        refine lv_icmp_le (tgt := 28) hx hb d_set_23 (by decide) (fun c_4 => ?_) (fun c_4 => ?_)
        · refine lv_aload_n hx hb d_set_28 rfl (lv_at hl 0 rfl) ?_
          refine va_get (v := .ref (a 17)) hx hb hG i_X hown hK hP 0 wX_X rfl 0 (by decide) (hG _ L_X_11) (fun _ h9 => h9) rfl d_set_29 ?_
          refine lv_iload_n hx hb d_set_32 rfl (lv_at hl 1 rfl) ?_
          refine x_aldT hx hb hK hP j hj d_set_33 ?_
          refine lv_astore (lv' := [(5, .ref (a (5 + j))), (0, .ref (a 0)), (1, .int (nI j)), (2, .int src), (3, .int per), (4, .int (bI b))]) hx hb d_set_34 hl (by decide) rfl (fun ls hl => ?_)
          refine lv_aload hx hb d_set_36 (lv_at hl 0 rfl) ?_
          refine lv_iload_n hx hb d_set_38 rfl (lv_at hl 3 rfl) ?_
          refine va_putN (ty := .int) (v := .int src) hx hb hG i_T ft_T ft_T_ok n_T hown hK hP hD hS (5 + j) (wX_T hj) rfl 2 (by decide) (hN.use L_X_46) (fun _ h9 => h9) rfl (by decide +kernel) (rfl) (rfl) (Nat.le_of_ble_eq_true rfl) d_set_39 (fun H locs hP hD hS => ?_)
          rw [wX_putT hj (by decide)] at hP hD
          refine lv_aload hx hb d_set_42 (lv_at hl 0 rfl) ?_
          refine lv_iload_n hx hb d_set_44 rfl (lv_at hl 4 rfl) ?_
          refine va_putN (ty := .int) (v := .int per) hx hb hG i_T ft_T ft_T_ok n_T hown hK hP hD hS (5 + j) (wX_T hj) rfl 0 (by decide) (hN.use L_X_49) (fun _ h9 => h9) rfl (by decide +kernel) (rfl) (rfl) (Nat.le_of_ble_eq_true rfl) d_set_45 (fun H locs hP hD hS => ?_)
          rw [wX_putT hj (by decide)] at hP hD
          refine lv_aload hx hb d_set_48 (lv_at hl 0 rfl) ?_
          refine lv_iload_n hx hb d_set_50 rfl (lv_at hl 4 rfl) ?_
          refine va_putN (ty := .int) (v := .int per) hx hb hG i_T ft_T ft_T_ok n_T hown hK hP hD hS (5 + j) (wX_T hj) rfl 1 (by decide) (hN.use L_X_52) (fun _ h9 => h9) rfl (by decide +kernel) (rfl) (rfl) (Nat.le_of_ble_eq_true rfl) d_set_51 (fun H locs hP hD hS => ?_)
          rw [wX_putT hj (by decide)] at hP hD
          refine lv_aload hx hb d_set_54 (lv_at hl 0 rfl) ?_
          refine lv_iload hx hb d_set_56 (lv_at hl 5 rfl) ?_
          refine va_putN (ty := .boolean) (v := .int (bI b)) hx hb hG i_T ft_T ft_T_ok n_T hown hK hP hD hS (5 + j) (wX_T hj) rfl 3 (by decide) (hN.use L_X_55) (fun _ h9 => h9) rfl (by decide +kernel) (bI_n _) (bI_f _) (Nat.le_of_ble_eq_true rfl) d_set_58 (fun H locs hP hD hS => ?_)
          rw [wX_putT hj (by decide)] at hP hD
          refine lv_aload hx hb d_set_61 (lv_at hl 0 rfl) ?_
          refine lv_iconst (v := 0) hx hb d_set_63 (by decide) ?_
          refine va_putN (ty := .boolean) (v := .int 0) hx hb hG i_T ft_T ft_T_ok n_T hown hK hP hD hS (5 + j) (wX_T hj) rfl 4 (by decide) (hN.use L_X_59) (fun _ h9 => h9) rfl (by decide +kernel) (rfl) (rfl) (Nat.le_of_ble_eq_true rfl) d_set_64 (fun H locs hP hD hS => ?_)
          rw [wX_putT hj (by decide)] at hP hD
          refine lv_iconst (v := 1) hx hb d_set_67 (by decide) ?_
          exact hret _ _ _ 68 1 (up2 (up2 (up2 (up2 (up2 σ (5 + j) 2 src) (5 + j) 0 per) (5 + j) 1 per) (5 + j) 3 (bI b)) (5 + j) 4 0) hP hD hS rfl d_set_68 (by simp only [f_set, c_1, hcl, c_2, c_3, c_4, ↓reduceIte]) (by simp only [f_set, c_1, hcl, c_2, c_3, c_4, ↓reduceIte])
        · refine lv_iconst (v := 0) hx hb d_set_26 (by decide) ?_
          exact hret _ _ _ 27 0 σ hP hD hS rfl d_set_27 (by simp only [f_set, c_1, hcl, c_2, c_3, c_4, ↓reduceIte]) (by simp only [f_set, c_1, hcl, c_2, c_3, c_4, ↓reduceIte])
set_option maxHeartbeats 4000000 in
set_option maxRecDepth 100000 in
theorem c_turn (l : Launch) (D : va_G) (a : Nat → Nat) (ca : Nat → ClassId) (σ : St) (t : Int32) (b : Bool) : KI l D (tX ca) (wX a ca) rm_turn y_turn b_turn 3 .boolean [.ref (a 0), .int t, .int (bI b)] σ ((f_turn σ t b).1) ((f_turn σ t b).2) := by
  refine KI.of (by decide) (Nat.le_of_ble_eq_true rfl) ?_
  intro p e s m args below meth c A Q ls hx hb hml hown hG hK hN hA hP hD hS hl hret
  have hown : s.vm.findClass R_X = some m.cls := hown
  have hl : lv_has ls 3 [(0, .ref (a 0)), (1, .int t), (2, .int (bI b))] := hl
  refine lv_iload_n hx hb d_turn_0 rfl (lv_at hl 1 rfl) ?_
  refine k_cS (rest := []) hx hb hml hown hG hK hN hA hP hD hS (c_isTimer l D a ca σ t) ok_isTimer so_isTimer L_X_37 ⟨rfl, rfl, by decide, by decide⟩ rfl hl.1 rfl (Nat.le_of_ble_eq_true rfl) ⟨Nat.zero_le _, Nat.zero_le _⟩ d_turn_1 (fun H locs hP hD hS => ?_)
  refine lv_if_eq (tgt := 20) hx hb d_turn_4 (by decide) (fun c_1 => ?_) (fun c_1 => ?_)
  · refine lv_iconst (v := 0) hx hb d_turn_20 (by decide) ?_
    exact hret _ _ _ 21 0 σ hP hD hS rfl d_turn_21 (by simp only [f_turn, c_1, ↓reduceIte]) (by simp only [f_turn, c_1, ↓reduceIte])
  · obtain ⟨j, hj, rfl⟩ := isTimer_in c_1
    have hcl : (nI j).toNatClampNeg = j := nI_clamp (by omega)
    refine lv_aload_n hx hb d_turn_7 rfl (lv_at hl 0 rfl) ?_
    refine va_get (v := .ref (a 17)) hx hb hG i_X hown hK hP 0 wX_X rfl 0 (by decide) (hG _ L_X_11) (fun _ h9 => h9) rfl d_turn_8 ?_
    refine lv_iload_n hx hb d_turn_11 rfl (lv_at hl 1 rfl) ?_
    refine x_aldT hx hb hK hP j hj d_turn_12 ?_
    refine va_getN (v := .int (σ (5 + j) 4)) hx hb hG i_T hown hK hP (5 + j) (wX_T hj) rfl 4 (by decide) (hN.use L_X_59) (fun _ h9 => h9) rfl d_turn_13 ?_
    refine lv_iload_n hx hb d_turn_16 rfl (lv_at hl 2 rfl) ?_
    refine lv_icmp_ne (tgt := 22) hx hb d_turn_17 (by decide) (fun c_2 => ?_) (fun c_2 => ?_)
    · refine lv_aload_n hx hb d_turn_22 rfl (lv_at hl 0 rfl) ?_
      refine va_get (v := .ref (a 17)) hx hb hG i_X hown hK hP 0 wX_X rfl 0 (by decide) (hG _ L_X_11) (fun _ h9 => h9) rfl d_turn_23 ?_
      refine lv_iload_n hx hb d_turn_26 rfl (lv_at hl 1 rfl) ?_
      refine x_aldT hx hb hK hP j hj d_turn_27 ?_
      refine lv_iload_n hx hb d_turn_28 rfl (lv_at hl 2 rfl) ?_
      refine va_putN (ty := .boolean) (v := .int (bI b)) hx hb hG i_T ft_T ft_T_ok n_T hown hK hP hD hS (5 + j) (wX_T hj) rfl 4 (by decide) (hN.use L_X_59) (fun _ h9 => h9) rfl (by decide +kernel) (bI_n _) (bI_f _) (Nat.le_of_ble_eq_true rfl) d_turn_29 (fun H locs hP hD hS => ?_)
      rw [wX_putT hj (by decide)] at hP hD
      refine lv_iconst (v := 1) hx hb d_turn_32 (by decide) ?_
      exact hret _ _ _ 33 1 (up2 σ (5 + j) 4 (bI b)) hP hD hS rfl d_turn_33 (by simp only [f_turn, c_1, hcl, c_2, ↓reduceIte]) (by simp only [f_turn, c_1, hcl, c_2, ↓reduceIte])
    · refine lv_iconst (v := 0) hx hb d_turn_20 (by decide) ?_
      exact hret _ _ _ 21 0 σ hP hD hS rfl d_turn_21 (by simp only [f_turn, c_1, hcl, c_2, ↓reduceIte]) (by simp only [f_turn, c_1, hcl, c_2, ↓reduceIte])
set_option maxHeartbeats 4000000 in
set_option maxRecDepth 100000 in
theorem c_gate (l : Launch) (D : va_G) (a : Nat → Nat) (ca : Nat → ClassId) (σ : St) (g : Int32) (mask : Int32) (delay : Int32) : KI l D (tX ca) (wX a ca) rm_gate y_gate b_gate 4 .boolean [.ref (a 0), .int g, .int mask, .int delay] σ ((f_gate σ g mask delay).1) ((f_gate σ g mask delay).2) := by
  refine KI.of (by decide) (Nat.le_of_ble_eq_true rfl) ?_
  intro p e s m args below meth c A Q ls hx hb hml hown hG hK hN hA hP hD hS hl hret
  have hown : s.vm.findClass R_X = some m.cls := hown
  have hl : lv_has ls 4 [(0, .ref (a 0)), (1, .int g), (2, .int mask), (3, .int delay)] := hl
  refine lv_iload_n hx hb d_gate_0 rfl (lv_at hl 1 rfl) ?_
  refine k_cS (rest := []) hx hb hml hown hG hK hN hA hP hD hS (c_isGate l D a ca σ g) ok_isGate so_isGate L_X_62 ⟨rfl, rfl, by decide, by decide⟩ rfl hl.1 rfl (Nat.le_of_ble_eq_true rfl) ⟨Nat.zero_le _, Nat.zero_le _⟩ d_gate_1 (fun H locs hP hD hS => ?_)
  refine lv_if_eq (tgt := 26) hx hb d_gate_4 (by decide) (fun c_1 => ?_) (fun c_1 => ?_)
  · refine lv_iconst (v := 0) hx hb d_gate_26 (by decide) ?_
    exact hret _ _ _ 27 0 σ hP hD hS rfl d_gate_27 (by simp only [f_gate, c_1, ↓reduceIte]) (by simp only [f_gate, c_1, ↓reduceIte])
  · obtain ⟨j, hj, rfl⟩ := isGate_in c_1
    have hcl : (nI j).toNatClampNeg = j := nI_clamp (by omega)
    refine lv_iload_n hx hb d_gate_7 rfl (lv_at hl 2 rfl) ?_
    refine k_cS (rest := []) hx hb hml hown hG hK hN hA hP hD hS (c_isBitSet l D a ca σ mask) ok_isBitSet so_isBitSet L_X_65 ⟨rfl, rfl, by decide, by decide⟩ rfl hl.1 rfl (Nat.le_of_ble_eq_true rfl) ⟨Nat.zero_le _, Nat.zero_le _⟩ d_gate_8 (fun H locs hP hD hS => ?_)
    refine lv_if_eq (tgt := 26) hx hb d_gate_11 (by decide) (fun c_2 => ?_) (fun c_2 => ?_)
    · refine lv_iconst (v := 0) hx hb d_gate_26 (by decide) ?_
      exact hret _ _ _ 27 0 σ hP hD hS rfl d_gate_27 (by simp only [f_gate, c_1, hcl, c_2, ↓reduceIte]) (by simp only [f_gate, c_1, hcl, c_2, ↓reduceIte])
    · refine lv_iload_n hx hb d_gate_14 rfl (lv_at hl 3 rfl) ?_
      refine lv_iconst (v := 1) hx hb d_gate_15 (by decide) ?_
      refine lv_icmp_lt (tgt := 26) hx hb d_gate_16 (by decide) (fun c_3 => ?_) (fun c_3 => ?_)
      · refine lv_iconst (v := 0) hx hb d_gate_26 (by decide) ?_
        exact hret _ _ _ 27 0 σ hP hD hS rfl d_gate_27 (by simp only [f_gate, c_1, hcl, c_2, c_3, ↓reduceIte]) (by simp only [f_gate, c_1, hcl, c_2, c_3, ↓reduceIte])
      · refine lv_iload_n hx hb d_gate_19 rfl (lv_at hl 3 rfl) ?_
        refine lv_sipush (v := 1000) hx hb d_gate_20 (by decide) ?_
        refine lv_icmp_le (tgt := 28) hx hb d_gate_23 (by decide) (fun c_4 => ?_) (fun c_4 => ?_)
        · refine lv_aload_n hx hb d_gate_28 rfl (lv_at hl 0 rfl) ?_
          refine va_get (v := .ref (a 18)) hx hb hG i_X hown hK hP 0 wX_X rfl 1 (by decide) (hG _ L_X_17) (fun _ h9 => h9) rfl d_gate_29 ?_
          refine lv_iload_n hx hb d_gate_32 rfl (lv_at hl 1 rfl) ?_
          refine x_aldG hx hb hK hP j hj d_gate_33 ?_
          refine lv_iload_n hx hb d_gate_34 rfl (lv_at hl 2 rfl) ?_
          refine va_putN (ty := .int) (v := .int mask) hx hb hG i_G ft_G ft_G_ok n_G hown hK hP hD hS (13 + j) (wX_G hj) rfl 0 (by decide) (hN.use L_X_68) (fun _ h9 => h9) rfl (by decide +kernel) (rfl) (rfl) (Nat.le_of_ble_eq_true rfl) d_gate_35 (fun H locs hP hD hS => ?_)
          rw [wX_putG hj (by decide)] at hP hD
          refine lv_aload_n hx hb d_gate_38 rfl (lv_at hl 0 rfl) ?_
          refine va_get (v := .ref (a 18)) hx hb hG i_X hown hK hP 0 wX_X rfl 1 (by decide) (hG _ L_X_17) (fun _ h9 => h9) rfl d_gate_39 ?_
          refine lv_iload_n hx hb d_gate_42 rfl (lv_at hl 1 rfl) ?_
          refine x_aldG hx hb hK hP j hj d_gate_43 ?_
          refine lv_iload_n hx hb d_gate_44 rfl (lv_at hl 3 rfl) ?_
          refine va_putN (ty := .int) (v := .int delay) hx hb hG i_G ft_G ft_G_ok n_G hown hK hP hD hS (13 + j) (wX_G hj) rfl 1 (by decide) (hN.use L_X_71) (fun _ h9 => h9) rfl (by decide +kernel) (rfl) (rfl) (Nat.le_of_ble_eq_true rfl) d_gate_45 (fun H locs hP hD hS => ?_)
          rw [wX_putG hj (by decide)] at hP hD
          refine lv_iconst (v := 1) hx hb d_gate_48 (by decide) ?_
          exact hret _ _ _ 49 1 (up2 (up2 σ (13 + j) 0 mask) (13 + j) 1 delay) hP hD hS rfl d_gate_49 (by simp only [f_gate, c_1, hcl, c_2, c_3, c_4, ↓reduceIte]) (by simp only [f_gate, c_1, hcl, c_2, c_3, c_4, ↓reduceIte])
        · refine lv_iconst (v := 0) hx hb d_gate_26 (by decide) ?_
          exact hret _ _ _ 27 0 σ hP hD hS rfl d_gate_27 (by simp only [f_gate, c_1, hcl, c_2, c_3, c_4, ↓reduceIte]) (by simp only [f_gate, c_1, hcl, c_2, c_3, c_4, ↓reduceIte])
set_option maxHeartbeats 4000000 in
set_option maxRecDepth 100000 in
theorem c_clear (l : Launch) (D : va_G) (a : Nat → Nat) (ca : Nat → ClassId) (σ : St) (x : Int32) : KI l D (tX ca) (wX a ca) rm_clear y_clear b_clear 4 .int [.ref (a 0), .int x] σ ((f_clear σ x).1) ((f_clear σ x).2) := by
  refine KI.of (by decide) (Nat.le_of_ble_eq_true rfl) ?_
  intro p e s m args below meth c A Q ls hx hb hml hown hG hK hN hA hP hD hS hl hret
  have hown : s.vm.findClass R_X = some m.cls := hown
  have hl : lv_has ls 4 [(0, .ref (a 0)), (1, .int x)] := hl
  refine lv_iload_n hx hb d_clear_0 rfl (lv_at hl 1 rfl) ?_
  refine k_cS (rest := []) hx hb hml hown hG hK hN hA hP hD hS (c_isBitSet l D a ca σ x) ok_isBitSet so_isBitSet L_X_65 ⟨rfl, rfl, by decide, by decide⟩ rfl hl.1 rfl (Nat.le_of_ble_eq_true rfl) ⟨Nat.zero_le _, Nat.zero_le _⟩ d_clear_1 (fun H locs hP hD hS => ?_)
  refine lv_if_ne (tgt := 9) hx hb d_clear_4 (by decide) (fun c_1 => ?_) (fun c_1 => ?_)
  · refine lv_aload_n hx hb d_clear_9 rfl (lv_at hl 0 rfl) ?_
    refine va_get (v := .int (σ 0 3)) hx hb hG i_X hown hK hP 0 wX_X rfl 3 (by decide) (hG _ L_X_28) (fun _ h9 => h9) rfl d_clear_10 ?_
    refine lv_iload_n hx hb d_clear_13 rfl (lv_at hl 1 rfl) ?_
    refine lv_iand hx hb d_clear_14 ?_
    refine lv_istore_n (lv' := [(2, .int ((σ 0 3) &&& x)), (0, .ref (a 0)), (1, .int x)]) hx hb d_clear_15 rfl hl (by decide) rfl (fun ls hl => ?_)
    refine lv_iconst (v := 0) hx hb d_clear_16 (by decide) ?_
    refine lv_istore_n (lv' := [(3, .int 0), (2, .int ((σ 0 3) &&& x)), (0, .ref (a 0)), (1, .int x)]) hx hb d_clear_17 rfl hl (by decide) rfl (fun ls hl => ?_)
    have loop : ∀ (n : Nat) (t : Nat) (σ1 : St), (t + n = 8) → (clrL (σ 0 3 &&& x) n t σ1 = clrL (σ 0 3 &&& x) 8 0 σ) → ∀ (H : Heap) (locs : List Loc) (ls : Array Slot), va_P D classes (wX a ca σ1) H → va_D A (wX a ca σ1) → va_S A s.heap H locs → lv_has ls 4 [(3, .int (nI t)), (2, .int (σ 0 3 &&& x)), (1, .int x), (0, .ref (a 0))] → W p l e rm_clear s m args below meth c H locs 0 0 Q (F0 m 18 ls []) := by
      intro n
      induction n with
      | zero =>
        intro t σ1 ht hrel H locs ls hP hD hS hl
        refine lv_iload_n hx hb d_clear_18 rfl (lv_at hl 0 rfl) ?_
        refine lv_bipush (v := 8) hx hb d_clear_19 (by decide) ?_
        refine lv_icmp_ge (tgt := 53) hx hb d_clear_21 (by decide) (fun c_2 => ?_) (fun c_2 => absurd (nI_le (a := 8) (b := t) (by omega) (by omega)) c_2)
        refine lv_aload_n hx hb d_clear_53 rfl (lv_at hl 3 rfl) ?_
        refine lv_dup hx hb d_clear_54 rfl ?_
        refine va_get (v := .int (σ1 0 3)) hx hb hG i_X hown hK hP 0 wX_X rfl 3 (by decide) (hG _ L_X_28) (fun _ h9 => h9) rfl d_clear_55 ?_
        refine lv_iload_n hx hb d_clear_58 rfl (lv_at hl 1 rfl) ?_
        refine lv_iconst (v := (-1)) hx hb d_clear_59 (by decide) ?_
        refine lv_ixor hx hb d_clear_60 ?_
        refine lv_iand hx hb d_clear_61 ?_
        refine va_put (ty := .int) (v := .int ((σ1 0 3) &&& ((σ 0 3 &&& x) ^^^ (-1)))) hx hb hG i_X ft_X ft_X_ok n_X hown hK hP hD hS 0 wX_X rfl 3 (by decide) (hG _ L_X_28) (fun _ h9 => h9) rfl (by decide +kernel) (rfl) (rfl) (Nat.le_of_ble_eq_true rfl) d_clear_62 (fun H locs hP hD hS => ?_)
        rw [wX_putX3] at hP hD
        refine lv_iload_n hx hb d_clear_65 rfl (lv_at hl 1 rfl) ?_
        exact hret _ _ _ 66 (σ 0 3 &&& x) (up2 σ1 0 3 ((σ1 0 3) &&& ((σ 0 3 &&& x) ^^^ (-1)))) hP hD hS rfl d_clear_66 (by simp only [f_clear, c_1, c_2, ↓reduceIte]) (by have hrel : σ1 = _ := hrel; simp only [f_clear, c_1, c_2, ↓reduceIte]; rw [hrel])
      | succ n ih =>
        intro t σ1 ht hrel H locs ls hP hD hS hl
        refine lv_iload_n hx hb d_clear_18 rfl (lv_at hl 0 rfl) ?_
        refine lv_bipush (v := 8) hx hb d_clear_19 (by decide) ?_
        refine lv_icmp_ge (tgt := 53) hx hb d_clear_21 (by decide) (fun c_3 => absurd c_3 (nI_ge (a := t) (b := 8) (by omega) (by omega))) (fun c_3 => ?_)
        refine lv_iload_n hx hb d_clear_24 rfl (lv_at hl 1 rfl) ?_
        refine lv_iconst (v := 1) hx hb d_clear_25 (by decide) ?_
        refine lv_iload_n hx hb d_clear_26 rfl (lv_at hl 0 rfl) ?_
        refine lv_ishl hx hb d_clear_27 ?_
        refine lv_iand hx hb d_clear_28 ?_
        refine lv_if_eq (tgt := 47) hx hb d_clear_29 (by decide) (fun c_4 => ?_) (fun c_4 => ?_)
        · refine lv_iinc (v := nI (t + 1)) (lv' := [(3, .int (nI (t + 1))), (2, .int (σ 0 3 &&& x)), (1, .int x), (0, .ref (a 0))]) hx hb d_clear_47 hl (k := 0) rfl (nI_1 t) (by decide) rfl (fun ls hl => ?_)
          refine lv_goto (tgt := 18) hx hb d_clear_50 (by decide) ?_
          exact ih (t + 1) σ1 (by omega) (by rw [← hrel]; simp only [clrL, bit1, c_1, c_3, c_4, ↓reduceIte]) _ _ _ hP hD hS (lv_sub hl [0, 1, 2, 3] rfl)
        · refine lv_aload_n hx hb d_clear_32 rfl (lv_at hl 3 rfl) ?_
          refine va_get (v := .ref (a 17)) hx hb hG i_X hown hK hP 0 wX_X rfl 0 (by decide) (hG _ L_X_11) (fun _ h9 => h9) rfl d_clear_33 ?_
          refine lv_iload_n hx hb d_clear_36 rfl (lv_at hl 0 rfl) ?_
          refine x_aldT hx hb hK hP t (show t < 8 by omega) d_clear_37 ?_
          refine lv_dup hx hb d_clear_38 rfl ?_
          refine va_getN (v := .int (σ1 (5 + t) 8)) hx hb hG i_T hown hK hP (5 + t) (wX_T (show t < 8 by omega)) rfl 8 (by decide) (hN.use L_X_74) (fun _ h9 => h9) rfl d_clear_39 ?_
          refine lv_iconst (v := 1) hx hb d_clear_42 (by decide) ?_
          refine lv_iadd hx hb d_clear_43 ?_
          refine va_putN (ty := .int) (v := .int ((σ1 (5 + t) 8) + 1)) hx hb hG i_T ft_T ft_T_ok n_T hown hK hP hD hS (5 + t) (wX_T (show t < 8 by omega)) rfl 8 (by decide) (hN.use L_X_74) (fun _ h9 => h9) rfl (by decide +kernel) (rfl) (rfl) (Nat.le_of_ble_eq_true rfl) d_clear_44 (fun H locs hP hD hS => ?_)
          rw [wX_putT (show t < 8 by omega) (by decide)] at hP hD
          refine lv_iinc (v := nI (t + 1)) (lv' := [(3, .int (nI (t + 1))), (2, .int (σ 0 3 &&& x)), (1, .int x), (0, .ref (a 0))]) hx hb d_clear_47 hl (k := 0) rfl (nI_1 t) (by decide) rfl (fun ls hl => ?_)
          refine lv_goto (tgt := 18) hx hb d_clear_50 (by decide) ?_
          exact ih (t + 1) (up2 σ1 (5 + t) 8 ((σ1 (5 + t) 8) + 1)) (by omega) (by rw [← hrel]; simp only [clrL, bit1, c_1, c_3, c_4, ↓reduceIte]) _ _ _ hP hD hS (lv_sub hl [0, 1, 2, 3] rfl)
    exact loop 8 0 σ (by omega) rfl _ _ _ hP hD hS (lv_sub hl [0, 1, 3, 2] rfl)
  · refine lv_iconst (v := (-1)) hx hb d_clear_7 (by decide) ?_
    exact hret _ _ _ 8 (-1) σ hP hD hS rfl d_clear_8 (by simp only [f_clear, c_1, ↓reduceIte]) (by simp only [f_clear, c_1, ↓reduceIte])
set_option maxHeartbeats 4000000 in
set_option maxRecDepth 100000 in
theorem c_advance (l : Launch) (D : va_G) (a : Nat → Nat) (ca : Nat → ClassId) (σ : St) (n0 : Int32) (hI : xInv σ) : KI l D (tX ca) (wX a ca) rm_advance y_advance b_advance 4 .int [.ref (a 0), .int n0] σ ((f_advance σ n0).1) ((f_advance σ n0).2) := by
  refine KI.of (by decide) (Nat.le_of_ble_eq_true rfl) ?_
  intro p e s m args below meth c A Q ls hx hb hml hown hG hK hN hA hP hD hS hl hret
  have hown : s.vm.findClass R_X = some m.cls := hown
  have hl : lv_has ls 4 [(0, .ref (a 0)), (1, .int n0)] := hl
  refine lv_iload_n hx hb d_advance_0 rfl (lv_at hl 1 rfl) ?_
  refine k_cS (rest := []) hx hb hml hown hG hK hN hA hP hD hS (c_isTickCount l D a ca σ n0) ok_isTickCount so_isTickCount L_X_77 ⟨rfl, rfl, by decide, by decide⟩ rfl hl.1 rfl (Nat.le_of_ble_eq_true rfl) ⟨Nat.zero_le _, Nat.zero_le _⟩ d_advance_1 (fun H locs hP hD hS => ?_)
  refine lv_if_ne (tgt := 9) hx hb d_advance_4 (by decide) (fun c_1 => ?_) (fun c_1 => ?_)
  · obtain ⟨j, hj, rfl⟩ := isTick_in c_1
    have hcl : (nI j).toNatClampNeg = j := nI_clamp (by omega)
    refine lv_iconst (v := 0) hx hb d_advance_9 (by decide) ?_
    refine lv_istore_n (lv' := [(2, .int 0), (0, .ref (a 0)), (1, .int (nI j))]) hx hb d_advance_10 rfl hl (by decide) rfl (fun ls hl => ?_)
    refine lv_iconst (v := 0) hx hb d_advance_11 (by decide) ?_
    refine lv_istore_n (lv' := [(3, .int 0), (2, .int 0), (0, .ref (a 0)), (1, .int (nI j))]) hx hb d_advance_12 rfl hl (by decide) rfl (fun ls hl => ?_)
    have loop : ∀ (n : Nat) (i : Nat) (sv : Int32) (σ1 : St), (i + n = j) → (xInv σ1) → (advL n sv σ1 = advL j 0 σ) → ∀ (H : Heap) (locs : List Loc) (ls : Array Slot), va_P D classes (wX a ca σ1) H → va_D A (wX a ca σ1) → va_S A s.heap H locs → lv_has ls 4 [(3, .int (nI i)), (2, .int sv), (1, .int (nI j)), (0, .ref (a 0))] → W p l e rm_advance s m args below meth c H locs 0 0 Q (F0 m 13 ls []) := by
      intro n
      induction n with
      | zero =>
        intro i sv σ1 hi hI1 hrel H locs ls hP hD hS hl
        refine lv_iload_n hx hb d_advance_13 rfl (lv_at hl 0 rfl) ?_
        refine lv_iload_n hx hb d_advance_14 rfl (lv_at hl 2 rfl) ?_
        refine lv_icmp_ge (tgt := 31) hx hb d_advance_15 (by decide) (fun c_2 => ?_) (fun c_2 => absurd (nI_le (a := j) (b := i) (by omega) (by omega)) c_2)
        refine lv_iload_n hx hb d_advance_31 rfl (lv_at hl 1 rfl) ?_
        exact hret _ _ _ 32 sv σ1 hP hD hS rfl d_advance_32 (by simp only [f_advance, c_1, hcl, c_2, ↓reduceIte]; rw [← hrel]; rfl) (by simp only [f_advance, c_1, hcl, c_2, ↓reduceIte]; rw [← hrel]; rfl)
      | succ n ih =>
        intro i sv σ1 hi hI1 hrel H locs ls hP hD hS hl
        refine lv_iload_n hx hb d_advance_13 rfl (lv_at hl 0 rfl) ?_
        refine lv_iload_n hx hb d_advance_14 rfl (lv_at hl 2 rfl) ?_
        refine lv_icmp_ge (tgt := 31) hx hb d_advance_15 (by decide) (fun c_3 => absurd c_3 (nI_ge (a := i) (b := j) (by omega) (by omega))) (fun c_3 => ?_)
        refine lv_iload_n hx hb d_advance_18 rfl (lv_at hl 1 rfl) ?_
        refine lv_aload_n hx hb d_advance_19 rfl (lv_at hl 3 rfl) ?_
        refine k_cV (rest := [.int sv]) hx hb hml hown hG hK hN hA hP hD hS (c_tick l D a ca σ1 hI1) ok_tick io_tick L_X_80 ⟨rfl, rfl, by decide, by decide⟩ 0 wX_X rfl rfl hl.1 rfl (Nat.le_of_ble_eq_true rfl) ⟨Nat.zero_le _, Nat.zero_le _⟩ d_advance_20 (fun H locs hP hD hS => ?_)
        refine lv_iadd hx hb d_advance_23 ?_
        refine lv_istore_n (lv' := [(2, .int (sv + ((f_tick σ1).1))), (3, .int (nI i)), (1, .int (nI j)), (0, .ref (a 0))]) hx hb d_advance_24 rfl hl (by decide) rfl (fun ls hl => ?_)
        refine lv_iinc (v := nI (i + 1)) (lv' := [(3, .int (nI (i + 1))), (2, .int (sv + ((f_tick σ1).1))), (1, .int (nI j)), (0, .ref (a 0))]) hx hb d_advance_25 hl (k := 1) rfl (nI_1 i) (by decide) rfl (fun ls hl => ?_)
        refine lv_goto (tgt := 13) hx hb d_advance_28 (by decide) ?_
        exact ih (i + 1) (sv + ((f_tick σ1).1)) ((f_tick σ1).2) (by omega) (tick_inv hI1) (by rw [← hrel]; simp only [advL, c_1, hcl, c_3, ↓reduceIte]) _ _ _ hP hD hS (lv_sub hl [0, 1, 2, 3] rfl)
    exact loop j 0 0 σ (by omega) hI rfl _ _ _ hP hD hS (lv_sub hl [0, 1, 3, 2] rfl)
  · refine lv_iconst (v := (-1)) hx hb d_advance_7 (by decide) ?_
    exact hret _ _ _ 8 (-1) σ hP hD hS rfl d_advance_8 (by simp only [f_advance, c_1, ↓reduceIte]) (by simp only [f_advance, c_1, ↓reduceIte])
set_option maxHeartbeats 4000000 in
set_option maxRecDepth 100000 in
theorem c_next (l : Launch) (D : va_G) (a : Nat → Nat) (ca : Nat → ClassId) (σ : St) (n0 : Int32) (hI : xInv σ) : KI l D (tX ca) (wX a ca) rm_next y_next b_next 3 .int [.ref (a 0), .int n0] σ ((f_next σ n0).1) ((f_next σ n0).2) := by
  refine KI.of (by decide) (Nat.le_of_ble_eq_true rfl) ?_
  intro p e s m args below meth c A Q ls hx hb hml hown hG hK hN hA hP hD hS hl hret
  have hown : s.vm.findClass R_X = some m.cls := hown
  have hl : lv_has ls 3 [(0, .ref (a 0)), (1, .int n0)] := hl
  refine lv_iload_n hx hb d_next_0 rfl (lv_at hl 1 rfl) ?_
  refine k_cS (rest := []) hx hb hml hown hG hK hN hA hP hD hS (c_isTickCount l D a ca σ n0) ok_isTickCount so_isTickCount L_X_77 ⟨rfl, rfl, by decide, by decide⟩ rfl hl.1 rfl (Nat.le_of_ble_eq_true rfl) ⟨Nat.zero_le _, Nat.zero_le _⟩ d_next_1 (fun H locs hP hD hS => ?_)
  refine lv_if_ne (tgt := 9) hx hb d_next_4 (by decide) (fun c_1 => ?_) (fun c_1 => ?_)
  · obtain ⟨j, hj, rfl⟩ := isTick_in c_1
    have hcl : (nI j).toNatClampNeg = j := nI_clamp (by omega)
    refine lv_iconst (v := 0) hx hb d_next_9 (by decide) ?_
    refine lv_istore_n (lv' := [(2, .int 0), (0, .ref (a 0)), (1, .int (nI j))]) hx hb d_next_10 rfl hl (by decide) rfl (fun ls hl => ?_)
    have loop : ∀ (n : Nat) (i : Nat) (σ1 : St), (i + n = j) → (xInv σ1) → (nxtL (nI j) n i σ1 = nxtL (nI j) j 0 σ) → ∀ (H : Heap) (locs : List Loc) (ls : Array Slot), va_P D classes (wX a ca σ1) H → va_D A (wX a ca σ1) → va_S A s.heap H locs → lv_has ls 3 [(2, .int (nI i)), (1, .int (nI j)), (0, .ref (a 0))] → W p l e rm_next s m args below meth c H locs 0 0 Q (F0 m 11 ls []) := by
      intro n
      induction n with
      | zero =>
        intro i σ1 hi hI1 hrel H locs ls hP hD hS hl
        refine lv_iload_n hx hb d_next_11 rfl (lv_at hl 0 rfl) ?_
        refine lv_iload_n hx hb d_next_12 rfl (lv_at hl 1 rfl) ?_
        refine lv_icmp_ge (tgt := 33) hx hb d_next_13 (by decide) (fun c_2 => ?_) (fun c_2 => absurd (nI_le (a := j) (b := i) (by omega) (by omega)) c_2)
        refine lv_iload_n hx hb d_next_33 rfl (lv_at hl 1 rfl) ?_
        exact hret _ _ _ 34 (nI j) σ1 hP hD hS rfl d_next_34 (by simp only [f_next, c_1, hcl, c_2, ↓reduceIte]; rw [← hrel]; simp only [nxtL, c_1, hcl, c_2, ↓reduceIte]) (by simp only [f_next, c_1, hcl, c_2, ↓reduceIte]; rw [← hrel]; simp only [nxtL, c_1, hcl, c_2, ↓reduceIte])
      | succ n ih =>
        intro i σ1 hi hI1 hrel H locs ls hP hD hS hl
        refine lv_iload_n hx hb d_next_11 rfl (lv_at hl 0 rfl) ?_
        refine lv_iload_n hx hb d_next_12 rfl (lv_at hl 1 rfl) ?_
        refine lv_icmp_ge (tgt := 33) hx hb d_next_13 (by decide) (fun c_3 => absurd c_3 (nI_ge (a := i) (b := j) (by omega) (by omega))) (fun c_3 => ?_)
        refine lv_aload_n hx hb d_next_16 rfl (lv_at hl 2 rfl) ?_
        refine k_cV (rest := []) hx hb hml hown hG hK hN hA hP hD hS (c_tick l D a ca σ1 hI1) ok_tick io_tick L_X_80 ⟨rfl, rfl, by decide, by decide⟩ 0 wX_X rfl rfl hl.1 rfl (Nat.le_of_ble_eq_true rfl) ⟨Nat.zero_le _, Nat.zero_le _⟩ d_next_17 (fun H locs hP hD hS => ?_)
        refine lv_if_le (tgt := 27) hx hb d_next_20 (by decide) (fun c_4 => ?_) (fun c_4 => ?_)
        · refine lv_iinc (v := nI (i + 1)) (lv' := [(2, .int (nI (i + 1))), (1, .int (nI j)), (0, .ref (a 0))]) hx hb d_next_27 hl (k := 0) rfl (nI_1 i) (by decide) rfl (fun ls hl => ?_)
          refine lv_goto (tgt := 11) hx hb d_next_30 (by decide) ?_
          exact ih (i + 1) ((f_tick σ1).2) (by omega) (tick_inv hI1) (by rw [← hrel]; simp only [nxtL, c_1, hcl, c_3, c_4, ↓reduceIte]) _ _ _ hP hD hS (lv_sub hl [0, 1, 2] rfl)
        · refine lv_iload_n hx hb d_next_23 rfl (lv_at hl 0 rfl) ?_
          refine lv_iconst (v := 1) hx hb d_next_24 (by decide) ?_
          refine lv_iadd hx hb d_next_25 ?_
          exact hret _ _ _ 26 ((nI i) + 1) ((f_tick σ1).2) hP hD hS rfl d_next_26 (by simp only [f_next, c_1, hcl, c_3, c_4, ↓reduceIte]; rw [← hrel]; simp only [nxtL, c_1, hcl, c_3, c_4, ↓reduceIte]) (by simp only [f_next, c_1, hcl, c_3, c_4, ↓reduceIte]; rw [← hrel]; simp only [nxtL, c_1, hcl, c_3, c_4, ↓reduceIte])
    exact loop j 0 σ (by omega) hI rfl _ _ _ hP hD hS (lv_sub hl [0, 2, 1] rfl)
  · refine lv_iconst (v := (-1)) hx hb d_next_7 (by decide) ?_
    exact hret _ _ _ 8 (-1) σ hP hD hS rfl d_next_8 (by simp only [f_next, c_1, ↓reduceIte]) (by simp only [f_next, c_1, ↓reduceIte])
set_option maxHeartbeats 4000000 in
set_option maxRecDepth 100000 in
theorem c_timer (l : Launch) (D : va_G) (a : Nat → Nat) (ca : Nat → ClassId) (σ : St) (t : Int32) (w : Int32) : KI l D (tX ca) (wX a ca) rm_timer y_timer b_timer 3 .int [.ref (a 0), .int t, .int w] σ (f_timer σ t w) σ := by
  refine KI.of (by decide) (Nat.le_of_ble_eq_true rfl) ?_
  intro p e s m args below meth c A Q ls hx hb hml hown hG hK hN hA hP hD hS hl hret
  have hown : s.vm.findClass R_X = some m.cls := hown
  have hl : lv_has ls 3 [(0, .ref (a 0)), (1, .int t), (2, .int w)] := hl
  refine lv_iload_n hx hb d_timer_0 rfl (lv_at hl 1 rfl) ?_
  refine k_cS (rest := []) hx hb hml hown hG hK hN hA hP hD hS (c_isTimer l D a ca σ t) ok_isTimer so_isTimer L_X_37 ⟨rfl, rfl, by decide, by decide⟩ rfl hl.1 rfl (Nat.le_of_ble_eq_true rfl) ⟨Nat.zero_le _, Nat.zero_le _⟩ d_timer_1 (fun H locs hP hD hS => ?_)
  refine lv_if_ne (tgt := 9) hx hb d_timer_4 (by decide) (fun c_1 => ?_) (fun c_1 => ?_)
  · obtain ⟨j, hj, rfl⟩ := isTimer_in c_1
    have hcl : (nI j).toNatClampNeg = j := nI_clamp (by omega)
    refine lv_aload_n hx hb d_timer_9 rfl (lv_at hl 0 rfl) ?_
    refine va_get (v := .ref (a 17)) hx hb hG i_X hown hK hP 0 wX_X rfl 0 (by decide) (hG _ L_X_11) (fun _ h9 => h9) rfl d_timer_10 ?_
    refine lv_iload_n hx hb d_timer_13 rfl (lv_at hl 1 rfl) ?_
    refine x_aldT hx hb hK hP j hj d_timer_14 ?_
    refine lv_iload_n hx hb d_timer_15 rfl (lv_at hl 2 rfl) ?_
    refine k_cN (rest := []) hx hb hml hown hG hK hN hA hP hD hS (c_Tread l D a ca σ j hj w) ok_Tread io_Tread L_X_84 ⟨rfl, rfl, by decide, by decide⟩ (5 + j) (wX_T hj) rfl rfl hl.1 rfl (Nat.le_of_ble_eq_true rfl) ⟨Nat.zero_le _, Nat.zero_le _⟩ d_timer_16 (fun H locs hP hD hS => ?_)
    exact hret _ _ _ 19 (f_Tread σ (5 + j) w) σ hP hD hS rfl d_timer_19 (by simp only [f_timer, c_1, hcl, ↓reduceIte]) (rfl)
  · refine lv_iconst (v := (-1)) hx hb d_timer_7 (by decide) ?_
    exact hret _ _ _ 8 (-1) σ hP hD hS rfl d_timer_8 (by simp only [f_timer, c_1, ↓reduceIte]) (rfl)
set_option maxHeartbeats 4000000 in
set_option maxRecDepth 100000 in
theorem c_gateOf (l : Launch) (D : va_G) (a : Nat → Nat) (ca : Nat → ClassId) (σ : St) (g : Int32) (w : Int32) : KI l D (tX ca) (wX a ca) rm_gateOf y_gateOf b_gateOf 3 .int [.ref (a 0), .int g, .int w] σ (f_gateOf σ g w) σ := by
  refine KI.of (by decide) (Nat.le_of_ble_eq_true rfl) ?_
  intro p e s m args below meth c A Q ls hx hb hml hown hG hK hN hA hP hD hS hl hret
  have hown : s.vm.findClass R_X = some m.cls := hown
  have hl : lv_has ls 3 [(0, .ref (a 0)), (1, .int g), (2, .int w)] := hl
  refine lv_iload_n hx hb d_gateOf_0 rfl (lv_at hl 1 rfl) ?_
  refine k_cS (rest := []) hx hb hml hown hG hK hN hA hP hD hS (c_isGate l D a ca σ g) ok_isGate so_isGate L_X_62 ⟨rfl, rfl, by decide, by decide⟩ rfl hl.1 rfl (Nat.le_of_ble_eq_true rfl) ⟨Nat.zero_le _, Nat.zero_le _⟩ d_gateOf_1 (fun H locs hP hD hS => ?_)
  refine lv_if_ne (tgt := 9) hx hb d_gateOf_4 (by decide) (fun c_1 => ?_) (fun c_1 => ?_)
  · obtain ⟨j, hj, rfl⟩ := isGate_in c_1
    have hcl : (nI j).toNatClampNeg = j := nI_clamp (by omega)
    refine lv_aload_n hx hb d_gateOf_9 rfl (lv_at hl 0 rfl) ?_
    refine va_get (v := .ref (a 18)) hx hb hG i_X hown hK hP 0 wX_X rfl 1 (by decide) (hG _ L_X_17) (fun _ h9 => h9) rfl d_gateOf_10 ?_
    refine lv_iload_n hx hb d_gateOf_13 rfl (lv_at hl 1 rfl) ?_
    refine x_aldG hx hb hK hP j hj d_gateOf_14 ?_
    refine lv_iload_n hx hb d_gateOf_15 rfl (lv_at hl 2 rfl) ?_
    refine lv_aload_n hx hb d_gateOf_16 rfl (lv_at hl 0 rfl) ?_
    refine va_get (v := .int (σ 0 3)) hx hb hG i_X hown hK hP 0 wX_X rfl 3 (by decide) (hG _ L_X_28) (fun _ h9 => h9) rfl d_gateOf_17 ?_
    refine k_cN (rest := []) hx hb hml hown hG hK hN hA hP hD hS (c_Gread l D a ca σ j hj w (σ 0 3)) ok_Gread io_Gread L_X_88 ⟨rfl, rfl, by decide, by decide⟩ (13 + j) (wX_G hj) rfl rfl hl.1 rfl (Nat.le_of_ble_eq_true rfl) ⟨Nat.zero_le _, Nat.zero_le _⟩ d_gateOf_20 (fun H locs hP hD hS => ?_)
    exact hret _ _ _ 23 (f_Gread σ (13 + j) w (σ 0 3)) σ hP hD hS rfl d_gateOf_23 (by simp only [f_gateOf, c_1, hcl, ↓reduceIte]) (rfl)
  · refine lv_iconst (v := (-1)) hx hb d_gateOf_7 (by decide) ?_
    exact hret _ _ _ 8 (-1) σ hP hD hS rfl d_gateOf_8 (by simp only [f_gateOf, c_1, ↓reduceIte]) (rfl)
set_option maxHeartbeats 4000000 in
set_option maxRecDepth 100000 in
theorem c_look (l : Launch) (D : va_G) (a : Nat → Nat) (ca : Nat → ClassId) (σ : St) (w : Int32) : KI l D (tX ca) (wX a ca) rm_look y_look b_look 2 .int [.ref (a 0), .int w] σ (f_look σ w) σ := by
  refine KI.of (by decide) (Nat.le_of_ble_eq_true rfl) ?_
  intro p e s m args below meth c A Q ls hx hb hml hown hG hK hN hA hP hD hS hl hret
  have hown : s.vm.findClass R_X = some m.cls := hown
  have hl : lv_has ls 2 [(0, .ref (a 0)), (1, .int w)] := hl
  refine lv_iload_n hx hb d_look_0 rfl (lv_at hl 1 rfl) ?_
  rcases sw_cases w 3 (by decide) with s_1 | ⟨k_2, k_2_l, s_1⟩
  · refine lv_tableOut (tgt := 55) hx hb d_look_1 s_1 (by decide) ?_
    refine lv_iconst (v := (-1)) hx hb d_look_55 (by decide) ?_
    exact hret _ _ _ 56 (-1) σ hP hD hS rfl d_look_56 (by simp only [f_look, sw_o _ _ s_1 0 (by decide) (by decide), sw_o _ _ s_1 1 (by decide) (by decide), sw_o _ _ s_1 2 (by decide) (by decide), sw_o _ _ s_1 3 (by decide) (by decide), ↓reduceIte]) (rfl)
  · rcases (show k_2 = 0 ∨ k_2 = 1 ∨ k_2 = 2 ∨ k_2 = 3 by omega) with rfl | rfl | rfl | rfl
    · refine lv_tableIn (off := 31) (tgt := 32) hx hb d_look_1 (by rw [s_1]; decide) (by rw [s_1]; decide) (by rw [s_1]; decide) (by decide) ?_
      refine lv_aload_n hx hb d_look_32 rfl (lv_at hl 0 rfl) ?_
      refine va_get (v := .int (σ 0 3)) hx hb hG i_X hown hK hP 0 wX_X rfl 3 (by decide) (hG _ L_X_28) (fun _ h9 => h9) rfl d_look_33 ?_
      exact hret _ _ _ 36 (σ 0 3) σ hP hD hS rfl d_look_36 (by simp only [f_look, s_1, sw_0_0, ↓reduceIte]) (rfl)
    · refine lv_tableIn (off := 36) (tgt := 37) hx hb d_look_1 (by rw [s_1]; decide) (by rw [s_1]; decide) (by rw [s_1]; decide) (by decide) ?_
      refine lv_aload_n hx hb d_look_37 rfl (lv_at hl 0 rfl) ?_
      refine va_get (v := .int (σ 0 4)) hx hb hG i_X hown hK hP 0 wX_X rfl 4 (by decide) (hG _ L_X_32) (fun _ h9 => h9) rfl d_look_38 ?_
      exact hret _ _ _ 41 (σ 0 4) σ hP hD hS rfl d_look_41 (by simp only [f_look, s_1, sw_1_0, sw_1_1, ↓reduceIte]) (rfl)
    · refine lv_tableIn (off := 41) (tgt := 42) hx hb d_look_1 (by rw [s_1]; decide) (by rw [s_1]; decide) (by rw [s_1]; decide) (by decide) ?_
      refine lv_aload_n hx hb d_look_42 rfl (lv_at hl 0 rfl) ?_
      refine va_get (v := .ref (a 1)) hx hb hG i_X hown hK hP 0 wX_X rfl 2 (by decide) (hG _ L_X_24) (fun _ h9 => h9) rfl d_look_43 ?_
      refine va_getN (v := .int (σ 1 3)) hx hb hG i_H hown hK hP 1 wX_H rfl 3 (by decide) (hN.use L_X_91) (fun _ h9 => h9) rfl d_look_46 ?_
      exact hret _ _ _ 49 (σ 1 3) σ hP hD hS rfl d_look_49 (by simp only [f_look, s_1, sw_2_0, sw_2_1, sw_2_2, ↓reduceIte]) (rfl)
    · refine lv_tableIn (off := 49) (tgt := 50) hx hb d_look_1 (by rw [s_1]; decide) (by rw [s_1]; decide) (by rw [s_1]; decide) (by decide) ?_
      refine lv_aload_n hx hb d_look_50 rfl (lv_at hl 0 rfl) ?_
      refine k_cV (rest := []) hx hb hml hown hG hK hN hA hP hD hS (c_ticksToNextEnd l D a ca σ) ok_ticksToNextEnd io_ticksToNextEnd L_X_94 ⟨rfl, rfl, by decide, by decide⟩ 0 wX_X rfl rfl hl.1 rfl (Nat.le_of_ble_eq_true rfl) ⟨Nat.zero_le _, Nat.zero_le _⟩ d_look_51 (fun H locs hP hD hS => ?_)
      exact hret _ _ _ 54 (tnL σ 8 0 0) σ hP hD hS rfl d_look_54 (by simp only [f_look, s_1, sw_3_0, sw_3_1, sw_3_2, sw_3_3, ↓reduceIte]) (rfl)
set_option maxHeartbeats 4000000 in
set_option maxRecDepth 100000 in
theorem c_served (l : Launch) (D : va_G) (a : Nat → Nat) (ca : Nat → ClassId) (σ : St) (i : Int32) (w : Int32) (hI : xInv σ) : KI l D (tX ca) (wX a ca) rm_served y_served b_served 3 .int [.ref (a 0), .int i, .int w] σ (f_Hread σ i w) σ := by
  refine KI.of (by decide) (Nat.le_of_ble_eq_true rfl) ?_
  intro p e s m args below meth c A Q ls hx hb hml hown hG hK hN hA hP hD hS hl hret
  have hown : s.vm.findClass R_X = some m.cls := hown
  have hl : lv_has ls 3 [(0, .ref (a 0)), (1, .int i), (2, .int w)] := hl
  refine lv_aload_n hx hb d_served_0 rfl (lv_at hl 0 rfl) ?_
  refine va_get (v := .ref (a 1)) hx hb hG i_X hown hK hP 0 wX_X rfl 2 (by decide) (hG _ L_X_24) (fun _ h9 => h9) rfl d_served_1 ?_
  refine lv_iload_n hx hb d_served_4 rfl (lv_at hl 1 rfl) ?_
  refine lv_iload_n hx hb d_served_5 rfl (lv_at hl 2 rfl) ?_
  refine k_cN (rest := []) hx hb hml hown hG hK hN hA hP hD hS (c_Hread l D a ca σ i w hI) ok_Hread io_Hread L_X_97 ⟨rfl, rfl, by decide, by decide⟩ 1 wX_H rfl rfl hl.1 rfl (Nat.le_of_ble_eq_true rfl) ⟨Nat.zero_le _, Nat.zero_le _⟩ d_served_6 (fun H locs hP hD hS => ?_)
  exact hret _ _ _ 9 (f_Hread σ i w) σ hP hD hS rfl d_served_9 (rfl) (rfl)
