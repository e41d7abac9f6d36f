set_option maxHeartbeats 4000000 in
set_option maxRecDepth 100000 in
theorem c_isTimer (l : Launch) (D : va_G) (a : Nat → Nat) (ca : Nat → ClassId) (σ : St) (t : Int32) : KI l D (tX ca) (wX a ca) rm_isTimer y_isTimer b_isTimer 1 .boolean [.int t] σ (f_isTimer t) σ := by
  refine KI.of (by decide) (Nat.le_of_ble_eq_true rfl) ?_
  intro p e s m args below meth c A Q ls hx hb hml hown hG hK hN hA hP hD hS hl hret
  have hown : s.vm.findClass R_X = some m.cls := hown
  have hl : lv_has ls 1 [(0, .int t)] := hl
  refine lv_iload_n hx hb d_isTimer_0 rfl (lv_at hl 0 rfl) ?_
  refine lv_if_lt (tgt := 14) hx hb d_isTimer_1 (by decide) (fun c_1 => ?_) (fun c_1 => ?_)
  · refine lv_iconst (v := 0) hx hb d_isTimer_14 (by decide) ?_
    exact hret _ _ _ 15 0 σ hP hD hS rfl d_isTimer_15 (by simp only [f_isTimer, c_1, ↓reduceIte]) (rfl)
  · refine lv_iload_n hx hb d_isTimer_4 rfl (lv_at hl 0 rfl) ?_
    refine lv_bipush (v := 8) hx hb d_isTimer_5 (by decide) ?_
    refine lv_icmp_ge (tgt := 14) hx hb d_isTimer_7 (by decide) (fun c_2 => ?_) (fun c_2 => ?_)
    · refine lv_iconst (v := 0) hx hb d_isTimer_14 (by decide) ?_
      exact hret _ _ _ 15 0 σ hP hD hS rfl d_isTimer_15 (by simp only [f_isTimer, c_1, c_2, ↓reduceIte]) (rfl)
    · refine lv_iconst (v := 1) hx hb d_isTimer_10 (by decide) ?_
      refine lv_goto (tgt := 15) hx hb d_isTimer_11 (by decide) ?_
      exact hret _ _ _ 15 1 σ hP hD hS rfl d_isTimer_15 (by simp only [f_isTimer, c_1, c_2, ↓reduceIte]) (rfl)
set_option maxHeartbeats 4000000 in
set_option maxRecDepth 100000 in
theorem c_isGate (l : Launch) (D : va_G) (a : Nat → Nat) (ca : Nat → ClassId) (σ : St) (g : Int32) : KI l D (tX ca) (wX a ca) rm_isGate y_isGate b_isGate 1 .boolean [.int g] σ (f_isGate g) σ := by
  refine KI.of (by decide) (Nat.le_of_ble_eq_true rfl) ?_
  intro p e s m args below meth c A Q ls hx hb hml hown hG hK hN hA hP hD hS hl hret
  have hown : s.vm.findClass R_X = some m.cls := hown
  have hl : lv_has ls 1 [(0, .int g)] := hl
  refine lv_iload_n hx hb d_isGate_0 rfl (lv_at hl 0 rfl) ?_
  refine lv_if_lt (tgt := 13) hx hb d_isGate_1 (by decide) (fun c_1 => ?_) (fun c_1 => ?_)
  · refine lv_iconst (v := 0) hx hb d_isGate_13 (by decide) ?_
    exact hret _ _ _ 14 0 σ hP hD hS rfl d_isGate_14 (by simp only [f_isGate, c_1, ↓reduceIte]) (rfl)
  · refine lv_iload_n hx hb d_isGate_4 rfl (lv_at hl 0 rfl) ?_
    refine lv_iconst (v := 4) hx hb d_isGate_5 (by decide) ?_
    refine lv_icmp_ge (tgt := 13) hx hb d_isGate_6 (by decide) (fun c_2 => ?_) (fun c_2 => ?_)
    · refine lv_iconst (v := 0) hx hb d_isGate_13 (by decide) ?_
      exact hret _ _ _ 14 0 σ hP hD hS rfl d_isGate_14 (by simp only [f_isGate, c_1, c_2, ↓reduceIte]) (rfl)
    · refine lv_iconst (v := 1) hx hb d_isGate_9 (by decide) ?_
      refine lv_goto (tgt := 14) hx hb d_isGate_10 (by decide) ?_
      exact hret _ _ _ 14 1 σ hP hD hS rfl d_isGate_14 (by simp only [f_isGate, c_1, c_2, ↓reduceIte]) (rfl)
set_option maxHeartbeats 4000000 in
set_option maxRecDepth 100000 in
theorem c_isBitSet (l : Launch) (D : va_G) (a : Nat → Nat) (ca : Nat → ClassId) (σ : St) (x : Int32) : KI l D (tX ca) (wX a ca) rm_isBitSet y_isBitSet b_isBitSet 1 .boolean [.int x] σ (f_isBitSet x) σ := by
  refine KI.of (by decide) (Nat.le_of_ble_eq_true rfl) ?_
  intro p e s m args below meth c A Q ls hx hb hml hown hG hK hN hA hP hD hS hl hret
  have hown : s.vm.findClass R_X = some m.cls := hown
  have hl : lv_has ls 1 [(0, .int x)] := hl
  refine lv_iload_n hx hb d_isBitSet_0 rfl (lv_at hl 0 rfl) ?_
  refine lv_if_lt (tgt := 15) hx hb d_isBitSet_1 (by decide) (fun c_1 => ?_) (fun c_1 => ?_)
  · refine lv_iconst (v := 0) hx hb d_isBitSet_15 (by decide) ?_
    exact hret _ _ _ 16 0 σ hP hD hS rfl d_isBitSet_16 (by simp only [f_isBitSet, c_1, ↓reduceIte]) (rfl)
  · refine lv_iload_n hx hb d_isBitSet_4 rfl (lv_at hl 0 rfl) ?_
    refine lv_sipush (v := 255) hx hb d_isBitSet_5 (by decide) ?_
    refine lv_icmp_gt (tgt := 15) hx hb d_isBitSet_8 (by decide) (fun c_2 => ?_) (fun c_2 => ?_)
    · refine lv_iconst (v := 0) hx hb d_isBitSet_15 (by decide) ?_
      exact hret _ _ _ 16 0 σ hP hD hS rfl d_isBitSet_16 (by simp only [f_isBitSet, c_1, c_2, ↓reduceIte]) (rfl)
    · refine lv_iconst (v := 1) hx hb d_isBitSet_11 (by decide) ?_
      refine lv_goto (tgt := 16) hx hb d_isBitSet_12 (by decide) ?_
      exact hret _ _ _ 16 1 σ hP hD hS rfl d_isBitSet_16 (by simp only [f_isBitSet, c_1, c_2, ↓reduceIte]) (rfl)
set_option maxHeartbeats 4000000 in
set_option maxRecDepth 100000 in
theorem c_isTickCount (l : Launch) (D : va_G) (a : Nat → Nat) (ca : Nat → ClassId) (σ : St) (n : Int32) : KI l D (tX ca) (wX a ca) rm_isTickCount y_isTickCount b_isTickCount 1 .boolean [.int n] σ (f_isTickCount n) σ := by
  refine KI.of (by decide) (Nat.le_of_ble_eq_true rfl) ?_
  intro p e s m args below meth c A Q ls hx hb hml hown hG hK hN hA hP hD hS hl hret
  have hown : s.vm.findClass R_X = some m.cls := hown
  have hl : lv_has ls 1 [(0, .int n)] := hl
  refine lv_iload_n hx hb d_isTickCount_0 rfl (lv_at hl 0 rfl) ?_
  refine lv_if_lt (tgt := 15) hx hb d_isTickCount_1 (by decide) (fun c_1 => ?_) (fun c_1 => ?_)
  · refine lv_iconst (v := 0) hx hb d_isTickCount_15 (by decide) ?_
    exact hret _ _ _ 16 0 σ hP hD hS rfl d_isTickCount_16 (by simp only [f_isTickCount, c_1, ↓reduceIte]) (rfl)
  · refine lv_iload_n hx hb d_isTickCount_4 rfl (lv_at hl 0 rfl) ?_
    refine lv_sipush (v := 20000) hx hb d_isTickCount_5 (by decide) ?_
    refine lv_icmp_gt (tgt := 15) hx hb d_isTickCount_8 (by decide) (fun c_2 => ?_) (fun c_2 => ?_)
    · refine lv_iconst (v := 0) hx hb d_isTickCount_15 (by decide) ?_
      exact hret _ _ _ 16 0 σ hP hD hS rfl d_isTickCount_16 (by simp only [f_isTickCount, c_1, c_2, ↓reduceIte]) (rfl)
    · refine lv_iconst (v := 1) hx hb d_isTickCount_11 (by decide) ?_
      refine lv_goto (tgt := 16) hx hb d_isTickCount_12 (by decide) ?_
      exact hret _ _ _ 16 1 σ hP hD hS rfl d_isTickCount_16 (by simp only [f_isTickCount, c_1, c_2, ↓reduceIte]) (rfl)
set_option maxHeartbeats 4000000 in
set_option maxRecDepth 100000 in
theorem c_isSource (l : Launch) (D : va_G) (a : Nat → Nat) (ca : Nat → ClassId) (σ : St) (t : Int32) (src : Int32) : KI l D (tX ca) (wX a ca) rm_isSource y_isSource b_isSource 2 .boolean [.int t, .int src] σ (f_isSource t src) σ := by
  refine KI.of (by decide) (Nat.le_of_ble_eq_true rfl) ?_
  intro p e s m args below meth c A Q ls hx hb hml hown hG hK hN hA hP hD hS hl hret
  have hown : s.vm.findClass R_X = some m.cls := hown
  have hl : lv_has ls 2 [(0, .int t), (1, .int src)] := hl
  refine lv_iload_n hx hb d_isSource_0 rfl (lv_at hl 1 rfl) ?_
  refine lv_if_eq (tgt := 13) hx hb d_isSource_1 (by decide) (fun c_1 => ?_) (fun c_1 => ?_)
  · refine lv_iconst (v := 1) hx hb d_isSource_13 (by decide) ?_
    refine lv_goto (tgt := 18) hx hb d_isSource_14 (by decide) ?_
    exact hret _ _ _ 18 1 σ hP hD hS rfl d_isSource_18 (by simp only [f_isSource, lit_10, c_1, ↓reduceIte]) (rfl)
  · refine lv_iload_n hx hb d_isSource_4 rfl (lv_at hl 1 rfl) ?_
    refine lv_iconst (v := 1) hx hb d_isSource_5 (by decide) ?_
    refine lv_icmp_ne (tgt := 17) hx hb d_isSource_6 (by decide) (fun c_2 => ?_) (fun c_2 => ?_)
    · refine lv_iconst (v := 0) hx hb d_isSource_17 (by decide) ?_
      exact hret _ _ _ 18 0 σ hP hD hS rfl d_isSource_18 (by simp only [f_isSource, lit_10, c_1, c_2, ↓reduceIte]) (rfl)
    · refine lv_iload_n hx hb d_isSource_9 rfl (lv_at hl 0 rfl) ?_
      refine lv_if_le (tgt := 17) hx hb d_isSource_10 (by decide) (fun c_3 => ?_) (fun c_3 => ?_)
      · refine lv_iconst (v := 0) hx hb d_isSource_17 (by decide) ?_
        exact hret _ _ _ 18 0 σ hP hD hS rfl d_isSource_18 (by simp only [f_isSource, lit_10, c_1, c_2, c_3, ↓reduceIte]) (rfl)
      · refine lv_iconst (v := 1) hx hb d_isSource_13 (by decide) ?_
        refine lv_goto (tgt := 18) hx hb d_isSource_14 (by decide) ?_
        exact hret _ _ _ 18 1 σ hP hD hS rfl d_isSource_18 (by simp only [f_isSource, lit_10, c_1, c_2, c_3, ↓reduceIte]) (rfl)
set_option maxHeartbeats 4000000 in
set_option maxRecDepth 100000 in
theorem c_countDown (l : Launch) (D : va_G) (a : Nat → Nat) (ca : Nat → ClassId) (σ : St) (j : Nat) (hj : j < 8) : KI l D (tX ca) (wX a ca) rm_countDown y_countDown b_countDown 1 .boolean [.ref (a (5 + j))] σ ((f_countDown σ (5 + j)).1) ((f_countDown σ (5 + j)).2) := by
  refine KI.of (by decide) (Nat.le_of_ble_eq_true rfl) ?_
  intro p e s m args below meth c A Q ls hx hb hml hown hG hK hN hA hP hD hS hl hret
  have hown : s.vm.findClass R_T = some m.cls := hown
  have hl : lv_has ls 1 [(0, .ref (a (5 + j)))] := hl
  refine lv_aload_n hx hb d_countDown_0 rfl (lv_at hl 0 rfl) ?_
  refine va_get (v := .int (σ (5 + j) 4)) hx hb hG i_T hown hK hP (5 + j) (wX_T hj) rfl 4 (by decide) (hG _ L_T_25) (fun _ h9 => h9) rfl d_countDown_1 ?_
  refine lv_if_ne (tgt := 9) hx hb d_countDown_4 (by decide) (fun c_1 => ?_) (fun c_1 => ?_)
  · refine lv_aload_n hx hb d_countDown_9 rfl (lv_at hl 0 rfl) ?_
    refine va_get (v := .int (σ (5 + j) 1)) hx hb hG i_T hown hK hP (5 + j) (wX_T hj) rfl 1 (by decide) (hG _ L_T_15) (fun _ h9 => h9) rfl d_countDown_10 ?_
    refine lv_iconst (v := 1) hx hb d_countDown_13 (by decide) ?_
    refine lv_icmp_le (tgt := 29) hx hb d_countDown_14 (by decide) (fun c_2 => ?_) (fun c_2 => ?_)
    · refine lv_aload_n hx hb d_countDown_29 rfl (lv_at hl 0 rfl) ?_
      refine lv_aload_n hx hb d_countDown_30 rfl (lv_at hl 0 rfl) ?_
      refine va_get (v := .int (σ (5 + j) 0)) hx hb hG i_T hown hK hP (5 + j) (wX_T hj) rfl 0 (by decide) (hG _ L_T_9) (fun _ h9 => h9) rfl d_countDown_31 ?_
      refine va_put (ty := .int) (v := .int (σ (5 + j) 0)) hx hb hG i_T ft_T ft_T_ok n_T hown hK hP hD hS (5 + j) (wX_T hj) rfl 1 (by decide) (hG _ L_T_15) (fun _ h9 => h9) rfl (by decide +kernel) (rfl) (rfl) (Nat.le_of_ble_eq_true rfl) d_countDown_34 (fun H locs hP hD hS => ?_)
      rw [wX_putT hj (by decide)] at hP hD
      refine lv_aload_n hx hb d_countDown_37 rfl (lv_at hl 0 rfl) ?_
      refine lv_dup hx hb d_countDown_38 rfl ?_
      refine va_get (v := .int ((up2 σ (5 + j) 1 (σ (5 + j) 0)) (5 + j) 5)) hx hb hG i_T hown hK hP (5 + j) (wX_T hj) rfl 5 (by decide) (hG _ L_T_28) (fun _ h9 => h9) rfl d_countDown_39 ?_
      refine lv_iconst (v := 1) hx hb d_countDown_42 (by decide) ?_
      refine lv_iadd hx hb d_countDown_43 ?_
      refine va_put (ty := .int) (v := .int (((up2 σ (5 + j) 1 (σ (5 + j) 0)) (5 + j) 5) + 1)) hx hb hG i_T ft_T ft_T_ok n_T hown hK hP hD hS (5 + j) (wX_T hj) rfl 5 (by decide) (hG _ L_T_28) (fun _ h9 => h9) rfl (by decide +kernel) (rfl) (rfl) (Nat.le_of_ble_eq_true rfl) d_countDown_44 (fun H locs hP hD hS => ?_)
      rw [wX_putT hj (by decide)] at hP hD
      refine lv_aload_n hx hb d_countDown_47 rfl (lv_at hl 0 rfl) ?_
      refine va_get (v := .int ((up2 (up2 σ (5 + j) 1 (σ (5 + j) 0)) (5 + j) 5 (((up2 σ (5 + j) 1 (σ (5 + j) 0)) (5 + j) 5) + 1)) (5 + j) 3)) hx hb hG i_T hown hK hP (5 + j) (wX_T hj) rfl 3 (by decide) (hG _ L_T_21) (fun _ h9 => h9) rfl d_countDown_48 ?_
      refine lv_if_eq (tgt := 59) hx hb d_countDown_51 (by decide) (fun c_3 => ?_) (fun c_3 => ?_)
      · refine lv_iconst (v := 1) hx hb d_countDown_59 (by decide) ?_
        exact hret _ _ _ 60 1 (up2 (up2 σ (5 + j) 1 (σ (5 + j) 0)) (5 + j) 5 (((up2 σ (5 + j) 1 (σ (5 + j) 0)) (5 + j) 5) + 1)) hP hD hS rfl d_countDown_60 (by simp only [f_countDown, c_1, c_2, c_3, ↓reduceIte]) (by simp only [f_countDown, c_1, c_2, c_3, ↓reduceIte])
      · refine lv_aload_n hx hb d_countDown_54 rfl (lv_at hl 0 rfl) ?_
        refine lv_iconst (v := 0) hx hb d_countDown_55 (by decide) ?_
        refine va_put (ty := .boolean) (v := .int 0) hx hb hG i_T ft_T ft_T_ok n_T hown hK hP hD hS (5 + j) (wX_T hj) rfl 4 (by decide) (hG _ L_T_25) (fun _ h9 => h9) rfl (by decide +kernel) (rfl) (rfl) (Nat.le_of_ble_eq_true rfl) d_countDown_56 (fun H locs hP hD hS => ?_)
        rw [wX_putT hj (by decide)] at hP hD
        refine lv_iconst (v := 1) hx hb d_countDown_59 (by decide) ?_
        exact hret _ _ _ 60 1 (up2 (up2 (up2 σ (5 + j) 1 (σ (5 + j) 0)) (5 + j) 5 (((up2 σ (5 + j) 1 (σ (5 + j) 0)) (5 + j) 5) + 1)) (5 + j) 4 0) hP hD hS rfl d_countDown_60 (by simp only [f_countDown, c_1, c_2, c_3, ↓reduceIte]) (by simp only [f_countDown, c_1, c_2, c_3, ↓reduceIte])
    · refine lv_aload_n hx hb d_countDown_17 rfl (lv_at hl 0 rfl) ?_
      refine lv_dup hx hb d_countDown_18 rfl ?_
      refine va_get (v := .int (σ (5 + j) 1)) hx hb hG i_T hown hK hP (5 + j) (wX_T hj) rfl 1 (by decide) (hG _ L_T_15) (fun _ h9 => h9) rfl d_countDown_19 ?_
      refine lv_iconst (v := 1) hx hb d_countDown_22 (by decide) ?_
      refine lv_isub hx hb d_countDown_23 ?_
      refine va_put (ty := .int) (v := .int ((σ (5 + j) 1) - 1)) hx hb hG i_T ft_T ft_T_ok n_T hown hK hP hD hS (5 + j) (wX_T hj) rfl 1 (by decide) (hG _ L_T_15) (fun _ h9 => h9) rfl (by decide +kernel) (rfl) (rfl) (Nat.le_of_ble_eq_true rfl) d_countDown_24 (fun H locs hP hD hS => ?_)
      rw [wX_putT hj (by decide)] at hP hD
      refine lv_iconst (v := 0) hx hb d_countDown_27 (by decide) ?_
      exact hret _ _ _ 28 0 (up2 σ (5 + j) 1 ((σ (5 + j) 1) - 1)) hP hD hS rfl d_countDown_28 (by simp only [f_countDown, c_1, c_2, ↓reduceIte]) (by simp only [f_countDown, c_1, c_2, ↓reduceIte])
  · refine lv_iconst (v := 0) hx hb d_countDown_7 (by decide) ?_
    exact hret _ _ _ 8 0 σ hP hD hS rfl d_countDown_8 (by simp only [f_countDown, c_1, ↓reduceIte]) (by simp only [f_countDown, c_1, ↓reduceIte])
set_option maxHeartbeats 4000000 in
set_option maxRecDepth 100000 in
theorem c_Tread (l : Launch) (D : va_G) (a : Nat → Nat) (ca : Nat → ClassId) (σ : St) (j : Nat) (hj : j < 8) (w : Int32) : KI l D (tX ca) (wX a ca) rm_Tread y_Tread b_Tread 2 .int [.ref (a (5 + j)), .int w] σ (f_Tread σ (5 + j) w) σ := by
  refine KI.of (by decide) (Nat.le_of_ble_eq_true rfl) ?_
  intro p e s m args below meth c A Q ls hx hb hml hown hG hK hN hA hP hD hS hl hret
  have hown : s.vm.findClass R_T = some m.cls := hown
  have hl : lv_has ls 2 [(0, .ref (a (5 + j))), (1, .int w)] := hl
  refine lv_iload_n hx hb d_Tread_0 rfl (lv_at hl 1 rfl) ?_
  rcases sw_cases w 8 (by decide) with s_1 | ⟨k_2, k_2_l, s_1⟩
  · refine lv_tableOut (tgt := 113) hx hb d_Tread_1 s_1 (by decide) ?_
    refine lv_iconst (v := (-1)) hx hb d_Tread_113 (by decide) ?_
    exact hret _ _ _ 114 (-1) σ hP hD hS rfl d_Tread_114 (by simp only [f_Tread, sw_o _ _ s_1 0 (by decide) (by decide), sw_o _ _ s_1 1 (by decide) (by decide), sw_o _ _ s_1 2 (by decide) (by decide), sw_o _ _ s_1 3 (by decide) (by decide), sw_o _ _ s_1 4 (by decide) (by decide), sw_o _ _ s_1 5 (by decide) (by decide), sw_o _ _ s_1 6 (by decide) (by decide), sw_o _ _ s_1 7 (by decide) (by decide), sw_o _ _ s_1 8 (by decide) (by decide), ↓reduceIte]) (rfl)
  · rcases (show k_2 = 0 ∨ k_2 = 1 ∨ k_2 = 2 ∨ k_2 = 3 ∨ k_2 = 4 ∨ k_2 = 5 ∨ k_2 = 6 ∨ k_2 = 7 ∨ k_2 = 8 by omega) with rfl | rfl | rfl | rfl | rfl | rfl | rfl | rfl | rfl
    · refine lv_tableIn (off := 51) (tgt := 52) hx hb d_Tread_1 (by rw [s_1]; decide) (by rw [s_1]; decide) (by rw [s_1]; decide) (by decide) ?_
      refine lv_aload_n hx hb d_Tread_52 rfl (lv_at hl 0 rfl) ?_
      refine va_get (v := .int (σ (5 + j) 1)) hx hb hG i_T hown hK hP (5 + j) (wX_T hj) rfl 1 (by decide) (hG _ L_T_15) (fun _ h9 => h9) rfl d_Tread_53 ?_
      exact hret _ _ _ 56 (σ (5 + j) 1) σ hP hD hS rfl d_Tread_56 (by simp only [f_Tread, s_1, sw_0_0, ↓reduceIte]) (rfl)
    · refine lv_tableIn (off := 56) (tgt := 57) hx hb d_Tread_1 (by rw [s_1]; decide) (by rw [s_1]; decide) (by rw [s_1]; decide) (by decide) ?_
      refine lv_aload_n hx hb d_Tread_57 rfl (lv_at hl 0 rfl) ?_
      refine va_get (v := .int (σ (5 + j) 0)) hx hb hG i_T hown hK hP (5 + j) (wX_T hj) rfl 0 (by decide) (hG _ L_T_9) (fun _ h9 => h9) rfl d_Tread_58 ?_
      exact hret _ _ _ 61 (σ (5 + j) 0) σ hP hD hS rfl d_Tread_61 (by simp only [f_Tread, s_1, sw_1_0, sw_1_1, ↓reduceIte]) (rfl)
    · refine lv_tableIn (off := 61) (tgt := 62) hx hb d_Tread_1 (by rw [s_1]; decide) (by rw [s_1]; decide) (by rw [s_1]; decide) (by decide) ?_
      refine lv_aload_n hx hb d_Tread_62 rfl (lv_at hl 0 rfl) ?_
      refine va_get (v := .int (σ (5 + j) 2)) hx hb hG i_T hown hK hP (5 + j) (wX_T hj) rfl 2 (by decide) (hG _ L_T_18) (fun _ h9 => h9) rfl d_Tread_63 ?_
      exact hret _ _ _ 66 (σ (5 + j) 2) σ hP hD hS rfl d_Tread_66 (by simp only [f_Tread, s_1, sw_2_0, sw_2_1, sw_2_2, ↓reduceIte]) (rfl)
    · refine lv_tableIn (off := 66) (tgt := 67) hx hb d_Tread_1 (by rw [s_1]; decide) (by rw [s_1]; decide) (by rw [s_1]; decide) (by decide) ?_
      refine lv_aload_n hx hb d_Tread_67 rfl (lv_at hl 0 rfl) ?_
      refine va_get (v := .int (σ (5 + j) 4)) hx hb hG i_T hown hK hP (5 + j) (wX_T hj) rfl 4 (by decide) (hG _ L_T_25) (fun _ h9 => h9) rfl d_Tread_68 ?_
      refine lv_if_eq (tgt := 78) hx hb d_Tread_71 (by decide) (fun c_3 => ?_) (fun c_3 => ?_)
      · refine lv_iconst (v := 0) hx hb d_Tread_78 (by decide) ?_
        exact hret _ _ _ 79 0 σ hP hD hS rfl d_Tread_79 (by simp only [f_Tread, s_1, c_3, sw_3_0, sw_3_1, sw_3_2, sw_3_3, ↓reduceIte]) (rfl)
      · refine lv_iconst (v := 1) hx hb d_Tread_74 (by decide) ?_
        refine lv_goto (tgt := 79) hx hb d_Tread_75 (by decide) ?_
        exact hret _ _ _ 79 1 σ hP hD hS rfl d_Tread_79 (by simp only [f_Tread, s_1, c_3, sw_3_0, sw_3_1, sw_3_2, sw_3_3, ↓reduceIte]) (rfl)
    · refine lv_tableIn (off := 79) (tgt := 80) hx hb d_Tread_1 (by rw [s_1]; decide) (by rw [s_1]; decide) (by rw [s_1]; decide) (by decide) ?_
      refine lv_aload_n hx hb d_Tread_80 rfl (lv_at hl 0 rfl) ?_
      refine va_get (v := .int (σ (5 + j) 3)) hx hb hG i_T hown hK hP (5 + j) (wX_T hj) rfl 3 (by decide) (hG _ L_T_21) (fun _ h9 => h9) rfl d_Tread_81 ?_
      refine lv_if_eq (tgt := 91) hx hb d_Tread_84 (by decide) (fun c_4 => ?_) (fun c_4 => ?_)
      · refine lv_iconst (v := 0) hx hb d_Tread_91 (by decide) ?_
        exact hret _ _ _ 92 0 σ hP hD hS rfl d_Tread_92 (by simp only [f_Tread, s_1, c_4, sw_4_0, sw_4_1, sw_4_2, sw_4_3, sw_4_4, ↓reduceIte]) (rfl)
      · refine lv_iconst (v := 1) hx hb d_Tread_87 (by decide) ?_
        refine lv_goto (tgt := 92) hx hb d_Tread_88 (by decide) ?_
        exact hret _ _ _ 92 1 σ hP hD hS rfl d_Tread_92 (by simp only [f_Tread, s_1, c_4, sw_4_0, sw_4_1, sw_4_2, sw_4_3, sw_4_4, ↓reduceIte]) (rfl)
    · refine lv_tableIn (off := 92) (tgt := 93) hx hb d_Tread_1 (by rw [s_1]; decide) (by rw [s_1]; decide) (by rw [s_1]; decide) (by decide) ?_
      refine lv_aload_n hx hb d_Tread_93 rfl (lv_at hl 0 rfl) ?_
      refine va_get (v := .int (σ (5 + j) 5)) hx hb hG i_T hown hK hP (5 + j) (wX_T hj) rfl 5 (by decide) (hG _ L_T_28) (fun _ h9 => h9) rfl d_Tread_94 ?_
      exact hret _ _ _ 97 (σ (5 + j) 5) σ hP hD hS rfl d_Tread_97 (by simp only [f_Tread, s_1, sw_5_0, sw_5_1, sw_5_2, sw_5_3, sw_5_4, sw_5_5, ↓reduceIte]) (rfl)
    · refine lv_tableIn (off := 97) (tgt := 98) hx hb d_Tread_1 (by rw [s_1]; decide) (by rw [s_1]; decide) (by rw [s_1]; decide) (by decide) ?_
      refine lv_aload_n hx hb d_Tread_98 rfl (lv_at hl 0 rfl) ?_
      refine va_get (v := .int (σ (5 + j) 6)) hx hb hG i_T hown hK hP (5 + j) (wX_T hj) rfl 6 (by decide) (hG _ L_T_31) (fun _ h9 => h9) rfl d_Tread_99 ?_
      exact hret _ _ _ 102 (σ (5 + j) 6) σ hP hD hS rfl d_Tread_102 (by simp only [f_Tread, s_1, sw_6_0, sw_6_1, sw_6_2, sw_6_3, sw_6_4, sw_6_5, sw_6_6, ↓reduceIte]) (rfl)
    · refine lv_tableIn (off := 102) (tgt := 103) hx hb d_Tread_1 (by rw [s_1]; decide) (by rw [s_1]; decide) (by rw [s_1]; decide) (by decide) ?_
      refine lv_aload_n hx hb d_Tread_103 rfl (lv_at hl 0 rfl) ?_
      refine va_get (v := .int (σ (5 + j) 7)) hx hb hG i_T hown hK hP (5 + j) (wX_T hj) rfl 7 (by decide) (hG _ L_T_34) (fun _ h9 => h9) rfl d_Tread_104 ?_
      exact hret _ _ _ 107 (σ (5 + j) 7) σ hP hD hS rfl d_Tread_107 (by simp only [f_Tread, s_1, sw_7_0, sw_7_1, sw_7_2, sw_7_3, sw_7_4, sw_7_5, sw_7_6, sw_7_7, ↓reduceIte]) (rfl)
    · refine lv_tableIn (off := 107) (tgt := 108) hx hb d_Tread_1 (by rw [s_1]; decide) (by rw [s_1]; decide) (by rw [s_1]; decide) (by decide) ?_
      refine lv_aload_n hx hb d_Tread_108 rfl (lv_at hl 0 rfl) ?_
      refine va_get (v := .int (σ (5 + j) 8)) hx hb hG i_T hown hK hP (5 + j) (wX_T hj) rfl 8 (by decide) (hG _ L_T_37) (fun _ h9 => h9) rfl d_Tread_109 ?_
      exact hret _ _ _ 112 (σ (5 + j) 8) σ hP hD hS rfl d_Tread_112 (by simp only [f_Tread, s_1, sw_8_0, sw_8_1, sw_8_2, sw_8_3, sw_8_4, sw_8_5, sw_8_6, sw_8_7, sw_8_8, ↓reduceIte]) (rfl)
set_option maxHeartbeats 4000000 in
set_option maxRecDepth 100000 in
theorem c_asks (l : Launch) (D : va_G) (a : Nat → Nat) (ca : Nat → ClassId) (σ : St) (j : Nat) (hj : j < 4) (x : Int32) : KI l D (tX ca) (wX a ca) rm_asks y_asks b_asks 2 .boolean [.ref (a (13 + j)), .int x] σ (f_asks σ (13 + j) x) σ := by
  refine KI.of (by decide) (Nat.le_of_ble_eq_true rfl) ?_
  intro p e s m args below meth c A Q ls hx hb hml hown hG hK hN hA hP hD hS hl hret
  have hown : s.vm.findClass R_G = some m.cls := hown
  have hl : lv_has ls 2 [(0, .ref (a (13 + j))), (1, .int x)] := hl
  refine lv_iload_n hx hb d_asks_0 rfl (lv_at hl 1 rfl) ?_
  refine lv_aload_n hx hb d_asks_1 rfl (lv_at hl 0 rfl) ?_
  refine va_get (v := .int (σ (13 + j) 0)) hx hb hG i_G hown hK hP (13 + j) (wX_G hj) rfl 0 (by decide) (hG _ L_G_9) (fun _ h9 => h9) rfl d_asks_2 ?_
  refine lv_iand hx hb d_asks_5 ?_
  refine lv_if_eq (tgt := 13) hx hb d_asks_6 (by decide) (fun c_1 => ?_) (fun c_1 => ?_)
  · refine lv_iconst (v := 0) hx hb d_asks_13 (by decide) ?_
    exact hret _ _ _ 14 0 σ hP hD hS rfl d_asks_14 (by simp only [f_asks, c_1, ↓reduceIte]) (rfl)
  · refine lv_iconst (v := 1) hx hb d_asks_9 (by decide) ?_
    refine lv_goto (tgt := 14) hx hb d_asks_10 (by decide) ?_
    exact hret _ _ _ 14 1 σ hP hD hS rfl d_asks_14 (by simp only [f_asks, c_1, ↓reduceIte]) (rfl)
set_option maxHeartbeats 4000000 in
set_option maxRecDepth 100000 in
theorem c_waitEnds (l : Launch) (D : va_G) (a : Nat → Nat) (ca : Nat → ClassId) (σ : St) (j : Nat) (hj : j < 4) : KI l D (tX ca) (wX a ca) rm_waitEnds y_waitEnds b_waitEnds 1 .boolean [.ref (a (13 + j))] σ ((f_waitEnds σ (13 + j)).1) ((f_waitEnds σ (13 + j)).2) := by
  refine KI.of (by decide) (Nat.le_of_ble_eq_true rfl) ?_
  intro p e s m args below meth c A Q ls hx hb hml hown hG hK hN hA hP hD hS hl hret
  have hown : s.vm.findClass R_G = some m.cls := hown
  have hl : lv_has ls 1 [(0, .ref (a (13 + j)))] := hl
  refine lv_aload_n hx hb d_waitEnds_0 rfl (lv_at hl 0 rfl) ?_
  refine va_get (v := .int (σ (13 + j) 2)) hx hb hG i_G hown hK hP (13 + j) (wX_G hj) rfl 2 (by decide) (hG _ L_G_18) (fun _ h9 => h9) rfl d_waitEnds_1 ?_
  refine lv_if_ne (tgt := 9) hx hb d_waitEnds_4 (by decide) (fun c_1 => ?_) (fun c_1 => ?_)
  · refine lv_aload_n hx hb d_waitEnds_9 rfl (lv_at hl 0 rfl) ?_
    refine lv_dup hx hb d_waitEnds_10 rfl ?_
    refine va_get (v := .int (σ (13 + j) 2)) hx hb hG i_G hown hK hP (13 + j) (wX_G hj) rfl 2 (by decide) (hG _ L_G_18) (fun _ h9 => h9) rfl d_waitEnds_11 ?_
    refine lv_iconst (v := 1) hx hb d_waitEnds_14 (by decide) ?_
    refine lv_isub hx hb d_waitEnds_15 ?_
    refine va_put (ty := .int) (v := .int ((σ (13 + j) 2) - 1)) hx hb hG i_G ft_G ft_G_ok n_G hown hK hP hD hS (13 + j) (wX_G hj) rfl 2 (by decide) (hG _ L_G_18) (fun _ h9 => h9) rfl (by decide +kernel) (rfl) (rfl) (Nat.le_of_ble_eq_true rfl) d_waitEnds_16 (fun H locs hP hD hS => ?_)
    rw [wX_putG hj (by decide)] at hP hD
    refine lv_aload_n hx hb d_waitEnds_19 rfl (lv_at hl 0 rfl) ?_
    refine va_get (v := .int ((up2 σ (13 + j) 2 ((σ (13 + j) 2) - 1)) (13 + j) 2)) hx hb hG i_G hown hK hP (13 + j) (wX_G hj) rfl 2 (by decide) (hG _ L_G_18) (fun _ h9 => h9) rfl d_waitEnds_20 ?_
    refine lv_if_ne (tgt := 30) hx hb d_waitEnds_23 (by decide) (fun c_2 => ?_) (fun c_2 => ?_)
    · refine lv_iconst (v := 0) hx hb d_waitEnds_30 (by decide) ?_
      exact hret _ _ _ 31 0 (up2 σ (13 + j) 2 ((σ (13 + j) 2) - 1)) hP hD hS rfl d_waitEnds_31 (by simp only [f_waitEnds, c_1, c_2, ↓reduceIte]) (by simp only [f_waitEnds, c_1, c_2, ↓reduceIte])
    · refine lv_iconst (v := 1) hx hb d_waitEnds_26 (by decide) ?_
      refine lv_goto (tgt := 31) hx hb d_waitEnds_27 (by decide) ?_
      exact hret _ _ _ 31 1 (up2 σ (13 + j) 2 ((σ (13 + j) 2) - 1)) hP hD hS rfl d_waitEnds_31 (by simp only [f_waitEnds, c_1, c_2, ↓reduceIte]) (by simp only [f_waitEnds, c_1, c_2, ↓reduceIte])
  · refine lv_iconst (v := 0) hx hb d_waitEnds_7 (by decide) ?_
    exact hret _ _ _ 8 0 σ hP hD hS rfl d_waitEnds_8 (by simp only [f_waitEnds, c_1, ↓reduceIte]) (by simp only [f_waitEnds, c_1, ↓reduceIte])
set_option maxHeartbeats 4000000 in
set_option maxRecDepth 100000 in
theorem c_Gread (l : Launch) (D : va_G) (a : Nat → Nat) (ca : Nat → ClassId) (σ : St) (j : Nat) (hj : j < 4) (w : Int32) (x : Int32) : KI l D (tX ca) (wX a ca) rm_Gread y_Gread b_Gread 3 .int [.ref (a (13 + j)), .int w, .int x] σ (f_Gread σ (13 + j) w x) σ := by
  refine KI.of (by decide) (Nat.le_of_ble_eq_true rfl) ?_
  intro p e s m args below meth c A Q ls hx hb hml hown hG hK hN hA hP hD hS hl hret
  have hown : s.vm.findClass R_G = some m.cls := hown
  have hl : lv_has ls 3 [(0, .ref (a (13 + j))), (1, .int w), (2, .int x)] := hl
  refine lv_iload_n hx hb d_Gread_0 rfl (lv_at hl 1 rfl) ?_
  rcases sw_cases w 6 (by decide) with s_1 | ⟨k_2, k_2_l, s_1⟩
  · refine lv_tableOut (tgt := 88) hx hb d_Gread_1 s_1 (by decide) ?_
    refine lv_iconst (v := (-1)) hx hb d_Gread_88 (by decide) ?_
    exact hret _ _ _ 89 (-1) σ hP hD hS rfl d_Gread_89 (by simp only [f_Gread, sw_o _ _ s_1 0 (by decide) (by decide), sw_o _ _ s_1 1 (by decide) (by decide), sw_o _ _ s_1 2 (by decide) (by decide), sw_o _ _ s_1 3 (by decide) (by decide), sw_o _ _ s_1 4 (by decide) (by decide), sw_o _ _ s_1 5 (by decide) (by decide), sw_o _ _ s_1 6 (by decide) (by decide), ↓reduceIte]) (rfl)
  · rcases (show k_2 = 0 ∨ k_2 = 1 ∨ k_2 = 2 ∨ k_2 = 3 ∨ k_2 = 4 ∨ k_2 = 5 ∨ k_2 = 6 by omega) with rfl | rfl | rfl | rfl | rfl | rfl | rfl
    · refine lv_tableIn (off := 43) (tgt := 44) hx hb d_Gread_1 (by rw [s_1]; decide) (by rw [s_1]; decide) (by rw [s_1]; decide) (by decide) ?_
      refine lv_aload_n hx hb d_Gread_44 rfl (lv_at hl 0 rfl) ?_
      refine lv_iload_n hx hb d_Gread_45 rfl (lv_at hl 2 rfl) ?_
      refine k_cV (rest := []) hx hb hml hown hG hK hN hA hP hD hS (c_asks l D a ca σ j hj x) ok_asks io_asks L_G_30 ⟨rfl, rfl, by decide, by decide⟩ (13 + j) (wX_G hj) rfl rfl hl.1 rfl (Nat.le_of_ble_eq_true rfl) ⟨Nat.zero_le _, Nat.zero_le _⟩ d_Gread_46 (fun H locs hP hD hS => ?_)
      refine lv_if_eq (tgt := 56) hx hb d_Gread_49 (by decide) (fun c_3 => ?_) (fun c_3 => ?_)
      · refine lv_iconst (v := 0) hx hb d_Gread_56 (by decide) ?_
        exact hret _ _ _ 57 0 σ hP hD hS rfl d_Gread_57 (by simp only [f_Gread, s_1, c_3, sw_0_0, ↓reduceIte]) (rfl)
      · refine lv_iconst (v := 1) hx hb d_Gread_52 (by decide) ?_
        refine lv_goto (tgt := 57) hx hb d_Gread_53 (by decide) ?_
        exact hret _ _ _ 57 1 σ hP hD hS rfl d_Gread_57 (by simp only [f_Gread, s_1, c_3, sw_0_0, ↓reduceIte]) (rfl)
    · refine lv_tableIn (off := 57) (tgt := 58) hx hb d_Gread_1 (by rw [s_1]; decide) (by rw [s_1]; decide) (by rw [s_1]; decide) (by decide) ?_
      refine lv_aload_n hx hb d_Gread_58 rfl (lv_at hl 0 rfl) ?_
      refine va_get (v := .int (σ (13 + j) 2)) hx hb hG i_G hown hK hP (13 + j) (wX_G hj) rfl 2 (by decide) (hG _ L_G_18) (fun _ h9 => h9) rfl d_Gread_59 ?_
      exact hret _ _ _ 62 (σ (13 + j) 2) σ hP hD hS rfl d_Gread_62 (by simp only [f_Gread, s_1, sw_1_0, sw_1_1, ↓reduceIte]) (rfl)
    · refine lv_tableIn (off := 62) (tgt := 63) hx hb d_Gread_1 (by rw [s_1]; decide) (by rw [s_1]; decide) (by rw [s_1]; decide) (by decide) ?_
      refine lv_aload_n hx hb d_Gread_63 rfl (lv_at hl 0 rfl) ?_
      refine va_get (v := .int (σ (13 + j) 0)) hx hb hG i_G hown hK hP (13 + j) (wX_G hj) rfl 0 (by decide) (hG _ L_G_9) (fun _ h9 => h9) rfl d_Gread_64 ?_
      exact hret _ _ _ 67 (σ (13 + j) 0) σ hP hD hS rfl d_Gread_67 (by simp only [f_Gread, s_1, sw_2_0, sw_2_1, sw_2_2, ↓reduceIte]) (rfl)
    · refine lv_tableIn (off := 67) (tgt := 68) hx hb d_Gread_1 (by rw [s_1]; decide) (by rw [s_1]; decide) (by rw [s_1]; decide) (by decide) ?_
      refine lv_aload_n hx hb d_Gread_68 rfl (lv_at hl 0 rfl) ?_
      refine va_get (v := .int (σ (13 + j) 1)) hx hb hG i_G hown hK hP (13 + j) (wX_G hj) rfl 1 (by decide) (hG _ L_G_15) (fun _ h9 => h9) rfl d_Gread_69 ?_
      exact hret _ _ _ 72 (σ (13 + j) 1) σ hP hD hS rfl d_Gread_72 (by simp only [f_Gread, s_1, sw_3_0, sw_3_1, sw_3_2, sw_3_3, ↓reduceIte]) (rfl)
    · refine lv_tableIn (off := 72) (tgt := 73) hx hb d_Gread_1 (by rw [s_1]; decide) (by rw [s_1]; decide) (by rw [s_1]; decide) (by decide) ?_
      refine lv_aload_n hx hb d_Gread_73 rfl (lv_at hl 0 rfl) ?_
      refine va_get (v := .int (σ (13 + j) 3)) hx hb hG i_G hown hK hP (13 + j) (wX_G hj) rfl 3 (by decide) (hG _ L_G_21) (fun _ h9 => h9) rfl d_Gread_74 ?_
      exact hret _ _ _ 77 (σ (13 + j) 3) σ hP hD hS rfl d_Gread_77 (by simp only [f_Gread, s_1, sw_4_0, sw_4_1, sw_4_2, sw_4_3, sw_4_4, ↓reduceIte]) (rfl)
    · refine lv_tableIn (off := 77) (tgt := 78) hx hb d_Gread_1 (by rw [s_1]; decide) (by rw [s_1]; decide) (by rw [s_1]; decide) (by decide) ?_
      refine lv_aload_n hx hb d_Gread_78 rfl (lv_at hl 0 rfl) ?_
      refine va_get (v := .int (σ (13 + j) 4)) hx hb hG i_G hown hK hP (13 + j) (wX_G hj) rfl 4 (by decide) (hG _ L_G_24) (fun _ h9 => h9) rfl d_Gread_79 ?_
      exact hret _ _ _ 82 (σ (13 + j) 4) σ hP hD hS rfl d_Gread_82 (by simp only [f_Gread, s_1, sw_5_0, sw_5_1, sw_5_2, sw_5_3, sw_5_4, sw_5_5, ↓reduceIte]) (rfl)
    · refine lv_tableIn (off := 82) (tgt := 83) hx hb d_Gread_1 (by rw [s_1]; decide) (by rw [s_1]; decide) (by rw [s_1]; decide) (by decide) ?_
      refine lv_aload_n hx hb d_Gread_83 rfl (lv_at hl 0 rfl) ?_
      refine va_get (v := .int (σ (13 + j) 5)) hx hb hG i_G hown hK hP (13 + j) (wX_G hj) rfl 5 (by decide) (hG _ L_G_27) (fun _ h9 => h9) rfl d_Gread_84 ?_
      exact hret _ _ _ 87 (σ (13 + j) 5) σ hP hD hS rfl d_Gread_87 (by simp only [f_Gread, s_1, sw_6_0, sw_6_1, sw_6_2, sw_6_3, sw_6_4, sw_6_5, sw_6_6, ↓reduceIte]) (rfl)
set_option maxHeartbeats 4000000 in
set_option maxRecDepth 100000 in
theorem c_add (l : Launch) (D : va_G) (a : Nat → Nat) (ca : Nat → ClassId) (σ : St) (b : Int32) (sv : Int32) (tm : Int32) (hI : xInv σ) : KV l D (tX ca) (wX a ca) rm_add y_add b_add 4 [.ref (a 1), .int b, .int sv, .int tm] σ (f_add σ b sv tm) := by
  refine KV.of (by decide) (Nat.le_of_ble_eq_true rfl) ?_
  intro p e s m args below meth c A Q ls hx hb hml hown hG hK hN hA hP hD hS hl hret
  have hown : s.vm.findClass R_H = some m.cls := hown
  have hl : lv_has ls 4 [(0, .ref (a 1)), (1, .int b), (2, .int sv), (3, .int tm)] := hl
  refine lv_aload_n hx hb d_add_0 rfl (lv_at hl 0 rfl) ?_
  refine va_get (v := .ref (a 2)) hx hb hG i_H hown hK hP 1 wX_H rfl 0 (by decide) (hG _ L_H_11) (fun _ h9 => h9) rfl d_add_1 ?_
  refine lv_aload_n hx hb d_add_4 rfl (lv_at hl 0 rfl) ?_
  refine va_get (v := .int (σ 1 5)) hx hb hG i_H hown hK hP 1 wX_H rfl 5 (by decide) (hG _ L_H_28) (fun _ h9 => h9) rfl d_add_5 ?_
  refine lv_iload_n hx hb d_add_8 rfl (lv_at hl 1 rfl) ?_
  refine va_iast (i := (σ 1 5)) hx hb hK hP hD hS 2 0 rfl rfl (xInv_in hI) d_add_9 (fun H locs hP hD hS => ?_)
  rw [wX_putA2] at hP hD
  refine lv_aload_n hx hb d_add_10 rfl (lv_at hl 0 rfl) ?_
  refine va_get (v := .ref (a 3)) hx hb hG i_H hown hK hP 1 wX_H rfl 1 (by decide) (hG _ L_H_15) (fun _ h9 => h9) rfl d_add_11 ?_
  refine lv_aload_n hx hb d_add_14 rfl (lv_at hl 0 rfl) ?_
  refine va_get (v := .int (σ 1 5)) hx hb hG i_H hown hK hP 1 wX_H rfl 5 (by decide) (hG _ L_H_28) (fun _ h9 => h9) rfl d_add_15 ?_
  refine lv_iload_n hx hb d_add_18 rfl (lv_at hl 2 rfl) ?_
  refine va_iast (i := (σ 1 5)) hx hb hK hP hD hS 3 0 rfl rfl (xInv_in hI) d_add_19 (fun H locs hP hD hS => ?_)
  rw [wX_putA3] at hP hD
  refine lv_aload_n hx hb d_add_20 rfl (lv_at hl 0 rfl) ?_
  refine va_get (v := .ref (a 4)) hx hb hG i_H hown hK hP 1 wX_H rfl 2 (by decide) (hG _ L_H_18) (fun _ h9 => h9) rfl d_add_21 ?_
  refine lv_aload_n hx hb d_add_24 rfl (lv_at hl 0 rfl) ?_
  refine va_get (v := .int (σ 1 5)) hx hb hG i_H hown hK hP 1 wX_H rfl 5 (by decide) (hG _ L_H_28) (fun _ h9 => h9) rfl d_add_25 ?_
  refine lv_iload_n hx hb d_add_28 rfl (lv_at hl 3 rfl) ?_
  refine va_iast (i := (σ 1 5)) hx hb hK hP hD hS 4 0 rfl rfl (xInv_in hI) d_add_29 (fun H locs hP hD hS => ?_)
  rw [wX_putA4] at hP hD
  refine lv_aload_n hx hb d_add_30 rfl (lv_at hl 0 rfl) ?_
  refine lv_aload_n hx hb d_add_31 rfl (lv_at hl 0 rfl) ?_
  refine va_get (v := .int (σ 1 5)) hx hb hG i_H hown hK hP 1 wX_H rfl 5 (by decide) (hG _ L_H_28) (fun _ h9 => h9) rfl d_add_32 ?_
  refine lv_iconst (v := 1) hx hb d_add_35 (by decide) ?_
  refine lv_iadd hx hb d_add_36 ?_
  refine lv_bipush (v := 16) hx hb d_add_37 (by decide) ?_
  refine lv_irem hx hb d_add_39 (by decide) ?_
  refine va_put (ty := .int) (v := .int (((σ 1 5) + 1) - ((σ 1 5) + 1) / 16 * 16)) hx hb hG i_H ft_H ft_H_ok n_H hown hK hP hD hS 1 wX_H rfl 5 (by decide) (hG _ L_H_28) (fun _ h9 => h9) rfl (by decide +kernel) (rfl) (rfl) (Nat.le_of_ble_eq_true rfl) d_add_40 (fun H locs hP hD hS => ?_)
  rw [wX_putH5] at hP hD
  refine lv_aload_n hx hb d_add_43 rfl (lv_at hl 0 rfl) ?_
  refine va_get (v := .int (σ 1 4)) hx hb hG i_H hown hK hP 1 wX_H rfl 4 (by decide) (hG _ L_H_25) (fun _ h9 => h9) rfl d_add_44 ?_
  refine lv_bipush (v := 16) hx hb d_add_47 (by decide) ?_
  refine lv_icmp_ge (tgt := 62) hx hb d_add_49 (by decide) (fun c_1 => ?_) (fun c_1 => ?_)
  · refine lv_aload_n hx hb d_add_62 rfl (lv_at hl 0 rfl) ?_
    refine lv_dup hx hb d_add_63 rfl ?_
    refine va_get (v := .int (σ 1 3)) hx hb hG i_H hown hK hP 1 wX_H rfl 3 (by decide) (hG _ L_H_21) (fun _ h9 => h9) rfl d_add_64 ?_
    refine lv_iconst (v := 1) hx hb d_add_67 (by decide) ?_
    refine lv_iadd hx hb d_add_68 ?_
    refine va_put (ty := .int) (v := .int ((σ 1 3) + 1)) hx hb hG i_H ft_H ft_H_ok n_H hown hK hP hD hS 1 wX_H rfl 3 (by decide) (hG _ L_H_21) (fun _ h9 => h9) rfl (by decide +kernel) (rfl) (rfl) (Nat.le_of_ble_eq_true rfl) d_add_69 (fun H locs hP hD hS => ?_)
    rw [wX_putH3] at hP hD
    exact hret _ _ _ 72 (up2 (up2 (up2 (up2 (up2 σ 2 ((σ 1 5).toNatClampNeg) b) 3 ((σ 1 5).toNatClampNeg) sv) 4 ((σ 1 5).toNatClampNeg) tm) 1 5 (((σ 1 5) + 1) - ((σ 1 5) + 1) / 16 * 16)) 1 3 ((σ 1 3) + 1)) hP hD hS d_add_72 (by simp only [f_add, f_arr, rm16, c_1, ↓reduceIte])
  · refine lv_aload_n hx hb d_add_52 rfl (lv_at hl 0 rfl) ?_
    refine lv_dup hx hb d_add_53 rfl ?_
    refine va_get (v := .int (σ 1 4)) hx hb hG i_H hown hK hP 1 wX_H rfl 4 (by decide) (hG _ L_H_25) (fun _ h9 => h9) rfl d_add_54 ?_
    refine lv_iconst (v := 1) hx hb d_add_57 (by decide) ?_
    refine lv_iadd hx hb d_add_58 ?_
    refine va_put (ty := .int) (v := .int ((σ 1 4) + 1)) hx hb hG i_H ft_H ft_H_ok n_H hown hK hP hD hS 1 wX_H rfl 4 (by decide) (hG _ L_H_25) (fun _ h9 => h9) rfl (by decide +kernel) (rfl) (rfl) (Nat.le_of_ble_eq_true rfl) d_add_59 (fun H locs hP hD hS => ?_)
    rw [wX_putH4] at hP hD
    refine lv_aload_n hx hb d_add_62 rfl (lv_at hl 0 rfl) ?_
    refine lv_dup hx hb d_add_63 rfl ?_
    refine va_get (v := .int (σ 1 3)) hx hb hG i_H hown hK hP 1 wX_H rfl 3 (by decide) (hG _ L_H_21) (fun _ h9 => h9) rfl d_add_64 ?_
    refine lv_iconst (v := 1) hx hb d_add_67 (by decide) ?_
    refine lv_iadd hx hb d_add_68 ?_
    refine va_put (ty := .int) (v := .int ((σ 1 3) + 1)) hx hb hG i_H ft_H ft_H_ok n_H hown hK hP hD hS 1 wX_H rfl 3 (by decide) (hG _ L_H_21) (fun _ h9 => h9) rfl (by decide +kernel) (rfl) (rfl) (Nat.le_of_ble_eq_true rfl) d_add_69 (fun H locs hP hD hS => ?_)
    rw [wX_putH3] at hP hD
    exact hret _ _ _ 72 (up2 (up2 (up2 (up2 (up2 (up2 σ 2 ((σ 1 5).toNatClampNeg) b) 3 ((σ 1 5).toNatClampNeg) sv) 4 ((σ 1 5).toNatClampNeg) tm) 1 5 (((σ 1 5) + 1) - ((σ 1 5) + 1) / 16 * 16)) 1 4 ((σ 1 4) + 1)) 1 3 ((σ 1 3) + 1)) hP hD hS d_add_72 (by simp only [f_add, f_arr, rm16, c_1, ↓reduceIte])
set_option maxHeartbeats 4000000 in
set_option maxRecDepth 100000 in
theorem c_Hread (l : Launch) (D : va_G) (a : Nat → Nat) (ca : Nat → ClassId) (σ : St) (i : Int32) (w : Int32) (hI : xInv σ) : KI l D (tX ca) (wX a ca) rm_Hread y_Hread b_Hread 4 .int [.ref (a 1), .int i, .int w] σ (f_Hread σ i w) σ := by
  refine KI.of (by decide) (Nat.le_of_ble_eq_true rfl) ?_
  intro p e s m args below meth c A Q ls hx hb hml hown hG hK hN hA hP hD hS hl hret
  have hown : s.vm.findClass R_H = some m.cls := hown
  have hl : lv_has ls 4 [(0, .ref (a 1)), (1, .int i), (2, .int w)] := hl
  refine lv_iload_n hx hb d_Hread_0 rfl (lv_at hl 1 rfl) ?_
  refine lv_if_lt (tgt := 12) hx hb d_Hread_1 (by decide) (fun c_1 => ?_) (fun c_1 => ?_)
  · refine lv_iconst (v := (-1)) hx hb d_Hread_12 (by decide) ?_
    exact hret _ _ _ 13 (-1) σ hP hD hS rfl d_Hread_13 (by simp only [f_Hread, rm16, c_1, ↓reduceIte]) (rfl)
  · refine lv_iload_n hx hb d_Hread_4 rfl (lv_at hl 1 rfl) ?_
    refine lv_aload_n hx hb d_Hread_5 rfl (lv_at hl 0 rfl) ?_
    refine va_get (v := .int (σ 1 4)) hx hb hG i_H hown hK hP 1 wX_H rfl 4 (by decide) (hG _ L_H_25) (fun _ h9 => h9) rfl d_Hread_6 ?_
    refine lv_icmp_lt (tgt := 14) hx hb d_Hread_9 (by decide) (fun c_2 => ?_) (fun c_2 => ?_)
    · refine lv_aload_n hx hb d_Hread_14 rfl (lv_at hl 0 rfl) ?_
      refine va_get (v := .int (σ 1 5)) hx hb hG i_H hown hK hP 1 wX_H rfl 5 (by decide) (hG _ L_H_28) (fun _ h9 => h9) rfl d_Hread_15 ?_
      refine lv_bipush (v := 16) hx hb d_Hread_18 (by decide) ?_
      refine lv_iadd hx hb d_Hread_20 ?_
      refine lv_iconst (v := 1) hx hb d_Hread_21 (by decide) ?_
      refine lv_isub hx hb d_Hread_22 ?_
      refine lv_iload_n hx hb d_Hread_23 rfl (lv_at hl 1 rfl) ?_
      refine lv_isub hx hb d_Hread_24 ?_
      refine lv_bipush (v := 16) hx hb d_Hread_25 (by decide) ?_
      refine lv_irem hx hb d_Hread_27 (by decide) ?_
      refine lv_istore_n (lv' := [(3, .int (((((σ 1 5) + 16) - 1) - i) - ((((σ 1 5) + 16) - 1) - i) / 16 * 16)), (0, .ref (a 1)), (1, .int i), (2, .int w)]) hx hb d_Hread_28 rfl hl (by decide) rfl (fun ls hl => ?_)
      refine lv_iload_n hx hb d_Hread_29 rfl (lv_at hl 3 rfl) ?_
      rcases sw_cases w 2 (by decide) with s_3 | ⟨k_4, k_4_l, s_3⟩
      · refine lv_tableOut (tgt := 77) hx hb d_Hread_30 s_3 (by decide) ?_
        refine lv_iconst (v := (-1)) hx hb d_Hread_77 (by decide) ?_
        exact hret _ _ _ 78 (-1) σ hP hD hS rfl d_Hread_78 (by simp only [f_Hread, rm16, c_1, c_2, sw_o _ _ s_3 0 (by decide) (by decide), sw_o _ _ s_3 1 (by decide) (by decide), sw_o _ _ s_3 2 (by decide) (by decide), ↓reduceIte]) (rfl)
      · rcases (show k_4 = 0 ∨ k_4 = 1 ∨ k_4 = 2 by omega) with rfl | rfl | rfl
        · refine lv_tableIn (off := 26) (tgt := 56) hx hb d_Hread_30 (by rw [s_3]; decide) (by rw [s_3]; decide) (by rw [s_3]; decide) (by decide) ?_
          refine lv_aload_n hx hb d_Hread_56 rfl (lv_at hl 1 rfl) ?_
          refine va_get (v := .ref (a 2)) hx hb hG i_H hown hK hP 1 wX_H rfl 0 (by decide) (hG _ L_H_11) (fun _ h9 => h9) rfl d_Hread_57 ?_
          refine lv_iload_n hx hb d_Hread_60 rfl (lv_at hl 0 rfl) ?_
          refine va_iald hx hb hK hP 2 0 rfl rfl (xInv_at hI c_1 c_2) d_Hread_61 ?_
          exact hret _ _ _ 62 (σ 2 (((((σ 1 5) + 16) - 1) - i) - ((((σ 1 5) + 16) - 1) - i) / 16 * 16).toNatClampNeg) σ hP hD hS rfl d_Hread_62 (by simp only [f_Hread, rm16, c_1, c_2, s_3, sw_0_0, ↓reduceIte]) (rfl)
        · refine lv_tableIn (off := 33) (tgt := 63) hx hb d_Hread_30 (by rw [s_3]; decide) (by rw [s_3]; decide) (by rw [s_3]; decide) (by decide) ?_
          refine lv_aload_n hx hb d_Hread_63 rfl (lv_at hl 1 rfl) ?_
          refine va_get (v := .ref (a 3)) hx hb hG i_H hown hK hP 1 wX_H rfl 1 (by decide) (hG _ L_H_15) (fun _ h9 => h9) rfl d_Hread_64 ?_
          refine lv_iload_n hx hb d_Hread_67 rfl (lv_at hl 0 rfl) ?_
          refine va_iald hx hb hK hP 3 0 rfl rfl (xInv_at hI c_1 c_2) d_Hread_68 ?_
          exact hret _ _ _ 69 (σ 3 (((((σ 1 5) + 16) - 1) - i) - ((((σ 1 5) + 16) - 1) - i) / 16 * 16).toNatClampNeg) σ hP hD hS rfl d_Hread_69 (by simp only [f_Hread, rm16, c_1, c_2, s_3, sw_1_0, sw_1_1, ↓reduceIte]) (rfl)
        · refine lv_tableIn (off := 40) (tgt := 70) hx hb d_Hread_30 (by rw [s_3]; decide) (by rw [s_3]; decide) (by rw [s_3]; decide) (by decide) ?_
          refine lv_aload_n hx hb d_Hread_70 rfl (lv_at hl 1 rfl) ?_
          refine va_get (v := .ref (a 4)) hx hb hG i_H hown hK hP 1 wX_H rfl 2 (by decide) (hG _ L_H_18) (fun _ h9 => h9) rfl d_Hread_71 ?_
          refine lv_iload_n hx hb d_Hread_74 rfl (lv_at hl 0 rfl) ?_
          refine va_iald hx hb hK hP 4 0 rfl rfl (xInv_at hI c_1 c_2) d_Hread_75 ?_
          exact hret _ _ _ 76 (σ 4 (((((σ 1 5) + 16) - 1) - i) - ((((σ 1 5) + 16) - 1) - i) / 16 * 16).toNatClampNeg) σ hP hD hS rfl d_Hread_76 (by simp only [f_Hread, rm16, c_1, c_2, s_3, sw_2_0, sw_2_1, sw_2_2, ↓reduceIte]) (rfl)
    · refine lv_iconst (v := (-1)) hx hb d_Hread_12 (by decide) ?_
      exact hret _ _ _ 13 (-1) σ hP hD hS rfl d_Hread_13 (by simp only [f_Hread, rm16, c_1, c_2, ↓reduceIte]) (rfl)
set_option maxHeartbeats 4000000 in
set_option maxRecDepth 100000 in
theorem c_leastBit (l : Launch) (D : va_G) (a : Nat → Nat) (ca : Nat → ClassId) (σ : St) (x : Int32) : KI l D (tX ca) (wX a ca) rm_leastBit y_leastBit b_leastBit 2 .int [.int x] σ (nI (lbN x 7 0)) σ := by
  refine KI.of (by decide) (Nat.le_of_ble_eq_true rfl) ?_
  intro p e s m args below meth c A Q ls hx hb hml hown hG hK hN hA hP hD hS hl hret
  have hown : s.vm.findClass R_X = some m.cls := hown
  have hl : lv_has ls 2 [(0, .int x)] := hl
  refine lv_iconst (v := 0) hx hb d_leastBit_0 (by decide) ?_
  refine lv_istore_n (lv' := [(1, .int 0), (0, .int x)]) hx hb d_leastBit_1 rfl hl (by decide) rfl (fun ls hl => ?_)
  have loop : ∀ (n : Nat) (t : Nat), (t + n = 7) → (lbN x n t = lbN x 7 0) → ∀ (H : Heap) (locs : List Loc) (ls : Array Slot), va_P D classes (wX a ca σ) H → va_D A (wX a ca σ) → va_S A s.heap H locs → lv_has ls 2 [(1, .int (nI t)), (0, .int x)] → W p l e rm_leastBit s m args below meth c H locs 0 0 Q (F0 m 2 ls []) := by
    intro n
    induction n with
    | zero =>
      intro t ht hrel H locs ls hP hD hS hl
      refine lv_iload_n hx hb d_leastBit_2 rfl (lv_at hl 0 rfl) ?_
      refine lv_bipush (v := 7) hx hb d_leastBit_3 (by decide) ?_
      refine lv_icmp_ge (tgt := 24) hx hb d_leastBit_5 (by decide) (fun c_1 => ?_) (fun c_1 => absurd (nI_le (a := 7) (b := t) (by omega) (by omega)) c_1)
      refine lv_bipush (v := 7) hx hb d_leastBit_24 (by decide) ?_
      exact hret _ _ _ 26 7 σ hP hD hS rfl d_leastBit_26 (by rw [← hrel]; rfl) (rfl)
    | succ n ih =>
      intro t ht hrel H locs ls hP hD hS hl
      refine lv_iload_n hx hb d_leastBit_2 rfl (lv_at hl 0 rfl) ?_
      refine lv_bipush (v := 7) hx hb d_leastBit_3 (by decide) ?_
      refine lv_icmp_ge (tgt := 24) hx hb d_leastBit_5 (by decide) (fun c_2 => absurd c_2 (nI_ge (a := t) (b := 7) (by omega) (by omega))) (fun c_2 => ?_)
      refine lv_iload_n hx hb d_leastBit_8 rfl (lv_at hl 1 rfl) ?_
      refine lv_iconst (v := 1) hx hb d_leastBit_9 (by decide) ?_
      refine lv_iload_n hx hb d_leastBit_10 rfl (lv_at hl 0 rfl) ?_
      refine lv_ishl hx hb d_leastBit_11 ?_
      refine lv_iand hx hb d_leastBit_12 ?_
      refine lv_if_eq (tgt := 18) hx hb d_leastBit_13 (by decide) (fun c_3 => ?_) (fun c_3 => ?_)
      · refine lv_iinc (v := nI (t + 1)) (lv' := [(1, .int (nI (t + 1))), (0, .int x)]) hx hb d_leastBit_18 hl (k := 0) rfl (nI_1 t) (by decide) rfl (fun ls hl => ?_)
        refine lv_goto (tgt := 2) hx hb d_leastBit_21 (by decide) ?_
        exact ih (t + 1) (by omega) (by rw [← hrel]; simp only [lbN, bit1, c_2, c_3, ↓reduceIte]) _ _ _ hP hD hS (lv_sub hl [0, 1] rfl)
      · refine lv_iload_n hx hb d_leastBit_16 rfl (lv_at hl 0 rfl) ?_
        exact hret _ _ _ 17 (nI t) σ hP hD hS rfl d_leastBit_17 (by rw [← hrel]; simp only [lbN, bit1, c_2, c_3, ↓reduceIte]) (rfl)
  exact loop 7 0 (by omega) rfl _ _ _ hP hD hS (lv_sub hl [0, 1] rfl)
set_option maxHeartbeats 4000000 in
set_option maxRecDepth 100000 in
theorem c_raise (l : Launch) (D : va_G) (a : Nat → Nat) (ca : Nat → ClassId) (σ : St) (j : Nat) (hj : j < 8) : KV l D (tX ca) (wX a ca) rm_raise y_raise b_raise 3 [.ref (a 0), .int (nI j)] σ (f_raise σ j) := by
  refine KV.of (by decide) (Nat.le_of_ble_eq_true rfl) ?_
  intro p e s m args below meth c A Q ls hx hb hml hown hG hK hN hA hP hD hS hl hret
  have hown : s.vm.findClass R_X = some m.cls := hown
  have hl : lv_has ls 3 [(0, .ref (a 0)), (1, .int (nI j))] := hl
  refine lv_iconst (v := 1) hx hb d_raise_0 (by decide) ?_
  refine lv_iload_n hx hb d_raise_1 rfl (lv_at hl 1 rfl) ?_
  refine lv_ishl hx hb d_raise_2 ?_
  refine lv_istore_n (lv' := [(2, .int ((1 : Int32) <<< ((nI j) &&& 31))), (0, .ref (a 0)), (1, .int (nI j))]) hx hb d_raise_3 rfl hl (by decide) rfl (fun ls hl => ?_)
  refine lv_aload_n hx hb d_raise_4 rfl (lv_at hl 1 rfl) ?_
  refine va_get (v := .int (σ 0 3)) hx hb hG i_X hown hK hP 0 wX_X rfl 3 (by decide) (hG _ L_X_28) (fun _ h9 => h9) rfl d_raise_5 ?_
  refine lv_iload_n hx hb d_raise_8 rfl (lv_at hl 0 rfl) ?_
  refine lv_iand hx hb d_raise_9 ?_
  refine lv_if_eq (tgt := 28) hx hb d_raise_10 (by decide) (fun c_1 => ?_) (fun c_1 => ?_)
  · refine lv_aload_n hx hb d_raise_28 rfl (lv_at hl 1 rfl) ?_
    refine lv_dup hx hb d_raise_29 rfl ?_
    refine va_get (v := .int (σ 0 3)) hx hb hG i_X hown hK hP 0 wX_X rfl 3 (by decide) (hG _ L_X_28) (fun _ h9 => h9) rfl d_raise_30 ?_
    refine lv_iload_n hx hb d_raise_33 rfl (lv_at hl 0 rfl) ?_
    refine lv_ior hx hb d_raise_34 ?_
    refine va_put (ty := .int) (v := .int ((σ 0 3) ||| ((1 : Int32) <<< ((nI j) &&& 31)))) hx hb hG i_X ft_X ft_X_ok n_X hown hK hP hD hS 0 wX_X rfl 3 (by decide) (hG _ L_X_28) (fun _ h9 => h9) rfl (by decide +kernel) (rfl) (rfl) (Nat.le_of_ble_eq_true rfl) d_raise_35 (fun H locs hP hD hS => ?_)
    rw [wX_putX3] at hP hD
    exact hret _ _ _ 38 (up2 σ 0 3 ((σ 0 3) ||| ((1 : Int32) <<< ((nI j) &&& 31)))) hP hD hS d_raise_38 (by simp only [f_raise, bit1, c_1, ↓reduceIte])
  · refine lv_aload_n hx hb d_raise_13 rfl (lv_at hl 1 rfl) ?_
    refine va_get (v := .ref (a 17)) hx hb hG i_X hown hK hP 0 wX_X rfl 0 (by decide) (hG _ L_X_11) (fun _ h9 => h9) rfl d_raise_14 ?_
    refine lv_iload_n hx hb d_raise_17 rfl (lv_at hl 2 rfl) ?_
    refine x_aldT hx hb hK hP j hj d_raise_18 ?_
    refine lv_dup hx hb d_raise_19 rfl ?_
    refine va_getN (v := .int (σ (5 + j) 6)) hx hb hG i_T hown hK hP (5 + j) (wX_T hj) rfl 6 (by decide) (hN.use L_X_115) (fun _ h9 => h9) rfl d_raise_20 ?_
    refine lv_iconst (v := 1) hx hb d_raise_23 (by decide) ?_
    refine lv_iadd hx hb d_raise_24 ?_
    refine va_putN (ty := .int) (v := .int ((σ (5 + j) 6) + 1)) hx hb hG i_T ft_T ft_T_ok n_T hown hK hP hD hS (5 + j) (wX_T hj) rfl 6 (by decide) (hN.use L_X_115) (fun _ h9 => h9) rfl (by decide +kernel) (rfl) (rfl) (Nat.le_of_ble_eq_true rfl) d_raise_25 (fun H locs hP hD hS => ?_)
    rw [wX_putT hj (by decide)] at hP hD
    refine lv_aload_n hx hb d_raise_28 rfl (lv_at hl 1 rfl) ?_
    refine lv_dup hx hb d_raise_29 rfl ?_
    refine va_get (v := .int ((up2 σ (5 + j) 6 ((σ (5 + j) 6) + 1)) 0 3)) hx hb hG i_X hown hK hP 0 wX_X rfl 3 (by decide) (hG _ L_X_28) (fun _ h9 => h9) rfl d_raise_30 ?_
    refine lv_iload_n hx hb d_raise_33 rfl (lv_at hl 0 rfl) ?_
    refine lv_ior hx hb d_raise_34 ?_
    refine va_put (ty := .int) (v := .int (((up2 σ (5 + j) 6 ((σ (5 + j) 6) + 1)) 0 3) ||| ((1 : Int32) <<< ((nI j) &&& 31)))) hx hb hG i_X ft_X ft_X_ok n_X hown hK hP hD hS 0 wX_X rfl 3 (by decide) (hG _ L_X_28) (fun _ h9 => h9) rfl (by decide +kernel) (rfl) (rfl) (Nat.le_of_ble_eq_true rfl) d_raise_35 (fun H locs hP hD hS => ?_)
    rw [wX_putX3] at hP hD
    exact hret _ _ _ 38 (up2 (up2 σ (5 + j) 6 ((σ (5 + j) 6) + 1)) 0 3 (((up2 σ (5 + j) 6 ((σ (5 + j) 6) + 1)) 0 3) ||| ((1 : Int32) <<< ((nI j) &&& 31)))) hP hD hS d_raise_38 (by simp only [f_raise, bit1, c_1, ↓reduceIte])
