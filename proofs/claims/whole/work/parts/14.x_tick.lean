set_option maxHeartbeats 4000000 in
set_option maxRecDepth 100000 in
theorem c_tickTimers (l : Launch) (D : va_G) (a : Nat → Nat) (ca : Nat → ClassId) (σ : St)  : KV l D (tX ca) (wX a ca) rm_tickTimers y_tickTimers b_tickTimers 5 [.ref (a 0)] σ (tkT 8 0 0 σ) := by
  refine KV.of (by decide) (Nat.le_of_ble_eq_true rfl) ?_
  intro p e s m args below meth c A Q ls hx hb hml hown hG hK hN hA hP hD hS hl hret
  have hown : s.vm.findClass R_X = some m.cls := hown
  have hl : lv_has ls 5 [(0, .ref (a 0))] := hl
  refine lv_iconst (v := 0) hx hb d_tickTimers_0 (by decide) ?_
  refine lv_istore_n (lv' := [(1, .int 0), (0, .ref (a 0))]) hx hb d_tickTimers_1 rfl hl (by decide) rfl (fun ls hl => ?_)
  refine lv_iconst (v := 0) hx hb d_tickTimers_2 (by decide) ?_
  refine lv_istore_n (lv' := [(2, .int 0), (1, .int 0), (0, .ref (a 0))]) hx hb d_tickTimers_3 rfl hl (by decide) rfl (fun ls hl => ?_)
  have loop : ∀ (n : Nat) (t : Nat) (x : Int32) (σ1 : St), (t + n = 8) → (tkT n t x σ1 = tkT 8 0 0 σ) → ∀ (H : Heap) (locs : List Loc) (ls : Array Slot), va_P D classes (wX a ca σ1) H → va_D A (wX a ca σ1) → va_S A s.heap H locs → lv_has ls 5 [(2, .int (nI t)), (1, .int x), (0, .ref (a 0))] → W p l e rm_tickTimers s m args below meth c H locs 0 0 Q (F0 m 4 ls []) := by
    intro n
    induction n with
    | zero =>
      intro t x σ1 ht hrel H locs ls hP hD hS hl
      refine lv_iload_n hx hb d_tickTimers_4 rfl (lv_at hl 0 rfl) ?_
      refine lv_bipush (v := 8) hx hb d_tickTimers_5 (by decide) ?_
      refine lv_icmp_ge (tgt := 68) hx hb d_tickTimers_7 (by decide) (fun c_1 => ?_) (fun c_1 => absurd (nI_le (a := 8) (b := t) (by omega) (by omega)) c_1)
      exact hret _ _ _ 68 σ1 hP hD hS d_tickTimers_68 (hrel)
    | succ n ih =>
      intro t x σ1 ht hrel H locs ls hP hD hS hl
      refine lv_iload_n hx hb d_tickTimers_4 rfl (lv_at hl 0 rfl) ?_
      refine lv_bipush (v := 8) hx hb d_tickTimers_5 (by decide) ?_
      refine lv_icmp_ge (tgt := 68) hx hb d_tickTimers_7 (by decide) (fun c_2 => absurd c_2 (nI_ge (a := t) (b := 8) (by omega) (by omega))) (fun c_2 => ?_)
      refine lv_aload_n hx hb d_tickTimers_10 rfl (lv_at hl 2 rfl) ?_
      refine va_get (v := .ref (a 17)) hx hb hG i_X hown hK hP 0 wX_X rfl 0 (by decide) (hG _ L_X_11) (fun _ h9 => h9) rfl d_tickTimers_11 ?_
      refine lv_iload_n hx hb d_tickTimers_14 rfl (lv_at hl 0 rfl) ?_
      refine x_aldT hx hb hK hP t (show t < 8 by omega) d_tickTimers_15 ?_
      refine lv_astore_n (lv' := [(3, .ref (a (5 + t))), (2, .int (nI t)), (1, .int x), (0, .ref (a 0))]) hx hb d_tickTimers_16 rfl hl (by decide) rfl (fun ls hl => ?_)
      refine lv_aload_n hx hb d_tickTimers_17 rfl (lv_at hl 0 rfl) ?_
      refine va_getN (v := .int (σ1 (5 + t) 2)) hx hb hG i_T hown hK hP (5 + t) (wX_T (show t < 8 by omega)) rfl 2 (by decide) (hN.use L_X_46) (fun _ h9 => h9) rfl d_tickTimers_18 ?_
      refine lv_if_eq (tgt := 28) hx hb d_tickTimers_21 (by decide) (fun c_3 => ?_) (fun c_3 => ?_)
      · refine lv_iconst (v := 1) hx hb d_tickTimers_28 (by decide) ?_
        refine lv_goto (tgt := 33) hx hb d_tickTimers_29 (by decide) ?_
        refine lv_istore (lv' := [(4, .int 1), (3, .ref (a (5 + t))), (2, .int (nI t)), (1, .int x), (0, .ref (a 0))]) hx hb d_tickTimers_33 hl (by decide) rfl (fun ls hl => ?_)
        refine lv_iload hx hb d_tickTimers_35 (lv_at hl 0 rfl) ?_
        refine lv_if_eq (tgt := 51) hx hb d_tickTimers_37 (by decide) (fun c_4 => absurd c_4 (by decide)) (fun _ => ?_)
        refine lv_aload_n hx hb d_tickTimers_40 rfl (lv_at hl 1 rfl) ?_
        refine k_cN (rest := []) hx hb hml hown hG hK hN hA hP hD hS (c_countDown l D a ca σ1 t (show t < 8 by omega)) ok_countDown io_countDown L_X_107 ⟨rfl, rfl, by decide, by decide⟩ (5 + t) (wX_T (show t < 8 by omega)) rfl rfl hl.1 rfl (Nat.le_of_ble_eq_true rfl) ⟨Nat.zero_le _, Nat.zero_le _⟩ d_tickTimers_41 (fun H locs hP hD hS => ?_)
        refine lv_if_eq (tgt := 51) hx hb d_tickTimers_44 (by decide) (fun c_5 => ?_) (fun c_5 => ?_)
        · refine lv_iconst (v := 0) hx hb d_tickTimers_51 (by decide) ?_
          refine lv_istore_n (lv' := [(1, .int 0), (4, .int 1), (3, .ref (a (5 + t))), (2, .int (nI t)), (0, .ref (a 0))]) hx hb d_tickTimers_52 rfl hl (by decide) rfl (fun ls hl => ?_)
          refine lv_iload_n hx hb d_tickTimers_53 rfl (lv_at hl 0 rfl) ?_
          refine lv_if_eq (tgt := 62) hx hb d_tickTimers_54 (by decide) (fun _ => ?_) (fun c_6 => absurd (by decide) c_6)
          refine lv_iinc (v := nI (t + 1)) (lv' := [(2, .int (nI (t + 1))), (1, .int 0), (4, .int 1), (3, .ref (a (5 + t))), (0, .ref (a 0))]) hx hb d_tickTimers_62 hl (k := 3) rfl (nI_1 t) (by decide) rfl (fun ls hl => ?_)
          refine lv_goto (tgt := 4) hx hb d_tickTimers_65 (by decide) ?_
          exact ih (t + 1) 0 ((f_countDown σ1 (5 + t)).2) (by omega) (by rw [← hrel]; simp only [tkT, stT, c_2, c_3, c_5, ↓reduceIte]) _ _ _ hP hD hS (lv_sub hl [0, 1, 4] rfl)
        · refine lv_iconst (v := 1) hx hb d_tickTimers_47 (by decide) ?_
          refine lv_goto (tgt := 52) hx hb d_tickTimers_48 (by decide) ?_
          refine lv_istore_n (lv' := [(1, .int 1), (4, .int 1), (3, .ref (a (5 + t))), (2, .int (nI t)), (0, .ref (a 0))]) hx hb d_tickTimers_52 rfl hl (by decide) rfl (fun ls hl => ?_)
          refine lv_iload_n hx hb d_tickTimers_53 rfl (lv_at hl 0 rfl) ?_
          refine lv_if_eq (tgt := 62) hx hb d_tickTimers_54 (by decide) (fun c_7 => absurd c_7 (by decide)) (fun _ => ?_)
          refine lv_aload_n hx hb d_tickTimers_57 rfl (lv_at hl 4 rfl) ?_
          refine lv_iload_n hx hb d_tickTimers_58 rfl (lv_at hl 3 rfl) ?_
          refine k_cVv (rest := []) hx hb hml hown hG hK hN hA hP hD hS (c_raise l D a ca ((f_countDown σ1 (5 + t)).2) t (show t < 8 by omega)) ok_raise io_raise L_X_111 ⟨rfl, rfl, by decide, by decide⟩ 0 wX_X rfl rfl hl.1 rfl (Nat.le_of_ble_eq_true rfl) ⟨Nat.zero_le _, Nat.zero_le _⟩ d_tickTimers_59 (fun H locs hP hD hS => ?_)
          refine lv_iinc (v := nI (t + 1)) (lv' := [(2, .int (nI (t + 1))), (1, .int 1), (4, .int 1), (3, .ref (a (5 + t))), (0, .ref (a 0))]) hx hb d_tickTimers_62 hl (k := 3) rfl (nI_1 t) (by decide) rfl (fun ls hl => ?_)
          refine lv_goto (tgt := 4) hx hb d_tickTimers_65 (by decide) ?_
          exact ih (t + 1) 1 (f_raise ((f_countDown σ1 (5 + t)).2) t) (by omega) (by rw [← hrel]; simp only [tkT, stT, c_2, c_3, c_5, ↓reduceIte]) _ _ _ hP hD hS (lv_sub hl [0, 1, 4] rfl)
      · refine lv_iload_n hx hb d_tickTimers_24 rfl (lv_at hl 2 rfl) ?_
        refine lv_if_eq (tgt := 32) hx hb d_tickTimers_25 (by decide) (fun c_8 => ?_) (fun c_8 => ?_)
        · refine lv_iconst (v := 0) hx hb d_tickTimers_32 (by decide) ?_
          refine lv_istore (lv' := [(4, .int 0), (3, .ref (a (5 + t))), (2, .int (nI t)), (1, .int x), (0, .ref (a 0))]) hx hb d_tickTimers_33 hl (by decide) rfl (fun ls hl => ?_)
          refine lv_iload hx hb d_tickTimers_35 (lv_at hl 0 rfl) ?_
          refine lv_if_eq (tgt := 51) hx hb d_tickTimers_37 (by decide) (fun _ => ?_) (fun c_9 => absurd (by decide) c_9)
          refine lv_iconst (v := 0) hx hb d_tickTimers_51 (by decide) ?_
          refine lv_istore_n (lv' := [(1, .int 0), (4, .int 0), (3, .ref (a (5 + t))), (2, .int (nI t)), (0, .ref (a 0))]) hx hb d_tickTimers_52 rfl hl (by decide) rfl (fun ls hl => ?_)
          refine lv_iload_n hx hb d_tickTimers_53 rfl (lv_at hl 0 rfl) ?_
          refine lv_if_eq (tgt := 62) hx hb d_tickTimers_54 (by decide) (fun _ => ?_) (fun c_10 => absurd (by decide) c_10)
          refine lv_iinc (v := nI (t + 1)) (lv' := [(2, .int (nI (t + 1))), (1, .int 0), (4, .int 0), (3, .ref (a (5 + t))), (0, .ref (a 0))]) hx hb d_tickTimers_62 hl (k := 3) rfl (nI_1 t) (by decide) rfl (fun ls hl => ?_)
          refine lv_goto (tgt := 4) hx hb d_tickTimers_65 (by decide) ?_
          exact ih (t + 1) 0 σ1 (by omega) (by rw [← hrel]; simp only [tkT, stT, c_2, c_3, c_8, ↓reduceIte]) _ _ _ hP hD hS (lv_sub hl [0, 1, 4] rfl)
        · refine lv_iconst (v := 1) hx hb d_tickTimers_28 (by decide) ?_
          refine lv_goto (tgt := 33) hx hb d_tickTimers_29 (by decide) ?_
          refine lv_istore (lv' := [(4, .int 1), (3, .ref (a (5 + t))), (2, .int (nI t)), (1, .int x), (0, .ref (a 0))]) hx hb d_tickTimers_33 hl (by decide) rfl (fun ls hl => ?_)
          refine lv_iload hx hb d_tickTimers_35 (lv_at hl 0 rfl) ?_
          refine lv_if_eq (tgt := 51) hx hb d_tickTimers_37 (by decide) (fun c_11 => absurd c_11 (by decide)) (fun _ => ?_)
          refine lv_aload_n hx hb d_tickTimers_40 rfl (lv_at hl 1 rfl) ?_
          refine k_cN (rest := []) hx hb hml hown hG hK hN hA hP hD hS (c_countDown l D a ca σ1 t (show t < 8 by omega)) ok_countDown io_countDown L_X_107 ⟨rfl, rfl, by decide, by decide⟩ (5 + t) (wX_T (show t < 8 by omega)) rfl rfl hl.1 rfl (Nat.le_of_ble_eq_true rfl) ⟨Nat.zero_le _, Nat.zero_le _⟩ d_tickTimers_41 (fun H locs hP hD hS => ?_)
          refine lv_if_eq (tgt := 51) hx hb d_tickTimers_44 (by decide) (fun c_12 => ?_) (fun c_12 => ?_)
          · refine lv_iconst (v := 0) hx hb d_tickTimers_51 (by decide) ?_
            refine lv_istore_n (lv' := [(1, .int 0), (4, .int 1), (3, .ref (a (5 + t))), (2, .int (nI t)), (0, .ref (a 0))]) hx hb d_tickTimers_52 rfl hl (by decide) rfl (fun ls hl => ?_)
            refine lv_iload_n hx hb d_tickTimers_53 rfl (lv_at hl 0 rfl) ?_
            refine lv_if_eq (tgt := 62) hx hb d_tickTimers_54 (by decide) (fun _ => ?_) (fun c_13 => absurd (by decide) c_13)
            refine lv_iinc (v := nI (t + 1)) (lv' := [(2, .int (nI (t + 1))), (1, .int 0), (4, .int 1), (3, .ref (a (5 + t))), (0, .ref (a 0))]) hx hb d_tickTimers_62 hl (k := 3) rfl (nI_1 t) (by decide) rfl (fun ls hl => ?_)
            refine lv_goto (tgt := 4) hx hb d_tickTimers_65 (by decide) ?_
            exact ih (t + 1) 0 ((f_countDown σ1 (5 + t)).2) (by omega) (by rw [← hrel]; simp only [tkT, stT, c_2, c_3, c_8, c_12, ↓reduceIte]) _ _ _ hP hD hS (lv_sub hl [0, 1, 4] rfl)
          · refine lv_iconst (v := 1) hx hb d_tickTimers_47 (by decide) ?_
            refine lv_goto (tgt := 52) hx hb d_tickTimers_48 (by decide) ?_
            refine lv_istore_n (lv' := [(1, .int 1), (4, .int 1), (3, .ref (a (5 + t))), (2, .int (nI t)), (0, .ref (a 0))]) hx hb d_tickTimers_52 rfl hl (by decide) rfl (fun ls hl => ?_)
            refine lv_iload_n hx hb d_tickTimers_53 rfl (lv_at hl 0 rfl) ?_
            refine lv_if_eq (tgt := 62) hx hb d_tickTimers_54 (by decide) (fun c_14 => absurd c_14 (by decide)) (fun _ => ?_)
            refine lv_aload_n hx hb d_tickTimers_57 rfl (lv_at hl 4 rfl) ?_
            refine lv_iload_n hx hb d_tickTimers_58 rfl (lv_at hl 3 rfl) ?_
            refine k_cVv (rest := []) hx hb hml hown hG hK hN hA hP hD hS (c_raise l D a ca ((f_countDown σ1 (5 + t)).2) t (show t < 8 by omega)) ok_raise io_raise L_X_111 ⟨rfl, rfl, by decide, by decide⟩ 0 wX_X rfl rfl hl.1 rfl (Nat.le_of_ble_eq_true rfl) ⟨Nat.zero_le _, Nat.zero_le _⟩ d_tickTimers_59 (fun H locs hP hD hS => ?_)
            refine lv_iinc (v := nI (t + 1)) (lv' := [(2, .int (nI (t + 1))), (1, .int 1), (4, .int 1), (3, .ref (a (5 + t))), (0, .ref (a 0))]) hx hb d_tickTimers_62 hl (k := 3) rfl (nI_1 t) (by decide) rfl (fun ls hl => ?_)
            refine lv_goto (tgt := 4) hx hb d_tickTimers_65 (by decide) ?_
            exact ih (t + 1) 1 (f_raise ((f_countDown σ1 (5 + t)).2) t) (by omega) (by rw [← hrel]; simp only [tkT, stT, c_2, c_3, c_8, c_12, ↓reduceIte]) _ _ _ hP hD hS (lv_sub hl [0, 1, 4] rfl)
  exact loop 8 0 0 σ (by omega) rfl _ _ _ hP hD hS (lv_sub hl [0, 1, 2] rfl)
set_option maxHeartbeats 4000000 in
set_option maxRecDepth 100000 in
theorem c_serve (l : Launch) (D : va_G) (a : Nat → Nat) (ca : Nat → ClassId) (σ : St) (j : Nat) (hj : j < 4) (hI : xInv σ) : KI l D (tX ca) (wX a ca) rm_serve y_serve b_serve 4 .boolean [.ref (a 0), .int (nI j)] σ ((f_serve σ j).1) ((f_serve σ j).2) := by
  refine KI.of (by decide) (Nat.le_of_ble_eq_true rfl) ?_
  intro p e s m args below meth c A Q ls hx hb hml hown hG hK hN hA hP hD hS hl hret
  have hown : s.vm.findClass R_X = some m.cls := hown
  have hl : lv_has ls 4 [(0, .ref (a 0)), (1, .int (nI j))] := hl
  refine lv_aload_n hx hb d_serve_0 rfl (lv_at hl 0 rfl) ?_
  refine va_get (v := .ref (a 18)) hx hb hG i_X hown hK hP 0 wX_X rfl 1 (by decide) (hG _ L_X_17) (fun _ h9 => h9) rfl d_serve_1 ?_
  refine lv_iload_n hx hb d_serve_4 rfl (lv_at hl 1 rfl) ?_
  refine x_aldG hx hb hK hP j hj d_serve_5 ?_
  refine lv_astore_n (lv' := [(2, .ref (a (13 + j))), (0, .ref (a 0)), (1, .int (nI j))]) hx hb d_serve_6 rfl hl (by decide) rfl (fun ls hl => ?_)
  refine lv_aload_n hx hb d_serve_7 rfl (lv_at hl 0 rfl) ?_
  refine lv_aload_n hx hb d_serve_8 rfl (lv_at hl 1 rfl) ?_
  refine va_get (v := .int (σ 0 3)) hx hb hG i_X hown hK hP 0 wX_X rfl 3 (by decide) (hG _ L_X_28) (fun _ h9 => h9) rfl d_serve_9 ?_
  refine k_cN (rest := []) hx hb hml hown hG hK hN hA hP hD hS (c_asks l D a ca σ j hj (σ 0 3)) ok_asks io_asks L_X_124 ⟨rfl, rfl, by decide, by decide⟩ (13 + j) (wX_G hj) rfl rfl hl.1 rfl (Nat.le_of_ble_eq_true rfl) ⟨Nat.zero_le _, Nat.zero_le _⟩ d_serve_12 (fun H locs hP hD hS => ?_)
  refine lv_if_ne (tgt := 30) hx hb d_serve_15 (by decide) (fun c_1 => ?_) (fun c_1 => ?_)
  · refine lv_aload_n hx hb d_serve_30 rfl (lv_at hl 1 rfl) ?_
    refine va_get (v := .int (σ 0 3)) hx hb hG i_X hown hK hP 0 wX_X rfl 3 (by decide) (hG _ L_X_28) (fun _ h9 => h9) rfl d_serve_31 ?_
    refine lv_aload_n hx hb d_serve_34 rfl (lv_at hl 0 rfl) ?_
    refine va_getN (v := .int (σ (13 + j) 0)) hx hb hG i_G hown hK hP (13 + j) (wX_G hj) rfl 0 (by decide) (hN.use L_X_68) (fun _ h9 => h9) rfl d_serve_35 ?_
    refine lv_iand hx hb d_serve_38 ?_
    refine k_cS (rest := []) hx hb hml hown hG hK hN hA hP hD hS (c_leastBit l D a ca σ ((σ 0 3) &&& (σ (13 + j) 0))) ok_leastBit so_leastBit L_X_130 ⟨rfl, rfl, by decide, by decide⟩ rfl hl.1 rfl (Nat.le_of_ble_eq_true rfl) ⟨Nat.zero_le _, Nat.zero_le _⟩ d_serve_39 (fun H locs hP hD hS => ?_)
    obtain ⟨k, hk8, ek⟩ : ∃ k : Nat, k < 8 ∧ lbN ((σ 0 3) &&& (σ (13 + j) 0)) 7 0 = k := ⟨_, lbN_lt _ 7 0 (by decide), rfl⟩
    rw [ek]
    refine lv_istore_n (lv' := [(3, .int (nI k)), (2, .ref (a (13 + j))), (0, .ref (a 0)), (1, .int (nI j))]) hx hb d_serve_42 rfl hl (by decide) rfl (fun ls hl => ?_)
    refine lv_aload_n hx hb d_serve_43 rfl (lv_at hl 2 rfl) ?_
    refine lv_dup hx hb d_serve_44 rfl ?_
    refine va_get (v := .int (σ 0 3)) hx hb hG i_X hown hK hP 0 wX_X rfl 3 (by decide) (hG _ L_X_28) (fun _ h9 => h9) rfl d_serve_45 ?_
    refine lv_iconst (v := 1) hx hb d_serve_48 (by decide) ?_
    refine lv_iload_n hx hb d_serve_49 rfl (lv_at hl 0 rfl) ?_
    refine lv_ishl hx hb d_serve_50 ?_
    refine lv_iconst (v := (-1)) hx hb d_serve_51 (by decide) ?_
    refine lv_ixor hx hb d_serve_52 ?_
    refine lv_iand hx hb d_serve_53 ?_
    refine va_put (ty := .int) (v := .int ((σ 0 3) &&& (((1 : Int32) <<< ((nI k) &&& 31)) ^^^ (-1)))) hx hb hG i_X ft_X ft_X_ok n_X hown hK hP hD hS 0 wX_X rfl 3 (by decide) (hG _ L_X_28) (fun _ h9 => h9) rfl (by decide +kernel) (rfl) (rfl) (Nat.le_of_ble_eq_true rfl) d_serve_54 (fun H locs hP hD hS => ?_)
    rw [wX_putX3] at hP hD
    refine lv_aload_n hx hb d_serve_57 rfl (lv_at hl 2 rfl) ?_
    refine va_get (v := .ref (a 17)) hx hb hG i_X hown hK hP 0 wX_X rfl 0 (by decide) (hG _ L_X_11) (fun _ h9 => h9) rfl d_serve_58 ?_
    refine lv_iload_n hx hb d_serve_61 rfl (lv_at hl 0 rfl) ?_
    refine x_aldT hx hb hK hP k hk8 d_serve_62 ?_
    refine lv_dup hx hb d_serve_63 rfl ?_
    refine va_getN (v := .int ((up2 σ 0 3 ((σ 0 3) &&& (((1 : Int32) <<< ((nI k) &&& 31)) ^^^ (-1)))) (5 + k) 7)) hx hb hG i_T hown hK hP (5 + k) (wX_T hk8) rfl 7 (by decide) (hN.use L_X_133) (fun _ h9 => h9) rfl d_serve_64 ?_
    refine lv_iconst (v := 1) hx hb d_serve_67 (by decide) ?_
    refine lv_iadd hx hb d_serve_68 ?_
    refine va_putN (ty := .int) (v := .int (((up2 σ 0 3 ((σ 0 3) &&& (((1 : Int32) <<< ((nI k) &&& 31)) ^^^ (-1)))) (5 + k) 7) + 1)) hx hb hG i_T ft_T ft_T_ok n_T hown hK hP hD hS (5 + k) (wX_T hk8) rfl 7 (by decide) (hN.use L_X_133) (fun _ h9 => h9) rfl (by decide +kernel) (rfl) (rfl) (Nat.le_of_ble_eq_true rfl) d_serve_69 (fun H locs hP hD hS => ?_)
    rw [wX_putT hk8 (by decide)] at hP hD
    refine lv_aload_n hx hb d_serve_72 rfl (lv_at hl 1 rfl) ?_
    refine lv_dup hx hb d_serve_73 rfl ?_
    refine va_getN (v := .int ((up2 (up2 σ 0 3 ((σ 0 3) &&& (((1 : Int32) <<< ((nI k) &&& 31)) ^^^ (-1)))) (5 + k) 7 (((up2 σ 0 3 ((σ 0 3) &&& (((1 : Int32) <<< ((nI k) &&& 31)) ^^^ (-1)))) (5 + k) 7) + 1)) (13 + j) 3)) hx hb hG i_G hown hK hP (13 + j) (wX_G hj) rfl 3 (by decide) (hN.use L_X_136) (fun _ h9 => h9) rfl d_serve_74 ?_
    refine lv_iconst (v := 1) hx hb d_serve_77 (by decide) ?_
    refine lv_iadd hx hb d_serve_78 ?_
    refine va_putN (ty := .int) (v := .int (((up2 (up2 σ 0 3 ((σ 0 3) &&& (((1 : Int32) <<< ((nI k) &&& 31)) ^^^ (-1)))) (5 + k) 7 (((up2 σ 0 3 ((σ 0 3) &&& (((1 : Int32) <<< ((nI k) &&& 31)) ^^^ (-1)))) (5 + k) 7) + 1)) (13 + j) 3) + 1)) hx hb hG i_G ft_G ft_G_ok n_G hown hK hP hD hS (13 + j) (wX_G hj) rfl 3 (by decide) (hN.use L_X_136) (fun _ h9 => h9) rfl (by decide +kernel) (rfl) (rfl) (Nat.le_of_ble_eq_true rfl) d_serve_79 (fun H locs hP hD hS => ?_)
    rw [wX_putG hj (by decide)] at hP hD
    refine lv_aload_n hx hb d_serve_82 rfl (lv_at hl 1 rfl) ?_
    refine lv_aload_n hx hb d_serve_83 rfl (lv_at hl 2 rfl) ?_
    refine va_get (v := .int ((up2 (up2 (up2 σ 0 3 ((σ 0 3) &&& (((1 : Int32) <<< ((nI k) &&& 31)) ^^^ (-1)))) (5 + k) 7 (((up2 σ 0 3 ((σ 0 3) &&& (((1 : Int32) <<< ((nI k) &&& 31)) ^^^ (-1)))) (5 + k) 7) + 1)) (13 + j) 3 (((up2 (up2 σ 0 3 ((σ 0 3) &&& (((1 : Int32) <<< ((nI k) &&& 31)) ^^^ (-1)))) (5 + k) 7 (((up2 σ 0 3 ((σ 0 3) &&& (((1 : Int32) <<< ((nI k) &&& 31)) ^^^ (-1)))) (5 + k) 7) + 1)) (13 + j) 3) + 1)) 0 4)) hx hb hG i_X hown hK hP 0 wX_X rfl 4 (by decide) (hG _ L_X_32) (fun _ h9 => h9) rfl d_serve_84 ?_
    refine va_putN (ty := .int) (v := .int ((up2 (up2 (up2 σ 0 3 ((σ 0 3) &&& (((1 : Int32) <<< ((nI k) &&& 31)) ^^^ (-1)))) (5 + k) 7 (((up2 σ 0 3 ((σ 0 3) &&& (((1 : Int32) <<< ((nI k) &&& 31)) ^^^ (-1)))) (5 + k) 7) + 1)) (13 + j) 3 (((up2 (up2 σ 0 3 ((σ 0 3) &&& (((1 : Int32) <<< ((nI k) &&& 31)) ^^^ (-1)))) (5 + k) 7 (((up2 σ 0 3 ((σ 0 3) &&& (((1 : Int32) <<< ((nI k) &&& 31)) ^^^ (-1)))) (5 + k) 7) + 1)) (13 + j) 3) + 1)) 0 4)) hx hb hG i_G ft_G ft_G_ok n_G hown hK hP hD hS (13 + j) (wX_G hj) rfl 5 (by decide) (hN.use L_X_139) (fun _ h9 => h9) rfl (by decide +kernel) (rfl) (rfl) (Nat.le_of_ble_eq_true rfl) d_serve_87 (fun H locs hP hD hS => ?_)
    rw [wX_putG hj (by decide)] at hP hD
    refine lv_aload_n hx hb d_serve_90 rfl (lv_at hl 2 rfl) ?_
    refine va_get (v := .ref (a 1)) hx hb hG i_X hown hK hP 0 wX_X rfl 2 (by decide) (hG _ L_X_24) (fun _ h9 => h9) rfl d_serve_91 ?_
    refine lv_iload_n hx hb d_serve_94 rfl (lv_at hl 0 rfl) ?_
    refine lv_iload_n hx hb d_serve_95 rfl (lv_at hl 3 rfl) ?_
    refine lv_aload_n hx hb d_serve_96 rfl (lv_at hl 2 rfl) ?_
    refine va_get (v := .int ((up2 (up2 (up2 (up2 σ 0 3 ((σ 0 3) &&& (((1 : Int32) <<< ((nI k) &&& 31)) ^^^ (-1)))) (5 + k) 7 (((up2 σ 0 3 ((σ 0 3) &&& (((1 : Int32) <<< ((nI k) &&& 31)) ^^^ (-1)))) (5 + k) 7) + 1)) (13 + j) 3 (((up2 (up2 σ 0 3 ((σ 0 3) &&& (((1 : Int32) <<< ((nI k) &&& 31)) ^^^ (-1)))) (5 + k) 7 (((up2 σ 0 3 ((σ 0 3) &&& (((1 : Int32) <<< ((nI k) &&& 31)) ^^^ (-1)))) (5 + k) 7) + 1)) (13 + j) 3) + 1)) (13 + j) 5 ((up2 (up2 (up2 σ 0 3 ((σ 0 3) &&& (((1 : Int32) <<< ((nI k) &&& 31)) ^^^ (-1)))) (5 + k) 7 (((up2 σ 0 3 ((σ 0 3) &&& (((1 : Int32) <<< ((nI k) &&& 31)) ^^^ (-1)))) (5 + k) 7) + 1)) (13 + j) 3 (((up2 (up2 σ 0 3 ((σ 0 3) &&& (((1 : Int32) <<< ((nI k) &&& 31)) ^^^ (-1)))) (5 + k) 7 (((up2 σ 0 3 ((σ 0 3) &&& (((1 : Int32) <<< ((nI k) &&& 31)) ^^^ (-1)))) (5 + k) 7) + 1)) (13 + j) 3) + 1)) 0 4)) 0 4)) hx hb hG i_X hown hK hP 0 wX_X rfl 4 (by decide) (hG _ L_X_32) (fun _ h9 => h9) rfl d_serve_97 ?_
    refine k_cNv (rest := []) hx hb hml hown hG hK hN hA hP hD hS (c_add l D a ca (up2 (up2 (up2 (up2 σ 0 3 ((σ 0 3) &&& (((1 : Int32) <<< ((nI k) &&& 31)) ^^^ (-1)))) (5 + k) 7 (((up2 σ 0 3 ((σ 0 3) &&& (((1 : Int32) <<< ((nI k) &&& 31)) ^^^ (-1)))) (5 + k) 7) + 1)) (13 + j) 3 (((up2 (up2 σ 0 3 ((σ 0 3) &&& (((1 : Int32) <<< ((nI k) &&& 31)) ^^^ (-1)))) (5 + k) 7 (((up2 σ 0 3 ((σ 0 3) &&& (((1 : Int32) <<< ((nI k) &&& 31)) ^^^ (-1)))) (5 + k) 7) + 1)) (13 + j) 3) + 1)) (13 + j) 5 ((up2 (up2 (up2 σ 0 3 ((σ 0 3) &&& (((1 : Int32) <<< ((nI k) &&& 31)) ^^^ (-1)))) (5 + k) 7 (((up2 σ 0 3 ((σ 0 3) &&& (((1 : Int32) <<< ((nI k) &&& 31)) ^^^ (-1)))) (5 + k) 7) + 1)) (13 + j) 3 (((up2 (up2 σ 0 3 ((σ 0 3) &&& (((1 : Int32) <<< ((nI k) &&& 31)) ^^^ (-1)))) (5 + k) 7 (((up2 σ 0 3 ((σ 0 3) &&& (((1 : Int32) <<< ((nI k) &&& 31)) ^^^ (-1)))) (5 + k) 7) + 1)) (13 + j) 3) + 1)) 0 4)) (nI k) (nI j) ((up2 (up2 (up2 (up2 σ 0 3 ((σ 0 3) &&& (((1 : Int32) <<< ((nI k) &&& 31)) ^^^ (-1)))) (5 + k) 7 (((up2 σ 0 3 ((σ 0 3) &&& (((1 : Int32) <<< ((nI k) &&& 31)) ^^^ (-1)))) (5 + k) 7) + 1)) (13 + j) 3 (((up2 (up2 σ 0 3 ((σ 0 3) &&& (((1 : Int32) <<< ((nI k) &&& 31)) ^^^ (-1)))) (5 + k) 7 (((up2 σ 0 3 ((σ 0 3) &&& (((1 : Int32) <<< ((nI k) &&& 31)) ^^^ (-1)))) (5 + k) 7) + 1)) (13 + j) 3) + 1)) (13 + j) 5 ((up2 (up2 (up2 σ 0 3 ((σ 0 3) &&& (((1 : Int32) <<< ((nI k) &&& 31)) ^^^ (-1)))) (5 + k) 7 (((up2 σ 0 3 ((σ 0 3) &&& (((1 : Int32) <<< ((nI k) &&& 31)) ^^^ (-1)))) (5 + k) 7) + 1)) (13 + j) 3 (((up2 (up2 σ 0 3 ((σ 0 3) &&& (((1 : Int32) <<< ((nI k) &&& 31)) ^^^ (-1)))) (5 + k) 7 (((up2 σ 0 3 ((σ 0 3) &&& (((1 : Int32) <<< ((nI k) &&& 31)) ^^^ (-1)))) (5 + k) 7) + 1)) (13 + j) 3) + 1)) 0 4)) 0 4) (xInv_up (by omega) (xInv_up (by omega) (xInv_up (by omega) (xInv_up (by decide) hI))))) ok_add io_add L_X_142 ⟨rfl, rfl, by decide, by decide⟩ 1 wX_H rfl rfl hl.1 rfl (Nat.le_of_ble_eq_true rfl) ⟨Nat.zero_le _, Nat.zero_le _⟩ d_serve_100 (fun H locs hP hD hS => ?_)
    refine lv_iconst (v := 1) hx hb d_serve_103 (by decide) ?_
    exact hret _ _ _ 104 1 (f_add (up2 (up2 (up2 (up2 σ 0 3 ((σ 0 3) &&& (((1 : Int32) <<< ((nI k) &&& 31)) ^^^ (-1)))) (5 + k) 7 (((up2 σ 0 3 ((σ 0 3) &&& (((1 : Int32) <<< ((nI k) &&& 31)) ^^^ (-1)))) (5 + k) 7) + 1)) (13 + j) 3 (((up2 (up2 σ 0 3 ((σ 0 3) &&& (((1 : Int32) <<< ((nI k) &&& 31)) ^^^ (-1)))) (5 + k) 7 (((up2 σ 0 3 ((σ 0 3) &&& (((1 : Int32) <<< ((nI k) &&& 31)) ^^^ (-1)))) (5 + k) 7) + 1)) (13 + j) 3) + 1)) (13 + j) 5 ((up2 (up2 (up2 σ 0 3 ((σ 0 3) &&& (((1 : Int32) <<< ((nI k) &&& 31)) ^^^ (-1)))) (5 + k) 7 (((up2 σ 0 3 ((σ 0 3) &&& (((1 : Int32) <<< ((nI k) &&& 31)) ^^^ (-1)))) (5 + k) 7) + 1)) (13 + j) 3 (((up2 (up2 σ 0 3 ((σ 0 3) &&& (((1 : Int32) <<< ((nI k) &&& 31)) ^^^ (-1)))) (5 + k) 7 (((up2 σ 0 3 ((σ 0 3) &&& (((1 : Int32) <<< ((nI k) &&& 31)) ^^^ (-1)))) (5 + k) 7) + 1)) (13 + j) 3) + 1)) 0 4)) (nI k) (nI j) ((up2 (up2 (up2 (up2 σ 0 3 ((σ 0 3) &&& (((1 : Int32) <<< ((nI k) &&& 31)) ^^^ (-1)))) (5 + k) 7 (((up2 σ 0 3 ((σ 0 3) &&& (((1 : Int32) <<< ((nI k) &&& 31)) ^^^ (-1)))) (5 + k) 7) + 1)) (13 + j) 3 (((up2 (up2 σ 0 3 ((σ 0 3) &&& (((1 : Int32) <<< ((nI k) &&& 31)) ^^^ (-1)))) (5 + k) 7 (((up2 σ 0 3 ((σ 0 3) &&& (((1 : Int32) <<< ((nI k) &&& 31)) ^^^ (-1)))) (5 + k) 7) + 1)) (13 + j) 3) + 1)) (13 + j) 5 ((up2 (up2 (up2 σ 0 3 ((σ 0 3) &&& (((1 : Int32) <<< ((nI k) &&& 31)) ^^^ (-1)))) (5 + k) 7 (((up2 σ 0 3 ((σ 0 3) &&& (((1 : Int32) <<< ((nI k) &&& 31)) ^^^ (-1)))) (5 + k) 7) + 1)) (13 + j) 3 (((up2 (up2 σ 0 3 ((σ 0 3) &&& (((1 : Int32) <<< ((nI k) &&& 31)) ^^^ (-1)))) (5 + k) 7 (((up2 σ 0 3 ((σ 0 3) &&& (((1 : Int32) <<< ((nI k) &&& 31)) ^^^ (-1)))) (5 + k) 7) + 1)) (13 + j) 3) + 1)) 0 4)) 0 4)) hP hD hS rfl d_serve_104 (by simp only [f_serve, bit1, c_1, ek, ↓reduceIte]) (by simp only [f_serve, bit1, c_1, ek, ↓reduceIte])
  · refine lv_aload_n hx hb d_serve_18 rfl (lv_at hl 0 rfl) ?_
    refine lv_dup hx hb d_serve_19 rfl ?_
    refine va_getN (v := .int (σ (13 + j) 4)) hx hb hG i_G hown hK hP (13 + j) (wX_G hj) rfl 4 (by decide) (hN.use L_X_127) (fun _ h9 => h9) rfl d_serve_20 ?_
    refine lv_iconst (v := 1) hx hb d_serve_23 (by decide) ?_
    refine lv_iadd hx hb d_serve_24 ?_
    refine va_putN (ty := .int) (v := .int ((σ (13 + j) 4) + 1)) hx hb hG i_G ft_G ft_G_ok n_G hown hK hP hD hS (13 + j) (wX_G hj) rfl 4 (by decide) (hN.use L_X_127) (fun _ h9 => h9) rfl (by decide +kernel) (rfl) (rfl) (Nat.le_of_ble_eq_true rfl) d_serve_25 (fun H locs hP hD hS => ?_)
    rw [wX_putG hj (by decide)] at hP hD
    refine lv_iconst (v := 0) hx hb d_serve_28 (by decide) ?_
    exact hret _ _ _ 29 0 (up2 σ (13 + j) 4 ((σ (13 + j) 4) + 1)) hP hD hS rfl d_serve_29 (by simp only [f_serve, bit1, c_1, ↓reduceIte]) (by simp only [f_serve, bit1, c_1, ↓reduceIte])
set_option maxHeartbeats 4000000 in
set_option maxRecDepth 100000 in
theorem c_tickGates (l : Launch) (D : va_G) (a : Nat → Nat) (ca : Nat → ClassId) (σ : St) (hI : xInv σ) : KI l D (tX ca) (wX a ca) rm_tickGates y_tickGates b_tickGates 3 .int [.ref (a 0)] σ ((tkG 4 0 0 σ).1) ((tkG 4 0 0 σ).2) := by
  refine KI.of (by decide) (Nat.le_of_ble_eq_true rfl) ?_
  intro p e s m args below meth c A Q ls hx hb hml hown hG hK hN hA hP hD hS hl hret
  have hown : s.vm.findClass R_X = some m.cls := hown
  have hl : lv_has ls 3 [(0, .ref (a 0))] := hl
  refine lv_iconst (v := 0) hx hb d_tickGates_0 (by decide) ?_
  refine lv_istore_n (lv' := [(1, .int 0), (0, .ref (a 0))]) hx hb d_tickGates_1 rfl hl (by decide) rfl (fun ls hl => ?_)
  refine lv_iconst (v := 0) hx hb d_tickGates_2 (by decide) ?_
  refine lv_istore_n (lv' := [(2, .int 0), (1, .int 0), (0, .ref (a 0))]) hx hb d_tickGates_3 rfl hl (by decide) rfl (fun ls hl => ?_)
  have loop : ∀ (n : Nat) (g : Nat) (sv : Int32) (σ1 : St), (g + n = 4) → (xInv σ1) → (tkG n g sv σ1 = tkG 4 0 0 σ) → ∀ (H : Heap) (locs : List Loc) (ls : Array Slot), va_P D classes (wX a ca σ1) H → va_D A (wX a ca σ1) → va_S A s.heap H locs → lv_has ls 3 [(2, .int (nI g)), (1, .int sv), (0, .ref (a 0))] → W p l e rm_tickGates s m args below meth c H locs 0 0 Q (F0 m 4 ls []) := by
    intro n
    induction n with
    | zero =>
      intro g sv σ1 hg hI1 hrel H locs ls hP hD hS hl
      refine lv_iload_n hx hb d_tickGates_4 rfl (lv_at hl 0 rfl) ?_
      refine lv_iconst (v := 4) hx hb d_tickGates_5 (by decide) ?_
      refine lv_icmp_ge (tgt := 38) hx hb d_tickGates_6 (by decide) (fun c_1 => ?_) (fun c_1 => absurd (nI_le (a := 4) (b := g) (by omega) (by omega)) c_1)
      refine lv_iload_n hx hb d_tickGates_38 rfl (lv_at hl 1 rfl) ?_
      exact hret _ _ _ 39 sv σ1 hP hD hS rfl d_tickGates_39 (by rw [← hrel]; rfl) (by rw [← hrel]; rfl)
    | succ n ih =>
      intro g sv σ1 hg hI1 hrel H locs ls hP hD hS hl
      refine lv_iload_n hx hb d_tickGates_4 rfl (lv_at hl 0 rfl) ?_
      refine lv_iconst (v := 4) hx hb d_tickGates_5 (by decide) ?_
      refine lv_icmp_ge (tgt := 38) hx hb d_tickGates_6 (by decide) (fun c_2 => absurd c_2 (nI_ge (a := g) (b := 4) (by omega) (by omega))) (fun c_2 => ?_)
      refine lv_aload_n hx hb d_tickGates_9 rfl (lv_at hl 2 rfl) ?_
      refine va_get (v := .ref (a 18)) hx hb hG i_X hown hK hP 0 wX_X rfl 1 (by decide) (hG _ L_X_17) (fun _ h9 => h9) rfl d_tickGates_10 ?_
      refine lv_iload_n hx hb d_tickGates_13 rfl (lv_at hl 0 rfl) ?_
      refine x_aldG hx hb hK hP g (show g < 4 by omega) d_tickGates_14 ?_
      refine k_cN (rest := []) hx hb hml hown hG hK hN hA hP hD hS (c_waitEnds l D a ca σ1 g (show g < 4 by omega)) ok_waitEnds io_waitEnds L_X_118 ⟨rfl, rfl, by decide, by decide⟩ (13 + g) (wX_G (show g < 4 by omega)) rfl rfl hl.1 rfl (Nat.le_of_ble_eq_true rfl) ⟨Nat.zero_le _, Nat.zero_le _⟩ d_tickGates_15 (fun H locs hP hD hS => ?_)
      refine lv_if_eq (tgt := 32) hx hb d_tickGates_18 (by decide) (fun c_3 => ?_) (fun c_3 => ?_)
      · refine lv_iinc (v := nI (g + 1)) (lv' := [(2, .int (nI (g + 1))), (1, .int sv), (0, .ref (a 0))]) hx hb d_tickGates_32 hl (k := 0) rfl (nI_1 g) (by decide) rfl (fun ls hl => ?_)
        refine lv_goto (tgt := 4) hx hb d_tickGates_35 (by decide) ?_
        exact ih (g + 1) sv ((f_waitEnds σ1 (13 + g)).2) (by omega) (by have q := stG_inv g sv hI1; revert q; simp only [stG, c_2, c_3, ↓reduceIte]; exact id) (by rw [← hrel]; simp only [tkG, stG, c_2, c_3, ↓reduceIte]) _ _ _ hP hD hS (lv_sub hl [0, 1, 2] rfl)
      · refine lv_aload_n hx hb d_tickGates_21 rfl (lv_at hl 2 rfl) ?_
        refine lv_iload_n hx hb d_tickGates_22 rfl (lv_at hl 0 rfl) ?_
        refine k_cV (rest := []) hx hb hml hown hG hK hN hA hP hD hS (c_serve l D a ca ((f_waitEnds σ1 (13 + g)).2) g (show g < 4 by omega) (waitEnds_inv hI1)) ok_serve io_serve L_X_121 ⟨rfl, rfl, by decide, by decide⟩ 0 wX_X rfl rfl hl.1 rfl (Nat.le_of_ble_eq_true rfl) ⟨Nat.zero_le _, Nat.zero_le _⟩ d_tickGates_23 (fun H locs hP hD hS => ?_)
        refine lv_if_eq (tgt := 32) hx hb d_tickGates_26 (by decide) (fun c_4 => ?_) (fun c_4 => ?_)
        · refine lv_iinc (v := nI (g + 1)) (lv' := [(2, .int (nI (g + 1))), (1, .int sv), (0, .ref (a 0))]) hx hb d_tickGates_32 hl (k := 0) rfl (nI_1 g) (by decide) rfl (fun ls hl => ?_)
          refine lv_goto (tgt := 4) hx hb d_tickGates_35 (by decide) ?_
          exact ih (g + 1) sv ((f_serve ((f_waitEnds σ1 (13 + g)).2) g).2) (by omega) (by have q := stG_inv g sv hI1; revert q; simp only [stG, c_2, c_3, c_4, ↓reduceIte]; exact id) (by rw [← hrel]; simp only [tkG, stG, c_2, c_3, c_4, ↓reduceIte]) _ _ _ hP hD hS (lv_sub hl [0, 1, 2] rfl)
        · refine lv_iinc (v := sv + 1) (lv' := [(1, .int (sv + 1)), (2, .int (nI g)), (0, .ref (a 0))]) hx hb d_tickGates_29 hl (k := 1) rfl (rfl) (by decide) rfl (fun ls hl => ?_)
          refine lv_iinc (v := nI (g + 1)) (lv' := [(2, .int (nI (g + 1))), (1, .int (sv + 1)), (0, .ref (a 0))]) hx hb d_tickGates_32 hl (k := 1) rfl (nI_1 g) (by decide) rfl (fun ls hl => ?_)
          refine lv_goto (tgt := 4) hx hb d_tickGates_35 (by decide) ?_
          exact ih (g + 1) (sv + 1) ((f_serve ((f_waitEnds σ1 (13 + g)).2) g).2) (by omega) (by have q := stG_inv g sv hI1; revert q; simp only [stG, c_2, c_3, c_4, ↓reduceIte]; exact id) (by rw [← hrel]; simp only [tkG, stG, c_2, c_3, c_4, ↓reduceIte]) _ _ _ hP hD hS (lv_sub hl [0, 1, 2] rfl)
  exact loop 4 0 0 σ (by omega) hI rfl _ _ _ hP hD hS (lv_sub hl [0, 1, 2] rfl)
set_option maxHeartbeats 4000000 in
set_option maxRecDepth 100000 in
theorem c_wakeGates (l : Launch) (D : va_G) (a : Nat → Nat) (ca : Nat → ClassId) (σ : St)  : KV l D (tX ca) (wX a ca) rm_wakeGates y_wakeGates b_wakeGates 3 [.ref (a 0)] σ (wkG 4 0 σ) := by
  refine KV.of (by decide) (Nat.le_of_ble_eq_true rfl) ?_
  intro p e s m args below meth c A Q ls hx hb hml hown hG hK hN hA hP hD hS hl hret
  have hown : s.vm.findClass R_X = some m.cls := hown
  have hl : lv_has ls 3 [(0, .ref (a 0))] := hl
  refine lv_iconst (v := 0) hx hb d_wakeGates_0 (by decide) ?_
  refine lv_istore_n (lv' := [(1, .int 0), (0, .ref (a 0))]) hx hb d_wakeGates_1 rfl hl (by decide) rfl (fun ls hl => ?_)
  have loop : ∀ (n : Nat) (g : Nat) (σ1 : St), (g + n = 4) → (wkG n g σ1 = wkG 4 0 σ) → ∀ (H : Heap) (locs : List Loc) (ls : Array Slot), va_P D classes (wX a ca σ1) H → va_D A (wX a ca σ1) → va_S A s.heap H locs → lv_has ls 3 [(1, .int (nI g)), (0, .ref (a 0))] → W p l e rm_wakeGates s m args below meth c H locs 0 0 Q (F0 m 2 ls []) := by
    intro n
    induction n with
    | zero =>
      intro g σ1 hg hrel H locs ls hP hD hS hl
      refine lv_iload_n hx hb d_wakeGates_2 rfl (lv_at hl 0 rfl) ?_
      refine lv_iconst (v := 4) hx hb d_wakeGates_3 (by decide) ?_
      refine lv_icmp_ge (tgt := 46) hx hb d_wakeGates_4 (by decide) (fun c_1 => ?_) (fun c_1 => absurd (nI_le (a := 4) (b := g) (by omega) (by omega)) c_1)
      exact hret _ _ _ 46 σ1 hP hD hS d_wakeGates_46 (hrel)
    | succ n ih =>
      intro g σ1 hg hrel H locs ls hP hD hS hl
      refine lv_iload_n hx hb d_wakeGates_2 rfl (lv_at hl 0 rfl) ?_
      refine lv_iconst (v := 4) hx hb d_wakeGates_3 (by decide) ?_
      refine lv_icmp_ge (tgt := 46) hx hb d_wakeGates_4 (by decide) (fun c_2 => absurd c_2 (nI_ge (a := g) (b := 4) (by omega) (by omega))) (fun c_2 => ?_)
      refine lv_aload_n hx hb d_wakeGates_7 rfl (lv_at hl 1 rfl) ?_
      refine va_get (v := .ref (a 18)) hx hb hG i_X hown hK hP 0 wX_X rfl 1 (by decide) (hG _ L_X_17) (fun _ h9 => h9) rfl d_wakeGates_8 ?_
      refine lv_iload_n hx hb d_wakeGates_11 rfl (lv_at hl 0 rfl) ?_
      refine x_aldG hx hb hK hP g (show g < 4 by omega) d_wakeGates_12 ?_
      refine lv_astore_n (lv' := [(2, .ref (a (13 + g))), (1, .int (nI g)), (0, .ref (a 0))]) hx hb d_wakeGates_13 rfl hl (by decide) rfl (fun ls hl => ?_)
      refine lv_aload_n hx hb d_wakeGates_14 rfl (lv_at hl 0 rfl) ?_
      refine va_getN (v := .int (σ1 (13 + g) 2)) hx hb hG i_G hown hK hP (13 + g) (wX_G (show g < 4 by omega)) rfl 2 (by decide) (hN.use L_X_146) (fun _ h9 => h9) rfl d_wakeGates_15 ?_
      refine lv_if_ne (tgt := 40) hx hb d_wakeGates_18 (by decide) (fun c_3 => ?_) (fun c_3 => ?_)
      · refine lv_iinc (v := nI (g + 1)) (lv' := [(1, .int (nI (g + 1))), (2, .ref (a (13 + g))), (0, .ref (a 0))]) hx hb d_wakeGates_40 hl (k := 1) rfl (nI_1 g) (by decide) rfl (fun ls hl => ?_)
        refine lv_goto (tgt := 2) hx hb d_wakeGates_43 (by decide) ?_
        exact ih (g + 1) σ1 (by omega) (by rw [← hrel]; simp only [wkG, stW, c_2, c_3, ↓reduceIte]) _ _ _ hP hD hS (lv_sub hl [0, 2] rfl)
      · refine lv_aload_n hx hb d_wakeGates_21 rfl (lv_at hl 0 rfl) ?_
        refine lv_aload_n hx hb d_wakeGates_22 rfl (lv_at hl 2 rfl) ?_
        refine va_get (v := .int (σ1 0 3)) hx hb hG i_X hown hK hP 0 wX_X rfl 3 (by decide) (hG _ L_X_28) (fun _ h9 => h9) rfl d_wakeGates_23 ?_
        refine k_cN (rest := []) hx hb hml hown hG hK hN hA hP hD hS (c_asks l D a ca σ1 g (show g < 4 by omega) (σ1 0 3)) ok_asks io_asks L_X_124 ⟨rfl, rfl, by decide, by decide⟩ (13 + g) (wX_G (show g < 4 by omega)) rfl rfl hl.1 rfl (Nat.le_of_ble_eq_true rfl) ⟨Nat.zero_le _, Nat.zero_le _⟩ d_wakeGates_26 (fun H locs hP hD hS => ?_)
        refine lv_if_eq (tgt := 40) hx hb d_wakeGates_29 (by decide) (fun c_4 => ?_) (fun c_4 => ?_)
        · refine lv_iinc (v := nI (g + 1)) (lv' := [(1, .int (nI (g + 1))), (2, .ref (a (13 + g))), (0, .ref (a 0))]) hx hb d_wakeGates_40 hl (k := 1) rfl (nI_1 g) (by decide) rfl (fun ls hl => ?_)
          refine lv_goto (tgt := 2) hx hb d_wakeGates_43 (by decide) ?_
          exact ih (g + 1) σ1 (by omega) (by rw [← hrel]; simp only [wkG, stW, c_2, c_3, c_4, ↓reduceIte]) _ _ _ hP hD hS (lv_sub hl [0, 2] rfl)
        · refine lv_aload_n hx hb d_wakeGates_32 rfl (lv_at hl 0 rfl) ?_
          refine lv_aload_n hx hb d_wakeGates_33 rfl (lv_at hl 0 rfl) ?_
          refine va_getN (v := .int (σ1 (13 + g) 1)) hx hb hG i_G hown hK hP (13 + g) (wX_G (show g < 4 by omega)) rfl 1 (by decide) (hN.use L_X_71) (fun _ h9 => h9) rfl d_wakeGates_34 ?_
          refine va_putN (ty := .int) (v := .int (σ1 (13 + g) 1)) hx hb hG i_G ft_G ft_G_ok n_G hown hK hP hD hS (13 + g) (wX_G (show g < 4 by omega)) rfl 2 (by decide) (hN.use L_X_146) (fun _ h9 => h9) rfl (by decide +kernel) (rfl) (rfl) (Nat.le_of_ble_eq_true rfl) d_wakeGates_37 (fun H locs hP hD hS => ?_)
          rw [wX_putG (show g < 4 by omega) (by decide)] at hP hD
          refine lv_iinc (v := nI (g + 1)) (lv' := [(1, .int (nI (g + 1))), (2, .ref (a (13 + g))), (0, .ref (a 0))]) hx hb d_wakeGates_40 hl (k := 1) rfl (nI_1 g) (by decide) rfl (fun ls hl => ?_)
          refine lv_goto (tgt := 2) hx hb d_wakeGates_43 (by decide) ?_
          exact ih (g + 1) (up2 σ1 (13 + g) 2 (σ1 (13 + g) 1)) (by omega) (by rw [← hrel]; simp only [wkG, stW, c_2, c_3, c_4, ↓reduceIte]) _ _ _ hP hD hS (lv_sub hl [0, 2] rfl)
  exact loop 4 0 σ (by omega) rfl _ _ _ hP hD hS (lv_sub hl [0, 1] rfl)
set_option maxHeartbeats 4000000 in
set_option maxRecDepth 100000 in
theorem c_tick (l : Launch) (D : va_G) (a : Nat → Nat) (ca : Nat → ClassId) (σ : St) (hI : xInv σ) : KI l D (tX ca) (wX a ca) rm_tick y_tick b_tick 2 .int [.ref (a 0)] σ ((f_tick σ).1) ((f_tick σ).2) := by
  refine KI.of (by decide) (Nat.le_of_ble_eq_true rfl) ?_
  intro p e s m args below meth c A Q ls hx hb hml hown hG hK hN hA hP hD hS hl hret
  have hown : s.vm.findClass R_X = some m.cls := hown
  have hl : lv_has ls 2 [(0, .ref (a 0))] := hl
  refine lv_aload_n hx hb d_tick_0 rfl (lv_at hl 0 rfl) ?_
  refine lv_dup hx hb d_tick_1 rfl ?_
  refine va_get (v := .int (σ 0 4)) hx hb hG i_X hown hK hP 0 wX_X rfl 4 (by decide) (hG _ L_X_32) (fun _ h9 => h9) rfl d_tick_2 ?_
  refine lv_iconst (v := 1) hx hb d_tick_5 (by decide) ?_
  refine lv_iadd hx hb d_tick_6 ?_
  refine va_put (ty := .int) (v := .int ((σ 0 4) + 1)) hx hb hG i_X ft_X ft_X_ok n_X hown hK hP hD hS 0 wX_X rfl 4 (by decide) (hG _ L_X_32) (fun _ h9 => h9) rfl (by decide +kernel) (rfl) (rfl) (Nat.le_of_ble_eq_true rfl) d_tick_7 (fun H locs hP hD hS => ?_)
  rw [wX_putX4] at hP hD
  refine lv_aload_n hx hb d_tick_10 rfl (lv_at hl 0 rfl) ?_
  refine k_cVv (rest := []) hx hb hml hown hG hK hN hA hP hD hS (c_tickTimers l D a ca (up2 σ 0 4 ((σ 0 4) + 1))) ok_tickTimers io_tickTimers L_X_98 ⟨rfl, rfl, by decide, by decide⟩ 0 wX_X rfl rfl hl.1 rfl (Nat.le_of_ble_eq_true rfl) ⟨Nat.zero_le _, Nat.zero_le _⟩ d_tick_11 (fun H locs hP hD hS => ?_)
  refine lv_aload_n hx hb d_tick_14 rfl (lv_at hl 0 rfl) ?_
  refine k_cV (rest := []) hx hb hml hown hG hK hN hA hP hD hS (c_tickGates l D a ca (tkT 8 0 0 (up2 σ 0 4 ((σ 0 4) + 1))) (tick_inv0 hI)) ok_tickGates io_tickGates L_X_101 ⟨rfl, rfl, by decide, by decide⟩ 0 wX_X rfl rfl hl.1 rfl (Nat.le_of_ble_eq_true rfl) ⟨Nat.zero_le _, Nat.zero_le _⟩ d_tick_15 (fun H locs hP hD hS => ?_)
  refine lv_istore_n (lv' := [(1, .int ((tkG 4 0 0 (tkT 8 0 0 (up2 σ 0 4 ((σ 0 4) + 1)))).1)), (0, .ref (a 0))]) hx hb d_tick_18 rfl hl (by decide) rfl (fun ls hl => ?_)
  refine lv_aload_n hx hb d_tick_19 rfl (lv_at hl 1 rfl) ?_
  refine k_cVv (rest := []) hx hb hml hown hG hK hN hA hP hD hS (c_wakeGates l D a ca ((tkG 4 0 0 (tkT 8 0 0 (up2 σ 0 4 ((σ 0 4) + 1)))).2)) ok_wakeGates io_wakeGates L_X_104 ⟨rfl, rfl, by decide, by decide⟩ 0 wX_X rfl rfl hl.1 rfl (Nat.le_of_ble_eq_true rfl) ⟨Nat.zero_le _, Nat.zero_le _⟩ d_tick_20 (fun H locs hP hD hS => ?_)
  refine lv_iload_n hx hb d_tick_23 rfl (lv_at hl 0 rfl) ?_
  exact hret _ _ _ 24 ((tkG 4 0 0 (tkT 8 0 0 (up2 σ 0 4 ((σ 0 4) + 1)))).1) (wkG 4 0 ((tkG 4 0 0 (tkT 8 0 0 (up2 σ 0 4 ((σ 0 4) + 1)))).2)) hP hD hS rfl d_tick_24 (by simp only [f_tick, ↓reduceIte]) (by simp only [f_tick, ↓reduceIte])
set_option maxHeartbeats 4000000 in
set_option maxRecDepth 100000 in
theorem c_ticksToNextEnd (l : Launch) (D : va_G) (a : Nat → Nat) (ca : Nat → ClassId) (σ : St)  : KI l D (tX ca) (wX a ca) rm_ticksToNextEnd y_ticksToNextEnd b_ticksToNextEnd 5 .int [.ref (a 0)] σ (tnL σ 8 0 0) σ := by
  refine KI.of (by decide) (Nat.le_of_ble_eq_true rfl) ?_
  intro p e s m args below meth c A Q ls hx hb hml hown hG hK hN hA hP hD hS hl hret
  have hown : s.vm.findClass R_X = some m.cls := hown
  have hl : lv_has ls 5 [(0, .ref (a 0))] := hl
  refine lv_iconst (v := 0) hx hb d_ticksToNextEnd_0 (by decide) ?_
  refine lv_istore_n (lv' := [(1, .int 0), (0, .ref (a 0))]) hx hb d_ticksToNextEnd_1 rfl hl (by decide) rfl (fun ls hl => ?_)
  refine lv_iconst (v := 0) hx hb d_ticksToNextEnd_2 (by decide) ?_
  refine lv_istore_n (lv' := [(2, .int 0), (1, .int 0), (0, .ref (a 0))]) hx hb d_ticksToNextEnd_3 rfl hl (by decide) rfl (fun ls hl => ?_)
  have loop : ∀ (n : Nat) (t : Nat) (x : Int32), (t + n = 8) → (tnL σ n t x = tnL σ 8 0 0) → ∀ (H : Heap) (locs : List Loc) (ls : Array Slot), va_P D classes (wX a ca σ) H → va_D A (wX a ca σ) → va_S A s.heap H locs → lv_has ls 5 [(2, .int (nI t)), (1, .int x), (0, .ref (a 0))] → W p l e rm_ticksToNextEnd s m args below meth c H locs 0 0 Q (F0 m 4 ls []) := by
    intro n
    induction n with
    | zero =>
      intro t x ht hrel H locs ls hP hD hS hl
      refine lv_iload_n hx hb d_ticksToNextEnd_4 rfl (lv_at hl 0 rfl) ?_
      refine lv_bipush (v := 8) hx hb d_ticksToNextEnd_5 (by decide) ?_
      refine lv_icmp_ge (tgt := 66) hx hb d_ticksToNextEnd_7 (by decide) (fun c_1 => ?_) (fun c_1 => absurd (nI_le (a := 8) (b := t) (by omega) (by omega)) c_1)
      refine lv_iload_n hx hb d_ticksToNextEnd_66 rfl (lv_at hl 1 rfl) ?_
      exact hret _ _ _ 67 x σ hP hD hS rfl d_ticksToNextEnd_67 (hrel) (rfl)
    | succ n ih =>
      intro t x ht hrel H locs ls hP hD hS hl
      refine lv_iload_n hx hb d_ticksToNextEnd_4 rfl (lv_at hl 0 rfl) ?_
      refine lv_bipush (v := 8) hx hb d_ticksToNextEnd_5 (by decide) ?_
      refine lv_icmp_ge (tgt := 66) hx hb d_ticksToNextEnd_7 (by decide) (fun c_2 => absurd c_2 (nI_ge (a := t) (b := 8) (by omega) (by omega))) (fun c_2 => ?_)
      refine lv_aload_n hx hb d_ticksToNextEnd_10 rfl (lv_at hl 2 rfl) ?_
      refine va_get (v := .ref (a 17)) hx hb hG i_X hown hK hP 0 wX_X rfl 0 (by decide) (hG _ L_X_11) (fun _ h9 => h9) rfl d_ticksToNextEnd_11 ?_
      refine lv_iload_n hx hb d_ticksToNextEnd_14 rfl (lv_at hl 0 rfl) ?_
      refine x_aldT hx hb hK hP t (show t < 8 by omega) d_ticksToNextEnd_15 ?_
      refine lv_astore_n (lv' := [(3, .ref (a (5 + t))), (2, .int (nI t)), (1, .int x), (0, .ref (a 0))]) hx hb d_ticksToNextEnd_16 rfl hl (by decide) rfl (fun ls hl => ?_)
      refine lv_aload_n hx hb d_ticksToNextEnd_17 rfl (lv_at hl 0 rfl) ?_
      refine va_getN (v := .int (σ (5 + t) 4)) hx hb hG i_T hown hK hP (5 + t) (wX_T (show t < 8 by omega)) rfl 4 (by decide) (hN.use L_X_59) (fun _ h9 => h9) rfl d_ticksToNextEnd_18 ?_
      refine lv_if_eq (tgt := 35) hx hb d_ticksToNextEnd_21 (by decide) (fun c_3 => ?_) (fun c_3 => ?_)
      · refine lv_iconst (v := 0) hx hb d_ticksToNextEnd_35 (by decide) ?_
        refine lv_istore (lv' := [(4, .int 0), (3, .ref (a (5 + t))), (2, .int (nI t)), (1, .int x), (0, .ref (a 0))]) hx hb d_ticksToNextEnd_36 hl (by decide) rfl (fun ls hl => ?_)
        refine lv_iload hx hb d_ticksToNextEnd_38 (lv_at hl 0 rfl) ?_
        refine lv_if_eq (tgt := 60) hx hb d_ticksToNextEnd_40 (by decide) (fun _ => ?_) (fun c_4 => absurd (by decide) c_4)
        refine lv_iinc (v := nI (t + 1)) (lv' := [(2, .int (nI (t + 1))), (4, .int 0), (3, .ref (a (5 + t))), (1, .int x), (0, .ref (a 0))]) hx hb d_ticksToNextEnd_60 hl (k := 2) rfl (nI_1 t) (by decide) rfl (fun ls hl => ?_)
        refine lv_goto (tgt := 4) hx hb d_ticksToNextEnd_63 (by decide) ?_
        exact ih (t + 1) x (by omega) (by rw [← hrel]; simp only [tnL, stN, c_2, c_3, ↓reduceIte]) _ _ _ hP hD hS (lv_sub hl [0, 3, 4] rfl)
      · refine lv_aload_n hx hb d_ticksToNextEnd_24 rfl (lv_at hl 0 rfl) ?_
        refine va_getN (v := .int (σ (5 + t) 2)) hx hb hG i_T hown hK hP (5 + t) (wX_T (show t < 8 by omega)) rfl 2 (by decide) (hN.use L_X_46) (fun _ h9 => h9) rfl d_ticksToNextEnd_25 ?_
        refine lv_if_ne (tgt := 35) hx hb d_ticksToNextEnd_28 (by decide) (fun c_5 => ?_) (fun c_5 => ?_)
        · refine lv_iconst (v := 0) hx hb d_ticksToNextEnd_35 (by decide) ?_
          refine lv_istore (lv' := [(4, .int 0), (3, .ref (a (5 + t))), (2, .int (nI t)), (1, .int x), (0, .ref (a 0))]) hx hb d_ticksToNextEnd_36 hl (by decide) rfl (fun ls hl => ?_)
          refine lv_iload hx hb d_ticksToNextEnd_38 (lv_at hl 0 rfl) ?_
          refine lv_if_eq (tgt := 60) hx hb d_ticksToNextEnd_40 (by decide) (fun _ => ?_) (fun c_6 => absurd (by decide) c_6)
          refine lv_iinc (v := nI (t + 1)) (lv' := [(2, .int (nI (t + 1))), (4, .int 0), (3, .ref (a (5 + t))), (1, .int x), (0, .ref (a 0))]) hx hb d_ticksToNextEnd_60 hl (k := 2) rfl (nI_1 t) (by decide) rfl (fun ls hl => ?_)
          refine lv_goto (tgt := 4) hx hb d_ticksToNextEnd_63 (by decide) ?_
          exact ih (t + 1) x (by omega) (by rw [← hrel]; simp only [tnL, stN, c_2, c_3, c_5, ↓reduceIte]) _ _ _ hP hD hS (lv_sub hl [0, 3, 4] rfl)
        · refine lv_iconst (v := 1) hx hb d_ticksToNextEnd_31 (by decide) ?_
          refine lv_goto (tgt := 36) hx hb d_ticksToNextEnd_32 (by decide) ?_
          refine lv_istore (lv' := [(4, .int 1), (3, .ref (a (5 + t))), (2, .int (nI t)), (1, .int x), (0, .ref (a 0))]) hx hb d_ticksToNextEnd_36 hl (by decide) rfl (fun ls hl => ?_)
          refine lv_iload hx hb d_ticksToNextEnd_38 (lv_at hl 0 rfl) ?_
          refine lv_if_eq (tgt := 60) hx hb d_ticksToNextEnd_40 (by decide) (fun c_7 => absurd c_7 (by decide)) (fun _ => ?_)
          refine lv_iload_n hx hb d_ticksToNextEnd_43 rfl (lv_at hl 3 rfl) ?_
          refine lv_if_eq (tgt := 55) hx hb d_ticksToNextEnd_44 (by decide) (fun c_8 => ?_) (fun c_8 => ?_)
          · refine lv_aload_n hx hb d_ticksToNextEnd_55 rfl (lv_at hl 1 rfl) ?_
            refine va_getN (v := .int (σ (5 + t) 1)) hx hb hG i_T hown hK hP (5 + t) (wX_T (show t < 8 by omega)) rfl 1 (by decide) (hN.use L_X_52) (fun _ h9 => h9) rfl d_ticksToNextEnd_56 ?_
            refine lv_istore_n (lv' := [(1, .int (σ (5 + t) 1)), (4, .int 1), (3, .ref (a (5 + t))), (2, .int (nI t)), (0, .ref (a 0))]) hx hb d_ticksToNextEnd_59 rfl hl (by decide) rfl (fun ls hl => ?_)
            refine lv_iinc (v := nI (t + 1)) (lv' := [(2, .int (nI (t + 1))), (1, .int (σ (5 + t) 1)), (4, .int 1), (3, .ref (a (5 + t))), (0, .ref (a 0))]) hx hb d_ticksToNextEnd_60 hl (k := 3) rfl (nI_1 t) (by decide) rfl (fun ls hl => ?_)
            refine lv_goto (tgt := 4) hx hb d_ticksToNextEnd_63 (by decide) ?_
            exact ih (t + 1) (σ (5 + t) 1) (by omega) (by rw [← hrel]; simp only [tnL, stN, c_2, c_3, c_5, c_8, ↓reduceIte]) _ _ _ hP hD hS (lv_sub hl [0, 1, 4] rfl)
          · refine lv_aload_n hx hb d_ticksToNextEnd_47 rfl (lv_at hl 1 rfl) ?_
            refine va_getN (v := .int (σ (5 + t) 1)) hx hb hG i_T hown hK hP (5 + t) (wX_T (show t < 8 by omega)) rfl 1 (by decide) (hN.use L_X_52) (fun _ h9 => h9) rfl d_ticksToNextEnd_48 ?_
            refine lv_iload_n hx hb d_ticksToNextEnd_51 rfl (lv_at hl 3 rfl) ?_
            refine lv_icmp_ge (tgt := 60) hx hb d_ticksToNextEnd_52 (by decide) (fun c_9 => ?_) (fun c_9 => ?_)
            · refine lv_iinc (v := nI (t + 1)) (lv' := [(2, .int (nI (t + 1))), (4, .int 1), (3, .ref (a (5 + t))), (1, .int x), (0, .ref (a 0))]) hx hb d_ticksToNextEnd_60 hl (k := 2) rfl (nI_1 t) (by decide) rfl (fun ls hl => ?_)
              refine lv_goto (tgt := 4) hx hb d_ticksToNextEnd_63 (by decide) ?_
              exact ih (t + 1) x (by omega) (by rw [← hrel]; simp only [tnL, stN, c_2, c_3, c_5, c_8, c_9, ↓reduceIte]) _ _ _ hP hD hS (lv_sub hl [0, 3, 4] rfl)
            · refine lv_aload_n hx hb d_ticksToNextEnd_55 rfl (lv_at hl 1 rfl) ?_
              refine va_getN (v := .int (σ (5 + t) 1)) hx hb hG i_T hown hK hP (5 + t) (wX_T (show t < 8 by omega)) rfl 1 (by decide) (hN.use L_X_52) (fun _ h9 => h9) rfl d_ticksToNextEnd_56 ?_
              refine lv_istore_n (lv' := [(1, .int (σ (5 + t) 1)), (4, .int 1), (3, .ref (a (5 + t))), (2, .int (nI t)), (0, .ref (a 0))]) hx hb d_ticksToNextEnd_59 rfl hl (by decide) rfl (fun ls hl => ?_)
              refine lv_iinc (v := nI (t + 1)) (lv' := [(2, .int (nI (t + 1))), (1, .int (σ (5 + t) 1)), (4, .int 1), (3, .ref (a (5 + t))), (0, .ref (a 0))]) hx hb d_ticksToNextEnd_60 hl (k := 3) rfl (nI_1 t) (by decide) rfl (fun ls hl => ?_)
              refine lv_goto (tgt := 4) hx hb d_ticksToNextEnd_63 (by decide) ?_
              exact ih (t + 1) (σ (5 + t) 1) (by omega) (by rw [← hrel]; simp only [tnL, stN, c_2, c_3, c_5, c_8, c_9, ↓reduceIte]) _ _ _ hP hD hS (lv_sub hl [0, 1, 4] rfl)
  exact loop 8 0 0 (by omega) rfl _ _ _ hP hD hS (lv_sub hl [0, 1, 2] rfl)
