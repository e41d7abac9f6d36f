set_option maxHeartbeats 4000000 in
set_option maxRecDepth 100000 in
theorem c_m_tick (l : Launch) (D : va_G) (b : Nat → Nat) (cb : Nat → ClassId) (μ : St) (n0 : Nat) (hO : mOK μ n0) (hn : n0 + 4 < 2 ^ 30) : KV l D (tM cb) (wM b cb) rm_m_tick y_m_tick b_m_tick 3 [.ref (b 0)] μ (g_tick μ) := by
  refine KV.of (by decide) (Nat.le_of_ble_eq_true rfl) ?_
  intro p e s m args below meth c A Q ls hx hb hml hown hG hK hN hA hP hD hS hl hret
  have hown : s.vm.findClass R_M = some m.cls := hown
  have hl : lv_has ls 3 [(0, .ref (b 0))] := hl
  obtain ⟨M1, e1⟩ : ∃ z, z = mkT 8 0 0 (up2 μ 0 1 (μ 0 1 + 1)) := ⟨_, rfl⟩
  obtain ⟨M2, e2⟩ : ∃ z, z = mkG 4 0 M1 := ⟨_, rfl⟩
  obtain ⟨M3, e3⟩ : ∃ z, z = mkW 4 0 M2 := ⟨_, rfl⟩
  have hO1 : mOK M1 n0 := by rw [e1]; exact tick_ok0 hO
  have e4 : g_tick μ = M3 := by unfold g_tick; rw [← e1, ← e2, ← e3]
  refine lv_aload_n hx hb d_m_tick_0 rfl (lv_at hl 0 rfl) ?_
  refine lv_dup hx hb d_m_tick_1 rfl ?_
  refine va_get (v := .int (μ 0 1)) hx hb hG i_M hown hK hP 0 wM_M rfl 1 (by decide) (hG _ L_M_69) (fun _ h9 => h9) rfl d_m_tick_2 ?_
  refine lv_iconst (v := 1) hx hb d_m_tick_5 (by decide) ?_
  refine lv_iadd hx hb d_m_tick_6 ?_
  refine va_put (ty := .int) (v := .int ((μ 0 1) + 1)) hx hb hG i_M ft_M ft_M_ok n_M hown hK hP hD hS 0 wM_M rfl 1 (by decide) (hG _ L_M_69) (fun _ h9 => h9) rfl (by decide +kernel) rfl rfl (Nat.le_of_ble_eq_true rfl) d_m_tick_7 (fun H locs hP hD hS => ?_)
  rw [wM_putM1] at hP hD
  refine lv_iconst (v := 0) hx hb d_m_tick_10 (by decide) ?_
  refine lv_istore_n (lv' := [(1, .int 0), (0, .ref (b 0))]) hx hb d_m_tick_11 rfl hl (by decide) rfl (fun ls hl => ?_)
  refine lv_iconst (v := 0) hx hb d_m_tick_12 (by decide) ?_
  refine lv_istore_n (lv' := [(2, .int 0), (1, .int 0), (0, .ref (b 0))]) hx hb d_m_tick_13 rfl hl (by decide) rfl (fun ls hl => ?_)
  have loopT : ∀ (n : Nat) (t : Nat) (x : Int32) (μT : St), (t + n = 8) → (mkT n t x μT = M1) → ∀ (H : Heap) (locs : List Loc) (ls : Array Slot), va_P D classes (wM b cb μT) H → va_D A (wM b cb μT) → va_S A s.heap H locs → lv_has ls 3 [(2, .int (nI t)), (1, .int x), (0, .ref (b 0))] → W p l e rm_m_tick s m args below meth c H locs 0 0 Q (F0 m 14 ls []) := by
    intro n
    induction n with
    | zero =>
      intro t x μT ht hrT H locs ls hP hD hS hl
      refine lv_iload_n hx hb d_m_tick_14 rfl (lv_at hl 0 rfl) ?_
      refine lv_bipush (v := 8) hx hb d_m_tick_15 (by decide) ?_
      refine lv_icmp_ge (tgt := 53) hx hb d_m_tick_17 (by decide) (fun c_1 => ?_) (fun c_1 => absurd (nI_le (a := 8) (b := t) (by omega) (by omega)) c_1)
      have e_μT : M1 = μT := hrT.symm
      subst e_μT
      refine lv_iconst (v := 0) hx hb d_m_tick_53 (by decide) ?_
      refine lv_istore_n (lv' := [(2, .int 0), (1, .int x), (0, .ref (b 0))]) hx hb d_m_tick_54 rfl hl (by decide) rfl (fun ls hl => ?_)
      have loopG : ∀ (n : Nat) (g : Nat) (μG : St) (ng : Nat), (g + n = 4) → (mOK μG ng) → (ng ≤ n0 + g) → (mkG n g μG = M2) → ∀ (H : Heap) (locs : List Loc) (ls : Array Slot), va_P D classes (wM b cb μG) H → va_D A (wM b cb μG) → va_S A s.heap H locs → lv_has ls 3 [(2, .int (nI g)), (0, .ref (b 0))] → W p l e rm_m_tick s m args below meth c H locs 0 0 Q (F0 m 55 ls []) := by
        intro n
        induction n with
        | zero =>
          intro g μG ng hg hOg hng hrG H locs ls hP hD hS hl
          refine lv_iload_n hx hb d_m_tick_55 rfl (lv_at hl 0 rfl) ?_
          refine lv_iconst (v := 4) hx hb d_m_tick_56 (by decide) ?_
          refine lv_icmp_ge (tgt := 120) hx hb d_m_tick_57 (by decide) (fun c_2 => ?_) (fun c_2 => absurd (nI_le (a := 4) (b := g) (by omega) (by omega)) c_2)
          have e_μG : M2 = μG := hrG.symm
          subst e_μG
          refine lv_iconst (v := 0) hx hb d_m_tick_120 (by decide) ?_
          refine lv_istore_n (lv' := [(2, .int 0), (0, .ref (b 0))]) hx hb d_m_tick_121 rfl hl (by decide) rfl (fun ls hl => ?_)
          have loopW : ∀ (n : Nat) (g : Nat) (μW : St), (g + n = 4) → (mkW n g μW = M3) → ∀ (H : Heap) (locs : List Loc) (ls : Array Slot), va_P D classes (wM b cb μW) H → va_D A (wM b cb μW) → va_S A s.heap H locs → lv_has ls 3 [(2, .int (nI g)), (0, .ref (b 0))] → W p l e rm_m_tick s m args below meth c H locs 0 0 Q (F0 m 122 ls []) := by
            intro n
            induction n with
            | zero =>
              intro g μW hg hrW H locs ls hP hD hS hl
              refine lv_iload_n hx hb d_m_tick_122 rfl (lv_at hl 0 rfl) ?_
              refine lv_iconst (v := 4) hx hb d_m_tick_123 (by decide) ?_
              refine lv_icmp_ge (tgt := 162) hx hb d_m_tick_124 (by decide) (fun c_3 => ?_) (fun c_3 => absurd (nI_le (a := 4) (b := g) (by omega) (by omega)) c_3)
              exact hret _ _ _ 162 μW hP hD hS d_m_tick_162 (hrW.trans e4.symm)
            | succ n ih =>
              intro g μW hg hrW H locs ls hP hD hS hl
              refine lv_iload_n hx hb d_m_tick_122 rfl (lv_at hl 0 rfl) ?_
              refine lv_iconst (v := 4) hx hb d_m_tick_123 (by decide) ?_
              refine lv_icmp_ge (tgt := 162) hx hb d_m_tick_124 (by decide) (fun c_4 => absurd c_4 (nI_ge (a := g) (b := 4) (by omega) (by omega))) (fun c_4 => ?_)
              refine lv_aload_n hx hb d_m_tick_127 rfl (lv_at hl 1 rfl) ?_
              refine va_get (v := .ref (b 12)) hx hb hG i_M hown hK hP 0 wM_M rfl 12 (by decide) (hG _ L_M_35) (fun _ h9 => h9) rfl d_m_tick_128 ?_
              refine lv_iload_n hx hb d_m_tick_131 rfl (lv_at hl 0 rfl) ?_
              refine m_ild hx hb hK hP wM_12 (g) (show g < 4 by omega) (by decide) (rfl) d_m_tick_132 ?_
              refine lv_if_ne (tgt := 156) hx hb d_m_tick_133 (by decide) (fun c_5 => ?_) (fun c_5 => ?_)
              · refine lv_iinc (v := nI (g + 1)) (lv' := [(2, .int (nI (g + 1))), (0, .ref (b 0))]) hx hb d_m_tick_156 hl (k := 0) rfl (nI_1 g) (by decide) rfl (fun ls hl => ?_)
                refine lv_goto (tgt := 122) hx hb d_m_tick_159 (by decide) ?_
                exact ih (g + 1) μW (by omega) (by rw [← hrW]; simp only [mkW, smW, c_1, c_2, c_4, c_5, ↓reduceIte]) _ _ _ hP hD hS (lv_sub hl [0, 1] rfl)
              · refine lv_aload_n hx hb d_m_tick_136 rfl (lv_at hl 1 rfl) ?_
                refine lv_iload_n hx hb d_m_tick_137 rfl (lv_at hl 0 rfl) ?_
                refine k_cV (rest := []) hx hb hml hown hG hK hN hA hP hD hS (c_m_asks l D b cb μW g (show g < 4 by omega)) ok_m_asks io_m_asks L_M_65 ⟨rfl, rfl, by decide, by decide⟩ 0 wM_M rfl rfl hl.1 rfl (Nat.le_of_ble_eq_true rfl) ⟨Nat.zero_le _, Nat.zero_le _⟩ d_m_tick_138 (fun H locs hP hD hS => ?_)
                refine lv_if_eq (tgt := 156) hx hb d_m_tick_141 (by decide) (fun c_6 => ?_) (fun c_6 => ?_)
                · refine lv_iinc (v := nI (g + 1)) (lv' := [(2, .int (nI (g + 1))), (0, .ref (b 0))]) hx hb d_m_tick_156 hl (k := 0) rfl (nI_1 g) (by decide) rfl (fun ls hl => ?_)
                  refine lv_goto (tgt := 122) hx hb d_m_tick_159 (by decide) ?_
                  exact ih (g + 1) μW (by omega) (by rw [← hrW]; simp only [mkW, smW, c_1, c_2, c_4, c_5, c_6, ↓reduceIte]) _ _ _ hP hD hS (lv_sub hl [0, 1] rfl)
                · refine lv_aload_n hx hb d_m_tick_144 rfl (lv_at hl 1 rfl) ?_
                  refine va_get (v := .ref (b 12)) hx hb hG i_M hown hK hP 0 wM_M rfl 12 (by decide) (hG _ L_M_35) (fun _ h9 => h9) rfl d_m_tick_145 ?_
                  refine lv_iload_n hx hb d_m_tick_148 rfl (lv_at hl 0 rfl) ?_
                  refine lv_aload_n hx hb d_m_tick_149 rfl (lv_at hl 1 rfl) ?_
                  refine va_get (v := .ref (b 11)) hx hb hG i_M hown hK hP 0 wM_M rfl 11 (by decide) (hG _ L_M_32) (fun _ h9 => h9) rfl d_m_tick_150 ?_
                  refine lv_iload_n hx hb d_m_tick_153 rfl (lv_at hl 0 rfl) ?_
                  refine m_ild hx hb hK hP wM_11 (g) (show g < 4 by omega) (by decide) (rfl) d_m_tick_154 ?_
                  refine m_ist (x := μW 11 g) hx hb hK hP hD hS wM_12 wM_p12 (g) (show g < 4 by omega) (by decide) (rfl) d_m_tick_155 (fun H locs hP hD hS => ?_)
                  refine lv_iinc (v := nI (g + 1)) (lv' := [(2, .int (nI (g + 1))), (0, .ref (b 0))]) hx hb d_m_tick_156 hl (k := 0) rfl (nI_1 g) (by decide) rfl (fun ls hl => ?_)
                  refine lv_goto (tgt := 122) hx hb d_m_tick_159 (by decide) ?_
                  exact ih (g + 1) (up2 μW 12 g (μW 11 g)) (by omega) (by rw [← hrW]; simp only [mkW, smW, c_1, c_2, c_4, c_5, c_6, ↓reduceIte]) _ _ _ hP hD hS (lv_sub hl [0, 1] rfl)
          exact loopW 4 0 _ (by omega) e3.symm _ _ _ hP hD hS (lv_sub hl [0, 1] rfl)
        | succ n ih =>
          intro g μG ng hg hOg hng hrG H locs ls hP hD hS hl
          refine lv_iload_n hx hb d_m_tick_55 rfl (lv_at hl 0 rfl) ?_
          refine lv_iconst (v := 4) hx hb d_m_tick_56 (by decide) ?_
          refine lv_icmp_ge (tgt := 120) hx hb d_m_tick_57 (by decide) (fun c_7 => absurd c_7 (nI_ge (a := g) (b := 4) (by omega) (by omega))) (fun c_7 => ?_)
          obtain ⟨n1, hn1a, hn1b, h1⟩ := smG_ok (g := g) hOg
          refine lv_aload_n hx hb d_m_tick_60 rfl (lv_at hl 1 rfl) ?_
          refine va_get (v := .ref (b 13)) hx hb hG i_M hown hK hP 0 wM_M rfl 13 (by decide) (hG _ L_M_38) (fun _ h9 => h9) rfl d_m_tick_61 ?_
          refine lv_iload_n hx hb d_m_tick_64 rfl (lv_at hl 0 rfl) ?_
          refine lv_aload_n hx hb d_m_tick_65 rfl (lv_at hl 1 rfl) ?_
          refine va_get (v := .ref (b 12)) hx hb hG i_M hown hK hP 0 wM_M rfl 12 (by decide) (hG _ L_M_35) (fun _ h9 => h9) rfl d_m_tick_66 ?_
          refine lv_iload_n hx hb d_m_tick_69 rfl (lv_at hl 0 rfl) ?_
          refine m_ild hx hb hK hP wM_12 (g) (show g < 4 by omega) (by decide) (rfl) d_m_tick_70 ?_
          refine lv_iconst (v := 1) hx hb d_m_tick_71 (by decide) ?_
          refine lv_icmp_ne (tgt := 79) hx hb d_m_tick_72 (by decide) (fun c_8 => ?_) (fun c_8 => ?_)
          · refine lv_iconst (v := 0) hx hb d_m_tick_79 (by decide) ?_
            refine m_zst (x := 0) hx hb hK hP hD hS wM_13 wM_p13 (g) (show g < 4 by omega) (by decide) (rfl) (rfl) d_m_tick_80 (fun H locs hP hD hS => ?_)
            refine lv_aload_n hx hb d_m_tick_81 rfl (lv_at hl 1 rfl) ?_
            refine va_get (v := .ref (b 12)) hx hb hG i_M hown hK hP 0 wM_M rfl 12 (by decide) (hG _ L_M_35) (fun _ h9 => h9) rfl d_m_tick_82 ?_
            refine lv_iload_n hx hb d_m_tick_85 rfl (lv_at hl 0 rfl) ?_
            refine m_ild hx hb hK hP wM_12 (g) (show g < 4 by omega) (by decide) (rfl) d_m_tick_86 ?_
            refine lv_if_le (tgt := 100) hx hb d_m_tick_87 (by decide) (fun c_9 => ?_) (fun c_9 => ?_)
            · refine lv_aload_n hx hb d_m_tick_100 rfl (lv_at hl 1 rfl) ?_
              refine va_get (v := .ref (b 13)) hx hb hG i_M hown hK hP 0 wM_M rfl 13 (by decide) (hG _ L_M_38) (fun _ h9 => h9) rfl d_m_tick_101 ?_
              refine lv_iload_n hx hb d_m_tick_104 rfl (lv_at hl 0 rfl) ?_
              refine m_zld hx hb hK hP wM_13 (g) (show g < 4 by omega) (by decide) (rfl) d_m_tick_105 ?_
              refine lv_if_eq (tgt := 114) hx hb d_m_tick_106 (by decide) (fun c_10 => ?_) (fun c_10 => ?_)
              · refine lv_iinc (v := nI (g + 1)) (lv' := [(2, .int (nI (g + 1))), (0, .ref (b 0))]) hx hb d_m_tick_114 hl (k := 0) rfl (nI_1 g) (by decide) rfl (fun ls hl => ?_)
                refine lv_goto (tgt := 55) hx hb d_m_tick_117 (by decide) ?_
                exact ih (g + 1) (up2 μG 13 g 0) n1 (by omega) (by have q := h1; revert q; simp only [smG, g_dn, c_1, c_7, c_8, c_9, c_10, ↓reduceIte]; exact id) (by omega) (by rw [← hrG]; simp only [mkG, smG, g_dn, c_1, c_7, c_8, c_9, c_10, ↓reduceIte]) _ _ _ hP hD hS (lv_sub hl [0, 1] rfl)
              · refine lv_aload_n hx hb d_m_tick_109 rfl (lv_at hl 1 rfl) ?_
                refine lv_iload_n hx hb d_m_tick_110 rfl (lv_at hl 0 rfl) ?_
                refine k_cVv (rest := []) hx hb hml hown hG hK hN hA hP hD hS (c_m_serve l D b cb (up2 μG 13 g 0) g (show g < 4 by omega) ng (ok_other (hOg) (by decide)) (by omega)) ok_m_serve io_m_serve L_M_78 ⟨rfl, rfl, by decide, by decide⟩ 0 wM_M rfl rfl hl.1 rfl (Nat.le_of_ble_eq_true rfl) ⟨Nat.zero_le _, Nat.zero_le _⟩ d_m_tick_111 (fun H locs hP hD hS => ?_)
                refine lv_iinc (v := nI (g + 1)) (lv' := [(2, .int (nI (g + 1))), (0, .ref (b 0))]) hx hb d_m_tick_114 hl (k := 0) rfl (nI_1 g) (by decide) rfl (fun ls hl => ?_)
                refine lv_goto (tgt := 55) hx hb d_m_tick_117 (by decide) ?_
                exact ih (g + 1) (g_serve (up2 μG 13 g 0) g) n1 (by omega) (by have q := h1; revert q; simp only [smG, g_dn, c_1, c_7, c_8, c_9, c_10, ↓reduceIte]; exact id) (by omega) (by rw [← hrG]; simp only [mkG, smG, g_dn, c_1, c_7, c_8, c_9, c_10, ↓reduceIte]) _ _ _ hP hD hS (lv_sub hl [0, 1] rfl)
            · refine lv_aload_n hx hb d_m_tick_90 rfl (lv_at hl 1 rfl) ?_
              refine va_get (v := .ref (b 12)) hx hb hG i_M hown hK hP 0 wM_M rfl 12 (by decide) (hG _ L_M_35) (fun _ h9 => h9) rfl d_m_tick_91 ?_
              refine lv_iload_n hx hb d_m_tick_94 rfl (lv_at hl 0 rfl) ?_
              refine lv_dup2_11 hx hb d_m_tick_95 rfl rfl ?_
              refine m_ild hx hb hK hP wM_12 (g) (show g < 4 by omega) (by decide) (rfl) d_m_tick_96 ?_
              refine lv_iconst (v := 1) hx hb d_m_tick_97 (by decide) ?_
              refine lv_isub hx hb d_m_tick_98 ?_
              refine m_ist (x := ((up2 μG 13 g 0) 12 g) - 1) hx hb hK hP hD hS wM_12 wM_p12 (g) (show g < 4 by omega) (by decide) (rfl) d_m_tick_99 (fun H locs hP hD hS => ?_)
              refine lv_aload_n hx hb d_m_tick_100 rfl (lv_at hl 1 rfl) ?_
              refine va_get (v := .ref (b 13)) hx hb hG i_M hown hK hP 0 wM_M rfl 13 (by decide) (hG _ L_M_38) (fun _ h9 => h9) rfl d_m_tick_101 ?_
              refine lv_iload_n hx hb d_m_tick_104 rfl (lv_at hl 0 rfl) ?_
              refine m_zld hx hb hK hP wM_13 (g) (show g < 4 by omega) (by decide) (rfl) d_m_tick_105 ?_
              refine lv_if_eq (tgt := 114) hx hb d_m_tick_106 (by decide) (fun c_11 => ?_) (fun c_11 => ?_)
              · refine lv_iinc (v := nI (g + 1)) (lv' := [(2, .int (nI (g + 1))), (0, .ref (b 0))]) hx hb d_m_tick_114 hl (k := 0) rfl (nI_1 g) (by decide) rfl (fun ls hl => ?_)
                refine lv_goto (tgt := 55) hx hb d_m_tick_117 (by decide) ?_
                exact ih (g + 1) (up2 (up2 μG 13 g 0) 12 g (((up2 μG 13 g 0) 12 g) - 1)) n1 (by omega) (by have q := h1; revert q; simp only [smG, g_dn, c_1, c_7, c_8, c_9, c_11, ↓reduceIte]; exact id) (by omega) (by rw [← hrG]; simp only [mkG, smG, g_dn, c_1, c_7, c_8, c_9, c_11, ↓reduceIte]) _ _ _ hP hD hS (lv_sub hl [0, 1] rfl)
              · refine lv_aload_n hx hb d_m_tick_109 rfl (lv_at hl 1 rfl) ?_
                refine lv_iload_n hx hb d_m_tick_110 rfl (lv_at hl 0 rfl) ?_
                refine k_cVv (rest := []) hx hb hml hown hG hK hN hA hP hD hS (c_m_serve l D b cb (up2 (up2 μG 13 g 0) 12 g (((up2 μG 13 g 0) 12 g) - 1)) g (show g < 4 by omega) ng (ok_other (ok_other (hOg) (by decide)) (by decide)) (by omega)) ok_m_serve io_m_serve L_M_78 ⟨rfl, rfl, by decide, by decide⟩ 0 wM_M rfl rfl hl.1 rfl (Nat.le_of_ble_eq_true rfl) ⟨Nat.zero_le _, Nat.zero_le _⟩ d_m_tick_111 (fun H locs hP hD hS => ?_)
                refine lv_iinc (v := nI (g + 1)) (lv' := [(2, .int (nI (g + 1))), (0, .ref (b 0))]) hx hb d_m_tick_114 hl (k := 0) rfl (nI_1 g) (by decide) rfl (fun ls hl => ?_)
                refine lv_goto (tgt := 55) hx hb d_m_tick_117 (by decide) ?_
                exact ih (g + 1) (g_serve (up2 (up2 μG 13 g 0) 12 g (((up2 μG 13 g 0) 12 g) - 1)) g) n1 (by omega) (by have q := h1; revert q; simp only [smG, g_dn, c_1, c_7, c_8, c_9, c_11, ↓reduceIte]; exact id) (by omega) (by rw [← hrG]; simp only [mkG, smG, g_dn, c_1, c_7, c_8, c_9, c_11, ↓reduceIte]) _ _ _ hP hD hS (lv_sub hl [0, 1] rfl)
          · refine lv_iconst (v := 1) hx hb d_m_tick_75 (by decide) ?_
            refine lv_goto (tgt := 80) hx hb d_m_tick_76 (by decide) ?_
            refine m_zst (x := 1) hx hb hK hP hD hS wM_13 wM_p13 (g) (show g < 4 by omega) (by decide) (rfl) (rfl) d_m_tick_80 (fun H locs hP hD hS => ?_)
            refine lv_aload_n hx hb d_m_tick_81 rfl (lv_at hl 1 rfl) ?_
            refine va_get (v := .ref (b 12)) hx hb hG i_M hown hK hP 0 wM_M rfl 12 (by decide) (hG _ L_M_35) (fun _ h9 => h9) rfl d_m_tick_82 ?_
            refine lv_iload_n hx hb d_m_tick_85 rfl (lv_at hl 0 rfl) ?_
            refine m_ild hx hb hK hP wM_12 (g) (show g < 4 by omega) (by decide) (rfl) d_m_tick_86 ?_
            refine lv_if_le (tgt := 100) hx hb d_m_tick_87 (by decide) (fun c_12 => ?_) (fun c_12 => ?_)
            · refine lv_aload_n hx hb d_m_tick_100 rfl (lv_at hl 1 rfl) ?_
              refine va_get (v := .ref (b 13)) hx hb hG i_M hown hK hP 0 wM_M rfl 13 (by decide) (hG _ L_M_38) (fun _ h9 => h9) rfl d_m_tick_101 ?_
              refine lv_iload_n hx hb d_m_tick_104 rfl (lv_at hl 0 rfl) ?_
              refine m_zld hx hb hK hP wM_13 (g) (show g < 4 by omega) (by decide) (rfl) d_m_tick_105 ?_
              refine lv_if_eq (tgt := 114) hx hb d_m_tick_106 (by decide) (fun c_13 => ?_) (fun c_13 => ?_)
              · refine lv_iinc (v := nI (g + 1)) (lv' := [(2, .int (nI (g + 1))), (0, .ref (b 0))]) hx hb d_m_tick_114 hl (k := 0) rfl (nI_1 g) (by decide) rfl (fun ls hl => ?_)
                refine lv_goto (tgt := 55) hx hb d_m_tick_117 (by decide) ?_
                exact ih (g + 1) (up2 μG 13 g 1) n1 (by omega) (by have q := h1; revert q; simp only [smG, g_dn, c_1, c_7, c_8, c_12, c_13, ↓reduceIte]; exact id) (by omega) (by rw [← hrG]; simp only [mkG, smG, g_dn, c_1, c_7, c_8, c_12, c_13, ↓reduceIte]) _ _ _ hP hD hS (lv_sub hl [0, 1] rfl)
              · refine lv_aload_n hx hb d_m_tick_109 rfl (lv_at hl 1 rfl) ?_
                refine lv_iload_n hx hb d_m_tick_110 rfl (lv_at hl 0 rfl) ?_
                refine k_cVv (rest := []) hx hb hml hown hG hK hN hA hP hD hS (c_m_serve l D b cb (up2 μG 13 g 1) g (show g < 4 by omega) ng (ok_other (hOg) (by decide)) (by omega)) ok_m_serve io_m_serve L_M_78 ⟨rfl, rfl, by decide, by decide⟩ 0 wM_M rfl rfl hl.1 rfl (Nat.le_of_ble_eq_true rfl) ⟨Nat.zero_le _, Nat.zero_le _⟩ d_m_tick_111 (fun H locs hP hD hS => ?_)
                refine lv_iinc (v := nI (g + 1)) (lv' := [(2, .int (nI (g + 1))), (0, .ref (b 0))]) hx hb d_m_tick_114 hl (k := 0) rfl (nI_1 g) (by decide) rfl (fun ls hl => ?_)
                refine lv_goto (tgt := 55) hx hb d_m_tick_117 (by decide) ?_
                exact ih (g + 1) (g_serve (up2 μG 13 g 1) g) n1 (by omega) (by have q := h1; revert q; simp only [smG, g_dn, c_1, c_7, c_8, c_12, c_13, ↓reduceIte]; exact id) (by omega) (by rw [← hrG]; simp only [mkG, smG, g_dn, c_1, c_7, c_8, c_12, c_13, ↓reduceIte]) _ _ _ hP hD hS (lv_sub hl [0, 1] rfl)
            · refine lv_aload_n hx hb d_m_tick_90 rfl (lv_at hl 1 rfl) ?_
              refine va_get (v := .ref (b 12)) hx hb hG i_M hown hK hP 0 wM_M rfl 12 (by decide) (hG _ L_M_35) (fun _ h9 => h9) rfl d_m_tick_91 ?_
              refine lv_iload_n hx hb d_m_tick_94 rfl (lv_at hl 0 rfl) ?_
              refine lv_dup2_11 hx hb d_m_tick_95 rfl rfl ?_
              refine m_ild hx hb hK hP wM_12 (g) (show g < 4 by omega) (by decide) (rfl) d_m_tick_96 ?_
              refine lv_iconst (v := 1) hx hb d_m_tick_97 (by decide) ?_
              refine lv_isub hx hb d_m_tick_98 ?_
              refine m_ist (x := ((up2 μG 13 g 1) 12 g) - 1) hx hb hK hP hD hS wM_12 wM_p12 (g) (show g < 4 by omega) (by decide) (rfl) d_m_tick_99 (fun H locs hP hD hS => ?_)
              refine lv_aload_n hx hb d_m_tick_100 rfl (lv_at hl 1 rfl) ?_
              refine va_get (v := .ref (b 13)) hx hb hG i_M hown hK hP 0 wM_M rfl 13 (by decide) (hG _ L_M_38) (fun _ h9 => h9) rfl d_m_tick_101 ?_
              refine lv_iload_n hx hb d_m_tick_104 rfl (lv_at hl 0 rfl) ?_
              refine m_zld hx hb hK hP wM_13 (g) (show g < 4 by omega) (by decide) (rfl) d_m_tick_105 ?_
              refine lv_if_eq (tgt := 114) hx hb d_m_tick_106 (by decide) (fun c_14 => ?_) (fun c_14 => ?_)
              · refine lv_iinc (v := nI (g + 1)) (lv' := [(2, .int (nI (g + 1))), (0, .ref (b 0))]) hx hb d_m_tick_114 hl (k := 0) rfl (nI_1 g) (by decide) rfl (fun ls hl => ?_)
                refine lv_goto (tgt := 55) hx hb d_m_tick_117 (by decide) ?_
                exact ih (g + 1) (up2 (up2 μG 13 g 1) 12 g (((up2 μG 13 g 1) 12 g) - 1)) n1 (by omega) (by have q := h1; revert q; simp only [smG, g_dn, c_1, c_7, c_8, c_12, c_14, ↓reduceIte]; exact id) (by omega) (by rw [← hrG]; simp only [mkG, smG, g_dn, c_1, c_7, c_8, c_12, c_14, ↓reduceIte]) _ _ _ hP hD hS (lv_sub hl [0, 1] rfl)
              · refine lv_aload_n hx hb d_m_tick_109 rfl (lv_at hl 1 rfl) ?_
                refine lv_iload_n hx hb d_m_tick_110 rfl (lv_at hl 0 rfl) ?_
                refine k_cVv (rest := []) hx hb hml hown hG hK hN hA hP hD hS (c_m_serve l D b cb (up2 (up2 μG 13 g 1) 12 g (((up2 μG 13 g 1) 12 g) - 1)) g (show g < 4 by omega) ng (ok_other (ok_other (hOg) (by decide)) (by decide)) (by omega)) ok_m_serve io_m_serve L_M_78 ⟨rfl, rfl, by decide, by decide⟩ 0 wM_M rfl rfl hl.1 rfl (Nat.le_of_ble_eq_true rfl) ⟨Nat.zero_le _, Nat.zero_le _⟩ d_m_tick_111 (fun H locs hP hD hS => ?_)
                refine lv_iinc (v := nI (g + 1)) (lv' := [(2, .int (nI (g + 1))), (0, .ref (b 0))]) hx hb d_m_tick_114 hl (k := 0) rfl (nI_1 g) (by decide) rfl (fun ls hl => ?_)
                refine lv_goto (tgt := 55) hx hb d_m_tick_117 (by decide) ?_
                exact ih (g + 1) (g_serve (up2 (up2 μG 13 g 1) 12 g (((up2 μG 13 g 1) 12 g) - 1)) g) n1 (by omega) (by have q := h1; revert q; simp only [smG, g_dn, c_1, c_7, c_8, c_12, c_14, ↓reduceIte]; exact id) (by omega) (by rw [← hrG]; simp only [mkG, smG, g_dn, c_1, c_7, c_8, c_12, c_14, ↓reduceIte]) _ _ _ hP hD hS (lv_sub hl [0, 1] rfl)
      exact loopG 4 0 _ n0 (by omega) hO1 (by omega) e2.symm _ _ _ hP hD hS (lv_sub hl [0, 2] rfl)
    | succ n ih =>
      intro t x μT ht hrT H locs ls hP hD hS hl
      refine lv_iload_n hx hb d_m_tick_14 rfl (lv_at hl 0 rfl) ?_
      refine lv_bipush (v := 8) hx hb d_m_tick_15 (by decide) ?_
      refine lv_icmp_ge (tgt := 53) hx hb d_m_tick_17 (by decide) (fun c_15 => absurd c_15 (nI_ge (a := t) (b := 8) (by omega) (by omega))) (fun c_15 => ?_)
      refine lv_aload_n hx hb d_m_tick_20 rfl (lv_at hl 2 rfl) ?_
      refine va_get (v := .ref (b 6)) hx hb hG i_M hown hK hP 0 wM_M rfl 6 (by decide) (hG _ L_M_16) (fun _ h9 => h9) rfl d_m_tick_21 ?_
      refine lv_iload_n hx hb d_m_tick_24 rfl (lv_at hl 0 rfl) ?_
      refine m_ild hx hb hK hP wM_6 (t) (show t < 8 by omega) (by decide) (rfl) d_m_tick_25 ?_
      refine lv_if_eq (tgt := 33) hx hb d_m_tick_26 (by decide) (fun c_16 => ?_) (fun c_16 => ?_)
      · refine lv_aload_n hx hb d_m_tick_33 rfl (lv_at hl 2 rfl) ?_
        refine lv_iload_n hx hb d_m_tick_34 rfl (lv_at hl 0 rfl) ?_
        refine k_cV (rest := []) hx hb hml hown hG hK hN hA hP hD hS (c_m_event l D b cb μT t (show t < 8 by omega)) ok_m_event io_m_event L_M_75 ⟨rfl, rfl, by decide, by decide⟩ 0 wM_M rfl rfl hl.1 rfl (Nat.le_of_ble_eq_true rfl) ⟨Nat.zero_le _, Nat.zero_le _⟩ d_m_tick_35 (fun H locs hP hD hS => ?_)
        refine lv_if_eq (tgt := 45) hx hb d_m_tick_38 (by decide) (fun c_17 => ?_) (fun c_17 => ?_)
        · refine lv_iconst (v := 0) hx hb d_m_tick_45 (by decide) ?_
          refine lv_istore_n (lv' := [(1, .int 0), (2, .int (nI t)), (0, .ref (b 0))]) hx hb d_m_tick_46 rfl hl (by decide) rfl (fun ls hl => ?_)
          refine lv_iinc (v := nI (t + 1)) (lv' := [(2, .int (nI (t + 1))), (1, .int 0), (0, .ref (b 0))]) hx hb d_m_tick_47 hl (k := 1) rfl (nI_1 t) (by decide) rfl (fun ls hl => ?_)
          refine lv_goto (tgt := 14) hx hb d_m_tick_50 (by decide) ?_
          exact ih (t + 1) 0 ((g_event μT t).2) (by omega) (by rw [← hrT]; simp only [mkT, smT, c_15, c_16, c_17, ↓reduceIte]) _ _ _ hP hD hS (lv_sub hl [0, 1, 2] rfl)
        · refine lv_iconst (v := 1) hx hb d_m_tick_41 (by decide) ?_
          refine lv_goto (tgt := 46) hx hb d_m_tick_42 (by decide) ?_
          refine lv_istore_n (lv' := [(1, .int 1), (2, .int (nI t)), (0, .ref (b 0))]) hx hb d_m_tick_46 rfl hl (by decide) rfl (fun ls hl => ?_)
          refine lv_iinc (v := nI (t + 1)) (lv' := [(2, .int (nI (t + 1))), (1, .int 1), (0, .ref (b 0))]) hx hb d_m_tick_47 hl (k := 1) rfl (nI_1 t) (by decide) rfl (fun ls hl => ?_)
          refine lv_goto (tgt := 14) hx hb d_m_tick_50 (by decide) ?_
          exact ih (t + 1) 1 ((g_event μT t).2) (by omega) (by rw [← hrT]; simp only [mkT, smT, c_15, c_16, c_17, ↓reduceIte]) _ _ _ hP hD hS (lv_sub hl [0, 1, 2] rfl)
      · refine lv_iload_n hx hb d_m_tick_29 rfl (lv_at hl 1 rfl) ?_
        refine lv_if_eq (tgt := 45) hx hb d_m_tick_30 (by decide) (fun c_18 => ?_) (fun c_18 => ?_)
        · refine lv_iconst (v := 0) hx hb d_m_tick_45 (by decide) ?_
          refine lv_istore_n (lv' := [(1, .int 0), (2, .int (nI t)), (0, .ref (b 0))]) hx hb d_m_tick_46 rfl hl (by decide) rfl (fun ls hl => ?_)
          refine lv_iinc (v := nI (t + 1)) (lv' := [(2, .int (nI (t + 1))), (1, .int 0), (0, .ref (b 0))]) hx hb d_m_tick_47 hl (k := 1) rfl (nI_1 t) (by decide) rfl (fun ls hl => ?_)
          refine lv_goto (tgt := 14) hx hb d_m_tick_50 (by decide) ?_
          exact ih (t + 1) 0 μT (by omega) (by rw [← hrT]; simp only [mkT, smT, c_15, c_16, c_18, ↓reduceIte]) _ _ _ hP hD hS (lv_sub hl [0, 1, 2] rfl)
        · refine lv_aload_n hx hb d_m_tick_33 rfl (lv_at hl 2 rfl) ?_
          refine lv_iload_n hx hb d_m_tick_34 rfl (lv_at hl 0 rfl) ?_
          refine k_cV (rest := []) hx hb hml hown hG hK hN hA hP hD hS (c_m_event l D b cb μT t (show t < 8 by omega)) ok_m_event io_m_event L_M_75 ⟨rfl, rfl, by decide, by decide⟩ 0 wM_M rfl rfl hl.1 rfl (Nat.le_of_ble_eq_true rfl) ⟨Nat.zero_le _, Nat.zero_le _⟩ d_m_tick_35 (fun H locs hP hD hS => ?_)
          refine lv_if_eq (tgt := 45) hx hb d_m_tick_38 (by decide) (fun c_19 => ?_) (fun c_19 => ?_)
          · refine lv_iconst (v := 0) hx hb d_m_tick_45 (by decide) ?_
            refine lv_istore_n (lv' := [(1, .int 0), (2, .int (nI t)), (0, .ref (b 0))]) hx hb d_m_tick_46 rfl hl (by decide) rfl (fun ls hl => ?_)
            refine lv_iinc (v := nI (t + 1)) (lv' := [(2, .int (nI (t + 1))), (1, .int 0), (0, .ref (b 0))]) hx hb d_m_tick_47 hl (k := 1) rfl (nI_1 t) (by decide) rfl (fun ls hl => ?_)
            refine lv_goto (tgt := 14) hx hb d_m_tick_50 (by decide) ?_
            exact ih (t + 1) 0 ((g_event μT t).2) (by omega) (by rw [← hrT]; simp only [mkT, smT, c_15, c_16, c_18, c_19, ↓reduceIte]) _ _ _ hP hD hS (lv_sub hl [0, 1, 2] rfl)
          · refine lv_iconst (v := 1) hx hb d_m_tick_41 (by decide) ?_
            refine lv_goto (tgt := 46) hx hb d_m_tick_42 (by decide) ?_
            refine lv_istore_n (lv' := [(1, .int 1), (2, .int (nI t)), (0, .ref (b 0))]) hx hb d_m_tick_46 rfl hl (by decide) rfl (fun ls hl => ?_)
            refine lv_iinc (v := nI (t + 1)) (lv' := [(2, .int (nI (t + 1))), (1, .int 1), (0, .ref (b 0))]) hx hb d_m_tick_47 hl (k := 1) rfl (nI_1 t) (by decide) rfl (fun ls hl => ?_)
            refine lv_goto (tgt := 14) hx hb d_m_tick_50 (by decide) ?_
            exact ih (t + 1) 1 ((g_event μT t).2) (by omega) (by rw [← hrT]; simp only [mkT, smT, c_15, c_16, c_18, c_19, ↓reduceIte]) _ _ _ hP hD hS (lv_sub hl [0, 1, 2] rfl)
  exact loopT 8 0 0 _ (by omega) e1.symm _ _ _ hP hD hS (lv_sub hl [0, 1, 2] rfl)
