set_option maxHeartbeats 8000000 in
set_option maxRecDepth 100000 in
/-- THE LAW, from its entry -/
theorem whole_start {p : Program} {e : Env} {s : State} {m : MethodId} {below : List Frame} {meth : Method} {c : Code} (l : Launch) {b L : Nat} {xs : Nat → Int32} (hL : L ≤ 2560) (C0 : lw_At p s m meth c b L xs) : W p l e room_1 s m #[Value.ref b] below meth c s.heap [] 0 0 (lw_Z below #[Value.ref b] s) (entryFrame m ([Value.ref b] : List Value).toArray 4) := by
  obtain ⟨hx, hb, hr, hml, hown, hts, hX, hbl, hlocks, hgv⟩ := id C0
  have hA : ∀ q : Nat, s.heap.size ≤ q → (fun q : Nat => s.heap.size ≤ q) q := fun _ h => h
  have hG : ∀ w ∈ BIG, w.before #[Value.ref b] s = true := fun w h => hts w (BIG_in h)
  have hN : xN s := xN.of (fun w h => hts w (NESTS_in h))
  obtain ⟨c0, iS0, hKn0⟩ := u_known (C := R_X) (T := F_X) (N := 5) (n := 5) hG i_X (hG _ inst_X)
  obtain ⟨c1, iS1, hKn1⟩ := u_known (C := R_H) (T := F_H) (N := 6) (n := 6) hG i_H (hG _ inst_H)
  obtain ⟨c2, iS2, hKn2⟩ := u_known (C := R_T) (T := F_T) (N := 9) (n := 9) hG i_T (hG _ inst_T)
  obtain ⟨c3, iS3, hKn3⟩ := u_known (C := R_G) (T := F_G) (N := 6) (n := 6) hG i_G (hG _ inst_G)
  obtain ⟨c4, iS4, hKn4⟩ := u_known (C := R_M) (T := F_M) (N := 18) (n := 18) hG i_M (hG _ inst_M)
  obtain ⟨D, hKc⟩ : ∃ D : va_G, ∀ (k : Nat) (q : vw_C), classes[k]? = some q → u_Kn s q.1 q.2.1 q.2.2 (D.1 k) (D.2 k) := by
    refine ⟨(fun k => if k = 0 then c0 else if k = 1 then c1 else if k = 2 then c2 else if k = 3 then c3 else c4, fun k => if k = 0 then iS0 else if k = 1 then iS1 else if k = 2 then iS2 else if k = 3 then iS3 else iS4), ?_⟩
    intro k q hq
    match k, hq with
    | 0, hq => cases hq; exact hKn0
    | 1, hq => cases hq; exact hKn1
    | 2, hq => cases hq; exact hKn2
    | 3, hq => cases hq; exact hKn3
    | 4, hq => cases hq; exact hKn4
    | k + 5, hq => simp [classes] at hq
  have hS : va_S (fun q : Nat => s.heap.size ≤ q) s.heap s.heap [] := va_S.rf
  have hK : va_K D classes [] s := ⟨hKc, fun k q h => by simp at h⟩
  have hP : va_P D classes [] s.heap := fun k q h => by simp at h
  have hD : va_D (fun q : Nat => s.heap.size ≤ q) [] := ⟨fun i j p q h => by simp at h, fun k q h => by simp at h⟩
  have hl := lv_entry ([.ref b]) (n := 4) (Nat.le_of_ble_eq_true rfl)
  rw [lg_entry_eq]
  generalize (lg_sl ([.ref b]) ++ List.replicate (4 - (lg_sl ([.ref b])).length) Slot.unset).toArray = ls at hl ⊢
  have hl : lv_has ls 4 [(0, .ref b)] := hl
  refine va_new (ci := 0) (fs := [.null, .null, .null, .int 0, .int 0]) hx hb hG i_X ft_X ft_X_ok hown (hG _ L_law_7) (hG _ inst_X) (hG _ ini_X) hK hP hD hS hA rfl (fun j hj => by rcases (show j = 0 ∨ j = 1 ∨ j = 2 ∨ j = 3 ∨ j = 4 by omega) with rfl | rfl | rfl | rfl | rfl <;> rfl) (by decide) (by decide) d_law_0 (fun q0 H hP hD hS => ?_)
  refine lv_dup hx hb d_law_3 rfl ?_
  refine k_bI (w := []) (w0 := [(q0, .inr (0, [.null, .null, .null, .int 0, .int 0]))]) (rest := [.ref q0]) hx hb hml hown hG hK hN hA hP hD hS (c_Xinit l D q0) ok_Xinit rfl oi_Xinit L_law_9 ⟨rfl, rfl, by decide, by decide⟩ rfl hl.1 rfl (Nat.le_of_ble_eq_true rfl) ⟨by decide, by decide⟩ d_law_4 (fun H locs t ht hvm hB hJ hS => ?_)
  obtain ⟨a, ca, ea, hP1, hK1, hD1⟩ := hB
  subst ea
  rw [ht] at hP1
  obtain ⟨hP, hD⟩ := hJ _ hP1 hD1
  have hKx := va_K.moved hvm.symm hK1
  have hP : va_P D classes (wX a ca s0) H := hP
  have hD : va_D (fun q : Nat => s.heap.size ≤ q) (wX a ca s0) := hD
  refine lv_astore_n (lv' := [(1, .ref (a 0)), (0, .ref b)]) hx hb d_law_7 rfl hl (by decide) rfl (fun ls hl => ?_)
  refine va_new (ci := 4) (fs := [.int 0, .int 0, .int 0, .int 0, .null, .null, .null, .null, .null, .null, .null, .null, .null, .null, .null, .null, .null, .null]) hx hb hG i_M ft_M ft_M_ok hown (hG _ L_law_10) (hG _ inst_M) (hG _ ini_M) hK hP hD hS hA rfl (fun j hj => by rcases (show j = 0 ∨ j = 1 ∨ j = 2 ∨ j = 3 ∨ j = 4 ∨ j = 5 ∨ j = 6 ∨ j = 7 ∨ j = 8 ∨ j = 9 ∨ j = 10 ∨ j = 11 ∨ j = 12 ∨ j = 13 ∨ j = 14 ∨ j = 15 ∨ j = 16 ∨ j = 17 by omega) with rfl | rfl | rfl | rfl | rfl | rfl | rfl | rfl | rfl | rfl | rfl | rfl | rfl | rfl | rfl | rfl | rfl | rfl <;> rfl) (by decide) (by decide) d_law_8 (fun q1 H hP hD hS => ?_)
  refine lv_dup hx hb d_law_11 rfl ?_
  refine k_bI (w := wX a ca s0) (w0 := [(q1, .inr (4, [.int 0, .int 0, .int 0, .int 0, .null, .null, .null, .null, .null, .null, .null, .null, .null, .null, .null, .null, .null, .null]))]) (rest := [.ref q1]) hx hb hml hown hG hK hN hA hP hD hS (c_Minit l D q1) ok_Minit rfl oi_Minit L_law_12 ⟨rfl, rfl, by decide, by decide⟩ rfl hl.1 rfl (Nat.le_of_ble_eq_true rfl) ⟨by decide, by decide⟩ d_law_12 (fun H locs t ht hvm hB hJ hS => ?_)
  obtain ⟨bb, cb, eb, hP1, hK1, hD1⟩ := hB
  subst eb
  rw [ht] at hP1
  obtain ⟨hP, hD⟩ := hJ _ hP1 hD1
  have hKm := va_K.moved hvm.symm hK1
  refine lv_astore_n (lv' := [(2, .ref (bb 0)), (1, .ref (a 0)), (0, .ref b)]) hx hb d_law_15 rfl hl (by decide) rfl (fun ls hl => ?_)
  refine lv_iconst (v := 0) hx hb d_law_16 (by decide) ?_
  refine lv_istore_n (lv' := [(3, .int 0), (2, .ref (bb 0)), (1, .ref (a 0)), (0, .ref b)]) hx hb d_law_17 rfl hl (by decide) rfl (fun ls hl => ?_)
  refine W.widen (k := 34) (n := 333) (by decide) (by decide) ?_
  exact law_loop hL C0 hKx hKm (L + 1) 0 s0 m0 0 (Nat.zero_le L) (by omega) (Nat.zero_le _) rr0 _ _ _ hP hD hS hl
