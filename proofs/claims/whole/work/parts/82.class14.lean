/-- the class in the making: k nodes done -/
def SB (A : Nat → ClassId) (b k : Nat) (h : Hp) : Hp := fun c => if c < b ∨ b + 7 + 5 * k < c then h c else if c = b then some (oc 5 [.ref (b + 1), .ref (b + 4), .ref (b + 7), .int 0, .int 0, .int 0, .int 0, .int 0, .int 0]) else if c = b + 7 then some (rc A 3 12 (fun i => if i < k then some (b + 8 + 5 * i) else none)) else some (ccl A b (c - b) z0 r0)
theorem sc_b {A : Nat → ClassId} {b k : Nat} {h : Hp} : SB A b k h b = some (oc 5 [.ref (b + 1), .ref (b + 4), .ref (b + 7), .int 0, .int 0, .int 0, .int 0, .int 0, .int 0]) := by
  unfold SB
  rw [if_neg (by omega), if_pos rfl]
theorem sc_7 {A : Nat → ClassId} {b k : Nat} {h : Hp} : SB A b k h (b + 7) = some (rc A 3 12 (fun i => if i < k then some (b + 8 + 5 * i) else none)) := by
  unfold SB
  rw [if_neg (by omega), if_neg (by omega), if_pos rfl]
theorem sc_0 {A : Nat → ClassId} {b : Nat} {h : Hp} : hs (hs (hs (hs (hs (hs (hs (hs h (b + 2) (ic A 36 (fl0 36 (-1) 0))) (b + 3) (ic A 12 (rN (itP (fun _ => none) 11) (fun _ => 0)))) (b + 1) (oc 4 [.ref (b + 2), .ref (b + 3), .int 0])) (b + 5) (zc A 36 (fun _ => 0))) (b + 6) (ic A 12 (fun _ => 0))) (b + 4) (oc 3 [.ref (b + 5), .ref (b + 6)])) (b + 7) (rc A 3 12 (fun _ => none))) b (oc 5 [.ref (b + 1), .ref (b + 4), .ref (b + 7), .int 0, .int 0, .int 0, .int 0, .int 0, .int 0]) = SB A b 0 h := by
  funext c
  by_cases e0 : c < b ∨ b + 7 + 5 * 0 < c
  · unfold SB
    rw [if_pos e0, hs_ne (by omega), hs_ne (by omega), hs_ne (by omega), hs_ne (by omega), hs_ne (by omega), hs_ne (by omega), hs_ne (by omega), hs_ne (by omega)]
  · have e1 : c = b ∨ c = b + 7 ∨ c = b + 4 ∨ c = b + 6 ∨ c = b + 5 ∨ c = b + 1 ∨ c = b + 3 ∨ c = b + 2 := by omega
    rcases e1 with e | e | e | e | e | e | e | e
    · rw [e, hs_eq, sc_b]
    · rw [e, hs_ne (by omega), hs_eq, sc_7]
      congr 1
    · subst e
      rw [hs_ne (by omega), hs_ne (by omega), hs_eq]
      unfold SB
      rw [if_neg e0, if_neg (by omega), if_neg (by omega), show b + 4 - b = 4 by omega]; rfl
    · subst e
      rw [hs_ne (by omega), hs_ne (by omega), hs_ne (by omega), hs_eq]
      unfold SB
      rw [if_neg e0, if_neg (by omega), if_neg (by omega), show b + 6 - b = 6 by omega]; rfl
    · subst e
      rw [hs_ne (by omega), hs_ne (by omega), hs_ne (by omega), hs_ne (by omega), hs_eq]
      unfold SB
      rw [if_neg e0, if_neg (by omega), if_neg (by omega), show b + 5 - b = 5 by omega]; rfl
    · subst e
      rw [hs_ne (by omega), hs_ne (by omega), hs_ne (by omega), hs_ne (by omega), hs_ne (by omega), hs_eq]
      unfold SB
      rw [if_neg e0, if_neg (by omega), if_neg (by omega), show b + 1 - b = 1 by omega]; rfl
    · subst e
      rw [hs_ne (by omega), hs_ne (by omega), hs_ne (by omega), hs_ne (by omega), hs_ne (by omega), hs_ne (by omega), hs_eq]
      unfold SB
      rw [if_neg e0, if_neg (by omega), if_neg (by omega), show b + 3 - b = 3 by omega]; rfl
    · subst e
      rw [hs_ne (by omega), hs_ne (by omega), hs_ne (by omega), hs_ne (by omega), hs_ne (by omega), hs_ne (by omega), hs_ne (by omega), hs_eq]
      unfold SB
      rw [if_neg e0, if_neg (by omega), if_neg (by omega), show b + 2 - b = 2 by omega]; rfl
theorem sc_s {A : Nat → ClassId} {b k : Nat} {h : Hp} : hs (hs (hs (hs (hs (hs (SB A b k h) (b + 8 + 5 * k + 1) (ic A 8 (upd (upd (fun _ => 0) 6 (nI 100)) 7 (-1)))) (b + 8 + 5 * k + 2) (oc 1 [.ref (b + 8 + 5 * k + 3), .int 0])) (b + 8 + 5 * k + 3) (rc A 4 6 (fun _ => none))) (b + 8 + 5 * k + 4) (rc A 4 4 (fun _ => none))) (b + 8 + 5 * k) (oc 0 [.ref (b + 8 + 5 * k + 1), .ref (b + 8 + 5 * k + 2), .ref (b + 8 + 5 * k + 4), .int 0, .int 0, .int 0, .int 0, .int 0, .int 0, .int 0, .int 0, .int (nI 1), .int 0, .int (-1), .int (-1), .int (-1), .int (-1)])) (b + 7) (rc A 3 12 (va_up (fun i => if i < k then some (b + 8 + 5 * i) else none) k (some (b + 8 + 5 * k)))) = SB A b (k + 1) h := by
  funext c
  by_cases e7 : c = b + 7
  · rw [e7, hs_eq, sc_7]
    congr 4
    funext i
    unfold va_up
    by_cases e : i = k
    · rw [if_pos e, if_pos (by omega), e]
    · rw [if_neg e]
      dsimp only
      by_cases e2 : i < k
      · rw [if_pos e2, if_pos (by omega)]
      · rw [if_neg e2, if_neg (by omega)]
  rw [hs_ne e7]
  by_cases e0 : c = b + 8 + 5 * k
  · rw [e0, hs_eq]
    unfold SB
    rw [if_neg (by omega), if_neg (by omega), if_neg (by omega), show b + 8 + 5 * k - b = 8 + 5 * k by omega, cc_0, show b + 8 + 5 * k + 1 = b + 9 + 5 * k by omega, show b + 8 + 5 * k + 2 = b + 10 + 5 * k by omega, show b + 8 + 5 * k + 4 = b + 12 + 5 * k by omega]
    rfl
  rw [hs_ne e0]
  by_cases e4 : c = b + 8 + 5 * k + 4
  · rw [e4, hs_eq]
    unfold SB
    rw [if_neg (by omega), if_neg (by omega), if_neg (by omega), show b + 8 + 5 * k + 4 - b = 12 + 5 * k by omega, cc_4]
    rfl
  rw [hs_ne e4]
  by_cases e3 : c = b + 8 + 5 * k + 3
  · rw [e3, hs_eq]
    unfold SB
    rw [if_neg (by omega), if_neg (by omega), if_neg (by omega), show b + 8 + 5 * k + 3 - b = 11 + 5 * k by omega, cc_3]
    rfl
  rw [hs_ne e3]
  by_cases e2 : c = b + 8 + 5 * k + 2
  · rw [e2, hs_eq]
    unfold SB
    rw [if_neg (by omega), if_neg (by omega), if_neg (by omega), show b + 8 + 5 * k + 2 - b = 10 + 5 * k by omega, cc_2, show b + 8 + 5 * k + 3 = b + 11 + 5 * k by omega]
    rfl
  rw [hs_ne e2]
  by_cases e1 : c = b + 8 + 5 * k + 1
  · rw [e1, hs_eq]
    unfold SB
    rw [if_neg (by omega), if_neg (by omega), if_neg (by omega), show b + 8 + 5 * k + 1 - b = 9 + 5 * k by omega, cc_1]
    congr 3
    funext w
    show _ = z0 (100 + k) w
    unfold z0
    rw [if_neg (by omega), if_neg (by omega), if_neg (by omega), if_neg (by omega), if_neg (by omega), if_pos (by omega)]
  rw [hs_ne e1]
  unfold SB
  by_cases eo : c < b ∨ b + 7 + 5 * k < c
  · rw [if_pos eo, if_pos (show c < b ∨ b + 7 + 5 * (k + 1) < c by omega)]
  · rw [if_neg eo, if_neg (show ¬ (c < b ∨ b + 7 + 5 * (k + 1) < c) by omega)]
    by_cases eb : c = b
    · rw [if_pos eb, if_pos eb]
    · rw [if_neg eb, if_neg eb, if_neg e7, if_neg e7]
theorem sc_e {A : Nat → ClassId} {b : Nat} {h : Hp} : hs (hs (SB A b 12 h) (b + 7) (rc A 3 12 (fun i => some (b + 8 + 5 * i)))) b (oc 5 [.ref (b + 1), .ref (b + 4), .ref (b + 7), .int 0, .int (nI 20), .int 0, .int 0, .int 0, .int 0]) = CH A b z0 r0 h := by
  funext c
  by_cases eb : c = b
  · rw [eb, hs_eq]
    exact (ch_S (A := A) (b := b) (z := z0) (r := r0) (h := h)).symm
  rw [hs_ne eb]
  by_cases e7 : c = b + 7
  · rw [e7, hs_eq]
    exact ch_nodes.symm
  rw [hs_ne e7]
  unfold SB CH
  by_cases eo : c < b ∨ b + 67 < c
  · rw [if_pos (by omega), if_pos eo]
  · rw [if_neg (by omega), if_neg eb, if_neg e7, if_neg eo]
theorem iQ : Cond.initialized my_Q_init.cls ∈ tbl := by decide +kernel
theorem iT : Cond.initialized my_T_init.cls ∈ tbl := by decide +kernel
section Cls14
variable {l : Launch} {D : va_G} {A : Nat → ClassId} {G : Heap} {b n df : Nat} {h hh : Hp}
set_option maxRecDepth 4000 in
set_option maxHeartbeats 1000000 in
theorem k_N_init (hl : l.stackTraces = false) {a : Nat} (hm : hh a = some (oc 0 nf0)) (hn : a + 1 = G.size + n) : Ct l D A G my_N_init cd_N_init 1 none (df + 1) 4 20 [.ref a] hh n (fun v h' n' => v = none ∧ h' = (hs (hs (hs (hs (hs hh (a + 1) (ic A 8 (upd (upd (fun _ => 0) 6 (nI 100)) 7 (-1)))) (a + 2) (oc 1 [.ref (a + 3), .int 0])) (a + 3) (rc A 4 6 (fun _ => none))) (a + 4) (rc A 4 4 (fun _ => none))) (a) (oc 0 [.ref (a + 1), .ref (a + 2), .ref (a + 4), .int 0, .int 0, .int 0, .int 0, .int 0, .int 0, .int 0, .int 0, .int (nI 1), .int 0, .int (-1), .int (-1), .int (-1), .int (-1)])) ∧ n' = n + 4) (fun _ _ _ => False) := by
  refine Ct.of (by decide) hl (Nat.le_of_ble_eq_true rfl) ?_
  intro p e s m args below meth c C hr hnm ht dp
  refine r_aload_n C dc_N_init_0 rfl rfl ?_
  refine r_objInit C dp dc_N_init_1 (tm 74 (by decide +kernel) rfl) (by decide) ?_
  refine r_aload_n C dc_N_init_4 rfl rfl ?_
  refine r_bipush (v := nI 8) C dc_N_init_5 (by decide) ?_
  refine r_newai (k := 8) (bc := 3) (bs := 12) C dc_N_init_7 ac_i rfl (by omega) (fun _ => ?_)
  rw [show G.size + n = a + 1 by omega]
  refine r_putF C dc_N_init_9 fl_N_9 ⟨_, _, rfl⟩ hnm (nfl_of nfl_N (by decide)) (by first | exact hs_eq _ _ _ | exact (hs_ne (by omega)).trans (hs_eq _ _ _) | exact (hs_ne (by omega)).trans ((hs_ne (by omega)).trans (hs_eq _ _ _)) | exact (hs_ne (by omega)).trans ((hs_ne (by omega)).trans ((hs_ne (by omega)).trans (hs_eq _ _ _))) | exact hm | exact (hs_ne (by omega)).trans hm | exact (hs_ne (by omega)).trans ((hs_ne (by omega)).trans hm) | exact (hs_ne (by omega)).trans ((hs_ne (by omega)).trans ((hs_ne (by omega)).trans hm)) | exact (hs_ne (by omega)).trans ((hs_ne (by omega)).trans ((hs_ne (by omega)).trans ((hs_ne (by omega)).trans hm)))) rfl rfl (Nat.le_of_ble_eq_true rfl) ?_
  refine rw_hh (h' := (hs (hs hh (a + 1) (ic A 8 (fun _ => 0))) (a) (oc 0 [.ref (a + 1), .null, .null, .int 0, .int 0, .int 0, .int 0, .int 0, .int 0, .int 0, .int 0, .int 0, .int 0, .int 0, .int 0, .int 0, .int 0]))) ?_ ?_
  · funext c
    simp only [hs]
    repeat' split
    all_goals first | rfl | omega
  refine r_aload_n C dc_N_init_12 rfl rfl ?_
  refine r_new (fs := [.null, .int 0]) (bc := 2) (bs := 10) C dc_N_init_13 nk_N_15 ⟨_, _, rfl, nd_Q⟩ (fun _ => ?_)
  rw [show G.size + (n + 1) = a + 2 by omega]
  refine r_dup C dc_N_init_16 rfl ?_
  refine r_callIN (bc := 1) (bs := 4) C dp dc_N_init_17 cn_N_17 iQ ce_Q_init ⟨by decide, by decide, by decide +kernel⟩ (by decide) rfl cm_Q_init (k_Q_init (df := df) (a := a + 2) (n := n + 1 + 1) hl (hs_eq _ _ _) (by omega)) (by omega) rfl rfl (Nat.le_of_ble_eq_true rfl) (fun v9 h9 n9 q9 z9 => ?_)
  obtain ⟨y1, y2, y3⟩ := z9
  rw [y1, y2, y3]
  refine rw_hh (h' := (hs (hs (hs (hs hh (a + 1) (ic A 8 (fun _ => 0))) (a + 2) (oc 1 [.ref (a + 3), .int 0])) (a + 3) (rc A 4 6 (fun _ => none))) (a) (oc 0 [.ref (a + 1), .null, .null, .int 0, .int 0, .int 0, .int 0, .int 0, .int 0, .int 0, .int 0, .int 0, .int 0, .int 0, .int 0, .int 0, .int 0]))) ?_ ?_
  · funext c
    simp only [hs]
    repeat' split
    all_goals first | rfl | omega
  refine r_putF C dc_N_init_20 fl_N_18 ⟨_, _, rfl⟩ hnm (nfl_of nfl_N (by decide)) (by first | exact hs_eq _ _ _ | exact (hs_ne (by omega)).trans (hs_eq _ _ _) | exact (hs_ne (by omega)).trans ((hs_ne (by omega)).trans (hs_eq _ _ _)) | exact (hs_ne (by omega)).trans ((hs_ne (by omega)).trans ((hs_ne (by omega)).trans (hs_eq _ _ _))) | exact hm | exact (hs_ne (by omega)).trans hm | exact (hs_ne (by omega)).trans ((hs_ne (by omega)).trans hm) | exact (hs_ne (by omega)).trans ((hs_ne (by omega)).trans ((hs_ne (by omega)).trans hm)) | exact (hs_ne (by omega)).trans ((hs_ne (by omega)).trans ((hs_ne (by omega)).trans ((hs_ne (by omega)).trans hm)))) rfl rfl (Nat.le_of_ble_eq_true rfl) ?_
  refine rw_hh (h' := (hs (hs (hs (hs hh (a + 1) (ic A 8 (fun _ => 0))) (a + 2) (oc 1 [.ref (a + 3), .int 0])) (a + 3) (rc A 4 6 (fun _ => none))) (a) (oc 0 [.ref (a + 1), .ref (a + 2), .null, .int 0, .int 0, .int 0, .int 0, .int 0, .int 0, .int 0, .int 0, .int 0, .int 0, .int 0, .int 0, .int 0, .int 0]))) ?_ ?_
  · funext c
    simp only [hs]
    repeat' split
    all_goals first | rfl | omega
  refine r_aload_n C dc_N_init_23 rfl rfl ?_
  refine r_iconst (v := nI 4) C dc_N_init_24 (by decide) ?_
  refine r_newaR (k := 4) (t := 4) (bc := 0) (bs := 0) C dc_N_init_25 rfl lN22 aR rfl (by omega) (fun _ => ?_)
  rw [show G.size + (n + 1 + 1 + 1) = a + 4 by omega]
  refine r_putF C dc_N_init_28 fl_N_24 ⟨_, _, rfl⟩ hnm (nfl_of nfl_N (by decide)) (by first | exact hs_eq _ _ _ | exact (hs_ne (by omega)).trans (hs_eq _ _ _) | exact (hs_ne (by omega)).trans ((hs_ne (by omega)).trans (hs_eq _ _ _)) | exact (hs_ne (by omega)).trans ((hs_ne (by omega)).trans ((hs_ne (by omega)).trans (hs_eq _ _ _))) | exact hm | exact (hs_ne (by omega)).trans hm | exact (hs_ne (by omega)).trans ((hs_ne (by omega)).trans hm) | exact (hs_ne (by omega)).trans ((hs_ne (by omega)).trans ((hs_ne (by omega)).trans hm)) | exact (hs_ne (by omega)).trans ((hs_ne (by omega)).trans ((hs_ne (by omega)).trans ((hs_ne (by omega)).trans hm)))) rfl rfl (Nat.le_of_ble_eq_true rfl) ?_
  refine rw_hh (h' := (hs (hs (hs (hs (hs hh (a + 1) (ic A 8 (fun _ => 0))) (a + 2) (oc 1 [.ref (a + 3), .int 0])) (a + 3) (rc A 4 6 (fun _ => none))) (a + 4) (rc A 4 4 (fun _ => none))) (a) (oc 0 [.ref (a + 1), .ref (a + 2), .ref (a + 4), .int 0, .int 0, .int 0, .int 0, .int 0, .int 0, .int 0, .int 0, .int 0, .int 0, .int 0, .int 0, .int 0, .int 0]))) ?_ ?_
  · funext c
    simp only [hs]
    repeat' split
    all_goals first | rfl | omega
  refine r_aload_n C dc_N_init_31 rfl rfl ?_
  refine r_iconst (v := nI 1) C dc_N_init_32 (by decide) ?_
  refine r_put C dc_N_init_33 fl_N_28 (hs_eq _ _ _) (by first | exact zi_n _ | rfl) (by first | exact zi_f _ | rfl) (Nat.le_of_ble_eq_true rfl) ?_
  refine rw_hh (h' := (hs (hs (hs (hs (hs hh (a + 1) (ic A 8 (fun _ => 0))) (a + 2) (oc 1 [.ref (a + 3), .int 0])) (a + 3) (rc A 4 6 (fun _ => none))) (a + 4) (rc A 4 4 (fun _ => none))) (a) (oc 0 [.ref (a + 1), .ref (a + 2), .ref (a + 4), .int 0, .int 0, .int 0, .int 0, .int 0, .int 0, .int 0, .int 0, .int (nI 1), .int 0, .int 0, .int 0, .int 0, .int 0]))) (hs_hs _ _ _ _) ?_
  refine r_aload_n C dc_N_init_36 rfl rfl ?_
  refine r_iconst (v := -1) C dc_N_init_37 (by decide) ?_
  refine r_put C dc_N_init_38 fl_N_32 (hs_eq _ _ _) rfl rfl (Nat.le_of_ble_eq_true rfl) ?_
  refine rw_hh (h' := (hs (hs (hs (hs (hs hh (a + 1) (ic A 8 (fun _ => 0))) (a + 2) (oc 1 [.ref (a + 3), .int 0])) (a + 3) (rc A 4 6 (fun _ => none))) (a + 4) (rc A 4 4 (fun _ => none))) (a) (oc 0 [.ref (a + 1), .ref (a + 2), .ref (a + 4), .int 0, .int 0, .int 0, .int 0, .int 0, .int 0, .int 0, .int 0, .int (nI 1), .int 0, .int (-1), .int 0, .int 0, .int 0]))) (hs_hs _ _ _ _) ?_
  refine r_aload_n C dc_N_init_41 rfl rfl ?_
  refine r_iconst (v := -1) C dc_N_init_42 (by decide) ?_
  refine r_put C dc_N_init_43 fl_N_36 (hs_eq _ _ _) rfl rfl (Nat.le_of_ble_eq_true rfl) ?_
  refine rw_hh (h' := (hs (hs (hs (hs (hs hh (a + 1) (ic A 8 (fun _ => 0))) (a + 2) (oc 1 [.ref (a + 3), .int 0])) (a + 3) (rc A 4 6 (fun _ => none))) (a + 4) (rc A 4 4 (fun _ => none))) (a) (oc 0 [.ref (a + 1), .ref (a + 2), .ref (a + 4), .int 0, .int 0, .int 0, .int 0, .int 0, .int 0, .int 0, .int 0, .int (nI 1), .int 0, .int (-1), .int (-1), .int 0, .int 0]))) (hs_hs _ _ _ _) ?_
  refine r_aload_n C dc_N_init_46 rfl rfl ?_
  refine r_iconst (v := -1) C dc_N_init_47 (by decide) ?_
  refine r_put C dc_N_init_48 fl_N_39 (hs_eq _ _ _) rfl rfl (Nat.le_of_ble_eq_true rfl) ?_
  refine rw_hh (h' := (hs (hs (hs (hs (hs hh (a + 1) (ic A 8 (fun _ => 0))) (a + 2) (oc 1 [.ref (a + 3), .int 0])) (a + 3) (rc A 4 6 (fun _ => none))) (a + 4) (rc A 4 4 (fun _ => none))) (a) (oc 0 [.ref (a + 1), .ref (a + 2), .ref (a + 4), .int 0, .int 0, .int 0, .int 0, .int 0, .int 0, .int 0, .int 0, .int (nI 1), .int 0, .int (-1), .int (-1), .int (-1), .int 0]))) (hs_hs _ _ _ _) ?_
  refine r_aload_n C dc_N_init_51 rfl rfl ?_
  refine r_iconst (v := -1) C dc_N_init_52 (by decide) ?_
  refine r_put C dc_N_init_53 fl_N_42 (hs_eq _ _ _) rfl rfl (Nat.le_of_ble_eq_true rfl) ?_
  refine rw_hh (h' := (hs (hs (hs (hs (hs hh (a + 1) (ic A 8 (fun _ => 0))) (a + 2) (oc 1 [.ref (a + 3), .int 0])) (a + 3) (rc A 4 6 (fun _ => none))) (a + 4) (rc A 4 4 (fun _ => none))) (a) (oc 0 [.ref (a + 1), .ref (a + 2), .ref (a + 4), .int 0, .int 0, .int 0, .int 0, .int 0, .int 0, .int 0, .int 0, .int (nI 1), .int 0, .int (-1), .int (-1), .int (-1), .int (-1)]))) (hs_hs _ _ _ _) ?_
  refine r_aload_n C dc_N_init_56 rfl rfl ?_
  refine r_get C dc_N_init_57 fl_N_9 (hs_eq _ _ _) rfl ?_
  refine r_bipush (v := nI 6) C dc_N_init_60 (by decide) ?_
  refine r_bipush (v := nI 100) C dc_N_init_62 (by decide) ?_
  refine r_iast C dc_N_init_64 ((hs_ne (by omega)).trans ((hs_ne (by omega)).trans ((hs_ne (by omega)).trans ((hs_ne (by omega)).trans (hs_eq _ _ _))))) rfl (by omega) (by decide) ?_
  refine rw_hh (h' := (hs (hs (hs (hs (hs hh (a + 1) (ic A 8 (upd (fun _ => 0) 6 (nI 100)))) (a + 2) (oc 1 [.ref (a + 3), .int 0])) (a + 3) (rc A 4 6 (fun _ => none))) (a + 4) (rc A 4 4 (fun _ => none))) (a) (oc 0 [.ref (a + 1), .ref (a + 2), .ref (a + 4), .int 0, .int 0, .int 0, .int 0, .int 0, .int 0, .int 0, .int 0, .int (nI 1), .int 0, .int (-1), .int (-1), .int (-1), .int (-1)]))) ?_ ?_
  · funext c
    simp only [hs]
    repeat' split
    all_goals first | rfl | omega
  refine r_aload_n C dc_N_init_65 rfl rfl ?_
  refine r_get C dc_N_init_66 fl_N_9 (hs_eq _ _ _) rfl ?_
  refine r_bipush (v := nI 7) C dc_N_init_69 (by decide) ?_
  refine r_iconst (v := -1) C dc_N_init_71 (by decide) ?_
  refine r_iast C dc_N_init_72 ((hs_ne (by omega)).trans ((hs_ne (by omega)).trans ((hs_ne (by omega)).trans ((hs_ne (by omega)).trans (hs_eq _ _ _))))) rfl (by omega) (by decide) ?_
  refine rw_hh (h' := (hs (hs (hs (hs (hs hh (a + 1) (ic A 8 (upd (upd (fun _ => 0) 6 (nI 100)) 7 (-1)))) (a + 2) (oc 1 [.ref (a + 3), .int 0])) (a + 3) (rc A 4 6 (fun _ => none))) (a + 4) (rc A 4 4 (fun _ => none))) (a) (oc 0 [.ref (a + 1), .ref (a + 2), .ref (a + 4), .int 0, .int 0, .int 0, .int 0, .int 0, .int 0, .int 0, .int 0, .int (nI 1), .int 0, .int (-1), .int (-1), .int (-1), .int (-1)]))) ?_ ?_
  · funext c
    simp only [hs]
    repeat' split
    all_goals first | rfl | omega
  exact r_vret C dp hr dc_N_init_73 (by omega) ⟨rfl, rfl, rfl⟩
set_option maxRecDepth 4000 in
set_option maxHeartbeats 1000000 in
theorem k_S_init (hl : l.stackTraces = false) (hm : hh b = some (oc 5 [.null, .null, .null, .int 0, .int 0, .int 0, .int 0, .int 0, .int 0])) (hn : b + 1 = G.size + n) : Ct l D A G my_S_init cd_S_init 2 none (df + 2) 67 557 [.ref b] hh n (fun v h' n' => v = none ∧ h' = CH A b z0 r0 hh ∧ n' = n + 67) (fun _ _ _ => False) := by
  refine Ct.of (by decide) hl (Nat.le_of_ble_eq_true rfl) ?_
  intro p e s m args below meth c C hr hnm ht dp
  refine r_aload_n C dc_S_init_0 rfl rfl ?_
  refine r_objInit C dp dc_S_init_1 (tm 22 (by decide +kernel) rfl) (by decide) ?_
  refine r_aload_n C dc_S_init_4 rfl rfl ?_
  refine r_new (fs := [.null, .null, .int 0]) (bc := 66) (bs := 554) C dc_S_init_5 nk_S_9 ⟨_, _, rfl, nd_W⟩ (fun _ => ?_)
  rw [show G.size + n = b + 1 by omega]
  refine r_dup C dc_S_init_8 rfl ?_
  refine r_callI (bc := 64) (bs := 506) C dp dc_S_init_9 cw_S_11 rfl cm_W_init (k_W_init (df := df) (a := b + 1) (n := n + 1) hl (hs_eq _ _ _) (by omega)) (by omega) rfl rfl (Nat.le_of_ble_eq_true rfl) (fun v9 h9 n9 q9 z9 => ?_)
  obtain ⟨y1, y2, y3⟩ := z9
  rw [y1, y2, y3]
  refine rw_hh (h' := (hs (hs (hs hh (b + 2) (ic A 36 (fl0 36 (-1) 0))) (b + 3) (ic A 12 (rN (itP (fun _ => none) 11) (fun _ => 0)))) (b + 1) (oc 4 [.ref (b + 2), .ref (b + 3), .int 0]))) ?_ ?_
  · funext c
    simp only [hs]
    repeat' split
    all_goals first | rfl | omega
  refine r_putF C dc_S_init_12 fl_S_12 ⟨_, _, rfl⟩ hnm (nfl_of nfl_S (by decide)) (by first | exact hs_eq _ _ _ | exact (hs_ne (by omega)).trans (hs_eq _ _ _) | exact (hs_ne (by omega)).trans ((hs_ne (by omega)).trans (hs_eq _ _ _)) | exact (hs_ne (by omega)).trans ((hs_ne (by omega)).trans ((hs_ne (by omega)).trans (hs_eq _ _ _))) | exact hm | exact (hs_ne (by omega)).trans hm | exact (hs_ne (by omega)).trans ((hs_ne (by omega)).trans hm) | exact (hs_ne (by omega)).trans ((hs_ne (by omega)).trans ((hs_ne (by omega)).trans hm)) | exact (hs_ne (by omega)).trans ((hs_ne (by omega)).trans ((hs_ne (by omega)).trans ((hs_ne (by omega)).trans hm)))) rfl rfl (Nat.le_of_ble_eq_true rfl) ?_
  refine rw_hh (h' := (hs (hs (hs (hs hh (b + 2) (ic A 36 (fl0 36 (-1) 0))) (b + 3) (ic A 12 (rN (itP (fun _ => none) 11) (fun _ => 0)))) (b + 1) (oc 4 [.ref (b + 2), .ref (b + 3), .int 0])) (b) (oc 5 [.ref (b + 1), .null, .null, .int 0, .int 0, .int 0, .int 0, .int 0, .int 0]))) ?_ ?_
  · funext c
    simp only [hs]
    repeat' split
    all_goals first | rfl | omega
  refine r_aload_n C dc_S_init_15 rfl rfl ?_
  refine r_new (fs := [.null, .null]) (bc := 63) (bs := 504) C dc_S_init_16 nk_S_16 ⟨_, _, rfl, nd_T⟩ (fun _ => ?_)
  rw [show G.size + (n + 1 + 2) = b + 4 by omega]
  refine r_dup C dc_S_init_19 rfl ?_
  refine r_callIN (bc := 61) (bs := 456) C dp dc_S_init_20 cn_S_18 iT ce_T_init ⟨by decide, by decide, by decide +kernel⟩ (by decide) rfl cm_T_init (k_T_init (df := df) (a := b + 4) (n := n + 1 + 2 + 1) hl (hs_eq _ _ _) (by omega)) (by omega) rfl rfl (Nat.le_of_ble_eq_true rfl) (fun v9 h9 n9 q9 z9 => ?_)
  obtain ⟨y1, y2, y3⟩ := z9
  rw [y1, y2, y3]
  refine rw_hh (h' := (hs (hs (hs (hs (hs (hs (hs hh (b + 2) (ic A 36 (fl0 36 (-1) 0))) (b + 3) (ic A 12 (rN (itP (fun _ => none) 11) (fun _ => 0)))) (b + 1) (oc 4 [.ref (b + 2), .ref (b + 3), .int 0])) (b + 5) (zc A 36 (fun _ => 0))) (b + 6) (ic A 12 (fun _ => 0))) (b + 4) (oc 3 [.ref (b + 5), .ref (b + 6)])) (b) (oc 5 [.ref (b + 1), .null, .null, .int 0, .int 0, .int 0, .int 0, .int 0, .int 0]))) ?_ ?_
  · funext c
    simp only [hs]
    repeat' split
    all_goals first | rfl | omega
  refine r_putF C dc_S_init_23 fl_S_19 ⟨_, _, rfl⟩ hnm (nfl_of nfl_S (by decide)) (by first | exact hs_eq _ _ _ | exact (hs_ne (by omega)).trans (hs_eq _ _ _) | exact (hs_ne (by omega)).trans ((hs_ne (by omega)).trans (hs_eq _ _ _)) | exact (hs_ne (by omega)).trans ((hs_ne (by omega)).trans ((hs_ne (by omega)).trans (hs_eq _ _ _))) | exact hm | exact (hs_ne (by omega)).trans hm | exact (hs_ne (by omega)).trans ((hs_ne (by omega)).trans hm) | exact (hs_ne (by omega)).trans ((hs_ne (by omega)).trans ((hs_ne (by omega)).trans hm)) | exact (hs_ne (by omega)).trans ((hs_ne (by omega)).trans ((hs_ne (by omega)).trans ((hs_ne (by omega)).trans hm)))) rfl rfl (Nat.le_of_ble_eq_true rfl) ?_
  refine rw_hh (h' := (hs (hs (hs (hs (hs (hs (hs hh (b + 2) (ic A 36 (fl0 36 (-1) 0))) (b + 3) (ic A 12 (rN (itP (fun _ => none) 11) (fun _ => 0)))) (b + 1) (oc 4 [.ref (b + 2), .ref (b + 3), .int 0])) (b + 5) (zc A 36 (fun _ => 0))) (b + 6) (ic A 12 (fun _ => 0))) (b + 4) (oc 3 [.ref (b + 5), .ref (b + 6)])) (b) (oc 5 [.ref (b + 1), .ref (b + 4), .null, .int 0, .int 0, .int 0, .int 0, .int 0, .int 0]))) (hs_hs _ _ _ _) ?_
  refine r_aload_n C dc_S_init_26 rfl rfl ?_
  refine r_bipush (v := nI 12) C dc_S_init_27 (by decide) ?_
  refine r_newaR (k := 12) (t := 3) (bc := 60) (bs := 444) C dc_S_init_29 rfl lS23 aN rfl (by omega) (fun _ => ?_)
  rw [show G.size + (n + 1 + 2 + 1 + 2) = b + 7 by omega]
  refine r_putF C dc_S_init_32 fl_S_25 ⟨_, _, rfl⟩ hnm (nfl_of nfl_S (by decide)) (by first | exact hs_eq _ _ _ | exact (hs_ne (by omega)).trans (hs_eq _ _ _) | exact (hs_ne (by omega)).trans ((hs_ne (by omega)).trans (hs_eq _ _ _)) | exact (hs_ne (by omega)).trans ((hs_ne (by omega)).trans ((hs_ne (by omega)).trans (hs_eq _ _ _))) | exact hm | exact (hs_ne (by omega)).trans hm | exact (hs_ne (by omega)).trans ((hs_ne (by omega)).trans hm) | exact (hs_ne (by omega)).trans ((hs_ne (by omega)).trans ((hs_ne (by omega)).trans hm)) | exact (hs_ne (by omega)).trans ((hs_ne (by omega)).trans ((hs_ne (by omega)).trans ((hs_ne (by omega)).trans hm)))) rfl rfl (Nat.le_of_ble_eq_true rfl) ?_
  refine rw_hh (h' := (hs (hs (hs (hs (hs (hs (hs (hs hh (b + 2) (ic A 36 (fl0 36 (-1) 0))) (b + 3) (ic A 12 (rN (itP (fun _ => none) 11) (fun _ => 0)))) (b + 1) (oc 4 [.ref (b + 2), .ref (b + 3), .int 0])) (b + 5) (zc A 36 (fun _ => 0))) (b + 6) (ic A 12 (fun _ => 0))) (b + 4) (oc 3 [.ref (b + 5), .ref (b + 6)])) (b + 7) (rc A 3 12 (fun _ => none))) (b) (oc 5 [.ref (b + 1), .ref (b + 4), .ref (b + 7), .int 0, .int 0, .int 0, .int 0, .int 0, .int 0]))) ?_ ?_
  · funext c
    simp only [hs]
    repeat' split
    all_goals first | rfl | omega
  refine rw_hh sc_0 ?_
  have lp : ∀ k, k ≤ 12 → Rw p l e (cR (df + 2) 67 557) s m args below meth c (CQ D G n (fun v h' n' => v = none ∧ h' = CH A b z0 r0 hh ∧ n' = n + 67) (fun _ _ _ => False) below args s 67 557) D G 2 (5 * (12 - k)) (37 * (12 - k)) (SB A b k hh) (n + 7 + 5 * k) [(0, .ref b), (1, .int (nI k))] 37 [] := by
    refine r_loop 12 _ ?_ ?_
    ·
      refine r_iload_n C dc_S_init_37 rfl rfl ?_
      refine r_bipush (v := nI 12) C dc_S_init_38 (by decide) ?_
      refine r_icmp_geN (tgt := 62) C dc_S_init_40 (by decide) (by omega) (by omega) (fun c40 => ?_) (fun c40 => ?_)
      ·
        refine r_ext (f' := fun i => some (b + 8 + 5 * i)) (fun j hj => if_pos hj) sc_7 ?_
        refine r_aload_n C dc_S_init_62 rfl rfl ?_
        refine r_bipush (v := nI 20) C dc_S_init_63 (by decide) ?_
        refine r_put C dc_S_init_65 fl_S_30 ((hs_ne (by omega)).trans sc_b) rfl rfl (Nat.le_of_ble_eq_true rfl) ?_
        refine rw_hh sc_e ?_
        exact r_vret C dp hr dc_S_init_68 (by omega) ⟨rfl, rfl, by omega⟩
      · exact absurd c40 (by omega)
    ·
      intro k hk ih
      refine r_iload_n C dc_S_init_37 rfl rfl ?_
      refine r_bipush (v := nI 12) C dc_S_init_38 (by decide) ?_
      refine r_icmp_geN (tgt := 62) C dc_S_init_40 (by decide) (by omega) (by omega) (fun c40 => ?_) (fun c40 => ?_)
      · exact absurd c40 (by omega)
      ·
        rw [show 5 * (12 - k) = 5 * (12 - (k + 1)) + 4 + 1 by omega, show 37 * (12 - k) = 37 * (12 - (k + 1)) + 20 + 17 by omega]
        refine r_aload_n C dc_S_init_43 rfl rfl ?_
        refine r_get C dc_S_init_44 fl_S_25 sc_b rfl ?_
        refine r_iload_n C dc_S_init_47 rfl rfl ?_
        refine r_new (fs := nf0) C dc_S_init_48 nk_S_23 ⟨_, _, rfl, nd_N⟩ (fun _ => ?_)
        rw [show G.size + (n + 7 + 5 * k) = b + 8 + 5 * k by omega]
        refine r_dup C dc_S_init_51 rfl ?_
        refine r_callI C dp dc_S_init_52 cw_S_29 rfl cm_N_init (k_N_init (df := df) (a := b + 8 + 5 * k) (n := n + 7 + 5 * k + 1) hl (hs_eq _ _ _) (by omega)) (by omega) rfl rfl (Nat.le_of_ble_eq_true rfl) (fun v9 h9 n9 q9 z9 => ?_)
        obtain ⟨y1, y2, y3⟩ := z9
        rw [y1, y2, y3]
        refine rw_hh (h' := (hs (hs (hs (hs (hs (SB A b k hh) (b + 8 + 5 * k + 1) (ic A 8 (upd (upd (fun _ => 0) 6 (nI 100)) 7 (-1)))) (b + 8 + 5 * k + 2) (oc 1 [.ref (b + 8 + 5 * k + 3), .int 0])) (b + 8 + 5 * k + 3) (rc A 4 6 (fun _ => none))) (b + 8 + 5 * k + 4) (rc A 4 4 (fun _ => none))) (b + 8 + 5 * k) (oc 0 [.ref (b + 8 + 5 * k + 1), .ref (b + 8 + 5 * k + 2), .ref (b + 8 + 5 * k + 4), .int 0, .int 0, .int 0, .int 0, .int 0, .int 0, .int 0, .int 0, .int (nI 1), .int 0, .int (-1), .int (-1), .int (-1), .int (-1)]))) ?_ ?_
        · funext c
          simp only [hs]
          repeat' split
          all_goals first | rfl | omega
        refine r_aast C dc_S_init_55 (t := 3) (k := 12) (i := k) (f := fun i => if i < k then some (b + 8 + 5 * i) else none) ((hs_ne (by omega)).trans ((hs_ne (by omega)).trans ((hs_ne (by omega)).trans ((hs_ne (by omega)).trans ((hs_ne (by omega)).trans sc_7))))) rfl (hs_eq _ _ _) rfl rfl (by omega) (by decide) ?_
        refine rw_hh sc_s ?_
        first | refine r_iincN C dc_S_init_56 rfl (by decide) (nw_of rfl) ?_ | refine r_iinc C dc_S_init_56 rfl rfl (by decide) (nw_of rfl) ?_
        refine r_goto (tgt := 37) C dc_S_init_59 (by decide) ?_
        rw [show n + 7 + 5 * k + 1 + 4 = n + 7 + 5 * (k + 1) by omega]
        exact r_weak (wl_c (rfl) (wl_c (rfl) (wl_n))) ih
  refine r_iconst (v := nI 0) C dc_S_init_35 (by decide) ?_
  refine r_istore_n C dc_S_init_36 rfl (by decide) (nw_of rfl) ?_
  rw [show n + 1 + 2 + 1 + 2 + 1 = n + 7 + 5 * 0 by omega]
  exact r_weak (wl_c (rfl) (wl_c (rfl) (wl_n))) (lp 0 (by omega))
end Cls14
