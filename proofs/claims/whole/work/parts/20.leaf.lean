section Leaf
variable {l : Launch} {D : va_G} {A : Nat → ClassId} {G : Heap} {h : Hp} {n : Nat}
set_option maxRecDepth 4000 in
theorem k_W_busOf (hl : l.stackTraces = false) {w fr bo : Nat} {cb : Int32} (h1 : h w = some (oc 4 [.ref fr, .ref bo, .int cb])) {i df : Nat} {f : Nat → Int32} (h2 : h bo = some (ic A 12 f)) (hi : i < 12) : Ct l D A G my_W_busOf cd_W_busOf 2 (some (.int)) df 0 0 [.ref w, .int (nI i)] h n (fun v h' n' => v = some (.int (f i)) ∧ h' = h ∧ n' = n) (fun _ _ _ => False) := by
  refine Ct.of (by decide) hl (Nat.le_of_ble_eq_true rfl) ?_
  intro p e s m args below meth c C hr hnm ht dp
  first | refine r_aload_n C dc_W_busOf_0 rfl rfl ?_ | refine r_aload_nq C dc_W_busOf_0 rfl rfl ?_
  refine r_get C dc_W_busOf_1 fl_W_15 (by first | assumption | exact hs_eq _ _ _ | exact (hs_ne (by omega)).trans (by assumption) | exact (hs_ne (by omega)).trans (hs_eq _ _ _) | exact (hs_ne (by omega)).trans ((hs_ne (by omega)).trans (by assumption)) | exact (hs_ne (by omega)).trans ((hs_ne (by omega)).trans (hs_eq _ _ _)) | exact (hs_ne (by omega)).trans ((hs_ne (by omega)).trans ((hs_ne (by omega)).trans (by assumption)))) rfl ?_
  refine r_iload_n C dc_W_busOf_4 rfl rfl ?_
  refine r_ialdN C dc_W_busOf_5 (by first | assumption | exact hs_eq _ _ _ | exact (hs_ne (by omega)).trans (by assumption) | exact (hs_ne (by omega)).trans (hs_eq _ _ _) | exact (hs_ne (by omega)).trans ((hs_ne (by omega)).trans (by assumption)) | exact (hs_ne (by omega)).trans ((hs_ne (by omega)).trans (hs_eq _ _ _)) | exact (hs_ne (by omega)).trans ((hs_ne (by omega)).trans ((hs_ne (by omega)).trans (by assumption)))) (by omega) (by decide) ?_
  exact r_iret C dp hr dc_W_busOf_6 (Nat.le_refl _) ⟨rfl, rfl, rfl⟩
set_option maxRecDepth 4000 in
theorem k_W_isBus (hl : l.stackTraces = false) {w fr bo : Nat} {cb : Int32} (h1 : h w = some (oc 4 [.ref fr, .ref bo, .int cb])) {i df : Nat} {f : Nat → Int32} {g : Nat → Nat} (h2 : h bo = some (ic A 12 f)) (hi : i < 12) (hf : ∀ j, j < 12 → f j = nI (g j)) (hg : ∀ j, j < 12 → g j < 12) : Ct l D A G my_W_isBus cd_W_isBus 2 (some (.boolean)) df 0 0 [.ref w, .int (nI i)] h n (fun v h' n' => v = some (.int (zi (decide (g i = i)))) ∧ h' = h ∧ n' = n) (fun _ _ _ => False) := by
  refine Ct.of (by decide) hl (Nat.le_of_ble_eq_true rfl) ?_
  intro p e s m args below meth c C hr hnm ht dp
  first | refine r_aload_n C dc_W_isBus_0 rfl rfl ?_ | refine r_aload_nq C dc_W_isBus_0 rfl rfl ?_
  refine r_get C dc_W_isBus_1 fl_W_15 (by first | assumption | exact hs_eq _ _ _ | exact (hs_ne (by omega)).trans (by assumption) | exact (hs_ne (by omega)).trans (hs_eq _ _ _) | exact (hs_ne (by omega)).trans ((hs_ne (by omega)).trans (by assumption)) | exact (hs_ne (by omega)).trans ((hs_ne (by omega)).trans (hs_eq _ _ _)) | exact (hs_ne (by omega)).trans ((hs_ne (by omega)).trans ((hs_ne (by omega)).trans (by assumption)))) rfl ?_
  refine r_iload_n C dc_W_isBus_4 rfl rfl ?_
  refine r_ialdN C dc_W_isBus_5 (by first | assumption | exact hs_eq _ _ _ | exact (hs_ne (by omega)).trans (by assumption) | exact (hs_ne (by omega)).trans (hs_eq _ _ _) | exact (hs_ne (by omega)).trans ((hs_ne (by omega)).trans (by assumption)) | exact (hs_ne (by omega)).trans ((hs_ne (by omega)).trans (hs_eq _ _ _)) | exact (hs_ne (by omega)).trans ((hs_ne (by omega)).trans ((hs_ne (by omega)).trans (by assumption)))) (by omega) (by decide) ?_
  refine r_iload_n C dc_W_isBus_6 rfl rfl ?_
  have hb : f i = nI (g i) := hf i hi
  rw [hb]
  have hgi := hg i hi
  refine r_icmp_neN (tgt := 14) C dc_W_isBus_7 (by decide) (by omega) (by omega) (fun c7 => ?_) (fun c7 => ?_)
  ·
    refine r_iconst (v := nI 0) C dc_W_isBus_14 (by decide) ?_
    exact r_zret C dp hr dc_W_isBus_15 (by decide) (Nat.le_refl _) ⟨by simp only [zi, c7, decide_true, decide_false]; rfl, rfl, rfl⟩
  ·
    refine r_iconst (v := nI 1) C dc_W_isBus_10 (by decide) ?_
    refine r_goto (tgt := 15) C dc_W_isBus_11 (by decide) ?_
    exact r_zret C dp hr dc_W_isBus_15 (by decide) (Nat.le_refl _) ⟨by simp only [zi, c7, decide_true, decide_false]; rfl, rfl, rfl⟩
set_option maxRecDepth 4000 in
theorem k_Q_isEmpty (hl : l.stackTraces = false) {q pk k df : Nat} (h1 : h q = some (oc 1 [.ref pk, .int (nI k)])) (hk : k < 100) : Ct l D A G my_Q_isEmpty cd_Q_isEmpty 1 (some (.boolean)) df 0 0 [.ref q] h n (fun v h' n' => v = some (.int (zi (decide (k = 0)))) ∧ h' = h ∧ n' = n) (fun _ _ _ => False) := by
  refine Ct.of (by decide) hl (Nat.le_of_ble_eq_true rfl) ?_
  intro p e s m args below meth c C hr hnm ht dp
  first | refine r_aload_n C dc_Q_isEmpty_0 rfl rfl ?_ | refine r_aload_nq C dc_Q_isEmpty_0 rfl rfl ?_
  refine r_get C dc_Q_isEmpty_1 fl_Q_17 (by first | assumption | exact hs_eq _ _ _ | exact (hs_ne (by omega)).trans (by assumption) | exact (hs_ne (by omega)).trans (hs_eq _ _ _) | exact (hs_ne (by omega)).trans ((hs_ne (by omega)).trans (by assumption)) | exact (hs_ne (by omega)).trans ((hs_ne (by omega)).trans (hs_eq _ _ _)) | exact (hs_ne (by omega)).trans ((hs_ne (by omega)).trans ((hs_ne (by omega)).trans (by assumption)))) rfl ?_
  refine r_if_ne (tgt := 11) C dc_Q_isEmpty_4 (by decide) (fun c4 => ?_) (fun c4 => ?_)
  ·
    have c9 : ¬ k = 0 := by
      intro z; rw [z] at c4; exact absurd rfl c4
    refine r_iconst (v := nI 0) C dc_Q_isEmpty_11 (by decide) ?_
    exact r_zret C dp hr dc_Q_isEmpty_12 (by decide) (Nat.le_refl _) ⟨by first | (rw [decide_eq_true (by omega)]; rfl) | (rw [decide_eq_false (by omega)]; rfl), rfl, rfl⟩
  ·
    have c9 : k = 0 := by
      exact Classical.byContradiction fun z => absurd c4 (nI_ne0 (by omega) (by omega))
    refine r_iconst (v := nI 1) C dc_Q_isEmpty_7 (by decide) ?_
    refine r_goto (tgt := 12) C dc_Q_isEmpty_8 (by decide) ?_
    exact r_zret C dp hr dc_Q_isEmpty_12 (by decide) (Nat.le_refl _) ⟨by first | (rw [decide_eq_true (by omega)]; rfl) | (rw [decide_eq_false (by omega)]; rfl), rfl, rfl⟩
set_option maxRecDepth 4000 in
theorem k_Q_isFull (hl : l.stackTraces = false) {q pk k df : Nat} (h1 : h q = some (oc 1 [.ref pk, .int (nI k)])) (hk : k < 100) : Ct l D A G my_Q_isFull cd_Q_isFull 1 (some (.boolean)) df 0 0 [.ref q] h n (fun v h' n' => v = some (.int (zi (decide (6 ≤ k)))) ∧ h' = h ∧ n' = n) (fun _ _ _ => False) := by
  refine Ct.of (by decide) hl (Nat.le_of_ble_eq_true rfl) ?_
  intro p e s m args below meth c C hr hnm ht dp
  first | refine r_aload_n C dc_Q_isFull_0 rfl rfl ?_ | refine r_aload_nq C dc_Q_isFull_0 rfl rfl ?_
  refine r_get C dc_Q_isFull_1 fl_Q_17 (by first | assumption | exact hs_eq _ _ _ | exact (hs_ne (by omega)).trans (by assumption) | exact (hs_ne (by omega)).trans (hs_eq _ _ _) | exact (hs_ne (by omega)).trans ((hs_ne (by omega)).trans (by assumption)) | exact (hs_ne (by omega)).trans ((hs_ne (by omega)).trans (hs_eq _ _ _)) | exact (hs_ne (by omega)).trans ((hs_ne (by omega)).trans ((hs_ne (by omega)).trans (by assumption)))) rfl ?_
  refine r_bipush (v := nI 6) C dc_Q_isFull_4 (by decide) ?_
  refine r_icmp_ltN (tgt := 13) C dc_Q_isFull_6 (by decide) (by omega) (by omega) (fun c6 => ?_) (fun c6 => ?_)
  ·
    have c9 := c6
    refine r_iconst (v := nI 0) C dc_Q_isFull_13 (by decide) ?_
    exact r_zret C dp hr dc_Q_isFull_14 (by decide) (Nat.le_refl _) ⟨by first | (rw [decide_eq_true (by omega)]; rfl) | (rw [decide_eq_false (by omega)]; rfl), rfl, rfl⟩
  ·
    have c9 := c6
    refine r_iconst (v := nI 1) C dc_Q_isFull_9 (by decide) ?_
    refine r_goto (tgt := 14) C dc_Q_isFull_10 (by decide) ?_
    exact r_zret C dp hr dc_Q_isFull_14 (by decide) (Nat.le_refl _) ⟨by first | (rw [decide_eq_true (by omega)]; rfl) | (rw [decide_eq_false (by omega)]; rfl), rfl, rfl⟩
end Leaf
