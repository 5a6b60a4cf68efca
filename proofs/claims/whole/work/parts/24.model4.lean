theorem cnt_1 {P : Nat → Bool} {k : Nat} (q : P k = true) : cntT P (k + 1) = cntT P k + 1 := by
  show cntT P k + (bif P k then 1 else 0) = _
  rw [q]; rfl
theorem cnt_0 {P : Nat → Bool} {k : Nat} (q : P k = false) : cntT P (k + 1) = cntT P k := by
  show cntT P k + (bif P k then 1 else 0) = _
  rw [q]; rfl
/-- the first of d places from i on that has it -/
def fstF (P : Nat → Bool) : Nat → Nat → Option Nat
  | 0, _ => none
  | d + 1, i => bif P i then some i else fstF P d (i + 1)
theorem fst_1 {P : Nat → Bool} {N k : Nat} (hk : k < N) (q : P k = true) : fstF P (N - k) k = some k := by
  rw [show N - k = (N - k - 1) + 1 by omega]
  show (bif P k then some k else _) = _
  rw [q]; rfl
theorem fst_0 {P : Nat → Bool} {N k : Nat} (hk : k < N) (q : P k = false) : fstF P (N - k) k = fstF P (N - (k + 1)) (k + 1) := by
  rw [show N - k = (N - (k + 1)) + 1 by omega]
  show (bif P k then some k else fstF P (N - (k + 1)) (k + 1)) = _
  rw [q]; rfl
theorem fst_n {P : Nat → Bool} {N : Nat} : fstF P (N - N) N = none := by
  rw [Nat.sub_self]; rfl
section Model4
variable {l : Launch} {D : va_G} {A : Nat → ClassId} {G : Heap} {h : Hp} {n mm df : Nat} {x : Nat → Nat → Int32}
def cOf (ot : Nat → Option Nat) (x : Nat → Nat → Int32) (a k : Nat) : Bool := match ot (3 * a + k) with
  | none => false
  | some t => decide (x 14 (t / 3) = nI a)
set_option maxRecDepth 4000 in
theorem k_M_openAt (hl : l.stackTraces = false) {a : Nat} (ha : a < 12) : Ct l D A G my_M_openAt cd_M_openAt 4 (some (.int)) df 0 0 [.ref mm, .int (nI a)] (MH A mm x h) n (fun v h' n' => v = some (.int (nI (cntT (fun k => decide (¬ x 2 (3 * a + k) = 0)) 3))) ∧ h' = MH A mm x h ∧ n' = n) (fun _ _ _ => False) := by
  refine Ct.of (by decide) hl (Nat.le_of_ble_eq_true rfl) ?_
  intro p e s m args below meth c C hr hnm ht dp
  have loop : ∀ k, k ≤ 3 → Rw p l e (cR df 0 0) s m args below meth c (CQ D G n (fun v h' n' => v = some (.int (nI (cntT (fun k => decide (¬ x 2 (3 * a + k) = 0)) 3))) ∧ h' = MH A mm x h ∧ n' = n) (fun _ _ _ => False) below args s 0 0) D G 4 0 0 (MH A mm x h) n [(0, .ref mm), (1, .int (nI a)), (2, .int (nI (cntT (fun k => decide (¬ x 2 (3 * a + k) = 0)) k))), (3, .int (nI k))] 4 [] := by
    refine r_loop 3 _ ?_ ?_
    ·
      refine r_iload_n C dc_M_openAt_4 rfl rfl ?_
      refine r_iconst (v := nI 3) C dc_M_openAt_5 (by decide) ?_
      refine r_icmp_geN (tgt := 31) C dc_M_openAt_6 (by decide) (by omega) (by omega) (fun c6 => ?_) (fun c6 => ?_)
      ·
        refine r_iload_n C dc_M_openAt_31 rfl rfl ?_
        exact r_iret C dp hr dc_M_openAt_32 (Nat.le_refl _) ⟨rfl, rfl, rfl⟩
      · exact absurd c6 (by omega)
    ·
      intro k hk ih
      refine r_iload_n C dc_M_openAt_4 rfl rfl ?_
      refine r_iconst (v := nI 3) C dc_M_openAt_5 (by decide) ?_
      refine r_icmp_geN (tgt := 31) C dc_M_openAt_6 (by decide) (by omega) (by omega) (fun c6 => ?_) (fun c6 => ?_)
      · exact absurd c6 (by omega)
      ·
        first | refine r_aload_n C dc_M_openAt_9 rfl rfl ?_ | refine r_aload_nq C dc_M_openAt_9 rfl rfl ?_
        refine r_get C dc_M_openAt_10 fl_M_13 mh_0 rfl ?_
        refine r_iconst (v := nI 3) C dc_M_openAt_13 (by decide) ?_
        refine r_iload_n C dc_M_openAt_14 rfl rfl ?_
        first | refine r_imulN C dc_M_openAt_15 ?_ | refine r_imul C dc_M_openAt_15 ?_
        refine r_iload_n C dc_M_openAt_16 rfl rfl ?_
        first | refine r_iaddN C dc_M_openAt_17 ?_ | refine r_iadd C dc_M_openAt_17 ?_
        refine r_zaldN C dc_M_openAt_18 mh_2 (by omega) (by decide) ?_
        refine r_if_eq (tgt := 25) C dc_M_openAt_19 (by decide) (fun c19 => ?_) (fun c19 => ?_)
        ·
          have e9 := cnt_0 (P := (fun k => decide (¬ x 2 (3 * a + k) = 0))) (k := k) (decide_eq_false (fun z => z c19))
          first | refine r_iincN C dc_M_openAt_25 rfl (by decide) (nw_of rfl) ?_ | refine r_iinc C dc_M_openAt_25 rfl rfl (by decide) (nw_of rfl) ?_
          refine r_goto (tgt := 4) C dc_M_openAt_28 (by decide) ?_
          refine r_weak ?_ (ih)
          exact wl_c (rfl) (wl_c (rfl) (wl_c (by rw [e9]; rfl) (wl_c (rfl) (wl_n))))
        ·
          have e9 := cnt_1 (P := (fun k => decide (¬ x 2 (3 * a + k) = 0))) (k := k) (decide_eq_true c19)
          first | refine r_iincN C dc_M_openAt_22 rfl (by decide) (nw_of rfl) ?_ | refine r_iinc C dc_M_openAt_22 rfl rfl (by decide) (nw_of rfl) ?_
          first | refine r_iincN C dc_M_openAt_25 rfl (by decide) (nw_of rfl) ?_ | refine r_iinc C dc_M_openAt_25 rfl rfl (by decide) (nw_of rfl) ?_
          refine r_goto (tgt := 4) C dc_M_openAt_28 (by decide) ?_
          refine r_weak ?_ (ih)
          exact wl_c (rfl) (wl_c (rfl) (wl_c (by rw [e9]; rfl) (wl_c (rfl) (wl_n))))
  refine r_iconst (v := nI 0) C dc_M_openAt_0 (by decide) ?_
  refine r_istore_n C dc_M_openAt_1 rfl (by decide) (nw_of rfl) ?_
  refine r_iconst (v := nI 0) C dc_M_openAt_2 (by decide) ?_
  refine r_istore_n C dc_M_openAt_3 rfl (by decide) (nw_of rfl) ?_
  refine r_weak ?_ (loop 0 (by omega))
  exact wl_c (rfl) (wl_c (rfl) (wl_c (rfl) (wl_c (rfl) (wl_n))))
set_option maxRecDepth 4000 in
theorem k_M_waiting (hl : l.stackTraces = false) {a : Nat} (ha : a < 12) : Ct l D A G my_M_waiting cd_M_waiting 4 (some (.int)) df 0 0 [.ref mm, .int (nI a)] (MH A mm x h) n (fun v h' n' => v = some (.int (nI (cntT (fun k => decide (x 20 (4 * a + k) = -1)) 4))) ∧ h' = MH A mm x h ∧ n' = n) (fun _ _ _ => False) := by
  refine Ct.of (by decide) hl (Nat.le_of_ble_eq_true rfl) ?_
  intro p e s m args below meth c C hr hnm ht dp
  have loop : ∀ k, k ≤ 4 → Rw p l e (cR df 0 0) s m args below meth c (CQ D G n (fun v h' n' => v = some (.int (nI (cntT (fun k => decide (x 20 (4 * a + k) = -1)) 4))) ∧ h' = MH A mm x h ∧ n' = n) (fun _ _ _ => False) below args s 0 0) D G 4 0 0 (MH A mm x h) n [(0, .ref mm), (1, .int (nI a)), (2, .int (nI (cntT (fun k => decide (x 20 (4 * a + k) = -1)) k))), (3, .int (nI (4 * a + k)))] 6 [] := by
    refine r_loop 4 _ ?_ ?_
    ·
      refine r_iload_n C dc_M_waiting_6 rfl rfl ?_
      refine r_iconst (v := nI 4) C dc_M_waiting_7 (by decide) ?_
      refine r_iload_n C dc_M_waiting_8 rfl rfl ?_
      first | refine r_imulN C dc_M_waiting_9 ?_ | refine r_imul C dc_M_waiting_9 ?_
      refine r_iconst (v := nI 4) C dc_M_waiting_10 (by decide) ?_
      first | refine r_iaddN C dc_M_waiting_11 ?_ | refine r_iadd C dc_M_waiting_11 ?_
      refine r_icmp_geN (tgt := 34) C dc_M_waiting_12 (by decide) (by omega) (by omega) (fun c12 => ?_) (fun c12 => ?_)
      ·
        refine r_iload_n C dc_M_waiting_34 rfl rfl ?_
        exact r_iret C dp hr dc_M_waiting_35 (Nat.le_refl _) ⟨rfl, rfl, rfl⟩
      · exact absurd c12 (by omega)
    ·
      intro k hk ih
      refine r_iload_n C dc_M_waiting_6 rfl rfl ?_
      refine r_iconst (v := nI 4) C dc_M_waiting_7 (by decide) ?_
      refine r_iload_n C dc_M_waiting_8 rfl rfl ?_
      first | refine r_imulN C dc_M_waiting_9 ?_ | refine r_imul C dc_M_waiting_9 ?_
      refine r_iconst (v := nI 4) C dc_M_waiting_10 (by decide) ?_
      first | refine r_iaddN C dc_M_waiting_11 ?_ | refine r_iadd C dc_M_waiting_11 ?_
      refine r_icmp_geN (tgt := 34) C dc_M_waiting_12 (by decide) (by omega) (by omega) (fun c12 => ?_) (fun c12 => ?_)
      · exact absurd c12 (by omega)
      ·
        first | refine r_aload_n C dc_M_waiting_15 rfl rfl ?_ | refine r_aload_nq C dc_M_waiting_15 rfl rfl ?_
        refine r_get C dc_M_waiting_16 fl_M_68 mh_0 rfl ?_
        refine r_iload_n C dc_M_waiting_19 rfl rfl ?_
        refine r_ialdN C dc_M_waiting_20 mh_20 (by omega) (by decide) ?_
        refine r_iconst (v := -1) C dc_M_waiting_21 (by decide) ?_
        refine r_icmp_ne (tgt := 28) C dc_M_waiting_22 (by decide) (fun c22 => ?_) (fun c22 => ?_)
        ·
          have e9 := cnt_0 (P := (fun k => decide (x 20 (4 * a + k) = -1))) (k := k) (decide_eq_false c22)
          first | refine r_iincN C dc_M_waiting_28 rfl (by decide) (nw_of rfl) ?_ | refine r_iinc C dc_M_waiting_28 rfl rfl (by decide) (nw_of rfl) ?_
          refine r_goto (tgt := 6) C dc_M_waiting_31 (by decide) ?_
          refine r_weak ?_ (ih)
          exact wl_c (rfl) (wl_c (rfl) (wl_c (by rw [e9]; rfl) (wl_c (rfl) (wl_n))))
        ·
          have e9 := cnt_1 (P := (fun k => decide (x 20 (4 * a + k) = -1))) (k := k) (decide_eq_true c22)
          first | refine r_iincN C dc_M_waiting_25 rfl (by decide) (nw_of rfl) ?_ | refine r_iinc C dc_M_waiting_25 rfl rfl (by decide) (nw_of rfl) ?_
          first | refine r_iincN C dc_M_waiting_28 rfl (by decide) (nw_of rfl) ?_ | refine r_iinc C dc_M_waiting_28 rfl rfl (by decide) (nw_of rfl) ?_
          refine r_goto (tgt := 6) C dc_M_waiting_31 (by decide) ?_
          refine r_weak ?_ (ih)
          exact wl_c (rfl) (wl_c (rfl) (wl_c (by rw [e9]; rfl) (wl_c (rfl) (wl_n))))
  refine r_iconst (v := nI 0) C dc_M_waiting_0 (by decide) ?_
  refine r_istore_n C dc_M_waiting_1 rfl (by decide) (nw_of rfl) ?_
  refine r_iconst (v := nI 4) C dc_M_waiting_2 (by decide) ?_
  refine r_iload_n C dc_M_waiting_3 rfl rfl ?_
  first | refine r_imulN C dc_M_waiting_4 ?_ | refine r_imul C dc_M_waiting_4 ?_
  refine r_istore_n C dc_M_waiting_5 rfl (by decide) (nw_of rfl) ?_
  refine r_weak ?_ (loop 0 (by omega))
  exact wl_c (rfl) (wl_c (rfl) (wl_c (rfl) (wl_c (rfl) (wl_n))))
set_option maxRecDepth 4000 in
theorem k_M_numbered (hl : l.stackTraces = false) {v0 v1 : Int32} : Ct l D A G my_M_numbered cd_M_numbered 4 (some (.int)) df 0 0 [.ref mm, .int v0, .int v1] (MH A mm x h) n (fun v h' n' => v = some (.int (oi (fstF (fun k => decide (x 18 k = v0 ∧ x 15 k = v1)) 12 0))) ∧ h' = MH A mm x h ∧ n' = n) (fun _ _ _ => False) := by
  refine Ct.of (by decide) hl (Nat.le_of_ble_eq_true rfl) ?_
  intro p e s m args below meth c C hr hnm ht dp
  have loop : ∀ k, k ≤ 12 → fstF (fun k => decide (x 18 k = v0 ∧ x 15 k = v1)) 12 0 = fstF (fun k => decide (x 18 k = v0 ∧ x 15 k = v1)) (12 - k) k → Rw p l e (cR df 0 0) s m args below meth c (CQ D G n (fun v h' n' => v = some (.int (oi (fstF (fun k => decide (x 18 k = v0 ∧ x 15 k = v1)) 12 0))) ∧ h' = MH A mm x h ∧ n' = n) (fun _ _ _ => False) below args s 0 0) D G 4 0 0 (MH A mm x h) n [(0, .ref mm), (1, .int v0), (2, .int v1), (3, .int (nI k))] 2 [] := by
    refine r_loop 12 _ ?_ ?_
    ·
      intro hpre
      refine r_iload_n C dc_M_numbered_2 rfl rfl ?_
      refine r_bipush (v := nI 12) C dc_M_numbered_3 (by decide) ?_
      refine r_icmp_geN (tgt := 36) C dc_M_numbered_5 (by decide) (by omega) (by omega) (fun c5 => ?_) (fun c5 => ?_)
      ·
        have e9 := hpre.trans fst_n
        refine r_iconst (v := -1) C dc_M_numbered_36 (by decide) ?_
        exact r_iret C dp hr dc_M_numbered_37 (Nat.le_refl _) ⟨by rw [e9]; rfl, rfl, rfl⟩
      · exact absurd c5 (by omega)
    ·
      intro k hk ih hpre
      refine r_iload_n C dc_M_numbered_2 rfl rfl ?_
      refine r_bipush (v := nI 12) C dc_M_numbered_3 (by decide) ?_
      refine r_icmp_geN (tgt := 36) C dc_M_numbered_5 (by decide) (by omega) (by omega) (fun c5 => ?_) (fun c5 => ?_)
      · exact absurd c5 (by omega)
      ·
        first | refine r_aload_n C dc_M_numbered_8 rfl rfl ?_ | refine r_aload_nq C dc_M_numbered_8 rfl rfl ?_
        refine r_get C dc_M_numbered_9 fl_M_62 mh_0 rfl ?_
        refine r_iload_n C dc_M_numbered_12 rfl rfl ?_
        refine r_ialdN C dc_M_numbered_13 mh_18 (by omega) (by decide) ?_
        refine r_iload_n C dc_M_numbered_14 rfl rfl ?_
        refine r_icmp_ne (tgt := 30) C dc_M_numbered_15 (by decide) (fun c15 => ?_) (fun c15 => ?_)
        ·
          have e9 := fst_0 (P := (fun k => decide (x 18 k = v0 ∧ x 15 k = v1))) hk (decide_eq_false (fun z => c15 z.1))
          first | refine r_iincN C dc_M_numbered_30 rfl (by decide) (nw_of rfl) ?_ | refine r_iinc C dc_M_numbered_30 rfl rfl (by decide) (nw_of rfl) ?_
          refine r_goto (tgt := 2) C dc_M_numbered_33 (by decide) ?_
          refine r_weak ?_ (ih (hpre.trans e9))
          exact wl_c (rfl) (wl_c (rfl) (wl_c (rfl) (wl_c (rfl) (wl_n))))
        ·
          first | refine r_aload_n C dc_M_numbered_18 rfl rfl ?_ | refine r_aload_nq C dc_M_numbered_18 rfl rfl ?_
          refine r_get C dc_M_numbered_19 fl_M_53 mh_0 rfl ?_
          refine r_iload_n C dc_M_numbered_22 rfl rfl ?_
          refine r_ialdN C dc_M_numbered_23 mh_15 (by omega) (by decide) ?_
          refine r_iload_n C dc_M_numbered_24 rfl rfl ?_
          refine r_icmp_ne (tgt := 30) C dc_M_numbered_25 (by decide) (fun c25 => ?_) (fun c25 => ?_)
          ·
            have e9 := fst_0 (P := (fun k => decide (x 18 k = v0 ∧ x 15 k = v1))) hk (decide_eq_false (fun z => c25 z.2))
            first | refine r_iincN C dc_M_numbered_30 rfl (by decide) (nw_of rfl) ?_ | refine r_iinc C dc_M_numbered_30 rfl rfl (by decide) (nw_of rfl) ?_
            refine r_goto (tgt := 2) C dc_M_numbered_33 (by decide) ?_
            refine r_weak ?_ (ih (hpre.trans e9))
            exact wl_c (rfl) (wl_c (rfl) (wl_c (rfl) (wl_c (rfl) (wl_n))))
          ·
            have e9 := hpre.trans (fst_1 (P := (fun k => decide (x 18 k = v0 ∧ x 15 k = v1))) hk (decide_eq_true ⟨c15, c25⟩))
            refine r_iload_n C dc_M_numbered_28 rfl rfl ?_
            exact r_iret C dp hr dc_M_numbered_29 (Nat.le_refl _) ⟨by rw [e9]; rfl, rfl, rfl⟩
  refine r_iconst (v := nI 0) C dc_M_numbered_0 (by decide) ?_
  refine r_istore_n C dc_M_numbered_1 rfl (by decide) (nw_of rfl) ?_
  refine r_weak ?_ (loop 0 (by omega) rfl)
  exact wl_c (rfl) (wl_c (rfl) (wl_c (rfl) (wl_c (rfl) (wl_n))))

set_option maxRecDepth 4000 in
theorem k_M_child (hl : l.stackTraces = false) {a f0 : Nat} {ot : Nat → Option Nat} (ha : a < 12) (hf0 : f0 ≤ 3) (hot : ∀ k, k < 36 → x 1 k = oi (ot k)) (ht36 : ∀ k t, k < 36 → ot k = some t → t < 36) : Ct l D A G my_M_child cd_M_child 5 (some (.int)) df 0 0 [.ref mm, .int (nI a), .int (nI f0)] (MH A mm x h) n (fun v h' n' => v = some (.int (oi (fstF (cOf ot x a) (3 - f0) f0))) ∧ h' = MH A mm x h ∧ n' = n) (fun _ _ _ => False) := by
  refine Ct.of (by decide) hl (Nat.le_of_ble_eq_true rfl) ?_
  intro p e s m args below meth c C hr hnm ht dp
  have hlt : ∀ k t, k < 36 → ot k = some t → t < 36 := ht36
  have loop : ∀ k, k ≤ 3 → fstF (cOf ot x a) (3 - f0) f0 = fstF (cOf ot x a) (3 - k) k → Rw p l e (cR df 0 0) s m args below meth c (CQ D G n (fun v h' n' => v = some (.int (oi (fstF (cOf ot x a) (3 - f0) f0))) ∧ h' = MH A mm x h ∧ n' = n) (fun _ _ _ => False) below args s 0 0) D G 5 0 0 (MH A mm x h) n [(0, .ref mm), (1, .int (nI a)), (2, .int (nI f0)), (3, .int (nI k))] 2 [] := by
    refine r_loop 3 _ ?_ ?_
    ·
      intro hpre
      refine r_iload_n C dc_M_child_2 rfl rfl ?_
      refine r_iconst (v := nI 3) C dc_M_child_3 (by decide) ?_
      refine r_icmp_geN (tgt := 45) C dc_M_child_4 (by decide) (by omega) (by omega) (fun c4 => ?_) (fun c4 => ?_)
      ·
        have e9 := hpre.trans fst_n
        refine r_iconst (v := -1) C dc_M_child_45 (by decide) ?_
        exact r_iret C dp hr dc_M_child_46 (Nat.le_refl _) ⟨by rw [e9]; rfl, rfl, rfl⟩
      · exact absurd c4 (by omega)
    ·
      intro k hk ih hpre
      refine r_iload_n C dc_M_child_2 rfl rfl ?_
      refine r_iconst (v := nI 3) C dc_M_child_3 (by decide) ?_
      refine r_icmp_geN (tgt := 45) C dc_M_child_4 (by decide) (by omega) (by omega) (fun c4 => ?_) (fun c4 => ?_)
      · exact absurd c4 (by omega)
      ·
        first | refine r_aload_n C dc_M_child_7 rfl rfl ?_ | refine r_aload_nq C dc_M_child_7 rfl rfl ?_
        refine r_get C dc_M_child_8 fl_M_7 mh_0 rfl ?_
        refine r_iconst (v := nI 3) C dc_M_child_11 (by decide) ?_
        refine r_iload_n C dc_M_child_12 rfl rfl ?_
        first | refine r_imulN C dc_M_child_13 ?_ | refine r_imul C dc_M_child_13 ?_
        refine r_iload_n C dc_M_child_14 rfl rfl ?_
        first | refine r_iaddN C dc_M_child_15 ?_ | refine r_iadd C dc_M_child_15 ?_
        refine r_ialdN C dc_M_child_16 mh_1 (by omega) (by decide) ?_
        refine sb_at (P := fun v => Rw _ _ _ _ _ _ _ _ _ _ _ _ _ _ _ _ _ _ _ _ (.int v :: _)) (hot _ (by omega)) ?_
        cases eo : ot (3 * a + k) with
        | none =>
          have e9 := fst_0 (P := (cOf ot x a)) hk (by unfold cOf; rw [eo])
          refine r_istore C dc_M_child_17 (by decide) (nw_of rfl) ?_
          refine r_iload C dc_M_child_19 rfl ?_
          refine r_if_lt (tgt := 39) C dc_M_child_21 (by decide) (fun c21 => ?_) (fun c21 => ?_)
          ·
            first | refine r_iincN C dc_M_child_39 rfl (by decide) (nw_of rfl) ?_ | refine r_iinc C dc_M_child_39 rfl rfl (by decide) (nw_of rfl) ?_
            refine r_goto (tgt := 2) C dc_M_child_42 (by decide) ?_
            refine r_weak ?_ (ih (hpre.trans e9))
            exact wl_c (rfl) (wl_c (rfl) (wl_c (rfl) (wl_c (rfl) (wl_n))))
          · exact absurd m1_lt0 c21
        | some t =>
          have ht3 := hlt _ t (by omega) eo
          show Rw p l e (cR df 0 0) s m args below meth c (CQ D G n (fun v h' n' => v = some (.int (oi (fstF (cOf ot x a) (3 - f0) f0))) ∧ h' = MH A mm x h ∧ n' = n) (fun _ _ _ => False) below args s 0 0) D G 5 0 0 (MH A mm x h) n [(0, .ref mm), (1, .int (nI a)), (2, .int (nI f0)), (3, .int (nI k))] 17 (.int (nI t) :: [])
          refine r_istore C dc_M_child_17 (by decide) (nw_of rfl) ?_
          refine r_iload C dc_M_child_19 rfl ?_
          refine r_if_lt (tgt := 39) C dc_M_child_21 (by decide) (fun c21 => ?_) (fun c21 => ?_)
          · exact absurd c21 (nI_lt0 (by omega))
          ·
            first | refine r_aload_n C dc_M_child_24 rfl rfl ?_ | refine r_aload_nq C dc_M_child_24 rfl rfl ?_
            refine r_get C dc_M_child_25 fl_M_50 mh_0 rfl ?_
            refine r_iload C dc_M_child_28 rfl ?_
            refine r_iconst (v := nI 3) C dc_M_child_30 (by decide) ?_
            first | refine r_idivN C dc_M_child_31 (by omega) (by decide) (by decide) ?_ | refine r_idiv C dc_M_child_31 (by decide) ?_
            refine r_ialdN C dc_M_child_32 mh_14 (by omega) (by decide) ?_
            refine r_iload_n C dc_M_child_33 rfl rfl ?_
            refine r_icmp_ne (tgt := 39) C dc_M_child_34 (by decide) (fun c34 => ?_) (fun c34 => ?_)
            ·
              have e9 := fst_0 (P := (cOf ot x a)) hk (by unfold cOf; rw [eo]; exact decide_eq_false c34)
              first | refine r_iincN C dc_M_child_39 rfl (by decide) (nw_of rfl) ?_ | refine r_iinc C dc_M_child_39 rfl rfl (by decide) (nw_of rfl) ?_
              refine r_goto (tgt := 2) C dc_M_child_42 (by decide) ?_
              refine r_weak ?_ (ih (hpre.trans e9))
              exact wl_c (rfl) (wl_c (rfl) (wl_c (rfl) (wl_c (rfl) (wl_n))))
            ·
              have e9 := hpre.trans (fst_1 (P := (cOf ot x a)) hk (by unfold cOf; rw [eo]; exact decide_eq_true c34))
              refine r_iload_n C dc_M_child_37 rfl rfl ?_
              exact r_iret C dp hr dc_M_child_38 (Nat.le_refl _) ⟨by rw [e9]; rfl, rfl, rfl⟩
  refine r_iload_n C dc_M_child_0 rfl rfl ?_
  refine r_istore_n C dc_M_child_1 rfl (by decide) (nw_of rfl) ?_
  refine r_weak ?_ (loop f0 hf0 rfl)
  exact wl_c (rfl) (wl_c (rfl) (wl_c (rfl) (wl_c (rfl) (wl_n))))
end Model4
