theorem wl_n {lo : List (Nat × Value)} : wl lo [] := trivial
theorem wl_c {lo t : List (Nat × Value)} {i : Nat} {v : Value} (a : gl lo i = some v) (b : wl lo t) : wl lo ((i, v) :: t) := ⟨a, b⟩
theorem r_loop (N : Nat) (B : Nat → Prop) (hx : B N) (hs : ∀ i, i < N → B (i + 1) → B i) : ∀ i, i ≤ N → B i := by
  have key : ∀ d i, i + d = N → B i := by
    intro d
    induction d with
    | zero => intro i hi; rw [show i = N by omega]; exact hx
    | succ d ih => intro i hi; exact hs i (by omega) (ih (i + 1) (by omega))
  intro i hi
  exact key (N - i) i (by omega)
/-- how many below k have it; whether one has it; the first from i on that has it -/
def cntT (P : Nat → Bool) : Nat → Nat
  | 0 => 0
  | k + 1 => cntT P k + (bif P k then 1 else 0)
def anyT (P : Nat → Bool) : Nat → Bool
  | 0 => false
  | k + 1 => anyT P k || P k
theorem cntT_le (P : Nat → Bool) : ∀ k, cntT P k ≤ k := by
  intro k
  induction k with
  | zero => exact Nat.le_refl _
  | succ k ih =>
    show cntT P k + (bif P k then 1 else 0) ≤ k + 1
    cases P k <;> simp <;> omega
theorem zv_0 : (nI 0 : Int32) = 0 ∨ (nI 0 : Int32) = 1 := Or.inl rfl
theorem zv_1 : (nI 1 : Int32) = 0 ∨ (nI 1 : Int32) = 1 := Or.inr rfl
section Model1
variable {l : Launch} {D : va_G} {A : Nat → ClassId} {G : Heap} {h : Hp} {n mm df : Nat} {x : Nat → Nat → Int32}
set_option maxRecDepth 4000 in
theorem k_M_thrown (hl : l.stackTraces = false)  : Ct l D A G my_M_thrown cd_M_thrown 1 (some (.int)) df 0 0 [.ref mm] (MH A mm x h) n (fun v h' n' => v = some (.int (x 0 0)) ∧ h' = MH A mm x h ∧ n' = n) (fun _ _ _ => False) := by
  refine Ct.of (by decide) hl (Nat.le_of_ble_eq_true rfl) ?_
  intro p e s m args below meth c C hr hnm ht dp
  first | refine r_aload_n C dc_M_thrown_0 rfl rfl ?_ | refine r_aload_nq C dc_M_thrown_0 rfl rfl ?_
  refine r_get C dc_M_thrown_1 fl_M_117 mh_0 rfl ?_
  exact r_iret C dp hr dc_M_thrown_4 (Nat.le_refl _) ⟨rfl, rfl, rfl⟩
set_option maxRecDepth 4000 in
theorem k_M_fail (hl : l.stackTraces = false) {v0 : Int32} : Ct l D A G my_M_fail cd_M_fail 2 (some (.int)) df 0 0 [.ref mm, .int v0] (MH A mm x h) n (fun v h' n' => v = some (.int (nI 0)) ∧ h' = MH A mm (ur x 0 (fun _ => v0)) h ∧ n' = n) (fun _ _ _ => False) := by
  refine Ct.of (by decide) hl (Nat.le_of_ble_eq_true rfl) ?_
  intro p e s m args below meth c C hr hnm ht dp
  first | refine r_aload_n C dc_M_fail_0 rfl rfl ?_ | refine r_aload_nq C dc_M_fail_0 rfl rfl ?_
  refine r_iload_n C dc_M_fail_1 rfl rfl ?_
  refine r_put C dc_M_fail_2 fl_M_117 mh_0 rfl rfl (Nat.le_of_ble_eq_true rfl) ?_
  rw [mp_0]
  refine r_iconst (v := nI 0) C dc_M_fail_5 (by decide) ?_
  exact r_iret C dp hr dc_M_fail_6 (Nat.le_refl _) ⟨rfl, rfl, rfl⟩
set_option maxRecDepth 4000 in
theorem k_M_out (hl : l.stackTraces = false) {v0 v1 : Int32} {hh : Hp} : Ct l D A G my_M_out cd_M_out 2 (some (.boolean)) df 0 0 [.int v0, .int v1] hh n (fun v h' n' => v = some (.int (zi (decide (v0 < 0 ∨ v1 ≤ v0)))) ∧ h' = hh ∧ n' = n) (fun _ _ _ => False) := by
  refine Ct.of (by decide) hl (Nat.le_of_ble_eq_true rfl) ?_
  intro p e s m args below meth c C hr hnm ht dp
  refine r_iload_n C dc_M_out_0 rfl rfl ?_
  refine r_if_lt (tgt := 9) C dc_M_out_1 (by decide) (fun c1 => ?_) (fun c1 => ?_)
  ·
    refine r_iconst (v := nI 1) C dc_M_out_9 (by decide) ?_
    refine r_goto (tgt := 14) C dc_M_out_10 (by decide) ?_
    exact r_zret C dp hr dc_M_out_14 zv_1 (Nat.le_refl _) ⟨by rw [decide_eq_true (Or.inl c1)]; rfl, rfl, rfl⟩
  ·
    refine r_iload_n C dc_M_out_4 rfl rfl ?_
    refine r_iload_n C dc_M_out_5 rfl rfl ?_
    refine r_icmp_lt (tgt := 13) C dc_M_out_6 (by decide) (fun c6 => ?_) (fun c6 => ?_)
    ·
      refine r_iconst (v := nI 0) C dc_M_out_13 (by decide) ?_
      exact r_zret C dp hr dc_M_out_14 zv_0 (Nat.le_refl _) ⟨by rw [decide_eq_false (fun z => z.elim c1 (fun z => absurd c6 (Int32.not_lt.mpr z)))]; rfl, rfl, rfl⟩
    ·
      refine r_iconst (v := nI 1) C dc_M_out_9 (by decide) ?_
      refine r_goto (tgt := 14) C dc_M_out_10 (by decide) ?_
      exact r_zret C dp hr dc_M_out_14 zv_1 (Nat.le_refl _) ⟨by rw [decide_eq_true (Or.inr (Int32.not_lt.mp c6))]; rfl, rfl, rfl⟩
set_option maxRecDepth 4000 in
theorem k_M_cables (hl : l.stackTraces = false)  : Ct l D A G my_M_cables cd_M_cables 3 (some (.int)) df 0 0 [.ref mm] (MH A mm x h) n (fun v h' n' => v = some (.int (nI (cntT (fun k => decide (nI k < x 1 k)) 36))) ∧ h' = MH A mm x h ∧ n' = n) (fun _ _ _ => False) := by
  refine Ct.of (by decide) hl (Nat.le_of_ble_eq_true rfl) ?_
  intro p e s m args below meth c C hr hnm ht dp
  have loop : ∀ k, k ≤ 36 → Rw p l e (cR df 0 0) s m args below meth c (CQ D G n (fun v h' n' => v = some (.int (nI (cntT (fun k => decide (nI k < x 1 k)) 36))) ∧ h' = MH A mm x h ∧ n' = n) (fun _ _ _ => False) below args s 0 0) D G 3 0 0 (MH A mm x h) n [(0, .ref mm), (1, .int (nI (cntT (fun k => decide (nI k < x 1 k)) k))), (2, .int (nI k))] 4 [] := by
    refine r_loop 36 _ ?_ ?_
    ·
      refine r_iload_n C dc_M_cables_4 rfl rfl ?_
      refine r_bipush (v := nI 36) C dc_M_cables_5 (by decide) ?_
      refine r_icmp_geN (tgt := 29) C dc_M_cables_7 (by decide) (by omega) (by omega) (fun c7 => ?_) (fun c7 => ?_)
      ·
        refine r_iload_n C dc_M_cables_29 rfl rfl ?_
        exact r_iret C dp hr dc_M_cables_30 (Nat.le_refl _) ⟨rfl, rfl, rfl⟩
      · exact absurd c7 (Nat.lt_irrefl _)
    ·
      intro k hk ih
      refine r_iload_n C dc_M_cables_4 rfl rfl ?_
      refine r_bipush (v := nI 36) C dc_M_cables_5 (by decide) ?_
      refine r_icmp_geN (tgt := 29) C dc_M_cables_7 (by decide) (by omega) (by omega) (fun c7 => ?_) (fun c7 => ?_)
      · exact absurd c7 (Nat.not_le.mpr hk)
      ·
        first | refine r_aload_n C dc_M_cables_10 rfl rfl ?_ | refine r_aload_nq C dc_M_cables_10 rfl rfl ?_
        refine r_get C dc_M_cables_11 fl_M_7 mh_0 rfl ?_
        refine r_iload_n C dc_M_cables_14 rfl rfl ?_
        refine r_ialdN C dc_M_cables_15 mh_1 (by omega) (by decide) ?_
        refine r_iload_n C dc_M_cables_16 rfl rfl ?_
        refine r_icmp_le (tgt := 23) C dc_M_cables_17 (by decide) (fun c17 => ?_) (fun c17 => ?_)
        ·
          have e9 : cntT (fun k => decide (nI k < x 1 k)) (k + 1) = cntT (fun k => decide (nI k < x 1 k)) k := by
            show _ + (bif decide (nI k < x 1 k) then 1 else 0) = _
            rw [decide_eq_false (Int32.not_lt.mpr c17)]; rfl
          first | refine r_iincN C dc_M_cables_23 rfl (by decide) (nw_of rfl) ?_ | refine r_iinc C dc_M_cables_23 rfl rfl (by decide) (nw_of rfl) ?_
          refine r_goto (tgt := 4) C dc_M_cables_26 (by decide) ?_
          refine r_weak ?_ ih
          exact wl_c (rfl) (wl_c (by rw [e9]; rfl) (wl_c (rfl) (wl_n)))
        ·
          have e9 : cntT (fun k => decide (nI k < x 1 k)) (k + 1) = cntT (fun k => decide (nI k < x 1 k)) k + 1 := by
            show _ + (bif decide (nI k < x 1 k) then 1 else 0) = _
            rw [decide_eq_true (Int32.not_le.mp c17)]; rfl
          first | refine r_iincN C dc_M_cables_20 rfl (by decide) (nw_of rfl) ?_ | refine r_iinc C dc_M_cables_20 rfl rfl (by decide) (nw_of rfl) ?_
          first | refine r_iincN C dc_M_cables_23 rfl (by decide) (nw_of rfl) ?_ | refine r_iinc C dc_M_cables_23 rfl rfl (by decide) (nw_of rfl) ?_
          refine r_goto (tgt := 4) C dc_M_cables_26 (by decide) ?_
          refine r_weak ?_ ih
          exact wl_c (rfl) (wl_c (by rw [e9]; rfl) (wl_c (rfl) (wl_n)))
  refine r_iconst (v := nI 0) C dc_M_cables_0 (by decide) ?_
  refine r_istore_n C dc_M_cables_1 rfl (by decide) (nw_of rfl) ?_
  refine r_iconst (v := nI 0) C dc_M_cables_2 (by decide) ?_
  refine r_istore_n C dc_M_cables_3 rfl (by decide) (nw_of rfl) ?_
  refine r_weak ?_ (loop 0 (by omega))
  exact wl_c (rfl) (wl_c (rfl) (wl_c (rfl) (wl_n)))
set_option maxRecDepth 4000 in
theorem k_M_busDirty (hl : l.stackTraces = false) {v0 : Int32} : Ct l D A G my_M_busDirty cd_M_busDirty 4 (some (.boolean)) df 0 0 [.ref mm, .int v0] (MH A mm x h) n (fun v h' n' => v = some (.int (zi (anyT (fun k => decide (x 18 k = v0 ∧ ¬ x 11 k = 0)) 12))) ∧ h' = MH A mm x h ∧ n' = n) (fun _ _ _ => False) := by
  refine Ct.of (by decide) hl (Nat.le_of_ble_eq_true rfl) ?_
  intro p e s m args below meth c C hr hnm ht dp
  have loop : ∀ k, k ≤ 12 → Rw p l e (cR df 0 0) s m args below meth c (CQ D G n (fun v h' n' => v = some (.int (zi (anyT (fun k => decide (x 18 k = v0 ∧ ¬ x 11 k = 0)) 12))) ∧ h' = MH A mm x h ∧ n' = n) (fun _ _ _ => False) below args s 0 0) D G 4 0 0 (MH A mm x h) n [(0, .ref mm), (1, .int v0), (2, .int (zi (anyT (fun k => decide (x 18 k = v0 ∧ ¬ x 11 k = 0)) k))), (3, .int (nI k))] 4 [] := by
    refine r_loop 12 _ ?_ ?_
    ·
      refine r_iload_n C dc_M_busDirty_4 rfl rfl ?_
      refine r_bipush (v := nI 12) C dc_M_busDirty_5 (by decide) ?_
      refine r_icmp_geN (tgt := 37) C dc_M_busDirty_7 (by decide) (by omega) (by omega) (fun c7 => ?_) (fun c7 => ?_)
      ·
        refine r_iload_n C dc_M_busDirty_37 rfl rfl ?_
        exact r_zret C dp hr dc_M_busDirty_38 (zi_01 _) (Nat.le_refl _) ⟨rfl, rfl, rfl⟩
      · exact absurd c7 (Nat.lt_irrefl _)
    ·
      intro k hk ih
      refine r_iload_n C dc_M_busDirty_4 rfl rfl ?_
      refine r_bipush (v := nI 12) C dc_M_busDirty_5 (by decide) ?_
      refine r_icmp_geN (tgt := 37) C dc_M_busDirty_7 (by decide) (by omega) (by omega) (fun c7 => ?_) (fun c7 => ?_)
      · exact absurd c7 (Nat.not_le.mpr hk)
      ·
        first | refine r_aload_n C dc_M_busDirty_10 rfl rfl ?_ | refine r_aload_nq C dc_M_busDirty_10 rfl rfl ?_
        refine r_get C dc_M_busDirty_11 fl_M_62 mh_0 rfl ?_
        refine r_iload_n C dc_M_busDirty_14 rfl rfl ?_
        refine r_ialdN C dc_M_busDirty_15 mh_18 (by omega) (by decide) ?_
        refine r_iload_n C dc_M_busDirty_16 rfl rfl ?_
        refine r_icmp_ne (tgt := 31) C dc_M_busDirty_17 (by decide) (fun c17 => ?_) (fun c17 => ?_)
        ·
          have e9 : anyT (fun k => decide (x 18 k = v0 ∧ ¬ x 11 k = 0)) (k + 1) = anyT (fun k => decide (x 18 k = v0 ∧ ¬ x 11 k = 0)) k := by
            show (_ || decide (x 18 k = v0 ∧ ¬ x 11 k = 0)) = _
            rw [decide_eq_false (fun z => c17 z.1), Bool.or_false]
          first | refine r_iincN C dc_M_busDirty_31 rfl (by decide) (nw_of rfl) ?_ | refine r_iinc C dc_M_busDirty_31 rfl rfl (by decide) (nw_of rfl) ?_
          refine r_goto (tgt := 4) C dc_M_busDirty_34 (by decide) ?_
          refine r_weak ?_ ih
          exact wl_c (rfl) (wl_c (rfl) (wl_c (by rw [e9]; rfl) (wl_c (rfl) (wl_n))))
        ·
          first | refine r_aload_n C dc_M_busDirty_20 rfl rfl ?_ | refine r_aload_nq C dc_M_busDirty_20 rfl rfl ?_
          refine r_get C dc_M_busDirty_21 fl_M_41 mh_0 rfl ?_
          refine r_iload_n C dc_M_busDirty_24 rfl rfl ?_
          refine r_zaldN C dc_M_busDirty_25 mh_11 (by omega) (by decide) ?_
          refine r_if_eq (tgt := 31) C dc_M_busDirty_26 (by decide) (fun c26 => ?_) (fun c26 => ?_)
          ·
            have e9 : anyT (fun k => decide (x 18 k = v0 ∧ ¬ x 11 k = 0)) (k + 1) = anyT (fun k => decide (x 18 k = v0 ∧ ¬ x 11 k = 0)) k := by
              show (_ || decide (x 18 k = v0 ∧ ¬ x 11 k = 0)) = _
              rw [decide_eq_false (fun z => z.2 c26), Bool.or_false]
            first | refine r_iincN C dc_M_busDirty_31 rfl (by decide) (nw_of rfl) ?_ | refine r_iinc C dc_M_busDirty_31 rfl rfl (by decide) (nw_of rfl) ?_
            refine r_goto (tgt := 4) C dc_M_busDirty_34 (by decide) ?_
            refine r_weak ?_ ih
            exact wl_c (rfl) (wl_c (rfl) (wl_c (by rw [e9]; rfl) (wl_c (rfl) (wl_n))))
          ·
            have e9 : anyT (fun k => decide (x 18 k = v0 ∧ ¬ x 11 k = 0)) (k + 1) = true := by
              show (_ || decide (x 18 k = v0 ∧ ¬ x 11 k = 0)) = _
              rw [decide_eq_true ⟨c17, c26⟩, Bool.or_true]
            refine r_iconst (v := nI 1) C dc_M_busDirty_29 (by decide) ?_
            refine r_istore_n C dc_M_busDirty_30 rfl (by decide) (nw_of rfl) ?_
            first | refine r_iincN C dc_M_busDirty_31 rfl (by decide) (nw_of rfl) ?_ | refine r_iinc C dc_M_busDirty_31 rfl rfl (by decide) (nw_of rfl) ?_
            refine r_goto (tgt := 4) C dc_M_busDirty_34 (by decide) ?_
            refine r_weak ?_ ih
            exact wl_c (rfl) (wl_c (rfl) (wl_c (by rw [e9]; rfl) (wl_c (rfl) (wl_n))))
  refine r_iconst (v := nI 0) C dc_M_busDirty_0 (by decide) ?_
  refine r_istore_n C dc_M_busDirty_1 rfl (by decide) (nw_of rfl) ?_
  refine r_iconst (v := nI 0) C dc_M_busDirty_2 (by decide) ?_
  refine r_istore_n C dc_M_busDirty_3 rfl (by decide) (nw_of rfl) ?_
  refine r_weak ?_ (loop 0 (by omega))
  exact wl_c (rfl) (wl_c (rfl) (wl_c (rfl) (wl_c (rfl) (wl_n))))
set_option maxRecDepth 4000 in
theorem k_M_anyOpen (hl : l.stackTraces = false) {v0 : Int32} : Ct l D A G my_M_anyOpen cd_M_anyOpen 4 (some (.boolean)) df 0 0 [.ref mm, .int v0] (MH A mm x h) n (fun v h' n' => v = some (.int (zi (anyT (fun k => decide (x 18 (k / 3) = v0 ∧ ¬ x 2 k = 0)) 36))) ∧ h' = MH A mm x h ∧ n' = n) (fun _ _ _ => False) := by
  refine Ct.of (by decide) hl (Nat.le_of_ble_eq_true rfl) ?_
  intro p e s m args below meth c C hr hnm ht dp
  have loop : ∀ k, k ≤ 36 → Rw p l e (cR df 0 0) s m args below meth c (CQ D G n (fun v h' n' => v = some (.int (zi (anyT (fun k => decide (x 18 (k / 3) = v0 ∧ ¬ x 2 k = 0)) 36))) ∧ h' = MH A mm x h ∧ n' = n) (fun _ _ _ => False) below args s 0 0) D G 4 0 0 (MH A mm x h) n [(0, .ref mm), (1, .int v0), (2, .int (zi (anyT (fun k => decide (x 18 (k / 3) = v0 ∧ ¬ x 2 k = 0)) k))), (3, .int (nI k))] 4 [] := by
    refine r_loop 36 _ ?_ ?_
    ·
      refine r_iload_n C dc_M_anyOpen_4 rfl rfl ?_
      refine r_bipush (v := nI 36) C dc_M_anyOpen_5 (by decide) ?_
      refine r_icmp_geN (tgt := 39) C dc_M_anyOpen_7 (by decide) (by omega) (by omega) (fun c7 => ?_) (fun c7 => ?_)
      ·
        refine r_iload_n C dc_M_anyOpen_39 rfl rfl ?_
        exact r_zret C dp hr dc_M_anyOpen_40 (zi_01 _) (Nat.le_refl _) ⟨rfl, rfl, rfl⟩
      · exact absurd c7 (Nat.lt_irrefl _)
    ·
      intro k hk ih
      refine r_iload_n C dc_M_anyOpen_4 rfl rfl ?_
      refine r_bipush (v := nI 36) C dc_M_anyOpen_5 (by decide) ?_
      refine r_icmp_geN (tgt := 39) C dc_M_anyOpen_7 (by decide) (by omega) (by omega) (fun c7 => ?_) (fun c7 => ?_)
      · exact absurd c7 (Nat.not_le.mpr hk)
      ·
        first | refine r_aload_n C dc_M_anyOpen_10 rfl rfl ?_ | refine r_aload_nq C dc_M_anyOpen_10 rfl rfl ?_
        refine r_get C dc_M_anyOpen_11 fl_M_62 mh_0 rfl ?_
        refine r_iload_n C dc_M_anyOpen_14 rfl rfl ?_
        refine r_iconst (v := nI 3) C dc_M_anyOpen_15 (by decide) ?_
        first | refine r_idivN C dc_M_anyOpen_16 (by omega) (by decide) (by decide) ?_ | refine r_idiv C dc_M_anyOpen_16 (by decide) ?_
        refine r_ialdN C dc_M_anyOpen_17 mh_18 (by omega) (by decide) ?_
        refine r_iload_n C dc_M_anyOpen_18 rfl rfl ?_
        refine r_icmp_ne (tgt := 33) C dc_M_anyOpen_19 (by decide) (fun c19 => ?_) (fun c19 => ?_)
        ·
          have e9 : anyT (fun k => decide (x 18 (k / 3) = v0 ∧ ¬ x 2 k = 0)) (k + 1) = anyT (fun k => decide (x 18 (k / 3) = v0 ∧ ¬ x 2 k = 0)) k := by
            show (_ || decide (x 18 (k / 3) = v0 ∧ ¬ x 2 k = 0)) = _
            rw [decide_eq_false (fun z => c19 z.1), Bool.or_false]
          first | refine r_iincN C dc_M_anyOpen_33 rfl (by decide) (nw_of rfl) ?_ | refine r_iinc C dc_M_anyOpen_33 rfl rfl (by decide) (nw_of rfl) ?_
          refine r_goto (tgt := 4) C dc_M_anyOpen_36 (by decide) ?_
          refine r_weak ?_ ih
          exact wl_c (rfl) (wl_c (rfl) (wl_c (by rw [e9]; rfl) (wl_c (rfl) (wl_n))))
        ·
          first | refine r_aload_n C dc_M_anyOpen_22 rfl rfl ?_ | refine r_aload_nq C dc_M_anyOpen_22 rfl rfl ?_
          refine r_get C dc_M_anyOpen_23 fl_M_13 mh_0 rfl ?_
          refine r_iload_n C dc_M_anyOpen_26 rfl rfl ?_
          refine r_zaldN C dc_M_anyOpen_27 mh_2 (by omega) (by decide) ?_
          refine r_if_eq (tgt := 33) C dc_M_anyOpen_28 (by decide) (fun c28 => ?_) (fun c28 => ?_)
          ·
            have e9 : anyT (fun k => decide (x 18 (k / 3) = v0 ∧ ¬ x 2 k = 0)) (k + 1) = anyT (fun k => decide (x 18 (k / 3) = v0 ∧ ¬ x 2 k = 0)) k := by
              show (_ || decide (x 18 (k / 3) = v0 ∧ ¬ x 2 k = 0)) = _
              rw [decide_eq_false (fun z => z.2 c28), Bool.or_false]
            first | refine r_iincN C dc_M_anyOpen_33 rfl (by decide) (nw_of rfl) ?_ | refine r_iinc C dc_M_anyOpen_33 rfl rfl (by decide) (nw_of rfl) ?_
            refine r_goto (tgt := 4) C dc_M_anyOpen_36 (by decide) ?_
            refine r_weak ?_ ih
            exact wl_c (rfl) (wl_c (rfl) (wl_c (by rw [e9]; rfl) (wl_c (rfl) (wl_n))))
          ·
            have e9 : anyT (fun k => decide (x 18 (k / 3) = v0 ∧ ¬ x 2 k = 0)) (k + 1) = true := by
              show (_ || decide (x 18 (k / 3) = v0 ∧ ¬ x 2 k = 0)) = _
              rw [decide_eq_true ⟨c19, c28⟩, Bool.or_true]
            refine r_iconst (v := nI 1) C dc_M_anyOpen_31 (by decide) ?_
            refine r_istore_n C dc_M_anyOpen_32 rfl (by decide) (nw_of rfl) ?_
            first | refine r_iincN C dc_M_anyOpen_33 rfl (by decide) (nw_of rfl) ?_ | refine r_iinc C dc_M_anyOpen_33 rfl rfl (by decide) (nw_of rfl) ?_
            refine r_goto (tgt := 4) C dc_M_anyOpen_36 (by decide) ?_
            refine r_weak ?_ ih
            exact wl_c (rfl) (wl_c (rfl) (wl_c (by rw [e9]; rfl) (wl_c (rfl) (wl_n))))
  refine r_iconst (v := nI 0) C dc_M_anyOpen_0 (by decide) ?_
  refine r_istore_n C dc_M_anyOpen_1 rfl (by decide) (nw_of rfl) ?_
  refine r_iconst (v := nI 0) C dc_M_anyOpen_2 (by decide) ?_
  refine r_istore_n C dc_M_anyOpen_3 rfl (by decide) (nw_of rfl) ?_
  refine r_weak ?_ (loop 0 (by omega))
  exact wl_c (rfl) (wl_c (rfl) (wl_c (rfl) (wl_c (rfl) (wl_n))))
end Model1
