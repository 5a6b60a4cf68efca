def cDirty (z : Nat → Nat → Int32) (v : Int32) : Bool := anyT (fun k => decide (z 31 k = v ∧ ¬ z 11 k = 0)) 12
theorem any_1 {P : Nat → Bool} {k : Nat} (h : anyT P k = false) (q : P k = false) : anyT P (k + 1) = false := by
  show (anyT P k || P k) = false
  rw [h, q]; rfl
theorem cUsR_0 {z : Nat → Nat → Int32} {b0 : Nat} : cUsR z b0 0 = z := by
  unfold cUsR
  rw [show (fun j => if j < 0 ∧ z 31 j = nI b0 then nI 0 else z 10 j) = z 10 from funext fun j => if_neg (fun h => by omega), ur_self]
theorem cUsR_1 {z : Nat → Nat → Int32} {b0 k : Nat} (h : z 31 k = nI b0) : ur (cUsR z b0 k) 10 (upd (cUsR z b0 k 10) k (nI 0)) = cUsR z b0 (k + 1) := by
  unfold cUsR
  rw [ur_ur, ur_eq]
  congr 1
  funext j
  unfold upd
  by_cases e : j = k
  · rw [if_pos e, e, if_pos ⟨by omega, h⟩]
  · rw [if_neg e]
    dsimp only
    by_cases e2 : j < k ∧ z 31 j = nI b0
    · rw [if_pos e2, if_pos ⟨by omega, e2.2⟩]
    · rw [if_neg e2, if_neg (fun q => e2 ⟨by omega, q.2⟩)]
theorem cUsR_n {z : Nat → Nat → Int32} {b0 k : Nat} (h : ¬ z 31 k = nI b0) : cUsR z b0 (k + 1) = cUsR z b0 k := by
  unfold cUsR
  congr 1
  funext j
  by_cases e2 : j < k ∧ z 31 j = nI b0
  · rw [if_pos e2, if_pos ⟨by omega, e2.2⟩]
  · rw [if_neg e2, if_neg (fun q => by
      by_cases e : j = k
      · rw [e] at q; exact h q.2
      · exact e2 ⟨by omega, q.2⟩)]
theorem cHr_0 {z : Nat → Nat → Int32} {b0 a : Nat} : cHr z b0 a 0 = z := by
  unfold cHr
  rw [show (fun i => if i < 0 ∧ z 31 i = nI b0 ∧ ¬ i = a then z 9 i + nI 1 else z 9 i) = z 9 from funext fun j => if_neg (fun h => by omega), ur_self]
theorem cHr_1 {z : Nat → Nat → Int32} {b0 a k : Nat} {w : Int32} (h : z 31 k = nI b0) (hk : ¬ k = a) (hw : w = z 9 k + nI 1) : ur (cHr z b0 a k) 9 (upd (cHr z b0 a k 9) k w) = cHr z b0 a (k + 1) := by
  unfold cHr
  rw [ur_ur, ur_eq, hw]
  congr 1
  funext j
  unfold upd
  by_cases e : j = k
  · rw [if_pos e, e, if_pos ⟨by omega, h, hk⟩]
  · rw [if_neg e]
    dsimp only
    by_cases e2 : j < k ∧ z 31 j = nI b0 ∧ ¬ j = a
    · rw [if_pos e2, if_pos ⟨by omega, e2.2⟩]
    · rw [if_neg e2, if_neg (fun q => e2 ⟨by omega, q.2⟩)]
theorem cHr_n {z : Nat → Nat → Int32} {b0 a k : Nat} (h : ¬ (z 31 k = nI b0 ∧ ¬ k = a)) : cHr z b0 a (k + 1) = cHr z b0 a k := by
  unfold cHr
  congr 1
  funext j
  by_cases e2 : j < k ∧ z 31 j = nI b0 ∧ ¬ j = a
  · rw [if_pos e2, if_pos ⟨by omega, e2.2⟩]
  · rw [if_neg e2, if_neg (fun q => by
      by_cases e : j = k
      · rw [e] at q; exact h q.2
      · exact e2 ⟨by omega, q.2⟩)]
theorem cHr_at {z : Nat → Nat → Int32} {b0 a k : Nat} : cHr z b0 a k 9 k = z 9 k := by
  unfold cHr
  rw [ur_eq]
  exact if_neg (fun h => by omega)
theorem wkZ_ne {z q : Nat → Nat → Int32} {a t wd j : Nat} (h : j ≠ 100 + t) : wkZ z q a t wd j = z j := by
  unfold wkZ
  split
  · exact ur_ne h
  · rfl
/-- the first packet of a queue: what its sending wants -/
def HQ (z : Nat → Nat → Int32) (r : Nat → Nat → Option Nat) (q : Nat → Nat → Int32) (i : Nat) : Prop := ∃ a sz, sz ≤ 6 ∧ 0 < sz ∧ z 17 i = nI sz ∧ r i 0 = some a ∧ (q a 8 = 0 → ∃ t wd, t < 12 ∧ wd < 8 ∧ q a 0 = nI t ∧ q a 2 = nI wd)
section Cls7
variable {l : Launch} {D : va_G} {A : Nat → ClassId} {G : Heap} {b n df : Nat} {z : Nat → Nat → Int32} {r : Nat → Nat → Option Nat} {S : Nat → Bool} {q : Nat → Nat → Int32} {h : Hp}
set_option maxRecDepth 4000 in
set_option maxHeartbeats 1000000 in
theorem k_S_isDirty (hl : l.stackTraces = false) {v0 : Int32} : Ct l D A G my_S_isDirty cd_S_isDirty 3 (some (.boolean)) (df + 1) 0 0 [.ref b, .int v0] (CH A b z r (RH S q h)) n (fun v h' n' => v = some (.int (zi (cDirty z v0))) ∧ h' = CH A b z r (RH S q h) ∧ n' = n) (fun _ _ _ => False) := by
  refine Ct.of (by decide) hl (Nat.le_of_ble_eq_true rfl) ?_
  intro p e s m args below meth c C hr hnm ht dp
  have lp : ∀ k, k ≤ 12 → anyT (fun k => decide (z 31 k = v0 ∧ ¬ z 11 k = 0)) k = false → Rw p l e (cR (df + 1) 0 0) s m args below meth c (CQ D G n (fun v h' n' => v = some (.int (zi (cDirty z v0))) ∧ h' = CH A b z r (RH S q h) ∧ n' = n) (fun _ _ _ => False) below args s 0 0) D G 3 0 0 (CH A b z r (RH S q h)) n [(0, .ref b), (1, .int v0), (2, .int (nI k))] 2 [] := by
    refine r_loop 12 _ ?_ ?_
    ·
      intro hpre
      refine r_iload_n C dc_S_isDirty_2 rfl rfl ?_
      refine r_bipush (v := nI 12) C dc_S_isDirty_3 (by decide) ?_
      refine r_icmp_geN (tgt := 40) C dc_S_isDirty_5 (by decide) (by omega) (by omega) (fun c5 => ?_) (fun c5 => ?_)
      ·
        refine r_iconst (v := nI 0) C dc_S_isDirty_40 (by decide) ?_
        have e1 : cDirty z v0 = false := hpre
        exact r_zret (v := zi false) C dp hr dc_S_isDirty_41 (zi_01 _) (Nat.le_refl _) ⟨by rw [e1], rfl, rfl⟩
      · exact absurd c5 (by omega)
    ·
      intro k hk ih hpre
      refine r_iload_n C dc_S_isDirty_2 rfl rfl ?_
      refine r_bipush (v := nI 12) C dc_S_isDirty_3 (by decide) ?_
      refine r_icmp_geN (tgt := 40) C dc_S_isDirty_5 (by decide) (by omega) (by omega) (fun c5 => ?_) (fun c5 => ?_)
      · exact absurd c5 (by omega)
      ·
        first | refine r_aload_n C dc_S_isDirty_8 rfl rfl ?_ | refine r_aload_nq C dc_S_isDirty_8 rfl rfl ?_
        refine r_get C dc_S_isDirty_9 fl_S_12 ch_S rfl ?_
        refine r_iload_n C dc_S_isDirty_12 rfl rfl ?_
        refine r_callV C dp dc_S_isDirty_13 cw_S_168 cm_W_busOf cv_W_busOf rfl (ch_W) (k_W_busOf (df := df) (i := k) hl ch_W ch_bus hk) (by omega) rfl rfl (Nat.le_of_ble_eq_true rfl) (fun v13 h13 n13 q13 z13 => ?_) (fun _ _ _ _ z => z.elim)
        obtain ⟨y13, y13h, y13n⟩ := z13
        rw [y13, y13h, y13n]
        refine r_iload_n C dc_S_isDirty_16 rfl rfl ?_
        refine r_icmp_ne (tgt := 34) C dc_S_isDirty_17 (by decide) (fun c17 => ?_) (fun c17 => ?_)
        ·
          first | refine r_iincN C dc_S_isDirty_34 rfl (by decide) (nw_of rfl) ?_ | refine r_iinc C dc_S_isDirty_34 rfl rfl (by decide) (nw_of rfl) ?_
          refine r_goto (tgt := 2) C dc_S_isDirty_37 (by decide) ?_
          refine r_weak ?_ (ih (any_1 hpre (decide_eq_false (fun h => c17 h.1))))
          exact wl_c (rfl) (wl_c (rfl) (wl_c (rfl) (wl_n)))
        ·
          first | refine r_aload_n C dc_S_isDirty_20 rfl rfl ?_ | refine r_aload_nq C dc_S_isDirty_20 rfl rfl ?_
          refine r_get C dc_S_isDirty_21 fl_S_25 ch_S rfl ?_
          refine r_iload_n C dc_S_isDirty_24 rfl rfl ?_
          refine r_nald C dc_S_isDirty_25 (by omega) ?_
          refine r_get C dc_S_isDirty_26 fl_S_61 (ch_node (by omega)) rfl ?_
          refine r_if_eq (tgt := 34) C dc_S_isDirty_29 (by decide) (fun c29 => ?_) (fun c29 => ?_)
          ·
            first | refine r_iincN C dc_S_isDirty_34 rfl (by decide) (nw_of rfl) ?_ | refine r_iinc C dc_S_isDirty_34 rfl rfl (by decide) (nw_of rfl) ?_
            refine r_goto (tgt := 2) C dc_S_isDirty_37 (by decide) ?_
            refine r_weak ?_ (ih (any_1 hpre (decide_eq_false (fun h => h.2 c29))))
            exact wl_c (rfl) (wl_c (rfl) (wl_c (rfl) (wl_n)))
          ·
            refine r_iconst (v := nI 1) C dc_S_isDirty_32 (by decide) ?_
            have e1 : cDirty z v0 = true := any_of hk (decide_eq_true ⟨c17, c29⟩)
            exact r_zret (v := zi true) C dp hr dc_S_isDirty_33 (zi_01 _) (Nat.le_refl _) ⟨by rw [e1], rfl, rfl⟩
  refine r_iconst (v := nI 0) C dc_S_isDirty_0 (by decide) ?_
  refine r_istore_n C dc_S_isDirty_1 rfl (by decide) (nw_of rfl) ?_
  refine r_weak ?_ (lp 0 (by omega) rfl)
  exact wl_c (rfl) (wl_c (rfl) (wl_c (rfl) (wl_n)))
set_option maxRecDepth 4000 in
set_option maxHeartbeats 1000000 in
theorem k_S_looped (hl : l.stackTraces = false) {g : Nat → Nat} (hg : ∀ j, j < 12 → z 31 j = nI (g j)) (hg12 : ∀ j, j < 12 → g j < 12) : Ct l D A G my_S_loopedBuses cd_S_loopedBuses 3 (some (.int)) (df + 2) 0 0 [.ref b] (CH A b z r (RH S q h)) n (fun v h' n' => v = some (.int (nI (cntT (fun k => decide (g k = k) && (decide (¬ z 12 k = 0) && !cDirty z (nI k))) 12))) ∧ h' = CH A b z r (RH S q h) ∧ n' = n) (fun _ _ _ => False) := by
  refine Ct.of (by decide) hl (Nat.le_of_ble_eq_true rfl) ?_
  intro p e s m args below meth c C hr hnm ht dp
  have lp : ∀ k, k ≤ 12 → Rw p l e (cR (df + 2) 0 0) s m args below meth c (CQ D G n (fun v h' n' => v = some (.int (nI (cntT (fun k => decide (g k = k) && (decide (¬ z 12 k = 0) && !cDirty z (nI k))) 12))) ∧ h' = CH A b z r (RH S q h) ∧ n' = n) (fun _ _ _ => False) below args s 0 0) D G 3 0 0 (CH A b z r (RH S q h)) n [(0, .ref b), (1, .int (nI (cntT (fun k => decide (g k = k) && (decide (¬ z 12 k = 0) && !cDirty z (nI k))) k))), (2, .int (nI k))] 4 [] := by
    refine r_loop 12 _ ?_ ?_
    ·
      refine r_iload_n C dc_S_loopedBuses_4 rfl rfl ?_
      refine r_bipush (v := nI 12) C dc_S_loopedBuses_5 (by decide) ?_
      refine r_icmp_geN (tgt := 50) C dc_S_loopedBuses_7 (by decide) (by omega) (by omega) (fun c7 => ?_) (fun c7 => ?_)
      ·
        refine r_iload_n C dc_S_loopedBuses_50 rfl rfl ?_
        exact r_iret C dp hr dc_S_loopedBuses_51 (Nat.le_refl _) ⟨rfl, rfl, rfl⟩
      · exact absurd c7 (by omega)
    ·
      intro k hk ih
      refine r_iload_n C dc_S_loopedBuses_4 rfl rfl ?_
      refine r_bipush (v := nI 12) C dc_S_loopedBuses_5 (by decide) ?_
      refine r_icmp_geN (tgt := 50) C dc_S_loopedBuses_7 (by decide) (by omega) (by omega) (fun c7 => ?_) (fun c7 => ?_)
      · exact absurd c7 (by omega)
      ·
        first | refine r_aload_n C dc_S_loopedBuses_10 rfl rfl ?_ | refine r_aload_nq C dc_S_loopedBuses_10 rfl rfl ?_
        refine r_get C dc_S_loopedBuses_11 fl_S_12 ch_S rfl ?_
        refine r_iload_n C dc_S_loopedBuses_14 rfl rfl ?_
        refine r_callV C dp dc_S_loopedBuses_15 cw_S_143 cm_W_isBus cv_W_isBus rfl (ch_W) (k_W_isBus (df := df) (i := k) hl ch_W ch_bus hk hg hg12) (by omega) rfl rfl (Nat.le_of_ble_eq_true rfl) (fun v15 h15 n15 q15 z15 => ?_) (fun _ _ _ _ z => z.elim)
        obtain ⟨y15, y15h, y15n⟩ := z15
        rw [y15, y15h, y15n]
        refine r_if_eqZ (tgt := 44) C dc_S_loopedBuses_18 (by decide) (fun c18 => ?_) (fun c18 => ?_)
        ·
          have eP : (fun k => decide (g k = k) && (decide (¬ z 12 k = 0) && !cDirty z (nI k))) k = false := by show (decide (g k = k) && (decide (¬ z 12 k = 0) && !cDirty z (nI k))) = false; rw [c18]; rfl
          first | refine r_iincN C dc_S_loopedBuses_44 rfl (by decide) (nw_of rfl) ?_ | refine r_iinc C dc_S_loopedBuses_44 rfl rfl (by decide) (nw_of rfl) ?_
          refine r_goto (tgt := 4) C dc_S_loopedBuses_47 (by decide) ?_
          refine r_weak ?_ (ih)
          exact wl_c (rfl) (wl_c (by rw [cnt_0 eP]; rfl) (wl_c (rfl) (wl_n)))
        ·
          first | refine r_aload_n C dc_S_loopedBuses_21 rfl rfl ?_ | refine r_aload_nq C dc_S_loopedBuses_21 rfl rfl ?_
          refine r_get C dc_S_loopedBuses_22 fl_S_25 ch_S rfl ?_
          refine r_iload_n C dc_S_loopedBuses_25 rfl rfl ?_
          refine r_nald C dc_S_loopedBuses_26 (by omega) ?_
          refine r_get C dc_S_loopedBuses_27 fl_S_234 (ch_node (by omega)) rfl ?_
          refine r_if_eq (tgt := 44) C dc_S_loopedBuses_30 (by decide) (fun c30 => ?_) (fun c30 => ?_)
          ·
            have eP : (fun k => decide (g k = k) && (decide (¬ z 12 k = 0) && !cDirty z (nI k))) k = false := by show (decide (g k = k) && (decide (¬ z 12 k = 0) && !cDirty z (nI k))) = false; rw [decide_eq_false (show ¬ ¬ z 12 k = 0 from fun h => h c30), Bool.false_and, Bool.and_false]
            first | refine r_iincN C dc_S_loopedBuses_44 rfl (by decide) (nw_of rfl) ?_ | refine r_iinc C dc_S_loopedBuses_44 rfl rfl (by decide) (nw_of rfl) ?_
            refine r_goto (tgt := 4) C dc_S_loopedBuses_47 (by decide) ?_
            refine r_weak ?_ (ih)
            exact wl_c (rfl) (wl_c (by rw [cnt_0 eP]; rfl) (wl_c (rfl) (wl_n)))
          ·
            first | refine r_aload_n C dc_S_loopedBuses_33 rfl rfl ?_ | refine r_aload_nq C dc_S_loopedBuses_33 rfl rfl ?_
            refine r_iload_n C dc_S_loopedBuses_34 rfl rfl ?_
            refine r_callV C dp dc_S_loopedBuses_35 cw_S_172 cm_S_isDirty cv_S_isDirty rfl (ch_S) (k_S_isDirty (df := df) (v0 := nI k) hl) (by omega) rfl rfl (Nat.le_of_ble_eq_true rfl) (fun v35 h35 n35 q35 z35 => ?_) (fun _ _ _ _ z => z.elim)
            obtain ⟨y35, y35h, y35n⟩ := z35
            rw [y35, y35h, y35n]
            refine r_if_neZ (tgt := 44) C dc_S_loopedBuses_38 (by decide) (fun c38 => ?_) (fun c38 => ?_)
            ·
              have eP : (fun k => decide (g k = k) && (decide (¬ z 12 k = 0) && !cDirty z (nI k))) k = false := by show (decide (g k = k) && (decide (¬ z 12 k = 0) && !cDirty z (nI k))) = false; rw [c38, Bool.not_true, Bool.and_false, Bool.and_false]
              first | refine r_iincN C dc_S_loopedBuses_44 rfl (by decide) (nw_of rfl) ?_ | refine r_iinc C dc_S_loopedBuses_44 rfl rfl (by decide) (nw_of rfl) ?_
              refine r_goto (tgt := 4) C dc_S_loopedBuses_47 (by decide) ?_
              refine r_weak ?_ (ih)
              exact wl_c (rfl) (wl_c (by rw [cnt_0 eP]; rfl) (wl_c (rfl) (wl_n)))
            ·
              have eP : (fun k => decide (g k = k) && (decide (¬ z 12 k = 0) && !cDirty z (nI k))) k = true := by show (decide (g k = k) && (decide (¬ z 12 k = 0) && !cDirty z (nI k))) = true; rw [c18, c38, decide_eq_true c30]; rfl
              first | refine r_iincN C dc_S_loopedBuses_41 rfl (by decide) (nw_of rfl) ?_ | refine r_iinc C dc_S_loopedBuses_41 rfl rfl (by decide) (nw_of rfl) ?_
              first | refine r_iincN C dc_S_loopedBuses_44 rfl (by decide) (nw_of rfl) ?_ | refine r_iinc C dc_S_loopedBuses_44 rfl rfl (by decide) (nw_of rfl) ?_
              refine r_goto (tgt := 4) C dc_S_loopedBuses_47 (by decide) ?_
              refine r_weak ?_ (ih)
              exact wl_c (rfl) (wl_c (by rw [cnt_1 eP]; rfl) (wl_c (rfl) (wl_n)))
  refine r_iconst (v := nI 0) C dc_S_loopedBuses_0 (by decide) ?_
  refine r_istore_n C dc_S_loopedBuses_1 rfl (by decide) (nw_of rfl) ?_
  refine r_iconst (v := nI 0) C dc_S_loopedBuses_2 (by decide) ?_
  refine r_istore_n C dc_S_loopedBuses_3 rfl (by decide) (nw_of rfl) ?_
  refine r_weak ?_ (lp 0 (by omega))
  exact wl_c (rfl) (wl_c (rfl) (wl_c (rfl) (wl_n)))
set_option maxRecDepth 4000 in
set_option maxHeartbeats 1000000 in
theorem k_S_takeUsed (hl : l.stackTraces = false) {b0 : Nat} : Ct l D A G my_S_takeUsedFromAll cd_S_takeUsedFromAll 3 none (df + 1) 0 0 [.ref b, .int (nI b0)] (CH A b z r (RH S q h)) n (fun v h' n' => v = none ∧ h' = CH A b (cUs z b0) r (RH S q h) ∧ n' = n) (fun _ _ _ => False) := by
  refine Ct.of (by decide) hl (Nat.le_of_ble_eq_true rfl) ?_
  intro p e s m args below meth c C hr hnm ht dp
  have lp : ∀ k, k ≤ 12 → Rw p l e (cR (df + 1) 0 0) s m args below meth c (CQ D G n (fun v h' n' => v = none ∧ h' = CH A b (cUs z b0) r (RH S q h) ∧ n' = n) (fun _ _ _ => False) below args s 0 0) D G 3 0 0 (CH A b (cUsR z b0 k) r (RH S q h)) n [(0, .ref b), (1, .int (nI b0)), (2, .int (nI k))] 2 [] := by
    refine r_loop 12 _ ?_ ?_
    ·
      refine r_iload_n C dc_S_takeUsedFromAll_2 rfl rfl ?_
      refine r_bipush (v := nI 12) C dc_S_takeUsedFromAll_3 (by decide) ?_
      refine r_icmp_geN (tgt := 36) C dc_S_takeUsedFromAll_5 (by decide) (by omega) (by omega) (fun c5 => ?_) (fun c5 => ?_)
      ·
        first | refine r_aload_n C dc_S_takeUsedFromAll_36 rfl rfl ?_ | refine r_aload_nq C dc_S_takeUsedFromAll_36 rfl rfl ?_
        refine r_dup C dc_S_takeUsedFromAll_37 rfl ?_
        refine r_get C dc_S_takeUsedFromAll_38 fl_S_217 ch_S rfl ?_
        refine r_iconst (v := nI 1) C dc_S_takeUsedFromAll_41 (by decide) ?_
        first | refine r_iaddN C dc_S_takeUsedFromAll_42 ?_ | refine r_iadd C dc_S_takeUsedFromAll_42 ?_
        refine r_put C dc_S_takeUsedFromAll_43 fl_S_217 ch_S rfl rfl (Nat.le_of_ble_eq_true rfl) ?_
        refine rw_hh cs_s40 ?_
        exact r_vret C dp hr dc_S_takeUsedFromAll_46 (Nat.le_refl _) ⟨rfl, rfl, rfl⟩
      · exact absurd c5 (by omega)
    ·
      intro k hk ih
      refine r_iload_n C dc_S_takeUsedFromAll_2 rfl rfl ?_
      refine r_bipush (v := nI 12) C dc_S_takeUsedFromAll_3 (by decide) ?_
      refine r_icmp_geN (tgt := 36) C dc_S_takeUsedFromAll_5 (by decide) (by omega) (by omega) (fun c5 => ?_) (fun c5 => ?_)
      · exact absurd c5 (by omega)
      ·
        first | refine r_aload_n C dc_S_takeUsedFromAll_8 rfl rfl ?_ | refine r_aload_nq C dc_S_takeUsedFromAll_8 rfl rfl ?_
        refine r_get C dc_S_takeUsedFromAll_9 fl_S_12 ch_S rfl ?_
        refine r_iload_n C dc_S_takeUsedFromAll_12 rfl rfl ?_
        refine r_callV C dp dc_S_takeUsedFromAll_13 cw_S_168 cm_W_busOf cv_W_busOf rfl (ch_W) (k_W_busOf (df := df) (i := k) hl ch_W ch_bus hk) (by omega) rfl rfl (Nat.le_of_ble_eq_true rfl) (fun v13 h13 n13 q13 z13 => ?_) (fun _ _ _ _ z => z.elim)
        obtain ⟨y13, y13h, y13n⟩ := z13
        rw [y13, y13h, y13n]
        refine r_iload_n C dc_S_takeUsedFromAll_16 rfl rfl ?_
        refine r_icmp_ne (tgt := 30) C dc_S_takeUsedFromAll_17 (by decide) (fun c17 => ?_) (fun c17 => ?_)
        ·
          refine rw_hh (h' := CH A b (cUsR z b0 (k + 1)) r (RH S q h)) (by rw [cUsR_n (z := z) c17]) ?_
          first | refine r_iincN C dc_S_takeUsedFromAll_30 rfl (by decide) (nw_of rfl) ?_ | refine r_iinc C dc_S_takeUsedFromAll_30 rfl rfl (by decide) (nw_of rfl) ?_
          refine r_goto (tgt := 2) C dc_S_takeUsedFromAll_33 (by decide) ?_
          refine r_weak ?_ (ih)
          exact wl_c (rfl) (wl_c (rfl) (wl_c (rfl) (wl_n)))
        ·
          first | refine r_aload_n C dc_S_takeUsedFromAll_20 rfl rfl ?_ | refine r_aload_nq C dc_S_takeUsedFromAll_20 rfl rfl ?_
          refine r_get C dc_S_takeUsedFromAll_21 fl_S_25 ch_S rfl ?_
          refine r_iload_n C dc_S_takeUsedFromAll_24 rfl rfl ?_
          refine r_nald C dc_S_takeUsedFromAll_25 (by omega) ?_
          refine r_iconst (v := nI 0) C dc_S_takeUsedFromAll_26 (by decide) ?_
          refine r_put C dc_S_takeUsedFromAll_27 fl_S_196 (ch_node (by omega)) (by first | exact zi_n _ | rfl) (by first | exact zi_f _ | rfl) (Nat.le_of_ble_eq_true rfl) ?_
          refine rw_hh (cs_n10 (by omega)) ?_
          refine rw_hh (h' := CH A b (cUsR z b0 (k + 1)) r (RH S q h)) (by rw [cUsR_1 (z := z) c17]) ?_
          first | refine r_iincN C dc_S_takeUsedFromAll_30 rfl (by decide) (nw_of rfl) ?_ | refine r_iinc C dc_S_takeUsedFromAll_30 rfl rfl (by decide) (nw_of rfl) ?_
          refine r_goto (tgt := 2) C dc_S_takeUsedFromAll_33 (by decide) ?_
          refine r_weak ?_ (ih)
          exact wl_c (rfl) (wl_c (rfl) (wl_c (rfl) (wl_n)))
  refine rw_hh (h' := CH A b (cUsR z b0 0) r (RH S q h)) (by rw [cUsR_0]) ?_
  refine r_iconst (v := nI 0) C dc_S_takeUsedFromAll_0 (by decide) ?_
  refine r_istore_n C dc_S_takeUsedFromAll_1 rfl (by decide) (nw_of rfl) ?_
  refine r_weak ?_ (lp 0 (by omega))
  exact wl_c (rfl) (wl_c (rfl) (wl_c (rfl) (wl_n)))
set_option maxRecDepth 4000 in
set_option maxHeartbeats 1000000 in
theorem k_S_who (hl : l.stackTraces = false) {b0 nu : Nat} : Ct l D A G my_S_nodeWithNumber cd_S_nodeWithNumber 4 (some (.int)) (df + 1) 0 0 [.ref b, .int (nI b0), .int (nI nu)] (CH A b z r (RH S q h)) n (fun v h' n' => v = some (.int (oi (cWho z b0 nu))) ∧ h' = CH A b z r (RH S q h) ∧ n' = n) (fun _ _ _ => False) := by
  refine Ct.of (by decide) hl (Nat.le_of_ble_eq_true rfl) ?_
  intro p e s m args below meth c C hr hnm ht dp
  have lp : ∀ k, k ≤ 12 → cWho z b0 nu = fstF (fun i => decide (z 31 i = nI b0 ∧ z 13 i = nI nu)) (12 - k) k → Rw p l e (cR (df + 1) 0 0) s m args below meth c (CQ D G n (fun v h' n' => v = some (.int (oi (cWho z b0 nu))) ∧ h' = CH A b z r (RH S q h) ∧ n' = n) (fun _ _ _ => False) below args s 0 0) D G 4 0 0 (CH A b z r (RH S q h)) n [(0, .ref b), (1, .int (nI b0)), (2, .int (nI nu)), (3, .int (nI k))] 2 [] := by
    refine r_loop 12 _ ?_ ?_
    ·
      intro hpre
      refine r_iload_n C dc_S_nodeWithNumber_2 rfl rfl ?_
      refine r_bipush (v := nI 12) C dc_S_nodeWithNumber_3 (by decide) ?_
      refine r_icmp_geN (tgt := 41) C dc_S_nodeWithNumber_5 (by decide) (by omega) (by omega) (fun c5 => ?_) (fun c5 => ?_)
      ·
        refine r_iconst (v := -1) C dc_S_nodeWithNumber_41 (by decide) ?_
        have e1 : cWho z b0 nu = none := hpre.trans fst_n
        exact r_iret C dp hr dc_S_nodeWithNumber_42 (Nat.le_refl _) ⟨by rw [e1]; rfl, rfl, rfl⟩
      · exact absurd c5 (by omega)
    ·
      intro k hk ih hpre
      refine r_iload_n C dc_S_nodeWithNumber_2 rfl rfl ?_
      refine r_bipush (v := nI 12) C dc_S_nodeWithNumber_3 (by decide) ?_
      refine r_icmp_geN (tgt := 41) C dc_S_nodeWithNumber_5 (by decide) (by omega) (by omega) (fun c5 => ?_) (fun c5 => ?_)
      · exact absurd c5 (by omega)
      ·
        first | refine r_aload_n C dc_S_nodeWithNumber_8 rfl rfl ?_ | refine r_aload_nq C dc_S_nodeWithNumber_8 rfl rfl ?_
        refine r_get C dc_S_nodeWithNumber_9 fl_S_12 ch_S rfl ?_
        refine r_iload_n C dc_S_nodeWithNumber_12 rfl rfl ?_
        refine r_callV C dp dc_S_nodeWithNumber_13 cw_S_168 cm_W_busOf cv_W_busOf rfl (ch_W) (k_W_busOf (df := df) (i := k) hl ch_W ch_bus hk) (by omega) rfl rfl (Nat.le_of_ble_eq_true rfl) (fun v13 h13 n13 q13 z13 => ?_) (fun _ _ _ _ z => z.elim)
        obtain ⟨y13, y13h, y13n⟩ := z13
        rw [y13, y13h, y13n]
        refine r_iload_n C dc_S_nodeWithNumber_16 rfl rfl ?_
        refine r_icmp_ne (tgt := 35) C dc_S_nodeWithNumber_17 (by decide) (fun c17 => ?_) (fun c17 => ?_)
        ·
          first | refine r_iincN C dc_S_nodeWithNumber_35 rfl (by decide) (nw_of rfl) ?_ | refine r_iinc C dc_S_nodeWithNumber_35 rfl rfl (by decide) (nw_of rfl) ?_
          refine r_goto (tgt := 2) C dc_S_nodeWithNumber_38 (by decide) ?_
          refine r_weak ?_ (ih (hpre.trans (fst_0 (P := (fun i => decide (z 31 i = nI b0 ∧ z 13 i = nI nu))) hk (decide_eq_false (fun h => c17 h.1)))))
          exact wl_c (rfl) (wl_c (rfl) (wl_c (rfl) (wl_c (rfl) (wl_n))))
        ·
          first | refine r_aload_n C dc_S_nodeWithNumber_20 rfl rfl ?_ | refine r_aload_nq C dc_S_nodeWithNumber_20 rfl rfl ?_
          refine r_get C dc_S_nodeWithNumber_21 fl_S_25 ch_S rfl ?_
          refine r_iload_n C dc_S_nodeWithNumber_24 rfl rfl ?_
          refine r_nald C dc_S_nodeWithNumber_25 (by omega) ?_
          refine r_get C dc_S_nodeWithNumber_26 fl_S_175 (ch_node (by omega)) rfl ?_
          refine r_iload_n C dc_S_nodeWithNumber_29 rfl rfl ?_
          refine r_icmp_ne (tgt := 35) C dc_S_nodeWithNumber_30 (by decide) (fun c30 => ?_) (fun c30 => ?_)
          ·
            first | refine r_iincN C dc_S_nodeWithNumber_35 rfl (by decide) (nw_of rfl) ?_ | refine r_iinc C dc_S_nodeWithNumber_35 rfl rfl (by decide) (nw_of rfl) ?_
            refine r_goto (tgt := 2) C dc_S_nodeWithNumber_38 (by decide) ?_
            refine r_weak ?_ (ih (hpre.trans (fst_0 (P := (fun i => decide (z 31 i = nI b0 ∧ z 13 i = nI nu))) hk (decide_eq_false (fun h => c30 h.2)))))
            exact wl_c (rfl) (wl_c (rfl) (wl_c (rfl) (wl_c (rfl) (wl_n))))
          ·
            refine r_iload_n C dc_S_nodeWithNumber_33 rfl rfl ?_
            have e1 : cWho z b0 nu = some k := hpre.trans (fst_1 (P := (fun i => decide (z 31 i = nI b0 ∧ z 13 i = nI nu))) hk (decide_eq_true ⟨c17, c30⟩))
            exact r_iret C dp hr dc_S_nodeWithNumber_34 (Nat.le_refl _) ⟨by rw [e1]; rfl, rfl, rfl⟩
  refine r_iconst (v := nI 0) C dc_S_nodeWithNumber_0 (by decide) ?_
  refine r_istore_n C dc_S_nodeWithNumber_1 rfl (by decide) (nw_of rfl) ?_
  refine r_weak ?_ (lp 0 (by omega) rfl)
  exact wl_c (rfl) (wl_c (rfl) (wl_c (rfl) (wl_c (rfl) (wl_n))))
set_option maxRecDepth 4000 in
set_option maxHeartbeats 1000000 in
theorem k_S_hear (hl : l.stackTraces = false) {b0 a : Nat} (ha : a < 12) : Ct l D A G my_S_letOthersHear cd_S_letOthersHear 4 none (df + 1) 0 0 [.ref b, .int (nI b0), .int (nI a)] (CH A b z r (RH S q h)) n (fun v h' n' => v = none ∧ h' = CH A b (cHear z b0 a) r (RH S q h) ∧ n' = n) (fun _ _ _ => False) := by
  refine Ct.of (by decide) hl (Nat.le_of_ble_eq_true rfl) ?_
  intro p e s m args below meth c C hr hnm ht dp
  have lp : ∀ k, k ≤ 12 → Rw p l e (cR (df + 1) 0 0) s m args below meth c (CQ D G n (fun v h' n' => v = none ∧ h' = CH A b (cHear z b0 a) r (RH S q h) ∧ n' = n) (fun _ _ _ => False) below args s 0 0) D G 4 0 0 (CH A b (cHr z b0 a k) r (RH S q h)) n [(0, .ref b), (1, .int (nI b0)), (2, .int (nI a)), (3, .int (nI k))] 2 [] := by
    refine r_loop 12 _ ?_ ?_
    ·
      refine r_iload_n C dc_S_letOthersHear_2 rfl rfl ?_
      refine r_bipush (v := nI 12) C dc_S_letOthersHear_3 (by decide) ?_
      refine r_icmp_geN (tgt := 46) C dc_S_letOthersHear_5 (by decide) (by omega) (by omega) (fun c5 => ?_) (fun c5 => ?_)
      ·
        first | refine r_aload_n C dc_S_letOthersHear_46 rfl rfl ?_ | refine r_aload_nq C dc_S_letOthersHear_46 rfl rfl ?_
        refine r_dup C dc_S_letOthersHear_47 rfl ?_
        refine r_get C dc_S_letOthersHear_48 fl_S_214 ch_S rfl ?_
        refine r_iconst (v := nI 1) C dc_S_letOthersHear_51 (by decide) ?_
        first | refine r_iaddN C dc_S_letOthersHear_52 ?_ | refine r_iadd C dc_S_letOthersHear_52 ?_
        refine r_put C dc_S_letOthersHear_53 fl_S_214 ch_S rfl rfl (Nat.le_of_ble_eq_true rfl) ?_
        refine rw_hh cs_s39 ?_
        exact r_vret C dp hr dc_S_letOthersHear_56 (Nat.le_refl _) ⟨rfl, rfl, rfl⟩
      · exact absurd c5 (by omega)
    ·
      intro k hk ih
      refine r_iload_n C dc_S_letOthersHear_2 rfl rfl ?_
      refine r_bipush (v := nI 12) C dc_S_letOthersHear_3 (by decide) ?_
      refine r_icmp_geN (tgt := 46) C dc_S_letOthersHear_5 (by decide) (by omega) (by omega) (fun c5 => ?_) (fun c5 => ?_)
      · exact absurd c5 (by omega)
      ·
        first | refine r_aload_n C dc_S_letOthersHear_8 rfl rfl ?_ | refine r_aload_nq C dc_S_letOthersHear_8 rfl rfl ?_
        refine r_get C dc_S_letOthersHear_9 fl_S_12 ch_S rfl ?_
        refine r_iload_n C dc_S_letOthersHear_12 rfl rfl ?_
        refine r_callV C dp dc_S_letOthersHear_13 cw_S_168 cm_W_busOf cv_W_busOf rfl (ch_W) (k_W_busOf (df := df) (i := k) hl ch_W ch_bus hk) (by omega) rfl rfl (Nat.le_of_ble_eq_true rfl) (fun v13 h13 n13 q13 z13 => ?_) (fun _ _ _ _ z => z.elim)
        obtain ⟨y13, y13h, y13n⟩ := z13
        rw [y13, y13h, y13n]
        refine r_iload_n C dc_S_letOthersHear_16 rfl rfl ?_
        refine r_icmp_ne (tgt := 40) C dc_S_letOthersHear_17 (by decide) (fun c17 => ?_) (fun c17 => ?_)
        ·
          refine rw_hh (h' := CH A b (cHr z b0 a (k + 1)) r (RH S q h)) (by rw [cHr_n (z := z) (fun h => c17 h.1)]) ?_
          first | refine r_iincN C dc_S_letOthersHear_40 rfl (by decide) (nw_of rfl) ?_ | refine r_iinc C dc_S_letOthersHear_40 rfl rfl (by decide) (nw_of rfl) ?_
          refine r_goto (tgt := 2) C dc_S_letOthersHear_43 (by decide) ?_
          refine r_weak ?_ (ih)
          exact wl_c (rfl) (wl_c (rfl) (wl_c (rfl) (wl_c (rfl) (wl_n))))
        ·
          refine r_iload_n C dc_S_letOthersHear_20 rfl rfl ?_
          refine r_iload_n C dc_S_letOthersHear_21 rfl rfl ?_
          refine r_icmp_eqN (tgt := 40) C dc_S_letOthersHear_22 (by decide) (by omega) (by omega) (fun c22 => ?_) (fun c22 => ?_)
          ·
            refine rw_hh (h' := CH A b (cHr z b0 a (k + 1)) r (RH S q h)) (by rw [cHr_n (z := z) (fun h => h.2 c22)]) ?_
            first | refine r_iincN C dc_S_letOthersHear_40 rfl (by decide) (nw_of rfl) ?_ | refine r_iinc C dc_S_letOthersHear_40 rfl rfl (by decide) (nw_of rfl) ?_
            refine r_goto (tgt := 2) C dc_S_letOthersHear_43 (by decide) ?_
            refine r_weak ?_ (ih)
            exact wl_c (rfl) (wl_c (rfl) (wl_c (rfl) (wl_c (rfl) (wl_n))))
          ·
            first | refine r_aload_n C dc_S_letOthersHear_25 rfl rfl ?_ | refine r_aload_nq C dc_S_letOthersHear_25 rfl rfl ?_
            refine r_get C dc_S_letOthersHear_26 fl_S_25 ch_S rfl ?_
            refine r_iload_n C dc_S_letOthersHear_29 rfl rfl ?_
            refine r_nald C dc_S_letOthersHear_30 (by omega) ?_
            refine r_dup C dc_S_letOthersHear_31 rfl ?_
            refine r_get C dc_S_letOthersHear_32 fl_S_190 (ch_node (by omega)) rfl ?_
            refine sb_at (P := fun v => Rw _ _ _ _ _ _ _ _ _ _ _ _ _ _ _ _ _ _ _ _ (.int v :: _)) (show _ = z 9 k from cHr_at) ?_
            refine r_iconst (v := nI 1) C dc_S_letOthersHear_35 (by decide) ?_
            refine r_iadd C dc_S_letOthersHear_36 ?_
            refine r_put C dc_S_letOthersHear_37 fl_S_190 (ch_node (by omega)) rfl rfl (Nat.le_of_ble_eq_true rfl) ?_
            refine rw_hh (cs_n9 (by omega)) ?_
            refine rw_hh (h' := CH A b (cHr z b0 a (k + 1)) r (RH S q h)) (by rw [cHr_1 (z := z) c17 c22 rfl]) ?_
            first | refine r_iincN C dc_S_letOthersHear_40 rfl (by decide) (nw_of rfl) ?_ | refine r_iinc C dc_S_letOthersHear_40 rfl rfl (by decide) (nw_of rfl) ?_
            refine r_goto (tgt := 2) C dc_S_letOthersHear_43 (by decide) ?_
            refine r_weak ?_ (ih)
            exact wl_c (rfl) (wl_c (rfl) (wl_c (rfl) (wl_c (rfl) (wl_n))))
  refine rw_hh (h' := CH A b (cHr z b0 a 0) r (RH S q h)) (by rw [cHr_0]) ?_
  refine r_iconst (v := nI 0) C dc_S_letOthersHear_0 (by decide) ?_
  refine r_istore_n C dc_S_letOthersHear_1 rfl (by decide) (nw_of rfl) ?_
  refine r_weak ?_ (lp 0 (by omega))
  exact wl_c (rfl) (wl_c (rfl) (wl_c (rfl) (wl_c (rfl) (wl_n))))
set_option maxRecDepth 4000 in
set_option maxHeartbeats 1000000 in
theorem k_S_endLate (hl : l.stackTraces = false) (hc : Cok b S (z, r, q)) : Ct l D A G my_S_endLateRequests cd_S_endLateRequests 2 none (df + 3) 0 0 [.ref b] (CH A b z r (RH S q h)) n (fun v h' n' => v = none ∧ h' = CH A b (cLt (z, r, q) 12).1 (cLt (z, r, q) 12).2.1 (RH S (cLt (z, r, q) 12).2.2 h) ∧ n' = n) (fun _ _ _ => False) := by
  refine Ct.of (by decide) hl (Nat.le_of_ble_eq_true rfl) ?_
  intro p e s m args below meth c C hr hnm ht dp
  have lp : ∀ k, k ≤ 12 → Rw p l e (cR (df + 3) 0 0) s m args below meth c (CQ D G n (fun v h' n' => v = none ∧ h' = CH A b (cLt (z, r, q) 12).1 (cLt (z, r, q) 12).2.1 (RH S (cLt (z, r, q) 12).2.2 h) ∧ n' = n) (fun _ _ _ => False) below args s 0 0) D G 2 0 0 (CH A b (cLt (z, r, q) k).1 (cLt (z, r, q) k).2.1 (RH S (cLt (z, r, q) k).2.2 h)) n [(0, .ref b), (1, .int (nI k))] 2 [] := by
    refine r_loop 12 _ ?_ ?_
    ·
      refine r_iload_n C dc_S_endLateRequests_2 rfl rfl ?_
      refine r_bipush (v := nI 12) C dc_S_endLateRequests_3 (by decide) ?_
      refine r_icmp_geN (tgt := 27) C dc_S_endLateRequests_5 (by decide) (by omega) (by omega) (fun c5 => ?_) (fun c5 => ?_)
      ·
        exact r_vret C dp hr dc_S_endLateRequests_27 (Nat.le_refl _) ⟨rfl, rfl, rfl⟩
      · exact absurd c5 (by omega)
    ·
      intro k hk ih
      refine r_iload_n C dc_S_endLateRequests_2 rfl rfl ?_
      refine r_bipush (v := nI 12) C dc_S_endLateRequests_3 (by decide) ?_
      refine r_icmp_geN (tgt := 27) C dc_S_endLateRequests_5 (by decide) (by omega) (by omega) (fun c5 => ?_) (fun c5 => ?_)
      · exact absurd c5 (by omega)
      ·
        have hok := cLt_ok hc k (by omega)
        have hs : (cLt (z, r, q) (k + 1)) = nLt (cLt (z, r, q) k) k 4 := rfl
        generalize hcc : (cLt (z, r, q) k) = c1 at hs hok ⊢
        obtain ⟨z1, r1, q1⟩ := c1
        show Rw p l e (cR (df + 3) 0 0) s m args below meth c (CQ D G n (fun v h' n' => v = none ∧ h' = CH A b (cLt (z, r, q) 12).1 (cLt (z, r, q) 12).2.1 (RH S (cLt (z, r, q) 12).2.2 h) ∧ n' = n) (fun _ _ _ => False) below args s 0 0) D G 2 0 0 (CH A b z1 r1 (RH S q1 h)) n [(0, .ref b), (1, .int (nI k))] 8 []
        first | refine r_aload_n C dc_S_endLateRequests_8 rfl rfl ?_ | refine r_aload_nq C dc_S_endLateRequests_8 rfl rfl ?_
        refine r_get C dc_S_endLateRequests_9 fl_S_25 ch_S rfl ?_
        refine r_iload_n C dc_S_endLateRequests_12 rfl rfl ?_
        refine r_nald C dc_S_endLateRequests_13 (by omega) ?_
        first | refine r_aload_n C dc_S_endLateRequests_14 rfl rfl ?_ | refine r_aload_nq C dc_S_endLateRequests_14 rfl rfl ?_
        refine r_get C dc_S_endLateRequests_15 fl_S_115 ch_S rfl ?_
        refine r_callV C dp dc_S_endLateRequests_18 cw_S_300 cm_N_endLateRequests cv_N_endLateRequests rfl (ch_node hk) (k_N_endLate (df := df) (i := k) hl hk hok.1) (by omega) rfl rfl (Nat.le_of_ble_eq_true rfl) (fun v18 h18 n18 q18 z18 => ?_) (fun _ _ _ _ z => z.elim)
        obtain ⟨y18, y18h, y18n⟩ := z18
        rw [y18, y18h, y18n]
        refine rw_hh (h' := CH A b (cLt (z, r, q) (k + 1)).1 (cLt (z, r, q) (k + 1)).2.1 (RH S (cLt (z, r, q) (k + 1)).2.2 h)) (by rw [hs]) ?_
        first | refine r_iincN C dc_S_endLateRequests_21 rfl (by decide) (nw_of rfl) ?_ | refine r_iinc C dc_S_endLateRequests_21 rfl rfl (by decide) (nw_of rfl) ?_
        refine r_goto (tgt := 2) C dc_S_endLateRequests_24 (by decide) ?_
        refine r_weak ?_ (ih)
        exact wl_c (rfl) (wl_c (rfl) (wl_n))
  refine r_iconst (v := nI 0) C dc_S_endLateRequests_0 (by decide) ?_
  refine r_istore_n C dc_S_endLateRequests_1 rfl (by decide) (nw_of rfl) ?_
  refine r_weak ?_ (lp 0 (by omega))
  exact wl_c (rfl) (wl_c (rfl) (wl_n))
set_option maxRecDepth 4000 in
set_option maxHeartbeats 1000000 in
theorem k_S_sendRequest (hl : l.stackTraces = false) {a i b0 t wd kt si : Nat} (ha : S a = true) (hv : RV b r S) (hi : i < 12) (ht12 : t < 12) (hw8 : wd < 8) (h0 : q a 0 = nI t) (h2 : q a 2 = nI wd) (hkt : z 17 t = nI kt) (hk6 : kt ≤ 6) (hsi : z 17 i = nI si) (hsi6 : si < 6) : Ct l D A G my_S_sendRequest cd_S_sendRequest 5 none (df + 2) 0 0 [.ref b, .ref a, .ref (b + 8 + 5 * i), .int (nI b0)] (CH A b z r (RH S q h)) n (fun v h' n' => v = none ∧ h' = CH A b (cSR z r q a i b0 t wd).1 (cSR z r q a i b0 t wd).2.1 (RH S (cSR z r q a i b0 t wd).2.2 h) ∧ n' = n) (fun _ _ _ => False) := by
  refine Ct.of (by decide) hl (Nat.le_of_ble_eq_true rfl) ?_
  intro p e s m args below meth c C hr hnm ht dp
  have ckt : cl (z 17 t) = kt := by rw [hkt]; exact cl_nI (by omega)
  have csi : cl (z 17 i) = si := by rw [hsi]; exact cl_nI (by omega)
  first | refine r_aload_n C dc_S_sendRequest_0 rfl rfl ?_ | refine r_aload_nq C dc_S_sendRequest_0 rfl rfl ?_
  refine r_dup C dc_S_sendRequest_1 rfl ?_
  refine r_get C dc_S_sendRequest_2 fl_S_282 (ch_rq hv.2 (by first | assumption | exact hv.1 _ _ _ (by assumption))) rfl ?_
  refine r_iconst (v := nI 1) C dc_S_sendRequest_5 (by decide) ?_
  first | refine r_iaddN C dc_S_sendRequest_6 ?_ | refine r_iadd C dc_S_sendRequest_6 ?_
  refine r_put C dc_S_sendRequest_7 fl_S_282 (ch_rq hv.2 (by first | assumption | exact hv.1 _ _ _ (by assumption))) rfl rfl (Nat.le_of_ble_eq_true rfl) ?_
  refine rw_hh (cs_r7 hv.2 (by first | assumption | exact hv.1 _ _ _ (by assumption))) ?_
  refine rw_hh (h' := CH A b z r (RH S (q7 q a) h)) (rfl) ?_
  first | refine r_aload_n C dc_S_sendRequest_10 rfl rfl ?_ | refine r_aload_nq C dc_S_sendRequest_10 rfl rfl ?_
  refine r_get C dc_S_sendRequest_11 fl_S_12 ch_S rfl ?_
  first | refine r_aload_n C dc_S_sendRequest_14 rfl rfl ?_ | refine r_aload_nq C dc_S_sendRequest_14 rfl rfl ?_
  refine r_get C dc_S_sendRequest_15 fl_S_285 (ch_rq hv.2 (by first | assumption | exact hv.1 _ _ _ (by assumption))) rfl ?_
  refine sb_at (P := fun v => Rw _ _ _ _ _ _ _ _ _ _ _ _ _ _ _ _ _ _ _ _ (.int v :: _)) (show _ = nI t from (q7_f (by decide)).trans h0) ?_
  refine r_callV C dp dc_S_sendRequest_18 cw_S_168 cm_W_busOf cv_W_busOf rfl (ch_W) (k_W_busOf (df := df) (i := t) hl ch_W ch_bus ht12) (by omega) rfl rfl (Nat.le_of_ble_eq_true rfl) (fun v18 h18 n18 q18 z18 => ?_) (fun _ _ _ _ z => z.elim)
  obtain ⟨y18, y18h, y18n⟩ := z18
  rw [y18, y18h, y18n]
  refine r_iload_n C dc_S_sendRequest_21 rfl rfl ?_
  refine r_icmp_eq (tgt := 31) C dc_S_sendRequest_22 (by decide) (fun c22 => ?_) (fun c22 => ?_)
  ·
    first | refine r_aload_n C dc_S_sendRequest_31 rfl rfl ?_ | refine r_aload_nq C dc_S_sendRequest_31 rfl rfl ?_
    refine r_get C dc_S_sendRequest_32 fl_S_25 ch_S rfl ?_
    first | refine r_aload_n C dc_S_sendRequest_35 rfl rfl ?_ | refine r_aload_nq C dc_S_sendRequest_35 rfl rfl ?_
    refine r_get C dc_S_sendRequest_36 fl_S_285 (ch_rq hv.2 (by first | assumption | exact hv.1 _ _ _ (by assumption))) rfl ?_
    refine sb_at (P := fun v => Rw _ _ _ _ _ _ _ _ _ _ _ _ _ _ _ _ _ _ _ _ (.int v :: _)) (show _ = nI t from (q7_f (by decide)).trans h0) ?_
    refine r_nald C dc_S_sendRequest_39 (by omega) ?_
    first | refine r_astore C dc_S_sendRequest_40 (by decide) (nw_of rfl) ?_ | refine r_astoreN C dc_S_sendRequest_40 (by decide) (nw_of rfl) ?_ | refine r_astoreq C dc_S_sendRequest_40 (by decide) (nw_of rfl) ?_
    first | refine r_aload C dc_S_sendRequest_42 rfl ?_ | refine r_aloadq C dc_S_sendRequest_42 rfl ?_
    refine r_get C dc_S_sendRequest_44 fl_S_98 (ch_node (by omega)) rfl ?_
    refine r_callV C dp dc_S_sendRequest_47 cw_S_102 cm_Q_isFull cv_Q_isFull rfl (ch_queue ht12) (k_Q_isFull (df := df) (k := kt) hl (by rw [ch_queue ht12, hkt]) (by omega)) (by omega) rfl rfl (Nat.le_of_ble_eq_true rfl) (fun v47 h47 n47 q47 z47 => ?_) (fun _ _ _ _ z => z.elim)
    obtain ⟨y47, y47h, y47n⟩ := z47
    rw [y47, y47h, y47n]
    refine r_if_neZ (tgt := 74) C dc_S_sendRequest_50 (by decide) (fun c50 => ?_) (fun c50 => ?_)
    ·
      have hfull : 6 ≤ kt := of_decide_eq_true c50
      first | refine r_aload_n C dc_S_sendRequest_74 rfl rfl ?_ | refine r_aload_nq C dc_S_sendRequest_74 rfl rfl ?_
      refine r_get C dc_S_sendRequest_75 fl_S_282 (ch_rq hv.2 (by first | assumption | exact hv.1 _ _ _ (by assumption))) rfl ?_
      refine sb_at (P := fun v => Rw _ _ _ _ _ _ _ _ _ _ _ _ _ _ _ _ _ _ _ _ (.int v :: _)) (show _ = q a 7 + nI 1 from q7_7) ?_
      refine r_iconst (v := nI 4) C dc_S_sendRequest_78 (by decide) ?_
      refine r_icmp_ge (tgt := 93) C dc_S_sendRequest_79 (by decide) (fun c79 => ?_) (fun c79 => ?_)
      ·
        first | refine r_aload_n C dc_S_sendRequest_93 rfl rfl ?_ | refine r_aload_nq C dc_S_sendRequest_93 rfl rfl ?_
        refine r_iconst (v := nI 2) C dc_S_sendRequest_94 (by decide) ?_
        refine r_callV C dp dc_S_sendRequest_95 cw_S_275 cm_R_endIfItWaits cv_R_endIfItWaits rfl (ch_rq hv.2 ha) (k_R_endIfItWaits (df := df) (q := q7 q a) (vv := nI 2) hl ha hv) (by omega) rfl rfl (Nat.le_of_ble_eq_true rfl) (fun v95 h95 n95 q95 z95 => ?_) (fun _ _ _ _ z => z.elim)
        obtain ⟨y95, y95h, y95n⟩ := z95
        rw [y95, y95h, y95n]
        exact r_vret C dp hr dc_S_sendRequest_98 (Nat.le_refl _) ⟨rfl, by unfold cSR; rw [if_pos c22, if_neg (by omega), if_neg (Int32.not_lt.mpr c79)], rfl⟩
      ·
        first | refine r_aload_n C dc_S_sendRequest_82 rfl rfl ?_ | refine r_aload_nq C dc_S_sendRequest_82 rfl rfl ?_
        refine r_get C dc_S_sendRequest_83 fl_S_98 (ch_node (by omega)) rfl ?_
        first | refine r_aload_n C dc_S_sendRequest_86 rfl rfl ?_ | refine r_aload_nq C dc_S_sendRequest_86 rfl rfl ?_
        refine r_callV C dp dc_S_sendRequest_87 cw_S_125 cm_Q_append cv_Q_append rfl (ch_queue hi) (k_Q_append (df := df) (q := q7 q a) (a := a) (i := i) (sz := si) hl hi hsi (by omega) hv ha) (by omega) rfl rfl (Nat.le_of_ble_eq_true rfl) (fun v87 h87 n87 q87 z87 => ?_) (fun _ _ _ _ z => z.elim)
        obtain ⟨y87, y87h, y87n⟩ := z87
        rw [y87, y87h, y87n]
        rw [if_pos hsi6]
        refine r_goto (tgt := 98) C dc_S_sendRequest_90 (by decide) ?_
        exact r_vret C dp hr dc_S_sendRequest_98 (Nat.le_refl _) ⟨rfl, by unfold cSR; rw [if_pos c22, if_neg (by omega), if_pos (Int32.not_le.mp c79), csi], rfl⟩
    ·
      have hfull : kt < 6 := Nat.lt_of_not_le (of_decide_eq_false c50)
      first | refine r_aload_n C dc_S_sendRequest_53 rfl rfl ?_ | refine r_aload_nq C dc_S_sendRequest_53 rfl rfl ?_
      first | refine r_aload C dc_S_sendRequest_54 rfl ?_ | refine r_aloadq C dc_S_sendRequest_54 rfl ?_
      refine r_get C dc_S_sendRequest_56 fl_S_201 (ch_node (by omega)) rfl ?_
      refine r_callV C dp dc_S_sendRequest_59 cw_S_288 cm_R_workOn cv_R_workOn rfl (ch_rq hv.2 ha) (k_R_workOn (df := df) (q := q7 q a) (t := t) (wd := wd) hl ha hv ht12 ((q7_f (by decide)).trans h2) hw8) (by omega) rfl rfl (Nat.le_of_ble_eq_true rfl) (fun v59 h59 n59 q59 z59 => ?_) (fun _ _ _ _ z => z.elim)
      obtain ⟨y59, y59h, y59n⟩ := z59
      rw [y59, y59h, y59n]
      have e17 : wkZ z (q7 q a) a t wd 17 = z 17 := wkZ_ne (by omega)
      first | refine r_aload C dc_S_sendRequest_62 rfl ?_ | refine r_aloadq C dc_S_sendRequest_62 rfl ?_
      refine r_get C dc_S_sendRequest_64 fl_S_98 (ch_node (by omega)) rfl ?_
      first | refine r_aload_n C dc_S_sendRequest_67 rfl rfl ?_ | refine r_aload_nq C dc_S_sendRequest_67 rfl rfl ?_
      refine r_callV C dp dc_S_sendRequest_68 cw_S_125 cm_Q_append cv_Q_append rfl (ch_queue ht12) (k_Q_append (df := df) (z := wkZ z (q7 q a) a t wd) (q := wkQ z (q7 q a) a t wd) (a := a) (i := t) (sz := kt) hl ht12 (by rw [e17]; exact hkt) (by omega) hv ha) (by omega) rfl rfl (Nat.le_of_ble_eq_true rfl) (fun v68 h68 n68 q68 z68 => ?_) (fun _ _ _ _ z => z.elim)
      obtain ⟨y68, y68h, y68n⟩ := z68
      rw [y68, y68h, y68n]
      rw [if_pos hfull]
      refine r_goto (tgt := 98) C dc_S_sendRequest_71 (by decide) ?_
      exact r_vret C dp hr dc_S_sendRequest_98 (Nat.le_refl _) ⟨rfl, by unfold cSR; rw [if_pos c22, if_pos (by omega), ckt, e17], rfl⟩
  ·
    first | refine r_aload_n C dc_S_sendRequest_25 rfl rfl ?_ | refine r_aload_nq C dc_S_sendRequest_25 rfl rfl ?_
    refine r_iconst (v := nI 3) C dc_S_sendRequest_26 (by decide) ?_
    refine r_callV C dp dc_S_sendRequest_27 cw_S_275 cm_R_endIfItWaits cv_R_endIfItWaits rfl (ch_rq hv.2 ha) (k_R_endIfItWaits (df := df) (q := q7 q a) (vv := nI 3) hl ha hv) (by omega) rfl rfl (Nat.le_of_ble_eq_true rfl) (fun v27 h27 n27 q27 z27 => ?_) (fun _ _ _ _ z => z.elim)
    obtain ⟨y27, y27h, y27n⟩ := z27
    rw [y27, y27h, y27n]
    exact r_vret C dp hr dc_S_sendRequest_30 (Nat.le_refl _) ⟨rfl, by unfold cSR; rw [if_neg c22], rfl⟩
set_option maxRecDepth 4000 in
set_option maxHeartbeats 1000000 in
theorem k_S_sendFirst (hl : l.stackTraces = false) {i b0 : Nat} (hv : RV b r S) (hi : i < 12) (hq : HQ z r q i) (hsz12 : ∀ t, t < 12 → ∃ sz, sz ≤ 6 ∧ z 17 t = nI sz) : Ct l D A G my_S_sendFirstPacket cd_S_sendFirstPacket 4 none (df + 3) 0 0 [.ref b, .ref (b + 8 + 5 * i), .int (nI b0)] (CH A b z r (RH S q h)) n (fun v h' n' => v = none ∧ h' = CH A b (cSF z r q i b0).1 (cSF z r q i b0).2.1 (RH S (cSF z r q i b0).2.2 h) ∧ n' = n) (fun _ _ _ => False) := by
  refine Ct.of (by decide) hl (Nat.le_of_ble_eq_true rfl) ?_
  intro p e s m args below meth c C hr hnm ht dp
  obtain ⟨a, sz, hs6, hs0, hsz, hr0, hrq⟩ := hq
  have csz : cl (z 17 i) = sz := by rw [hsz]; exact cl_nI (by omega)
  have ha := hv.1 _ _ _ hr0
  have hga : (r i 0).getD 0 = a := by rw [hr0]; rfl
  first | refine r_aload_n C dc_S_sendFirstPacket_0 rfl rfl ?_ | refine r_aload_nq C dc_S_sendFirstPacket_0 rfl rfl ?_
  refine r_get C dc_S_sendFirstPacket_1 fl_S_98 (ch_node (by omega)) rfl ?_
  refine r_callV C dp dc_S_sendFirstPacket_4 cw_S_268 cm_Q_takeFirst cv_Q_takeFirst rfl (ch_queue hi) (k_Q_takeFirst (df := df) (sz := sz) hl hi hsz hs6 hv) (by omega) rfl rfl (Nat.le_of_ble_eq_true rfl) (fun v4 h4 n4 q4 z4 => ?_) (fun _ _ _ _ z => z.elim)
  obtain ⟨y4, y4h, y4n⟩ := z4
  rw [y4, y4h, y4n]
  rw [if_neg (show ¬ sz = 0 by omega), if_neg (show ¬ sz = 0 by omega)]
  refine sb_av (P := fun v => Rw _ _ _ _ _ _ _ _ _ _ _ _ _ _ _ _ _ _ _ _ (v :: _)) (show va_rf (r i 0) = .ref a from by rw [hr0]; rfl) ?_
  have hv2 : RV b (ur r i (qRem (r i) 0 sz)) S := hv.row (qRem_S (fun j a e => hv.1 _ _ _ e) _ _)
  refine r_astore_n C dc_S_sendFirstPacket_7 rfl (by decide) (nw_of rfl) ?_
  refine r_aload_n C dc_S_sendFirstPacket_8 rfl rfl ?_
  refine r_ifnonnull (r := some a) (tgt := 13) C dc_S_sendFirstPacket_9 (by decide) (fun _ _ => ?_) (fun z => by cases z)
  first | refine r_aload_n C dc_S_sendFirstPacket_13 rfl rfl ?_ | refine r_aload_nq C dc_S_sendFirstPacket_13 rfl rfl ?_
  refine r_iconst (v := nI 1) C dc_S_sendFirstPacket_14 (by decide) ?_
  refine r_put C dc_S_sendFirstPacket_15 fl_S_196 (ch_node (by omega)) (by first | exact zi_n _ | rfl) (by first | exact zi_f _ | rfl) (Nat.le_of_ble_eq_true rfl) ?_
  refine rw_hh (cs_n10 (by omega)) ?_
  first | refine r_aload_n C dc_S_sendFirstPacket_18 rfl rfl ?_ | refine r_aload_nq C dc_S_sendFirstPacket_18 rfl rfl ?_
  refine r_dup C dc_S_sendFirstPacket_19 rfl ?_
  refine r_get C dc_S_sendFirstPacket_20 fl_S_211 ch_S rfl ?_
  refine r_iconst (v := nI 1) C dc_S_sendFirstPacket_23 (by decide) ?_
  first | refine r_iaddN C dc_S_sendFirstPacket_24 ?_ | refine r_iadd C dc_S_sendFirstPacket_24 ?_
  refine r_put C dc_S_sendFirstPacket_25 fl_S_211 ch_S rfl rfl (Nat.le_of_ble_eq_true rfl) ?_
  refine rw_hh cs_s38 ?_
  refine rw_hh (h' := CH A b (sfZ z i) (ur r i (qRem (r i) 0 sz)) (RH S q h)) (by unfold sfZ; rw [csz]; rfl) ?_
  refine r_aload_n C dc_S_sendFirstPacket_28 rfl rfl ?_
  refine r_get C dc_S_sendFirstPacket_29 fl_S_272 (ch_rq hv2.2 ha) rfl ?_
  refine r_if_eq (tgt := 43) C dc_S_sendFirstPacket_32 (by decide) (fun c32 => ?_) (fun c32 => ?_)
  ·
    obtain ⟨t, wd, ht12, hw8, h0, h2⟩ := hrq c32
    obtain ⟨kt, hk6, hkt⟩ := hsz12 t ht12
    have z17i : sfZ z i 17 i = nI (sz - 1) := by
      show upd (z 17) i (nI (cl (z 17 i) - 1)) i = _
      rw [pk_us, csz]
    have z17t : ∃ kt, kt ≤ 6 ∧ sfZ z i 17 t = nI kt := by
      by_cases e : t = i
      · rw [e]; exact ⟨sz - 1, by omega, z17i⟩
      · exact ⟨kt, hk6, (pk_un e).trans hkt⟩
    obtain ⟨kt2, hk62, hkt2⟩ := z17t
    first | refine r_aload_n C dc_S_sendFirstPacket_43 rfl rfl ?_ | refine r_aload_nq C dc_S_sendFirstPacket_43 rfl rfl ?_
    first | refine r_aload_n C dc_S_sendFirstPacket_44 rfl rfl ?_ | refine r_aload_nq C dc_S_sendFirstPacket_44 rfl rfl ?_
    first | refine r_aload_n C dc_S_sendFirstPacket_45 rfl rfl ?_ | refine r_aload_nq C dc_S_sendFirstPacket_45 rfl rfl ?_
    refine r_iload_n C dc_S_sendFirstPacket_46 rfl rfl ?_
    refine r_callV C dp dc_S_sendFirstPacket_47 cw_S_278 cm_S_sendRequest cv_S_sendRequest rfl (ch_S) (k_S_sendRequest (df := df) (z := sfZ z i) (r := ur r i (qRem (r i) 0 sz)) (a := a) (i := i) (b0 := b0) (t := t) (wd := wd) hl ha hv2 hi ht12 hw8 h0 h2 hkt2 hk62 z17i (by omega)) (by omega) rfl rfl (Nat.le_of_ble_eq_true rfl) (fun v47 h47 n47 q47 z47 => ?_) (fun _ _ _ _ z => z.elim)
    obtain ⟨y47, y47h, y47n⟩ := z47
    rw [y47, y47h, y47n]
    exact r_vret C dp hr dc_S_sendFirstPacket_50 (Nat.le_refl _) ⟨rfl, by unfold cSF; rw [hga, if_pos c32, h0, h2, cl_nI (by omega), cl_nI (by omega), csz], rfl⟩
  ·
    first | refine r_aload_n C dc_S_sendFirstPacket_35 rfl rfl ?_ | refine r_aload_nq C dc_S_sendFirstPacket_35 rfl rfl ?_
    refine r_iconst (v := nI 0) C dc_S_sendFirstPacket_36 (by decide) ?_
    refine r_callV C dp dc_S_sendFirstPacket_37 cw_S_275 cm_R_endIfItWaits cv_R_endIfItWaits rfl (ch_rq hv2.2 ha) (k_R_endIfItWaits (df := df) (r := ur r i (qRem (r i) 0 sz)) (vv := nI 0) hl ha hv2) (by omega) rfl rfl (Nat.le_of_ble_eq_true rfl) (fun v37 h37 n37 q37 z37 => ?_) (fun _ _ _ _ z => z.elim)
    obtain ⟨y37, y37h, y37n⟩ := z37
    rw [y37, y37h, y37n]
    refine r_goto (tgt := 50) C dc_S_sendFirstPacket_40 (by decide) ?_
    exact r_vret C dp hr dc_S_sendFirstPacket_50 (Nat.le_refl _) ⟨rfl, by unfold cSF; rw [hga, if_neg c32, csz], rfl⟩
end Cls7
