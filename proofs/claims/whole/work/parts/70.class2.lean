theorem sb_av {P : Value → Prop} {u v : Value} (h : u = v) (k : P v) : P u := h ▸ k
theorem rq_f {q : Nat → Nat → Int32} {a k j : Nat} {v : Int32} (h : j ≠ k) : ur q a (upd (q a) k v) a j = q a j := by
  rw [ur_eq]; exact pk_un h
theorem rq_s {q : Nat → Nat → Int32} {a k : Nat} {v : Int32} : ur q a (upd (q a) k v) a k = v := by
  rw [ur_eq]; exact pk_us
/-- the request of a label waits -/
def cW (q : Nat → Nat → Int32) (o : Option Nat) : Bool := match o with
  | none => false
  | some a => decide (q a 6 = -1)
section Cls2
variable {l : Launch} {D : va_G} {A : Nat → ClassId} {G : Heap} {b n df : Nat} {z : Nat → Nat → Int32} {r : Nat → Nat → Option Nat} {S : Nat → Bool} {q : Nat → Nat → Int32} {h : Hp}
set_option maxRecDepth 4000 in
set_option maxHeartbeats 1000000 in
theorem k_R_endIfItWaits (hl : l.stackTraces = false) {a : Nat} {vv : Int32} (ha : S a = true) (hv : RV b r S) : Ct l D A G my_R_endIfItWaits cd_R_endIfItWaits 2 none df 0 0 [.ref a, .int vv] (CH A b z r (RH S q h)) n (fun v h' n' => v = none ∧ h' = CH A b z r (RH S (rEnd q a vv) h) ∧ n' = n) (fun _ _ _ => False) := by
  refine Ct.of (by decide) hl (Nat.le_of_ble_eq_true rfl) ?_
  intro p e s m args below meth c C hr hnm ht dp
  first | refine r_aload_n C dc_R_endIfItWaits_0 rfl rfl ?_ | refine r_aload_nq C dc_R_endIfItWaits_0 rfl rfl ?_
  refine r_get C dc_R_endIfItWaits_1 fl_R_9 (ch_rq hv.2 (by first | assumption | exact hv.1 _ _ _ (by assumption))) rfl ?_
  refine r_iconst (v := -1) C dc_R_endIfItWaits_4 (by decide) ?_
  refine r_icmp_ne (tgt := 13) C dc_R_endIfItWaits_5 (by decide) (fun c5 => ?_) (fun c5 => ?_)
  ·
    exact r_vret C dp hr dc_R_endIfItWaits_13 (Nat.le_refl _) ⟨rfl, by unfold rEnd; rw [if_neg c5], rfl⟩
  ·
    first | refine r_aload_n C dc_R_endIfItWaits_8 rfl rfl ?_ | refine r_aload_nq C dc_R_endIfItWaits_8 rfl rfl ?_
    refine r_iload_n C dc_R_endIfItWaits_9 rfl rfl ?_
    refine r_put C dc_R_endIfItWaits_10 fl_R_9 (ch_rq hv.2 (by first | assumption | exact hv.1 _ _ _ (by assumption))) rfl rfl (Nat.le_of_ble_eq_true rfl) ?_
    refine rw_hh (cs_r6 hv.2 (by first | assumption | exact hv.1 _ _ _ (by assumption))) ?_
    exact r_vret C dp hr dc_R_endIfItWaits_13 (Nat.le_refl _) ⟨rfl, by unfold rEnd; rw [if_pos c5], rfl⟩
set_option maxRecDepth 4000 in
set_option maxHeartbeats 1000000 in
theorem k_R_workOn (hl : l.stackTraces = false) {a t wd : Nat} (ha : S a = true) (hv : RV b r S) (ht : t < 12) (hwd : q a 2 = nI wd) (hw8 : wd < 8) : Ct l D A G my_R_workOn cd_R_workOn 3 none df 0 0 [.ref a, .ref (b + 9 + 5 * t)] (CH A b z r (RH S q h)) n (fun v h' n' => v = none ∧ h' = CH A b (wkZ z q a t wd) r (RH S (wkQ z q a t wd) h) ∧ n' = n) (fun _ _ _ => False) := by
  refine Ct.of (by decide) hl (Nat.le_of_ble_eq_true rfl) ?_
  intro p e s m args below meth c C hr hnm ht dp
  have tail : ∀ v9, v9 = (if q a 1 = nI 1 then nI 0 else z (100 + t) wd) → Rw p l e (cR df 0 0) s m args below meth c (CQ D G n (fun v h' n' => v = none ∧ h' = CH A b (wkZ z q a t wd) r (RH S (wkQ z q a t wd) h) ∧ n' = n) (fun _ _ _ => False) below args s 0 0) D G 3 0 0 (CH A b z r (RH S (ur q a (upd (q a) 9 v9)) h)) n [(0, .ref a), (1, .ref (b + 9 + 5 * t)), (2, .int (z (100 + t) wd))] 24 [] := by
    intro v9 h9
    first | refine r_aload_n C dc_R_workOn_24 rfl rfl ?_ | refine r_aload_nq C dc_R_workOn_24 rfl rfl ?_
    refine r_get C dc_R_workOn_25 fl_R_18 (ch_rq hv.2 (by first | assumption | exact hv.1 _ _ _ (by assumption))) rfl ?_
    refine sb_at (P := fun v => Rw _ _ _ _ _ _ _ _ _ _ _ _ _ _ _ _ _ _ _ _ (.int v :: _)) (show _ = q a 1 from rq_f (by decide)) ?_
    refine r_iconst (v := nI 1) C dc_R_workOn_28 (by decide) ?_
    refine r_icmp_eq (tgt := 48) C dc_R_workOn_29 (by decide) (fun c29 => ?_) (fun c29 => ?_)
    ·
      first | refine r_aload_n C dc_R_workOn_48 rfl rfl ?_ | refine r_aload_nq C dc_R_workOn_48 rfl rfl ?_
      first | refine r_aload_n C dc_R_workOn_49 rfl rfl ?_ | refine r_aload_nq C dc_R_workOn_49 rfl rfl ?_
      refine r_get C dc_R_workOn_50 fl_R_21 (ch_rq hv.2 (by first | assumption | exact hv.1 _ _ _ (by assumption))) rfl ?_
      refine sb_at (P := fun v => Rw _ _ _ _ _ _ _ _ _ _ _ _ _ _ _ _ _ _ _ _ (.int v :: _)) (show _ = q a 2 from rq_f (by decide)) ?_
      refine sb_at (P := fun v => Rw _ _ _ _ _ _ _ _ _ _ _ _ _ _ _ _ _ _ _ _ (.int v :: _)) hwd ?_
      first | refine r_aload_n C dc_R_workOn_53 rfl rfl ?_ | refine r_aload_nq C dc_R_workOn_53 rfl rfl ?_
      refine r_get C dc_R_workOn_54 fl_R_27 (ch_rq hv.2 (by first | assumption | exact hv.1 _ _ _ (by assumption))) rfl ?_
      refine sb_at (P := fun v => Rw _ _ _ _ _ _ _ _ _ _ _ _ _ _ _ _ _ _ _ _ (.int v :: _)) (show _ = q a 4 from rq_f (by decide)) ?_
      refine r_iast C dc_R_workOn_57 (ch_words (by omega)) rfl (by omega) (by decide) ?_
      refine rw_hh (cs_w (by omega)) ?_
      first | refine r_aload_n C dc_R_workOn_58 rfl rfl ?_ | refine r_aload_nq C dc_R_workOn_58 rfl rfl ?_
      refine r_iconst (v := nI 1) C dc_R_workOn_59 (by decide) ?_
      refine r_put C dc_R_workOn_60 fl_R_36 (ch_rq hv.2 (by first | assumption | exact hv.1 _ _ _ (by assumption))) (by first | exact zi_n _ | rfl) (by first | exact zi_f _ | rfl) (Nat.le_of_ble_eq_true rfl) ?_
      refine rw_hh (cs_r8 hv.2 (by first | assumption | exact hv.1 _ _ _ (by assumption))) ?_
      exact r_vret C dp hr dc_R_workOn_63 (Nat.le_refl _) ⟨rfl, by unfold wkQ wkZ; rw [if_pos (Or.inl c29), ur_ur, ur_eq, h9], rfl⟩
    ·
      first | refine r_aload_n C dc_R_workOn_32 rfl rfl ?_ | refine r_aload_nq C dc_R_workOn_32 rfl rfl ?_
      refine r_get C dc_R_workOn_33 fl_R_18 (ch_rq hv.2 (by first | assumption | exact hv.1 _ _ _ (by assumption))) rfl ?_
      refine sb_at (P := fun v => Rw _ _ _ _ _ _ _ _ _ _ _ _ _ _ _ _ _ _ _ _ (.int v :: _)) (show _ = q a 1 from rq_f (by decide)) ?_
      refine r_iconst (v := nI 2) C dc_R_workOn_36 (by decide) ?_
      refine r_icmp_ne (tgt := 58) C dc_R_workOn_37 (by decide) (fun c37 => ?_) (fun c37 => ?_)
      ·
        first | refine r_aload_n C dc_R_workOn_58 rfl rfl ?_ | refine r_aload_nq C dc_R_workOn_58 rfl rfl ?_
        refine r_iconst (v := nI 1) C dc_R_workOn_59 (by decide) ?_
        refine r_put C dc_R_workOn_60 fl_R_36 (ch_rq hv.2 (by first | assumption | exact hv.1 _ _ _ (by assumption))) (by first | exact zi_n _ | rfl) (by first | exact zi_f _ | rfl) (Nat.le_of_ble_eq_true rfl) ?_
        refine rw_hh (cs_r8 hv.2 (by first | assumption | exact hv.1 _ _ _ (by assumption))) ?_
        exact r_vret C dp hr dc_R_workOn_63 (Nat.le_refl _) ⟨rfl, by unfold wkQ wkZ; rw [if_neg (fun h => h.elim c29 (fun h => c37 h.1)), ur_ur, ur_eq, h9], rfl⟩
      ·
        refine r_iload_n C dc_R_workOn_40 rfl rfl ?_
        first | refine r_aload_n C dc_R_workOn_41 rfl rfl ?_ | refine r_aload_nq C dc_R_workOn_41 rfl rfl ?_
        refine r_get C dc_R_workOn_42 fl_R_24 (ch_rq hv.2 (by first | assumption | exact hv.1 _ _ _ (by assumption))) rfl ?_
        refine sb_at (P := fun v => Rw _ _ _ _ _ _ _ _ _ _ _ _ _ _ _ _ _ _ _ _ (.int v :: _)) (show _ = q a 3 from rq_f (by decide)) ?_
        refine r_icmp_ne (tgt := 58) C dc_R_workOn_45 (by decide) (fun c45 => ?_) (fun c45 => ?_)
        ·
          first | refine r_aload_n C dc_R_workOn_58 rfl rfl ?_ | refine r_aload_nq C dc_R_workOn_58 rfl rfl ?_
          refine r_iconst (v := nI 1) C dc_R_workOn_59 (by decide) ?_
          refine r_put C dc_R_workOn_60 fl_R_36 (ch_rq hv.2 (by first | assumption | exact hv.1 _ _ _ (by assumption))) (by first | exact zi_n _ | rfl) (by first | exact zi_f _ | rfl) (Nat.le_of_ble_eq_true rfl) ?_
          refine rw_hh (cs_r8 hv.2 (by first | assumption | exact hv.1 _ _ _ (by assumption))) ?_
          exact r_vret C dp hr dc_R_workOn_63 (Nat.le_refl _) ⟨rfl, by unfold wkQ wkZ; rw [if_neg (fun h => h.elim c29 (fun h => c45 h.2)), ur_ur, ur_eq, h9], rfl⟩
        ·
          first | refine r_aload_n C dc_R_workOn_48 rfl rfl ?_ | refine r_aload_nq C dc_R_workOn_48 rfl rfl ?_
          first | refine r_aload_n C dc_R_workOn_49 rfl rfl ?_ | refine r_aload_nq C dc_R_workOn_49 rfl rfl ?_
          refine r_get C dc_R_workOn_50 fl_R_21 (ch_rq hv.2 (by first | assumption | exact hv.1 _ _ _ (by assumption))) rfl ?_
          refine sb_at (P := fun v => Rw _ _ _ _ _ _ _ _ _ _ _ _ _ _ _ _ _ _ _ _ (.int v :: _)) (show _ = q a 2 from rq_f (by decide)) ?_
          refine sb_at (P := fun v => Rw _ _ _ _ _ _ _ _ _ _ _ _ _ _ _ _ _ _ _ _ (.int v :: _)) hwd ?_
          first | refine r_aload_n C dc_R_workOn_53 rfl rfl ?_ | refine r_aload_nq C dc_R_workOn_53 rfl rfl ?_
          refine r_get C dc_R_workOn_54 fl_R_27 (ch_rq hv.2 (by first | assumption | exact hv.1 _ _ _ (by assumption))) rfl ?_
          refine sb_at (P := fun v => Rw _ _ _ _ _ _ _ _ _ _ _ _ _ _ _ _ _ _ _ _ (.int v :: _)) (show _ = q a 4 from rq_f (by decide)) ?_
          refine r_iast C dc_R_workOn_57 (ch_words (by omega)) rfl (by omega) (by decide) ?_
          refine rw_hh (cs_w (by omega)) ?_
          first | refine r_aload_n C dc_R_workOn_58 rfl rfl ?_ | refine r_aload_nq C dc_R_workOn_58 rfl rfl ?_
          refine r_iconst (v := nI 1) C dc_R_workOn_59 (by decide) ?_
          refine r_put C dc_R_workOn_60 fl_R_36 (ch_rq hv.2 (by first | assumption | exact hv.1 _ _ _ (by assumption))) (by first | exact zi_n _ | rfl) (by first | exact zi_f _ | rfl) (Nat.le_of_ble_eq_true rfl) ?_
          refine rw_hh (cs_r8 hv.2 (by first | assumption | exact hv.1 _ _ _ (by assumption))) ?_
          exact r_vret C dp hr dc_R_workOn_63 (Nat.le_refl _) ⟨rfl, by unfold wkQ wkZ; rw [if_pos (Or.inr ⟨c37, c45⟩), ur_ur, ur_eq, h9], rfl⟩
  first | refine r_aload_n C dc_R_workOn_0 rfl rfl ?_ | refine r_aload_nq C dc_R_workOn_0 rfl rfl ?_
  first | refine r_aload_n C dc_R_workOn_1 rfl rfl ?_ | refine r_aload_nq C dc_R_workOn_1 rfl rfl ?_
  refine r_get C dc_R_workOn_2 fl_R_21 (ch_rq hv.2 (by first | assumption | exact hv.1 _ _ _ (by assumption))) rfl ?_
  refine sb_at (P := fun v => Rw _ _ _ _ _ _ _ _ _ _ _ _ _ _ _ _ _ _ _ _ (.int v :: _)) hwd ?_
  refine r_ialdN C dc_R_workOn_5 (ch_words (by omega)) (by omega) (by decide) ?_
  refine r_istore_n C dc_R_workOn_6 rfl (by decide) (nw_of rfl) ?_
  first | refine r_aload_n C dc_R_workOn_7 rfl rfl ?_ | refine r_aload_nq C dc_R_workOn_7 rfl rfl ?_
  first | refine r_aload_n C dc_R_workOn_8 rfl rfl ?_ | refine r_aload_nq C dc_R_workOn_8 rfl rfl ?_
  refine r_get C dc_R_workOn_9 fl_R_18 (ch_rq hv.2 (by first | assumption | exact hv.1 _ _ _ (by assumption))) rfl ?_
  refine r_iconst (v := nI 1) C dc_R_workOn_12 (by decide) ?_
  refine r_icmp_ne (tgt := 20) C dc_R_workOn_13 (by decide) (fun c13 => ?_) (fun c13 => ?_)
  ·
    refine r_iload_n C dc_R_workOn_20 rfl rfl ?_
    refine r_put C dc_R_workOn_21 fl_R_33 (ch_rq hv.2 (by first | assumption | exact hv.1 _ _ _ (by assumption))) rfl rfl (Nat.le_of_ble_eq_true rfl) ?_
    refine rw_hh (cs_r9 hv.2 (by first | assumption | exact hv.1 _ _ _ (by assumption))) ?_
    refine r_weak ?_ (tail _ (if_neg c13).symm)
    exact wl_c (rfl) (wl_c (rfl) (wl_c (rfl) (wl_n)))
  ·
    refine r_iconst (v := nI 0) C dc_R_workOn_16 (by decide) ?_
    refine r_goto (tgt := 21) C dc_R_workOn_17 (by decide) ?_
    refine r_put C dc_R_workOn_21 fl_R_33 (ch_rq hv.2 (by first | assumption | exact hv.1 _ _ _ (by assumption))) rfl rfl (Nat.le_of_ble_eq_true rfl) ?_
    refine rw_hh (cs_r9 hv.2 (by first | assumption | exact hv.1 _ _ _ (by assumption))) ?_
    refine r_weak ?_ (tail _ (if_pos c13).symm)
    exact wl_c (rfl) (wl_c (rfl) (wl_c (rfl) (wl_n)))
set_option maxRecDepth 4000 in
set_option maxHeartbeats 1000000 in
theorem k_N_waits (hl : l.stackTraces = false) {i lb : Nat} (hi : i < 12) (hlb : lb < 4) (hv : RV b r S) : Ct l D A G my_N_waits cd_N_waits 2 (some (.boolean)) df 0 0 [.ref (b + 8 + 5 * i), .int (nI lb)] (CH A b z r (RH S q h)) n (fun v h' n' => v = some (.int (zi (cW q (r (12 + i) lb)))) ∧ h' = CH A b z r (RH S q h) ∧ n' = n) (fun _ _ _ => False) := by
  refine Ct.of (by decide) hl (Nat.le_of_ble_eq_true rfl) ?_
  intro p e s m args below meth c C hr hnm ht dp
  first | refine r_aload_n C dc_N_waits_0 rfl rfl ?_ | refine r_aload_nq C dc_N_waits_0 rfl rfl ?_
  refine r_get C dc_N_waits_1 fl_N_24 (ch_node (by omega)) rfl ?_
  refine r_iload_n C dc_N_waits_4 rfl rfl ?_
  refine r_aaldN C dc_N_waits_5 (ch_labels (by omega)) rfl (by omega) (by decide) ?_
  refine r_ifnull (tgt := 26) C dc_N_waits_6 (by decide) (fun c6 => ?_) (fun k6 c6 => ?_)
  ·
    have e1 : cW q (r (12 + i) lb) = false := by rw [c6]; rfl
    refine r_iconst (v := nI 0) C dc_N_waits_26 (by decide) ?_
    exact r_zret (v := zi false) C dp hr dc_N_waits_27 (zi_01 _) (Nat.le_refl _) ⟨by rw [e1], rfl, rfl⟩
  ·
    first | refine r_aload_n C dc_N_waits_9 rfl rfl ?_ | refine r_aload_nq C dc_N_waits_9 rfl rfl ?_
    refine r_get C dc_N_waits_10 fl_N_24 (ch_node (by omega)) rfl ?_
    refine r_iload_n C dc_N_waits_13 rfl rfl ?_
    refine r_aaldN C dc_N_waits_14 (ch_labels (by omega)) rfl (by omega) (by decide) ?_
    refine sb_av (P := fun v => Rw _ _ _ _ _ _ _ _ _ _ _ _ _ _ _ _ _ _ _ _ (v :: _)) (show va_rf (r (12 + i) lb) = .ref k6 from by rw [c6]; rfl) ?_
    refine r_get C dc_N_waits_15 fl_N_68 (ch_rq hv.2 (by first | assumption | exact hv.1 _ _ _ (by assumption))) rfl ?_
    refine r_iconst (v := -1) C dc_N_waits_18 (by decide) ?_
    refine r_icmp_ne (tgt := 26) C dc_N_waits_19 (by decide) (fun c19 => ?_) (fun c19 => ?_)
    ·
      have e1 : cW q (r (12 + i) lb) = false := by rw [c6]; exact decide_eq_false c19
      refine r_iconst (v := nI 0) C dc_N_waits_26 (by decide) ?_
      exact r_zret (v := zi false) C dp hr dc_N_waits_27 (zi_01 _) (Nat.le_refl _) ⟨by rw [e1], rfl, rfl⟩
    ·
      have e1 : cW q (r (12 + i) lb) = true := by rw [c6]; exact decide_eq_true c19
      refine r_iconst (v := nI 1) C dc_N_waits_22 (by decide) ?_
      refine r_goto (tgt := 27) C dc_N_waits_23 (by decide) ?_
      exact r_zret (v := zi true) C dp hr dc_N_waits_27 (zi_01 _) (Nat.le_refl _) ⟨by rw [e1], rfl, rfl⟩
set_option maxRecDepth 4000 in
set_option maxHeartbeats 1000000 in
theorem k_N_least (hl : l.stackTraces = false) {i : Nat} (hi : i < 12) (hv : RV b r S) : Ct l D A G my_N_leastLabelThatDoesNotWait cd_N_leastLabelThatDoesNotWait 2 (some (.int)) (df + 1) 0 0 [.ref (b + 8 + 5 * i)] (CH A b z r (RH S q h)) n (fun v h' n' => v = some (.int (oi (fstF (fun k => !cW q (r (12 + i) k)) 4 0))) ∧ h' = CH A b z r (RH S q h) ∧ n' = n) (fun _ _ _ => False) := by
  refine Ct.of (by decide) hl (Nat.le_of_ble_eq_true rfl) ?_
  intro p e s m args below meth c C hr hnm ht dp
  have lp : ∀ k, k ≤ 4 → fstF (fun k => !cW q (r (12 + i) k)) 4 0 = fstF (fun k => !cW q (r (12 + i) k)) (4 - k) k → Rw p l e (cR (df + 1) 0 0) s m args below meth c (CQ D G n (fun v h' n' => v = some (.int (oi (fstF (fun k => !cW q (r (12 + i) k)) 4 0))) ∧ h' = CH A b z r (RH S q h) ∧ n' = n) (fun _ _ _ => False) below args s 0 0) D G 2 0 0 (CH A b z r (RH S q h)) n [(0, .ref (b + 8 + 5 * i)), (1, .int (nI k))] 2 [] := by
    refine r_loop 4 _ ?_ ?_
    ·
      intro hpre
      refine r_iload_n C dc_N_leastLabelThatDoesNotWait_2 rfl rfl ?_
      refine r_iconst (v := nI 4) C dc_N_leastLabelThatDoesNotWait_3 (by decide) ?_
      refine r_icmp_geN (tgt := 23) C dc_N_leastLabelThatDoesNotWait_4 (by decide) (by omega) (by omega) (fun c4 => ?_) (fun c4 => ?_)
      ·
        refine r_iconst (v := -1) C dc_N_leastLabelThatDoesNotWait_23 (by decide) ?_
        have e1 : fstF (fun k => !cW q (r (12 + i) k)) 4 0 = none := hpre.trans fst_n
        exact r_iret C dp hr dc_N_leastLabelThatDoesNotWait_24 (Nat.le_refl _) ⟨by rw [e1]; rfl, rfl, rfl⟩
      · exact absurd c4 (by omega)
    ·
      intro k hk ih hpre
      refine r_iload_n C dc_N_leastLabelThatDoesNotWait_2 rfl rfl ?_
      refine r_iconst (v := nI 4) C dc_N_leastLabelThatDoesNotWait_3 (by decide) ?_
      refine r_icmp_geN (tgt := 23) C dc_N_leastLabelThatDoesNotWait_4 (by decide) (by omega) (by omega) (fun c4 => ?_) (fun c4 => ?_)
      · exact absurd c4 (by omega)
      ·
        first | refine r_aload_n C dc_N_leastLabelThatDoesNotWait_7 rfl rfl ?_ | refine r_aload_nq C dc_N_leastLabelThatDoesNotWait_7 rfl rfl ?_
        refine r_iload_n C dc_N_leastLabelThatDoesNotWait_8 rfl rfl ?_
        refine r_callV C dp dc_N_leastLabelThatDoesNotWait_9 cw_N_64 cm_N_waits cv_N_waits rfl (ch_node hi) (k_N_waits (df := df) (lb := k) hl hi hk hv) (by omega) rfl rfl (Nat.le_of_ble_eq_true rfl) (fun v9 h9 n9 q9 z9 => ?_) (fun _ _ _ _ z => z.elim)
        obtain ⟨y9, y9h, y9n⟩ := z9
        rw [y9, y9h, y9n]
        refine r_if_neZ (tgt := 17) C dc_N_leastLabelThatDoesNotWait_12 (by decide) (fun c12 => ?_) (fun c12 => ?_)
        ·
          first | refine r_iincN C dc_N_leastLabelThatDoesNotWait_17 rfl (by decide) (nw_of rfl) ?_ | refine r_iinc C dc_N_leastLabelThatDoesNotWait_17 rfl rfl (by decide) (nw_of rfl) ?_
          refine r_goto (tgt := 2) C dc_N_leastLabelThatDoesNotWait_20 (by decide) ?_
          refine r_weak ?_ (ih (hpre.trans (fst_0 (P := fun k => !cW q (r (12 + i) k)) hk (by show (!cW q (r (12 + i) k)) = false; rw [c12]; rfl))))
          exact wl_c (rfl) (wl_c (rfl) (wl_n))
        ·
          refine r_iload_n C dc_N_leastLabelThatDoesNotWait_15 rfl rfl ?_
          have e1 : fstF (fun k => !cW q (r (12 + i) k)) 4 0 = some k := hpre.trans (fst_1 (P := fun k => !cW q (r (12 + i) k)) hk (by show (!cW q (r (12 + i) k)) = true; rw [c12]; rfl))
          exact r_iret C dp hr dc_N_leastLabelThatDoesNotWait_16 (Nat.le_refl _) ⟨by rw [e1]; rfl, rfl, rfl⟩
  refine r_iconst (v := nI 0) C dc_N_leastLabelThatDoesNotWait_0 (by decide) ?_
  refine r_istore_n C dc_N_leastLabelThatDoesNotWait_1 rfl (by decide) (nw_of rfl) ?_
  refine r_weak ?_ (lp 0 (by omega) rfl)
  exact wl_c (rfl) (wl_c (rfl) (wl_n))
set_option maxRecDepth 4000 in
set_option maxHeartbeats 1000000 in
theorem k_N_waiting (hl : l.stackTraces = false) {i : Nat} (hi : i < 12) (hv : RV b r S) : Ct l D A G my_N_waitingRequests cd_N_waitingRequests 3 (some (.int)) (df + 1) 0 0 [.ref (b + 8 + 5 * i)] (CH A b z r (RH S q h)) n (fun v h' n' => v = some (.int (nI (cntT (fun k => cW q (r (12 + i) k)) 4))) ∧ h' = CH A b z r (RH S q h) ∧ n' = n) (fun _ _ _ => False) := by
  refine Ct.of (by decide) hl (Nat.le_of_ble_eq_true rfl) ?_
  intro p e s m args below meth c C hr hnm ht dp
  have lp : ∀ k, k ≤ 4 → Rw p l e (cR (df + 1) 0 0) s m args below meth c (CQ D G n (fun v h' n' => v = some (.int (nI (cntT (fun k => cW q (r (12 + i) k)) 4))) ∧ h' = CH A b z r (RH S q h) ∧ n' = n) (fun _ _ _ => False) below args s 0 0) D G 3 0 0 (CH A b z r (RH S q h)) n [(0, .ref (b + 8 + 5 * i)), (1, .int (nI (cntT (fun k => cW q (r (12 + i) k)) k))), (2, .int (nI k))] 4 [] := by
    refine r_loop 4 _ ?_ ?_
    ·
      refine r_iload_n C dc_N_waitingRequests_4 rfl rfl ?_
      refine r_iconst (v := nI 4) C dc_N_waitingRequests_5 (by decide) ?_
      refine r_icmp_geN (tgt := 26) C dc_N_waitingRequests_6 (by decide) (by omega) (by omega) (fun c6 => ?_) (fun c6 => ?_)
      ·
        refine r_iload_n C dc_N_waitingRequests_26 rfl rfl ?_
        exact r_iret C dp hr dc_N_waitingRequests_27 (Nat.le_refl _) ⟨rfl, rfl, rfl⟩
      · exact absurd c6 (by omega)
    ·
      intro k hk ih
      refine r_iload_n C dc_N_waitingRequests_4 rfl rfl ?_
      refine r_iconst (v := nI 4) C dc_N_waitingRequests_5 (by decide) ?_
      refine r_icmp_geN (tgt := 26) C dc_N_waitingRequests_6 (by decide) (by omega) (by omega) (fun c6 => ?_) (fun c6 => ?_)
      · exact absurd c6 (by omega)
      ·
        first | refine r_aload_n C dc_N_waitingRequests_9 rfl rfl ?_ | refine r_aload_nq C dc_N_waitingRequests_9 rfl rfl ?_
        refine r_iload_n C dc_N_waitingRequests_10 rfl rfl ?_
        refine r_callV C dp dc_N_waitingRequests_11 cw_N_64 cm_N_waits cv_N_waits rfl (ch_node hi) (k_N_waits (df := df) (lb := k) hl hi hk hv) (by omega) rfl rfl (Nat.le_of_ble_eq_true rfl) (fun v11 h11 n11 q11 z11 => ?_) (fun _ _ _ _ z => z.elim)
        obtain ⟨y11, y11h, y11n⟩ := z11
        rw [y11, y11h, y11n]
        refine r_if_eqZ (tgt := 20) C dc_N_waitingRequests_14 (by decide) (fun c14 => ?_) (fun c14 => ?_)
        ·
          first | refine r_iincN C dc_N_waitingRequests_20 rfl (by decide) (nw_of rfl) ?_ | refine r_iinc C dc_N_waitingRequests_20 rfl rfl (by decide) (nw_of rfl) ?_
          refine r_goto (tgt := 4) C dc_N_waitingRequests_23 (by decide) ?_
          refine r_weak ?_ (ih)
          exact wl_c (rfl) (wl_c (by rw [cnt_0 (P := fun k => cW q (r (12 + i) k)) c14]; rfl) (wl_c (rfl) (wl_n)))
        ·
          first | refine r_iincN C dc_N_waitingRequests_17 rfl (by decide) (nw_of rfl) ?_ | refine r_iinc C dc_N_waitingRequests_17 rfl rfl (by decide) (nw_of rfl) ?_
          first | refine r_iincN C dc_N_waitingRequests_20 rfl (by decide) (nw_of rfl) ?_ | refine r_iinc C dc_N_waitingRequests_20 rfl rfl (by decide) (nw_of rfl) ?_
          refine r_goto (tgt := 4) C dc_N_waitingRequests_23 (by decide) ?_
          refine r_weak ?_ (ih)
          exact wl_c (rfl) (wl_c (by rw [cnt_1 (P := fun k => cW q (r (12 + i) k)) c14]; rfl) (wl_c (rfl) (wl_n)))
  refine r_iconst (v := nI 0) C dc_N_waitingRequests_0 (by decide) ?_
  refine r_istore_n C dc_N_waitingRequests_1 rfl (by decide) (nw_of rfl) ?_
  refine r_iconst (v := nI 0) C dc_N_waitingRequests_2 (by decide) ?_
  refine r_istore_n C dc_N_waitingRequests_3 rfl (by decide) (nw_of rfl) ?_
  refine r_weak ?_ (lp 0 (by omega))
  exact wl_c (rfl) (wl_c (rfl) (wl_c (rfl) (wl_n)))
set_option maxRecDepth 4000 in
set_option maxHeartbeats 1000000 in
theorem k_N_takeBit (hl : l.stackTraces = false) {i pl : Nat} (hi : i < 12) (hp : z 4 i = nI pl) (hp16 : pl < 16) : Ct l D A G my_N_takeBit cd_N_takeBit 2 (some (.int)) df 0 0 [.ref (b + 8 + 5 * i)] (CH A b z r (RH S q h)) n (fun v h' n' => v = some (.int (mNB z i).1) ∧ h' = CH A b ((mNB z i).2) r (RH S q h) ∧ n' = n) (fun _ _ _ => False) := by
  refine Ct.of (by decide) hl (Nat.le_of_ble_eq_true rfl) ?_
  intro p e s m args below meth c C hr hnm ht dp
  first | refine r_aload_n C dc_N_takeBit_0 rfl rfl ?_ | refine r_aload_nq C dc_N_takeBit_0 rfl rfl ?_
  refine r_get C dc_N_takeBit_1 fl_N_58 (ch_node (by omega)) rfl ?_
  first | refine r_aload_n C dc_N_takeBit_4 rfl rfl ?_ | refine r_aload_nq C dc_N_takeBit_4 rfl rfl ?_
  refine r_get C dc_N_takeBit_5 fl_N_61 (ch_node (by omega)) rfl ?_
  refine r_ishr C dc_N_takeBit_8 ?_
  refine r_iconst (v := nI 1) C dc_N_takeBit_9 (by decide) ?_
  refine r_iand C dc_N_takeBit_10 ?_
  refine r_istore_n C dc_N_takeBit_11 rfl (by decide) (nw_of rfl) ?_
  first | refine r_aload_n C dc_N_takeBit_12 rfl rfl ?_ | refine r_aload_nq C dc_N_takeBit_12 rfl rfl ?_
  first | refine r_aload_n C dc_N_takeBit_13 rfl rfl ?_ | refine r_aload_nq C dc_N_takeBit_13 rfl rfl ?_
  refine r_get C dc_N_takeBit_14 fl_N_61 (ch_node (by omega)) rfl ?_
  refine sb_at (P := fun v => Rw _ _ _ _ _ _ _ _ _ _ _ _ _ _ _ _ _ _ _ _ (.int v :: _)) hp ?_
  refine r_iconst (v := nI 1) C dc_N_takeBit_17 (by decide) ?_
  first | refine r_iaddN C dc_N_takeBit_18 ?_ | refine r_iadd C dc_N_takeBit_18 ?_
  refine r_bipush (v := nI 16) C dc_N_takeBit_19 (by decide) ?_
  first | refine r_iremN C dc_N_takeBit_21 (by omega) (by decide) (by decide) ?_ | refine r_irem C dc_N_takeBit_21 (by decide) ?_
  refine r_put C dc_N_takeBit_22 fl_N_61 (ch_node (by omega)) rfl rfl (Nat.le_of_ble_eq_true rfl) ?_
  refine rw_hh (cs_n4 (by omega)) ?_
  refine r_iload_n C dc_N_takeBit_25 rfl rfl ?_
  exact r_iret C dp hr dc_N_takeBit_26 (Nat.le_refl _) ⟨rfl, by unfold mNB; rw [hp, cl_nI (by omega)], rfl⟩
set_option maxRecDepth 4000 in
set_option maxHeartbeats 1000000 in
theorem k_N_learn (hl : l.stackTraces = false) {i : Nat} {lp : Bool} {rt mg : Int32} (hi : i < 12) : Ct l D A G my_N_learn cd_N_learn 4 none df 0 0 [.ref (b + 8 + 5 * i), .int (zi lp), .int rt, .int mg] (CH A b z r (RH S q h)) n (fun v h' n' => v = none ∧ h' = CH A b (bif lp then ur (ur (ur (ur z 12 (upd (z 12) i (zi lp))) 15 (upd (z 15) i rt)) 16 (upd (z 16) i mg)) 14 (upd (z 14) i (-1)) else ur (ur (ur z 12 (upd (z 12) i (zi lp))) 15 (upd (z 15) i rt)) 16 (upd (z 16) i mg)) r (RH S q h) ∧ n' = n) (fun _ _ _ => False) := by
  refine Ct.of (by decide) hl (Nat.le_of_ble_eq_true rfl) ?_
  intro p e s m args below meth c C hr hnm ht dp
  first | refine r_aload_n C dc_N_learn_0 rfl rfl ?_ | refine r_aload_nq C dc_N_learn_0 rfl rfl ?_
  refine r_iload_n C dc_N_learn_1 rfl rfl ?_
  refine r_put C dc_N_learn_2 fl_N_55 (ch_node (by omega)) (by first | exact zi_n _ | rfl) (by first | exact zi_f _ | rfl) (Nat.le_of_ble_eq_true rfl) ?_
  refine rw_hh (cs_n12 (by omega)) ?_
  first | refine r_aload_n C dc_N_learn_5 rfl rfl ?_ | refine r_aload_nq C dc_N_learn_5 rfl rfl ?_
  refine r_iload_n C dc_N_learn_6 rfl rfl ?_
  refine r_put C dc_N_learn_7 fl_N_39 (ch_node (by omega)) rfl rfl (Nat.le_of_ble_eq_true rfl) ?_
  refine rw_hh (cs_n15 (by omega)) ?_
  first | refine r_aload_n C dc_N_learn_10 rfl rfl ?_ | refine r_aload_nq C dc_N_learn_10 rfl rfl ?_
  refine r_iload_n C dc_N_learn_11 rfl rfl ?_
  refine r_put C dc_N_learn_12 fl_N_42 (ch_node (by omega)) rfl rfl (Nat.le_of_ble_eq_true rfl) ?_
  refine rw_hh (cs_n16 (by omega)) ?_
  refine r_iload_n C dc_N_learn_15 rfl rfl ?_
  refine r_if_eqZ (tgt := 24) C dc_N_learn_16 (by decide) (fun c16 => ?_) (fun c16 => ?_)
  ·
    exact r_vret C dp hr dc_N_learn_24 (Nat.le_refl _) ⟨rfl, by rw [c16]; rfl, rfl⟩
  ·
    first | refine r_aload_n C dc_N_learn_19 rfl rfl ?_ | refine r_aload_nq C dc_N_learn_19 rfl rfl ?_
    refine r_iconst (v := -1) C dc_N_learn_20 (by decide) ?_
    refine r_put C dc_N_learn_21 fl_N_36 (ch_node (by omega)) rfl rfl (Nat.le_of_ble_eq_true rfl) ?_
    refine rw_hh (cs_n14 (by omega)) ?_
    exact r_vret C dp hr dc_N_learn_24 (Nat.le_refl _) ⟨rfl, by rw [c16]; rfl, rfl⟩
end Cls2
