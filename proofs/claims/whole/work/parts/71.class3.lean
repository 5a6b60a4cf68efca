def sR (z : Nat → Nat → Int32) (k i : Nat) (v : Int32) : Nat → Nat → Int32 := ur z k (upd (z k) i v)
def stZ (z : Nat → Nat → Int32) (i : Nat) : Nat → Nat → Int32 := sR (sR (sR (sR (sR (sR (sR z 17 i (nI 0)) 10 i (nI 0)) (100 + i) 6 (nI 100)) (100 + i) 7 (-1)) 13 i (-1)) 14 i (-1)) 11 i (nI 0)
theorem rEnd_f {q : Nat → Nat → Int32} {a c k : Nat} {v : Int32} (h : k ≠ 6) : rEnd q a v c k = q c k := by
  unfold rEnd
  split
  · by_cases e : c = a
    · rw [e, ur_eq]; exact pk_un h
    · rw [ur_ne e]
  · rfl
theorem lt1_n {c : CS} {i k : Nat} (h : c.2.1 (12 + i) k = none) : lt1 c i k = c := by
  unfold lt1
  rw [h]
theorem lt1_w {c : CS} {i k a : Nat} (h : c.2.1 (12 + i) k = some a) (hw : ¬ (c.2.2 a 6 = -1 ∧ c.2.2 a 5 ≤ c.1 35 0)) : lt1 c i k = c := by
  unfold lt1
  rw [h]
  exact if_neg hw
theorem lt1_a {c : CS} {i k a : Nat} (h : c.2.1 (12 + i) k = some a) (hw : c.2.2 a 6 = -1 ∧ c.2.2 a 5 ≤ c.1 35 0) (h8 : ¬ c.2.2 a 8 = 0) : lt1 c i k = (c.1, c.2.1, rEnd c.2.2 a (nI 4)) := by
  unfold lt1
  rw [h]
  exact (if_pos hw).trans (if_neg h8)
theorem lt1_d {c : CS} {i k a : Nat} (h : c.2.1 (12 + i) k = some a) (hw : c.2.2 a 6 = -1 ∧ c.2.2 a 5 ≤ c.1 35 0) (h8 : c.2.2 a 8 = 0) : lt1 c i k = (match qFnd (c.2.1 i) (some a) (cl (c.1 17 i)) 0 with
    | none => (c.1, c.2.1, rEnd c.2.2 a (nI 4))
    | some g => (ur c.1 17 (upd (c.1 17) i (nI (cl (c.1 17 i) - 1))), ur c.2.1 i (qRem (c.2.1 i) g (cl (c.1 17 i))), rEnd c.2.2 a (nI 4))) := by
  unfold lt1
  rw [h]
  exact (if_pos hw).trans (if_pos h8)
/-- what the class's rows keep -/
def Cok (b : Nat) (S : Nat → Bool) (c : CS) : Prop := RV b c.2.1 S ∧ ∀ i, i < 12 → ∃ sz, sz ≤ 6 ∧ c.1 17 i = nI sz
theorem lt1_ok {b : Nat} {S : Nat → Bool} {c : CS} {i k : Nat} (hi : i < 12) (h : Cok b S c) : Cok b S (lt1 c i k) ∧ (lt1 c i k).1 35 = c.1 35 ∧ ∀ j, 12 ≤ j → (lt1 c i k).2.1 j = c.2.1 j := by
  cases e : c.2.1 (12 + i) k with
  | none => rw [lt1_n e]; exact ⟨h, rfl, fun _ _ => rfl⟩
  | some a =>
    by_cases hw : c.2.2 a 6 = -1 ∧ c.2.2 a 5 ≤ c.1 35 0
    · by_cases h8 : c.2.2 a 8 = 0
      · rw [lt1_d e hw h8]
        cases eg : qFnd (c.2.1 i) (some a) (cl (c.1 17 i)) 0 with
        | none => exact ⟨h, rfl, fun _ _ => rfl⟩
        | some g =>
          refine ⟨⟨h.1.row (qRem_S (fun j a e => h.1.1 _ _ _ e) _ _), fun t ht => ?_⟩, show ur c.1 17 (upd (c.1 17) i (nI (cl (c.1 17 i) - 1))) 35 = c.1 35 from ur_ne (by decide), fun j hj => ur_ne (by omega)⟩
          by_cases et : t = i
          · obtain ⟨sz, h1, h2⟩ := h.2 i hi
            refine ⟨sz - 1, by omega, ?_⟩
            show ur c.1 17 (upd (c.1 17) i (nI (cl (c.1 17 i) - 1))) 17 t = _
            rw [ur_eq, et, pk_us, h2, cl_nI (by omega)]
          · obtain ⟨sz, h1, h2⟩ := h.2 t ht
            refine ⟨sz, h1, ?_⟩
            show ur c.1 17 (upd (c.1 17) i (nI (cl (c.1 17 i) - 1))) 17 t = _
            rw [ur_eq, pk_un et]; exact h2
      · rw [lt1_a e hw h8]; exact ⟨h, rfl, fun _ _ => rfl⟩
    · rw [lt1_w e hw]; exact ⟨h, rfl, fun _ _ => rfl⟩
theorem nLt_ok {b : Nat} {S : Nat → Bool} {c : CS} {i : Nat} (hi : i < 12) (h : Cok b S c) : ∀ k, Cok b S (nLt c i k) ∧ (nLt c i k).1 35 = c.1 35 ∧ ∀ j, 12 ≤ j → (nLt c i k).2.1 j = c.2.1 j := by
  intro k
  induction k with
  | zero => exact ⟨h, rfl, fun _ _ => rfl⟩
  | succ k ih =>
    have h1 := lt1_ok (k := k) hi ih.1
    exact ⟨h1.1, h1.2.1.trans ih.2.1, fun j hj => (h1.2.2 j hj).trans (ih.2.2 j hj)⟩
theorem cLt_ok {b : Nat} {S : Nat → Bool} {c : CS} (h : Cok b S c) : ∀ i, i ≤ 12 → Cok b S (cLt c i) ∧ (cLt c i).1 35 = c.1 35 := by
  intro i
  induction i with
  | zero => intro _; exact ⟨h, rfl⟩
  | succ i ih =>
    intro hi
    have h1 := nLt_ok (i := i) (by omega) (ih (by omega)).1 4
    exact ⟨h1.1, h1.2.1.trans (ih (by omega)).2⟩
section Cls3
variable {l : Launch} {D : va_G} {A : Nat → ClassId} {G : Heap} {b n df : Nat} {z : Nat → Nat → Int32} {r : Nat → Nat → Option Nat} {S : Nat → Bool} {q : Nat → Nat → Int32} {h : Hp}
set_option maxRecDepth 4000 in
set_option maxHeartbeats 1000000 in
theorem k_N_startAnew (hl : l.stackTraces = false) {i : Nat} (hi : i < 12) (hv : RV b r S) : Ct l D A G my_N_startAnew cd_N_startAnew 2 none (df + 1) 0 0 [.ref (b + 8 + 5 * i)] (CH A b z r (RH S q h)) n (fun v h' n' => v = none ∧ h' = CH A b (stZ z i) (ur r i (qEmp 6 (r i))) (RH S (rSt r q i 4) h) ∧ n' = n) (fun _ _ _ => False) := by
  refine Ct.of (by decide) hl (Nat.le_of_ble_eq_true rfl) ?_
  intro p e s m args below meth c C hr hnm ht dp
  have lp : ∀ k, k ≤ 4 → Rw p l e (cR (df + 1) 0 0) s m args below meth c (CQ D G n (fun v h' n' => v = none ∧ h' = CH A b (stZ z i) (ur r i (qEmp 6 (r i))) (RH S (rSt r q i 4) h) ∧ n' = n) (fun _ _ _ => False) below args s 0 0) D G 2 0 0 (CH A b z r (RH S (rSt r q i k) h)) n [(0, .ref (b + 8 + 5 * i)), (1, .int (nI k))] 2 [] := by
    refine r_loop 4 _ ?_ ?_
    ·
      refine r_iload_n C dc_N_startAnew_2 rfl rfl ?_
      refine r_iconst (v := nI 4) C dc_N_startAnew_3 (by decide) ?_
      refine r_icmp_geN (tgt := 32) C dc_N_startAnew_4 (by decide) (by omega) (by omega) (fun c4 => ?_) (fun c4 => ?_)
      ·
        first | refine r_aload_n C dc_N_startAnew_32 rfl rfl ?_ | refine r_aload_nq C dc_N_startAnew_32 rfl rfl ?_
        refine r_get C dc_N_startAnew_33 fl_N_18 (ch_node (by omega)) rfl ?_
        refine r_callV C dp dc_N_startAnew_36 cw_N_49 cm_Q_empty cv_Q_empty rfl (ch_queue hi) (k_Q_empty (df := df) hl hi) (by omega) rfl rfl (Nat.le_of_ble_eq_true rfl) (fun v36 h36 n36 q36 z36 => ?_) (fun _ _ _ _ z => z.elim)
        obtain ⟨y36, y36h, y36n⟩ := z36
        rw [y36, y36h, y36n]
        first | refine r_aload_n C dc_N_startAnew_39 rfl rfl ?_ | refine r_aload_nq C dc_N_startAnew_39 rfl rfl ?_
        refine r_iconst (v := nI 0) C dc_N_startAnew_40 (by decide) ?_
        refine r_put C dc_N_startAnew_41 fl_N_52 (ch_node (by omega)) (by first | exact zi_n _ | rfl) (by first | exact zi_f _ | rfl) (Nat.le_of_ble_eq_true rfl) ?_
        refine rw_hh (cs_n10 (by omega)) ?_
        first | refine r_aload_n C dc_N_startAnew_44 rfl rfl ?_ | refine r_aload_nq C dc_N_startAnew_44 rfl rfl ?_
        refine r_get C dc_N_startAnew_45 fl_N_9 (ch_node (by omega)) rfl ?_
        refine r_bipush (v := nI 6) C dc_N_startAnew_48 (by decide) ?_
        refine r_bipush (v := nI 100) C dc_N_startAnew_50 (by decide) ?_
        refine r_iast C dc_N_startAnew_52 (ch_words (by omega)) rfl (by omega) (by decide) ?_
        refine rw_hh (cs_w (by omega)) ?_
        first | refine r_aload_n C dc_N_startAnew_53 rfl rfl ?_ | refine r_aload_nq C dc_N_startAnew_53 rfl rfl ?_
        refine r_get C dc_N_startAnew_54 fl_N_9 (ch_node (by omega)) rfl ?_
        refine r_bipush (v := nI 7) C dc_N_startAnew_57 (by decide) ?_
        refine r_iconst (v := -1) C dc_N_startAnew_59 (by decide) ?_
        refine r_iast C dc_N_startAnew_60 (ch_words (by omega)) rfl (by omega) (by decide) ?_
        refine rw_hh (cs_w (by omega)) ?_
        first | refine r_aload_n C dc_N_startAnew_61 rfl rfl ?_ | refine r_aload_nq C dc_N_startAnew_61 rfl rfl ?_
        refine r_iconst (v := -1) C dc_N_startAnew_62 (by decide) ?_
        refine r_put C dc_N_startAnew_63 fl_N_32 (ch_node (by omega)) rfl rfl (Nat.le_of_ble_eq_true rfl) ?_
        refine rw_hh (cs_n13 (by omega)) ?_
        first | refine r_aload_n C dc_N_startAnew_66 rfl rfl ?_ | refine r_aload_nq C dc_N_startAnew_66 rfl rfl ?_
        refine r_iconst (v := -1) C dc_N_startAnew_67 (by decide) ?_
        refine r_put C dc_N_startAnew_68 fl_N_36 (ch_node (by omega)) rfl rfl (Nat.le_of_ble_eq_true rfl) ?_
        refine rw_hh (cs_n14 (by omega)) ?_
        first | refine r_aload_n C dc_N_startAnew_71 rfl rfl ?_ | refine r_aload_nq C dc_N_startAnew_71 rfl rfl ?_
        refine r_iconst (v := nI 0) C dc_N_startAnew_72 (by decide) ?_
        refine r_put C dc_N_startAnew_73 fl_N_28 (ch_node (by omega)) (by first | exact zi_n _ | rfl) (by first | exact zi_f _ | rfl) (Nat.le_of_ble_eq_true rfl) ?_
        refine rw_hh (cs_n11 (by omega)) ?_
        exact r_vret C dp hr dc_N_startAnew_76 (Nat.le_refl _) ⟨rfl, rfl, rfl⟩
      · exact absurd c4 (by omega)
    ·
      intro k hk ih
      refine r_iload_n C dc_N_startAnew_2 rfl rfl ?_
      refine r_iconst (v := nI 4) C dc_N_startAnew_3 (by decide) ?_
      refine r_icmp_geN (tgt := 32) C dc_N_startAnew_4 (by decide) (by omega) (by omega) (fun c4 => ?_) (fun c4 => ?_)
      · exact absurd c4 (by omega)
      ·
        first | refine r_aload_n C dc_N_startAnew_7 rfl rfl ?_ | refine r_aload_nq C dc_N_startAnew_7 rfl rfl ?_
        refine r_get C dc_N_startAnew_8 fl_N_24 (ch_node (by omega)) rfl ?_
        refine r_iload_n C dc_N_startAnew_11 rfl rfl ?_
        refine r_aaldN C dc_N_startAnew_12 (ch_labels (by omega)) rfl (by omega) (by decide) ?_
        refine r_ifnull (tgt := 26) C dc_N_startAnew_13 (by decide) (fun c13 => ?_) (fun k13 c13 => ?_)
        ·
          refine rw_hh (h' := CH A b z r (RH S (rSt r q i (k + 1)) h)) (by rw [show rSt r q i (k + 1) = rSt r q i k from by show (match r (12 + i) k with | none => rSt r q i k | some a => rEnd (rSt r q i k) a (nI 1)) = _; rw [c13]]) ?_
          first | refine r_iincN C dc_N_startAnew_26 rfl (by decide) (nw_of rfl) ?_ | refine r_iinc C dc_N_startAnew_26 rfl rfl (by decide) (nw_of rfl) ?_
          refine r_goto (tgt := 2) C dc_N_startAnew_29 (by decide) ?_
          refine r_weak ?_ (ih)
          exact wl_c (rfl) (wl_c (rfl) (wl_n))
        ·
          first | refine r_aload_n C dc_N_startAnew_16 rfl rfl ?_ | refine r_aload_nq C dc_N_startAnew_16 rfl rfl ?_
          refine r_get C dc_N_startAnew_17 fl_N_24 (ch_node (by omega)) rfl ?_
          refine r_iload_n C dc_N_startAnew_20 rfl rfl ?_
          refine r_aaldN C dc_N_startAnew_21 (ch_labels (by omega)) rfl (by omega) (by decide) ?_
          refine sb_av (P := fun v => Rw _ _ _ _ _ _ _ _ _ _ _ _ _ _ _ _ _ _ _ _ (v :: _)) (show va_rf (r (12 + i) k) = .ref k13 from by rw [c13]; rfl) ?_
          refine r_iconst (v := nI 1) C dc_N_startAnew_22 (by decide) ?_
          refine r_callV C dp dc_N_startAnew_23 cw_N_45 cm_R_endIfItWaits cv_R_endIfItWaits rfl (ch_rq hv.2 (hv.1 _ _ _ c13)) (k_R_endIfItWaits (df := df) (vv := nI 1) hl (hv.1 _ _ _ c13) hv) (by omega) rfl rfl (Nat.le_of_ble_eq_true rfl) (fun v23 h23 n23 q23 z23 => ?_) (fun _ _ _ _ z => z.elim)
          obtain ⟨y23, y23h, y23n⟩ := z23
          rw [y23, y23h, y23n]
          refine rw_hh (h' := CH A b z r (RH S (rSt r q i (k + 1)) h)) (by rw [show rSt r q i (k + 1) = rEnd (rSt r q i k) k13 (nI 1) from by show (match r (12 + i) k with | none => rSt r q i k | some a => rEnd (rSt r q i k) a (nI 1)) = _; rw [c13]]) ?_
          first | refine r_iincN C dc_N_startAnew_26 rfl (by decide) (nw_of rfl) ?_ | refine r_iinc C dc_N_startAnew_26 rfl rfl (by decide) (nw_of rfl) ?_
          refine r_goto (tgt := 2) C dc_N_startAnew_29 (by decide) ?_
          refine r_weak ?_ (ih)
          exact wl_c (rfl) (wl_c (rfl) (wl_n))
  refine r_iconst (v := nI 0) C dc_N_startAnew_0 (by decide) ?_
  refine r_istore_n C dc_N_startAnew_1 rfl (by decide) (nw_of rfl) ?_
  refine r_weak ?_ (lp 0 (by omega))
  exact wl_c (rfl) (wl_c (rfl) (wl_n))
set_option maxRecDepth 4000 in
set_option maxHeartbeats 1000000 in
theorem k_N_endLate (hl : l.stackTraces = false) {i : Nat} (hi : i < 12) (hc : Cok b S (z, r, q)) : Ct l D A G my_N_endLateRequests cd_N_endLateRequests 4 none (df + 2) 0 0 [.ref (b + 8 + 5 * i), .int (z 35 0)] (CH A b z r (RH S q h)) n (fun v h' n' => v = none ∧ h' = CH A b (nLt (z, r, q) i 4).1 ((nLt (z, r, q) i 4).2.1) (RH S ((nLt (z, r, q) i 4).2.2) h) ∧ n' = n) (fun _ _ _ => False) := by
  refine Ct.of (by decide) hl (Nat.le_of_ble_eq_true rfl) ?_
  intro p e s m args below meth c C hr hnm ht dp
  have lp : ∀ k, k ≤ 4 → Rw p l e (cR (df + 2) 0 0) s m args below meth c (CQ D G n (fun v h' n' => v = none ∧ h' = CH A b (nLt (z, r, q) i 4).1 ((nLt (z, r, q) i 4).2.1) (RH S ((nLt (z, r, q) i 4).2.2) h) ∧ n' = n) (fun _ _ _ => False) below args s 0 0) D G 4 0 0 (CH A b (nLt (z, r, q) i k).1 ((nLt (z, r, q) i k).2.1) (RH S ((nLt (z, r, q) i k).2.2) h)) n [(0, .ref (b + 8 + 5 * i)), (1, .int (z 35 0)), (2, .int (nI k))] 2 [] := by
    refine r_loop 4 _ ?_ ?_
    ·
      refine r_iload_n C dc_N_endLateRequests_2 rfl rfl ?_
      refine r_iconst (v := nI 4) C dc_N_endLateRequests_3 (by decide) ?_
      refine r_icmp_geN (tgt := 60) C dc_N_endLateRequests_4 (by decide) (by omega) (by omega) (fun c4 => ?_) (fun c4 => ?_)
      ·
        exact r_vret C dp hr dc_N_endLateRequests_60 (Nat.le_refl _) ⟨rfl, rfl, rfl⟩
      · exact absurd c4 (by omega)
    ·
      intro k hk ih
      refine r_iload_n C dc_N_endLateRequests_2 rfl rfl ?_
      refine r_iconst (v := nI 4) C dc_N_endLateRequests_3 (by decide) ?_
      refine r_icmp_geN (tgt := 60) C dc_N_endLateRequests_4 (by decide) (by omega) (by omega) (fun c4 => ?_) (fun c4 => ?_)
      · exact absurd c4 (by omega)
      ·
        have hs : (nLt (z, r, q) i (k + 1)) = lt1 (nLt (z, r, q) i k) i k := rfl
        have hok := nLt_ok hi hc k
        have h35 : (nLt (z, r, q) i k).1 35 0 = z 35 0 := congrFun hok.2.1 0
        have hv := hok.1.1
        obtain ⟨sz, hs6, hsz⟩ := hok.1.2 i hi
        generalize hcc : (nLt (z, r, q) i k) = c1 at hs hok h35 hv hsz ⊢
        obtain ⟨z1, r1, q1⟩ := c1
        dsimp only at h35 hv hsz
        show Rw p l e (cR (df + 2) 0 0) s m args below meth c (CQ D G n (fun v h' n' => v = none ∧ h' = CH A b (nLt (z, r, q) i 4).1 ((nLt (z, r, q) i 4).2.1) (RH S ((nLt (z, r, q) i 4).2.2) h) ∧ n' = n) (fun _ _ _ => False) below args s 0 0) D G 4 0 0 (CH A b z1 r1 (RH S q1 h)) n [(0, .ref (b + 8 + 5 * i)), (1, .int (z 35 0)), (2, .int (nI k))] 7 []
        first | refine r_aload_n C dc_N_endLateRequests_7 rfl rfl ?_ | refine r_aload_nq C dc_N_endLateRequests_7 rfl rfl ?_
        refine r_get C dc_N_endLateRequests_8 fl_N_24 (ch_node (by omega)) rfl ?_
        refine r_iload_n C dc_N_endLateRequests_11 rfl rfl ?_
        refine r_aaldN C dc_N_endLateRequests_12 (ch_labels (by omega)) rfl (by omega) (by decide) ?_
        cases ea : r1 (12 + i) k with
        | none =>
          first | refine r_astore_n C dc_N_endLateRequests_13 rfl (by decide) (nw_of rfl) ?_ | refine r_astore_nN C dc_N_endLateRequests_13 rfl (by decide) (nw_of rfl) ?_ | refine r_astore_nq C dc_N_endLateRequests_13 rfl (by decide) (nw_of rfl) ?_
          refine r_aload_nq (r := none) C dc_N_endLateRequests_14 rfl rfl ?_
          refine r_ifnull (r := none) (tgt := 54) C dc_N_endLateRequests_15 (by decide) (fun _ => ?_) (fun _ z => by cases z)
          refine rw_hh (h' := CH A b (nLt (z, r, q) i (k + 1)).1 ((nLt (z, r, q) i (k + 1)).2.1) (RH S ((nLt (z, r, q) i (k + 1)).2.2) h)) (by rw [hs, lt1_n ea]) ?_
          first | refine r_iincN C dc_N_endLateRequests_54 rfl (by decide) (nw_of rfl) ?_ | refine r_iinc C dc_N_endLateRequests_54 rfl rfl (by decide) (nw_of rfl) ?_
          refine r_goto (tgt := 2) C dc_N_endLateRequests_57 (by decide) ?_
          refine r_weak ?_ (ih)
          exact wl_c (rfl) (wl_c (rfl) (wl_c (rfl) (wl_n)))
        | some a =>
          have ha := hv.1 _ _ _ ea
          refine sb_av (P := fun v => Rw _ _ _ _ _ _ _ _ _ _ _ _ _ _ _ _ _ _ _ _ (v :: _)) (show va_rf (some a) = .ref a from rfl) ?_
          refine r_astore_n C dc_N_endLateRequests_13 rfl (by decide) (nw_of rfl) ?_
          refine r_aload_n C dc_N_endLateRequests_14 rfl rfl ?_
          refine r_ifnull (r := some a) (tgt := 54) C dc_N_endLateRequests_15 (by decide) (fun z => by cases z) (fun _ _ => ?_)
          first | refine r_aload_n C dc_N_endLateRequests_18 rfl rfl ?_ | refine r_aload_nq C dc_N_endLateRequests_18 rfl rfl ?_
          refine r_get C dc_N_endLateRequests_19 fl_N_68 (ch_rq hv.2 (by first | assumption | exact hv.1 _ _ _ (by assumption))) rfl ?_
          refine r_iconst (v := -1) C dc_N_endLateRequests_22 (by decide) ?_
          refine r_icmp_ne (tgt := 54) C dc_N_endLateRequests_23 (by decide) (fun c23 => ?_) (fun c23 => ?_)
          ·
            refine rw_hh (h' := CH A b (nLt (z, r, q) i (k + 1)).1 ((nLt (z, r, q) i (k + 1)).2.1) (RH S ((nLt (z, r, q) i (k + 1)).2.2) h)) (by rw [hs, lt1_w ea (fun h => c23 h.1)]) ?_
            first | refine r_iincN C dc_N_endLateRequests_54 rfl (by decide) (nw_of rfl) ?_ | refine r_iinc C dc_N_endLateRequests_54 rfl rfl (by decide) (nw_of rfl) ?_
            refine r_goto (tgt := 2) C dc_N_endLateRequests_57 (by decide) ?_
            refine r_weak ?_ (ih)
            exact wl_c (rfl) (wl_c (rfl) (wl_c (rfl) (wl_n)))
          ·
            first | refine r_aload_n C dc_N_endLateRequests_26 rfl rfl ?_ | refine r_aload_nq C dc_N_endLateRequests_26 rfl rfl ?_
            refine r_get C dc_N_endLateRequests_27 fl_N_71 (ch_rq hv.2 (by first | assumption | exact hv.1 _ _ _ (by assumption))) rfl ?_
            refine r_iload_n C dc_N_endLateRequests_30 rfl rfl ?_
            refine r_icmp_gt (tgt := 54) C dc_N_endLateRequests_31 (by decide) (fun c31 => ?_) (fun c31 => ?_)
            ·
              refine rw_hh (h' := CH A b (nLt (z, r, q) i (k + 1)).1 ((nLt (z, r, q) i (k + 1)).2.1) (RH S ((nLt (z, r, q) i (k + 1)).2.2) h)) (by rw [hs, lt1_w ea (fun h => absurd (h35 ▸ h.2) (Int32.not_le.mpr c31))]) ?_
              first | refine r_iincN C dc_N_endLateRequests_54 rfl (by decide) (nw_of rfl) ?_ | refine r_iinc C dc_N_endLateRequests_54 rfl rfl (by decide) (nw_of rfl) ?_
              refine r_goto (tgt := 2) C dc_N_endLateRequests_57 (by decide) ?_
              refine r_weak ?_ (ih)
              exact wl_c (rfl) (wl_c (rfl) (wl_c (rfl) (wl_n)))
            ·
              have hw : q1 a 6 = -1 ∧ q1 a 5 ≤ z1 35 0 := ⟨c23, by rw [h35]; exact Int32.not_lt.mp c31⟩
              first | refine r_aload_n C dc_N_endLateRequests_34 rfl rfl ?_ | refine r_aload_nq C dc_N_endLateRequests_34 rfl rfl ?_
              refine r_iconst (v := nI 4) C dc_N_endLateRequests_35 (by decide) ?_
              refine r_callV C dp dc_N_endLateRequests_36 cw_N_45 cm_R_endIfItWaits cv_R_endIfItWaits rfl (ch_rq hv.2 ha) (k_R_endIfItWaits (df := df) (vv := nI 4) hl ha hv) (by omega) rfl rfl (Nat.le_of_ble_eq_true rfl) (fun v36 h36 n36 q36 z36 => ?_) (fun _ _ _ _ z => z.elim)
              obtain ⟨y36, y36h, y36n⟩ := z36
              rw [y36, y36h, y36n]
              first | refine r_aload_n C dc_N_endLateRequests_39 rfl rfl ?_ | refine r_aload_nq C dc_N_endLateRequests_39 rfl rfl ?_
              refine r_get C dc_N_endLateRequests_40 fl_N_74 (ch_rq hv.2 (by first | assumption | exact hv.1 _ _ _ (by assumption))) rfl ?_
              refine sb_at (P := fun v => Rw _ _ _ _ _ _ _ _ _ _ _ _ _ _ _ _ _ _ _ _ (.int v :: _)) (show _ = q1 a 8 from rEnd_f (by decide)) ?_
              refine r_if_ne (tgt := 54) C dc_N_endLateRequests_43 (by decide) (fun c43 => ?_) (fun c43 => ?_)
              ·
                refine rw_hh (h' := CH A b (nLt (z, r, q) i (k + 1)).1 ((nLt (z, r, q) i (k + 1)).2.1) (RH S ((nLt (z, r, q) i (k + 1)).2.2) h)) (by rw [hs, lt1_a ea hw c43]) ?_
                first | refine r_iincN C dc_N_endLateRequests_54 rfl (by decide) (nw_of rfl) ?_ | refine r_iinc C dc_N_endLateRequests_54 rfl rfl (by decide) (nw_of rfl) ?_
                refine r_goto (tgt := 2) C dc_N_endLateRequests_57 (by decide) ?_
                refine r_weak ?_ (ih)
                exact wl_c (rfl) (wl_c (rfl) (wl_c (rfl) (wl_n)))
              ·
                first | refine r_aload_n C dc_N_endLateRequests_46 rfl rfl ?_ | refine r_aload_nq C dc_N_endLateRequests_46 rfl rfl ?_
                refine r_get C dc_N_endLateRequests_47 fl_N_18 (ch_node (by omega)) rfl ?_
                first | refine r_aload_n C dc_N_endLateRequests_50 rfl rfl ?_ | refine r_aload_nq C dc_N_endLateRequests_50 rfl rfl ?_
                refine r_callV C dp dc_N_endLateRequests_51 cw_N_77 cm_Q_drop cv_Q_drop rfl (ch_queue hi) (k_Q_drop (df := df) (sz := sz) (a := a) hl hi hsz hs6 hv) (by omega) rfl rfl (Nat.le_of_ble_eq_true rfl) (fun v51 h51 n51 q51 z51 => ?_) (fun _ _ _ _ z => z.elim)
                obtain ⟨y51, y51h, y51n⟩ := z51
                rw [y51, y51h, y51n]
                have e1 := lt1_d (c := (z1, r1, q1)) ea hw c43
                dsimp only at e1
                rw [hsz, cl_nI (by omega)] at e1
                cases eg : qFnd (r1 i) (some a) sz 0 with
                | none =>
                  rw [eg] at e1
                  refine rw_hh (h' := CH A b (nLt (z, r, q) i (k + 1)).1 ((nLt (z, r, q) i (k + 1)).2.1) (RH S ((nLt (z, r, q) i (k + 1)).2.2) h)) (by rw [hs, e1]) ?_
                  first | refine r_iincN C dc_N_endLateRequests_54 rfl (by decide) (nw_of rfl) ?_ | refine r_iinc C dc_N_endLateRequests_54 rfl rfl (by decide) (nw_of rfl) ?_
                  refine r_goto (tgt := 2) C dc_N_endLateRequests_57 (by decide) ?_
                  refine r_weak ?_ (ih)
                  exact wl_c (rfl) (wl_c (rfl) (wl_c (rfl) (wl_n)))
                | some g =>
                  rw [eg] at e1
                  refine rw_hh (h' := CH A b (nLt (z, r, q) i (k + 1)).1 ((nLt (z, r, q) i (k + 1)).2.1) (RH S ((nLt (z, r, q) i (k + 1)).2.2) h)) (by rw [hs, e1]) ?_
                  first | refine r_iincN C dc_N_endLateRequests_54 rfl (by decide) (nw_of rfl) ?_ | refine r_iinc C dc_N_endLateRequests_54 rfl rfl (by decide) (nw_of rfl) ?_
                  refine r_goto (tgt := 2) C dc_N_endLateRequests_57 (by decide) ?_
                  refine r_weak ?_ (ih)
                  exact wl_c (rfl) (wl_c (rfl) (wl_c (rfl) (wl_n)))
  refine r_iconst (v := nI 0) C dc_N_endLateRequests_0 (by decide) ?_
  refine r_istore_n C dc_N_endLateRequests_1 rfl (by decide) (nw_of rfl) ?_
  refine r_weak ?_ (lp 0 (by omega))
  exact wl_c (rfl) (wl_c (rfl) (wl_c (rfl) (wl_n)))
end Cls3
