/-- a row of references with the places i .. k-1 taken one further on; without place g of k -/
def qSh (f : Nat → Option Nat) (i k : Nat) : Nat → Option Nat := fun j => if i ≤ j ∧ j < k then f (j + 1) else f j
theorem qSh_0 (f : Nat → Option Nat) (i : Nat) : qSh f i i = f := by
  funext j
  exact if_neg (by omega)
theorem qSh_1 (f : Nat → Option Nat) {i k : Nat} (q : i ≤ k) : va_up (qSh f i k) k (qSh f i k (k + 1)) = qSh f i (k + 1) := by
  funext j
  unfold va_up qSh
  by_cases e1 : j = k
  · rw [if_pos e1, if_neg (by omega), if_pos (by omega), e1]
  · rw [if_neg e1]
    by_cases e2 : i ≤ j ∧ j < k
    · rw [if_pos e2, if_pos (by omega)]
    · rw [if_neg e2, if_neg (by omega)]
def qRem (f : Nat → Option Nat) (g k : Nat) : Nat → Option Nat := va_up (qSh f g (k - 1)) (k - 1) none
def qEmp (k : Nat) (f : Nat → Option Nat) : Nat → Option Nat := fun j => if j < k then none else f j
theorem qEmp_0 (f : Nat → Option Nat) : qEmp 0 f = f := by
  funext j
  exact if_neg (by omega)
theorem qEmp_1 (f : Nat → Option Nat) {k : Nat} : va_up (qEmp k f) k none = qEmp (k + 1) f := by
  funext j
  unfold va_up qEmp
  by_cases e1 : j = k
  · rw [if_pos e1, if_pos (by omega)]
  · rw [if_neg e1]
    by_cases e2 : j < k
    · rw [if_pos e2, if_pos (by omega)]
    · rw [if_neg e2, if_neg (by omega)]
theorem RV.row {b : Nat} {r : Nat → Nat → Option Nat} {S : Nat → Bool} (hv : RV b r S) {k : Nat} {f : Nat → Option Nat} (hf : ∀ j a, f j = some a → S a = true) : RV b (ur r k f) S := by
  refine ⟨fun k' j' a' e => ?_, hv.2⟩
  by_cases e1 : k' = k
  · rw [e1, ur_eq] at e
    exact hf _ _ e
  · rw [ur_ne e1] at e
    exact hv.1 _ _ _ e
theorem qSh_S {f : Nat → Option Nat} {S : Nat → Bool} (hf : ∀ j a, f j = some a → S a = true) (i k : Nat) : ∀ j a, qSh f i k j = some a → S a = true := by
  intro j a e
  unfold qSh at e
  split at e
  · exact hf _ _ e
  · exact hf _ _ e
theorem vaup_S {f : Nat → Option Nat} {S : Nat → Bool} (hf : ∀ j a, f j = some a → S a = true) {i : Nat} {v : Option Nat} (hv : ∀ a, v = some a → S a = true) : ∀ j a, va_up f i v j = some a → S a = true := by
  intro j a e
  unfold va_up at e
  split at e
  · exact hv _ e
  · exact hf _ _ e
theorem qRem_S {f : Nat → Option Nat} {S : Nat → Bool} (hf : ∀ j a, f j = some a → S a = true) (g k : Nat) : ∀ j a, qRem f g k j = some a → S a = true := vaup_S (qSh_S hf _ _) (fun a e => by cases e)
theorem qEmp_S {f : Nat → Option Nat} {S : Nat → Bool} (hf : ∀ j a, f j = some a → S a = true) (k : Nat) : ∀ j a, qEmp k f j = some a → S a = true := by
  intro j a e
  unfold qEmp at e
  split at e
  · cases e
  · exact hf _ _ e
/-- the first place below k, from i on, that holds this -/
def qFnd (f : Nat → Option Nat) (v : Option Nat) : Nat → Nat → Option Nat
  | 0, _ => none
  | d + 1, i => if f i = v then some i else qFnd f v d (i + 1)
section Cls1
variable {l : Launch} {D : va_G} {A : Nat → ClassId} {G : Heap} {b n df : Nat} {z : Nat → Nat → Int32} {r : Nat → Nat → Option Nat} {S : Nat → Bool} {q : Nat → Nat → Int32} {h : Hp}
set_option maxRecDepth 4000 in
set_option maxHeartbeats 1000000 in
theorem k_Q_removeAt (hl : l.stackTraces = false) {i sz g : Nat} (hi : i < 12) (hks : z 17 i = nI sz) (hk6 : sz ≤ 6) (hg : g < sz) (hv : RV b r S) : Ct l D A G my_Q_removeAt cd_Q_removeAt 3 none df 0 0 [.ref (b + 10 + 5 * i), .int (nI g)] (CH A b z r (RH S q h)) n (fun v h' n' => v = none ∧ h' = CH A b (ur z 17 (upd (z 17) i (nI (sz - 1)))) (ur r i (qRem (r i) g sz)) (RH S q h) ∧ n' = n) (fun _ _ _ => False) := by
  refine Ct.of (by decide) hl (Nat.le_of_ble_eq_true rfl) ?_
  intro p e s m args below meth c C hr hnm ht dp
  have lp : ∀ k, k ≤ (sz - 1) → g ≤ k → Rw p l e (cR df 0 0) s m args below meth c (CQ D G n (fun v h' n' => v = none ∧ h' = CH A b (ur z 17 (upd (z 17) i (nI (sz - 1)))) (ur r i (qRem (r i) g sz)) (RH S q h) ∧ n' = n) (fun _ _ _ => False) below args s 0 0) D G 3 0 0 (CH A b z (ur r i (qSh (r i) g k)) (RH S q h)) n [(0, .ref (b + 10 + 5 * i)), (1, .int (nI g)), (2, .int (nI k))] 2 [] := by
    refine r_loop (sz - 1) _ ?_ ?_
    ·
      intro hpre
      refine r_iload_n C dc_Q_removeAt_2 rfl rfl ?_
      refine r_iconst (v := nI 1) C dc_Q_removeAt_3 (by decide) ?_
      first | refine r_iaddN C dc_Q_removeAt_4 ?_ | refine r_iadd C dc_Q_removeAt_4 ?_
      first | refine r_aload_n C dc_Q_removeAt_5 rfl rfl ?_ | refine r_aload_nq C dc_Q_removeAt_5 rfl rfl ?_
      refine r_get C dc_Q_removeAt_6 fl_Q_17 (ch_queue (by omega)) rfl ?_
      refine sb_at (P := fun v => Rw _ _ _ _ _ _ _ _ _ _ _ _ _ _ _ _ _ _ _ _ (.int v :: _)) hks ?_
      refine r_icmp_geN (tgt := 32) C dc_Q_removeAt_9 (by decide) (by omega) (by omega) (fun c9 => ?_) (fun c9 => ?_)
      ·
        first | refine r_aload_n C dc_Q_removeAt_32 rfl rfl ?_ | refine r_aload_nq C dc_Q_removeAt_32 rfl rfl ?_
        refine r_dup C dc_Q_removeAt_33 rfl ?_
        refine r_get C dc_Q_removeAt_34 fl_Q_17 (ch_queue (by omega)) rfl ?_
        refine sb_at (P := fun v => Rw _ _ _ _ _ _ _ _ _ _ _ _ _ _ _ _ _ _ _ _ (.int v :: _)) hks ?_
        refine r_iconst (v := nI 1) C dc_Q_removeAt_37 (by decide) ?_
        first | refine r_isubN C dc_Q_removeAt_38 (by omega) ?_ | refine r_isub C dc_Q_removeAt_38 ?_
        refine r_put C dc_Q_removeAt_39 fl_Q_17 (ch_queue (by omega)) rfl rfl (Nat.le_of_ble_eq_true rfl) ?_
        refine rw_hh (cs_qs (by omega)) ?_
        first | refine r_aload_n C dc_Q_removeAt_42 rfl rfl ?_ | refine r_aload_nq C dc_Q_removeAt_42 rfl rfl ?_
        refine r_get C dc_Q_removeAt_43 fl_Q_11 (ch_queue (by omega)) rfl ?_
        first | refine r_aload_n C dc_Q_removeAt_46 rfl rfl ?_ | refine r_aload_nq C dc_Q_removeAt_46 rfl rfl ?_
        refine r_get C dc_Q_removeAt_47 fl_Q_17 (ch_queue (by omega)) rfl ?_
        refine sb_at (P := fun v => Rw _ _ _ _ _ _ _ _ _ _ _ _ _ _ _ _ _ _ _ _ (.int v :: _)) (show ur z 17 (upd (z 17) i (nI (sz - 1))) 17 i = nI (sz - 1) from if_pos rfl) ?_
        refine r_null C dc_Q_removeAt_50 ?_
        refine r_aastQ (v := none) C dc_Q_removeAt_51 (ch_packs (by omega)) (fun b' e => by cases e) (by omega) (by decide) ?_
        refine rw_hh (cs_pk (by omega)) ?_
        exact r_vret C dp hr dc_Q_removeAt_52 (Nat.le_refl _) ⟨rfl, by rw [ur_ur, ur_eq]; rfl, rfl⟩
      · exact absurd c9 (by omega)
    ·
      intro k hk ih hpre
      refine r_iload_n C dc_Q_removeAt_2 rfl rfl ?_
      refine r_iconst (v := nI 1) C dc_Q_removeAt_3 (by decide) ?_
      first | refine r_iaddN C dc_Q_removeAt_4 ?_ | refine r_iadd C dc_Q_removeAt_4 ?_
      first | refine r_aload_n C dc_Q_removeAt_5 rfl rfl ?_ | refine r_aload_nq C dc_Q_removeAt_5 rfl rfl ?_
      refine r_get C dc_Q_removeAt_6 fl_Q_17 (ch_queue (by omega)) rfl ?_
      refine sb_at (P := fun v => Rw _ _ _ _ _ _ _ _ _ _ _ _ _ _ _ _ _ _ _ _ (.int v :: _)) hks ?_
      refine r_icmp_geN (tgt := 32) C dc_Q_removeAt_9 (by decide) (by omega) (by omega) (fun c9 => ?_) (fun c9 => ?_)
      · exact absurd c9 (by omega)
      ·
        have hvk : RV b (ur r i (qSh (r i) g k)) S := hv.row (qSh_S (fun j a e => hv.1 _ _ _ e) _ _)
        first | refine r_aload_n C dc_Q_removeAt_12 rfl rfl ?_ | refine r_aload_nq C dc_Q_removeAt_12 rfl rfl ?_
        refine r_get C dc_Q_removeAt_13 fl_Q_11 (ch_queue (by omega)) rfl ?_
        refine r_iload_n C dc_Q_removeAt_16 rfl rfl ?_
        first | refine r_aload_n C dc_Q_removeAt_17 rfl rfl ?_ | refine r_aload_nq C dc_Q_removeAt_17 rfl rfl ?_
        refine r_get C dc_Q_removeAt_18 fl_Q_11 (ch_queue (by omega)) rfl ?_
        refine r_iload_n C dc_Q_removeAt_21 rfl rfl ?_
        refine r_iconst (v := nI 1) C dc_Q_removeAt_22 (by decide) ?_
        first | refine r_iaddN C dc_Q_removeAt_23 ?_ | refine r_iadd C dc_Q_removeAt_23 ?_
        refine r_aaldN C dc_Q_removeAt_24 (ch_packs (by omega)) rfl (by omega) (by decide) ?_
        refine r_aastQ C dc_Q_removeAt_25 (ch_packs (by omega)) (fun b' e => ⟨_, ch_rq hvk.2 (hvk.1 _ _ _ e)⟩) (by omega) (by decide) ?_
        refine rw_hh (cs_pk (by omega)) ?_
        refine rw_hh (h' := CH A b z (ur r i (qSh (r i) g (k + 1))) (RH S q h)) (by rw [ur_ur, ur_eq, qSh_1 _ hpre]) ?_
        first | refine r_iincN C dc_Q_removeAt_26 rfl (by decide) (nw_of rfl) ?_ | refine r_iinc C dc_Q_removeAt_26 rfl rfl (by decide) (nw_of rfl) ?_
        refine r_goto (tgt := 2) C dc_Q_removeAt_29 (by decide) ?_
        refine r_weak ?_ (ih (by omega))
        exact wl_c (rfl) (wl_c (rfl) (wl_c (rfl) (wl_n)))
  refine rw_hh (h' := CH A b z (ur r i (qSh (r i) g g)) (RH S q h)) (by rw [qSh_0, ur_self]) ?_
  refine r_iload_n C dc_Q_removeAt_0 rfl rfl ?_
  refine r_istore_n C dc_Q_removeAt_1 rfl (by decide) (nw_of rfl) ?_
  refine r_weak ?_ (lp g (by omega) (Nat.le_refl _))
  exact wl_c (rfl) (wl_c (rfl) (wl_c (rfl) (wl_n)))
set_option maxRecDepth 4000 in
set_option maxHeartbeats 1000000 in
theorem k_Q_empty (hl : l.stackTraces = false) {i : Nat} (hi : i < 12) : Ct l D A G my_Q_empty cd_Q_empty 2 none df 0 0 [.ref (b + 10 + 5 * i)] (CH A b z r (RH S q h)) n (fun v h' n' => v = none ∧ h' = CH A b (ur z 17 (upd (z 17) i (nI 0))) (ur r i (qEmp 6 (r i))) (RH S q h) ∧ n' = n) (fun _ _ _ => False) := by
  refine Ct.of (by decide) hl (Nat.le_of_ble_eq_true rfl) ?_
  intro p e s m args below meth c C hr hnm ht dp
  have lp : ∀ k, k ≤ 6 → Rw p l e (cR df 0 0) s m args below meth c (CQ D G n (fun v h' n' => v = none ∧ h' = CH A b (ur z 17 (upd (z 17) i (nI 0))) (ur r i (qEmp 6 (r i))) (RH S q h) ∧ n' = n) (fun _ _ _ => False) below args s 0 0) D G 2 0 0 (CH A b z (ur r i (qEmp k (r i))) (RH S q h)) n [(0, .ref (b + 10 + 5 * i)), (1, .int (nI k))] 2 [] := by
    refine r_loop 6 _ ?_ ?_
    ·
      refine r_iload_n C dc_Q_empty_2 rfl rfl ?_
      refine r_bipush (v := nI 6) C dc_Q_empty_3 (by decide) ?_
      refine r_icmp_geN (tgt := 21) C dc_Q_empty_5 (by decide) (by omega) (by omega) (fun c5 => ?_) (fun c5 => ?_)
      ·
        first | refine r_aload_n C dc_Q_empty_21 rfl rfl ?_ | refine r_aload_nq C dc_Q_empty_21 rfl rfl ?_
        refine r_iconst (v := nI 0) C dc_Q_empty_22 (by decide) ?_
        refine r_put C dc_Q_empty_23 fl_Q_17 (ch_queue (by omega)) rfl rfl (Nat.le_of_ble_eq_true rfl) ?_
        refine rw_hh (cs_qs (by omega)) ?_
        exact r_vret C dp hr dc_Q_empty_26 (Nat.le_refl _) ⟨rfl, rfl, rfl⟩
      · exact absurd c5 (by omega)
    ·
      intro k hk ih
      refine r_iload_n C dc_Q_empty_2 rfl rfl ?_
      refine r_bipush (v := nI 6) C dc_Q_empty_3 (by decide) ?_
      refine r_icmp_geN (tgt := 21) C dc_Q_empty_5 (by decide) (by omega) (by omega) (fun c5 => ?_) (fun c5 => ?_)
      · exact absurd c5 (by omega)
      ·
        first | refine r_aload_n C dc_Q_empty_8 rfl rfl ?_ | refine r_aload_nq C dc_Q_empty_8 rfl rfl ?_
        refine r_get C dc_Q_empty_9 fl_Q_11 (ch_queue (by omega)) rfl ?_
        refine r_iload_n C dc_Q_empty_12 rfl rfl ?_
        refine r_null C dc_Q_empty_13 ?_
        refine r_aastQ (v := none) C dc_Q_empty_14 (ch_packs (by omega)) (fun b' e => by cases e) (by omega) (by decide) ?_
        refine rw_hh (cs_pk (by omega)) ?_
        refine rw_hh (h' := CH A b z (ur r i (qEmp (k + 1) (r i))) (RH S q h)) (by rw [ur_ur, ur_eq, qEmp_1]) ?_
        first | refine r_iincN C dc_Q_empty_15 rfl (by decide) (nw_of rfl) ?_ | refine r_iinc C dc_Q_empty_15 rfl rfl (by decide) (nw_of rfl) ?_
        refine r_goto (tgt := 2) C dc_Q_empty_18 (by decide) ?_
        refine r_weak ?_ (ih)
        exact wl_c (rfl) (wl_c (rfl) (wl_n))
  refine rw_hh (h' := CH A b z (ur r i (qEmp 0 (r i))) (RH S q h)) (by rw [qEmp_0, ur_self]) ?_
  refine r_iconst (v := nI 0) C dc_Q_empty_0 (by decide) ?_
  refine r_istore_n C dc_Q_empty_1 rfl (by decide) (nw_of rfl) ?_
  refine r_weak ?_ (lp 0 (by omega))
  exact wl_c (rfl) (wl_c (rfl) (wl_n))
set_option maxRecDepth 4000 in
set_option maxHeartbeats 1000000 in
theorem k_Q_append (hl : l.stackTraces = false) {i sz : Nat} (hi : i < 12) (hks : z 17 i = nI sz) (hk6 : sz ≤ 6) (hv : RV b r S) {a : Nat} (ha : S a = true) : Ct l D A G my_Q_append cd_Q_append 2 none (df + 1) 0 0 [.ref (b + 10 + 5 * i), .ref a] (CH A b z r (RH S q h)) n (fun v h' n' => v = none ∧ h' = (if sz < 6 then CH A b (ur z 17 (upd (z 17) i (nI (sz + 1)))) (ur r i (va_up (r i) sz (some a))) (RH S q h) else CH A b z r (RH S q h)) ∧ n' = n) (fun _ _ _ => False) := by
  refine Ct.of (by decide) hl (Nat.le_of_ble_eq_true rfl) ?_
  intro p e s m args below meth c C hr hnm ht dp
  first | refine r_aload_n C dc_Q_append_0 rfl rfl ?_ | refine r_aload_nq C dc_Q_append_0 rfl rfl ?_
  refine r_callV C dp dc_Q_append_1 cw_Q_21 cm_Q_isFull cv_Q_isFull rfl (ch_queue hi) (k_Q_isFull (df := df) (k := sz) hl (by rw [ch_queue hi, hks]) (by omega)) (by omega) rfl rfl (Nat.le_of_ble_eq_true rfl) (fun v1 h1 n1 q1 z1 => ?_) (fun _ _ _ _ z => z.elim)
  obtain ⟨y1, y1h, y1n⟩ := z1
  rw [y1, y1h, y1n]
  refine r_if_neZ (tgt := 27) C dc_Q_append_4 (by decide) (fun c4 => ?_) (fun c4 => ?_)
  ·
    exact r_vret C dp hr dc_Q_append_27 (Nat.le_refl _) ⟨rfl, by rw [if_neg (by have := of_decide_eq_true c4; omega)], rfl⟩
  ·
    have c6 := of_decide_eq_false c4
    first | refine r_aload_n C dc_Q_append_7 rfl rfl ?_ | refine r_aload_nq C dc_Q_append_7 rfl rfl ?_
    refine r_get C dc_Q_append_8 fl_Q_11 (ch_queue (by omega)) rfl ?_
    first | refine r_aload_n C dc_Q_append_11 rfl rfl ?_ | refine r_aload_nq C dc_Q_append_11 rfl rfl ?_
    refine r_get C dc_Q_append_12 fl_Q_17 (ch_queue (by omega)) rfl ?_
    refine sb_at (P := fun v => Rw _ _ _ _ _ _ _ _ _ _ _ _ _ _ _ _ _ _ _ _ (.int v :: _)) hks ?_
    first | refine r_aload_n C dc_Q_append_15 rfl rfl ?_ | refine r_aload_nq C dc_Q_append_15 rfl rfl ?_
    refine r_aastQ (v := some a) C dc_Q_append_16 (ch_packs (by omega)) (fun b' e => ⟨_, ch_rq hv.2 (by cases e; exact ha)⟩) (by omega) (by decide) ?_
    refine rw_hh (cs_pk (by omega)) ?_
    first | refine r_aload_n C dc_Q_append_17 rfl rfl ?_ | refine r_aload_nq C dc_Q_append_17 rfl rfl ?_
    refine r_dup C dc_Q_append_18 rfl ?_
    refine r_get C dc_Q_append_19 fl_Q_17 (ch_queue (by omega)) rfl ?_
    refine sb_at (P := fun v => Rw _ _ _ _ _ _ _ _ _ _ _ _ _ _ _ _ _ _ _ _ (.int v :: _)) hks ?_
    refine r_iconst (v := nI 1) C dc_Q_append_22 (by decide) ?_
    first | refine r_iaddN C dc_Q_append_23 ?_ | refine r_iadd C dc_Q_append_23 ?_
    refine r_put C dc_Q_append_24 fl_Q_17 (ch_queue (by omega)) rfl rfl (Nat.le_of_ble_eq_true rfl) ?_
    refine rw_hh (cs_qs (by omega)) ?_
    exact r_vret C dp hr dc_Q_append_27 (Nat.le_refl _) ⟨rfl, by rw [if_pos (by omega)], rfl⟩
set_option maxRecDepth 4000 in
set_option maxHeartbeats 1000000 in
theorem k_Q_takeFirst (hl : l.stackTraces = false) {i sz : Nat} (hi : i < 12) (hks : z 17 i = nI sz) (hk6 : sz ≤ 6) (hv : RV b r S) : Ct l D A G my_Q_takeFirst cd_Q_takeFirst 2 (some (.object "SerialBus$Request")) (df + 1) 0 0 [.ref (b + 10 + 5 * i)] (CH A b z r (RH S q h)) n (fun v h' n' => v = some (va_rf (if sz = 0 then none else r i 0)) ∧ h' = (if sz = 0 then CH A b z r (RH S q h) else CH A b (ur z 17 (upd (z 17) i (nI (sz - 1)))) (ur r i (qRem (r i) 0 sz)) (RH S q h)) ∧ n' = n) (fun _ _ _ => False) := by
  refine Ct.of (by decide) hl (Nat.le_of_ble_eq_true rfl) ?_
  intro p e s m args below meth c C hr hnm ht dp
  first | refine r_aload_n C dc_Q_takeFirst_0 rfl rfl ?_ | refine r_aload_nq C dc_Q_takeFirst_0 rfl rfl ?_
  refine r_callV C dp dc_Q_takeFirst_1 cw_Q_25 cm_Q_isEmpty cv_Q_isEmpty rfl (ch_queue hi) (k_Q_isEmpty (df := df) (k := sz) hl (by rw [ch_queue hi, hks]) (by omega)) (by omega) rfl rfl (Nat.le_of_ble_eq_true rfl) (fun v1 h1 n1 q1 z1 => ?_) (fun _ _ _ _ z => z.elim)
  obtain ⟨y1, y1h, y1n⟩ := z1
  rw [y1, y1h, y1n]
  refine r_if_eqZ (tgt := 9) C dc_Q_takeFirst_4 (by decide) (fun c4 => ?_) (fun c4 => ?_)
  ·
    have c6 := of_decide_eq_false c4
    first | refine r_aload_n C dc_Q_takeFirst_9 rfl rfl ?_ | refine r_aload_nq C dc_Q_takeFirst_9 rfl rfl ?_
    refine r_get C dc_Q_takeFirst_10 fl_Q_11 (ch_queue (by omega)) rfl ?_
    refine r_iconst (v := nI 0) C dc_Q_takeFirst_13 (by decide) ?_
    refine r_aaldN C dc_Q_takeFirst_14 (ch_packs (by omega)) rfl (by omega) (by decide) ?_
    first | refine r_astore_n C dc_Q_takeFirst_15 rfl (by decide) (nw_of rfl) ?_ | refine r_astore_nN C dc_Q_takeFirst_15 rfl (by decide) (nw_of rfl) ?_ | refine r_astore_nq C dc_Q_takeFirst_15 rfl (by decide) (nw_of rfl) ?_
    first | refine r_aload_n C dc_Q_takeFirst_16 rfl rfl ?_ | refine r_aload_nq C dc_Q_takeFirst_16 rfl rfl ?_
    refine r_iconst (v := nI 0) C dc_Q_takeFirst_17 (by decide) ?_
    refine r_callV C dp dc_Q_takeFirst_18 cw_Q_28 cm_Q_removeAt cv_Q_removeAt rfl (ch_queue hi) (k_Q_removeAt (df := df) (g := 0) hl hi hks hk6 (by omega) hv) (by omega) rfl rfl (Nat.le_of_ble_eq_true rfl) (fun v18 h18 n18 q18 z18 => ?_) (fun _ _ _ _ z => z.elim)
    obtain ⟨y18, y18h, y18n⟩ := z18
    rw [y18, y18h, y18n]
    first | refine r_aload_n C dc_Q_takeFirst_21 rfl rfl ?_ | refine r_aload_nq C dc_Q_takeFirst_21 rfl rfl ?_
    exact r_aret C dp hr dc_Q_takeFirst_22 (Nat.le_refl _) ⟨by rw [if_neg c6], by rw [if_neg c6], rfl⟩
  ·
    have c6 := of_decide_eq_true c4
    refine r_null C dc_Q_takeFirst_7 ?_
    exact r_aret (r := none) C dp hr dc_Q_takeFirst_8 (Nat.le_refl _) ⟨by rw [if_pos c6], by rw [if_pos c6], rfl⟩
set_option maxRecDepth 4000 in
set_option maxHeartbeats 1000000 in
theorem k_Q_drop (hl : l.stackTraces = false) {i sz : Nat} (hi : i < 12) (hks : z 17 i = nI sz) (hk6 : sz ≤ 6) (hv : RV b r S) {a : Nat} : Ct l D A G my_Q_drop cd_Q_drop 3 none (df + 1) 0 0 [.ref (b + 10 + 5 * i), .ref a] (CH A b z r (RH S q h)) n (fun v h' n' => v = none ∧ h' = (match qFnd (r i) (some a) sz 0 with | none => CH A b z r (RH S q h) | some g => CH A b (ur z 17 (upd (z 17) i (nI (sz - 1)))) (ur r i (qRem (r i) g sz)) (RH S q h)) ∧ n' = n) (fun _ _ _ => False) := by
  refine Ct.of (by decide) hl (Nat.le_of_ble_eq_true rfl) ?_
  intro p e s m args below meth c C hr hnm ht dp
  have lp : ∀ k, k ≤ sz → qFnd (r i) (some a) sz 0 = qFnd (r i) (some a) (sz - k) k → Rw p l e (cR (df + 1) 0 0) s m args below meth c (CQ D G n (fun v h' n' => v = none ∧ h' = (match qFnd (r i) (some a) sz 0 with | none => CH A b z r (RH S q h) | some g => CH A b (ur z 17 (upd (z 17) i (nI (sz - 1)))) (ur r i (qRem (r i) g sz)) (RH S q h)) ∧ n' = n) (fun _ _ _ => False) below args s 0 0) D G 3 0 0 (CH A b z r (RH S q h)) n [(0, .ref (b + 10 + 5 * i)), (1, .ref a), (2, .int (nI k))] 2 [] := by
    refine r_loop sz _ ?_ ?_
    ·
      intro hpre
      refine r_iload_n C dc_Q_drop_2 rfl rfl ?_
      first | refine r_aload_n C dc_Q_drop_3 rfl rfl ?_ | refine r_aload_nq C dc_Q_drop_3 rfl rfl ?_
      refine r_get C dc_Q_drop_4 fl_Q_17 (ch_queue (by omega)) rfl ?_
      refine sb_at (P := fun v => Rw _ _ _ _ _ _ _ _ _ _ _ _ _ _ _ _ _ _ _ _ (.int v :: _)) hks ?_
      refine r_icmp_geN (tgt := 32) C dc_Q_drop_7 (by decide) (by omega) (by omega) (fun c7 => ?_) (fun c7 => ?_)
      ·
        have e1 : qFnd (r i) (some a) sz 0 = none := by rw [hpre, Nat.sub_self]; rfl
        exact r_vret C dp hr dc_Q_drop_32 (Nat.le_refl _) ⟨rfl, by rw [e1], rfl⟩
      · exact absurd c7 (by omega)
    ·
      intro k hk ih hpre
      refine r_iload_n C dc_Q_drop_2 rfl rfl ?_
      first | refine r_aload_n C dc_Q_drop_3 rfl rfl ?_ | refine r_aload_nq C dc_Q_drop_3 rfl rfl ?_
      refine r_get C dc_Q_drop_4 fl_Q_17 (ch_queue (by omega)) rfl ?_
      refine sb_at (P := fun v => Rw _ _ _ _ _ _ _ _ _ _ _ _ _ _ _ _ _ _ _ _ (.int v :: _)) hks ?_
      refine r_icmp_geN (tgt := 32) C dc_Q_drop_7 (by decide) (by omega) (by omega) (fun c7 => ?_) (fun c7 => ?_)
      · exact absurd c7 (by omega)
      ·
        first | refine r_aload_n C dc_Q_drop_10 rfl rfl ?_ | refine r_aload_nq C dc_Q_drop_10 rfl rfl ?_
        refine r_get C dc_Q_drop_11 fl_Q_11 (ch_queue (by omega)) rfl ?_
        refine r_iload_n C dc_Q_drop_14 rfl rfl ?_
        refine r_aaldN C dc_Q_drop_15 (ch_packs (by omega)) rfl (by omega) (by decide) ?_
        first | refine r_aload_n C dc_Q_drop_16 rfl rfl ?_ | refine r_aload_nq C dc_Q_drop_16 rfl rfl ?_
        refine r_acmp_ne (x := r i k) (y := some a) (tgt := 26) C dc_Q_drop_17 (by decide) (fun c17 => ?_) (fun c17 => ?_)
        ·
          first | refine r_iincN C dc_Q_drop_26 rfl (by decide) (nw_of rfl) ?_ | refine r_iinc C dc_Q_drop_26 rfl rfl (by decide) (nw_of rfl) ?_
          refine r_goto (tgt := 2) C dc_Q_drop_29 (by decide) ?_
          refine r_weak ?_ (ih (hpre.trans (by rw [show sz - k = (sz - (k + 1)) + 1 by omega]; exact if_neg c17)))
          exact wl_c (rfl) (wl_c (rfl) (wl_c (rfl) (wl_n)))
        ·
          first | refine r_aload_n C dc_Q_drop_20 rfl rfl ?_ | refine r_aload_nq C dc_Q_drop_20 rfl rfl ?_
          refine r_iload_n C dc_Q_drop_21 rfl rfl ?_
          refine r_callV C dp dc_Q_drop_22 cw_Q_28 cm_Q_removeAt cv_Q_removeAt rfl (ch_queue hi) (k_Q_removeAt (df := df) (g := k) hl hi hks hk6 hk hv) (by omega) rfl rfl (Nat.le_of_ble_eq_true rfl) (fun v22 h22 n22 q22 z22 => ?_) (fun _ _ _ _ z => z.elim)
          obtain ⟨y22, y22h, y22n⟩ := z22
          rw [y22, y22h, y22n]
          have e1 : qFnd (r i) (some a) sz 0 = some k := by rw [hpre, show sz - k = (sz - (k + 1)) + 1 by omega]; exact if_pos c17
          exact r_vret C dp hr dc_Q_drop_25 (Nat.le_refl _) ⟨rfl, by rw [e1], rfl⟩
  refine r_iconst (v := nI 0) C dc_Q_drop_0 (by decide) ?_
  refine r_istore_n C dc_Q_drop_1 rfl (by decide) (nw_of rfl) ?_
  refine r_weak ?_ (lp 0 (by omega) rfl)
  exact wl_c (rfl) (wl_c (rfl) (wl_c (rfl) (wl_n)))
end Cls1
