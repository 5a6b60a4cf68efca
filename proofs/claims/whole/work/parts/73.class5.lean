theorem cOpen_0 {ot : Nat → Option Nat} {z : Nat → Nat → Int32} {v : Int32} : cOpen ot z v 0 = z := by
  unfold cOpen
  rw [show (fun k => if k < 0 then zi (decide (z 31 (k / 3) = v) && (ot k).isSome) else z 33 k) = z 33 from funext fun k => if_neg (by omega), ur_self]
theorem cOpen_s {ot : Nat → Option Nat} {z : Nat → Nat → Int32} {v w : Int32} {k : Nat} (hw : w = zi (decide (z 31 (k / 3) = v) && (ot k).isSome)) : ur (cOpen ot z v k) 33 (upd (cOpen ot z v k 33) k w) = cOpen ot z v (k + 1) := by
  unfold cOpen
  rw [ur_ur, ur_eq]
  congr 1
  funext j
  unfold upd
  by_cases e : j = k
  · rw [if_pos e, if_pos (by omega), e, hw]
  · rw [if_neg e]
    dsimp only
    by_cases e2 : j < k
    · rw [if_pos e2, if_pos (by omega)]
    · rw [if_neg e2, if_neg (by omega)]
def lsO (P : Nat → Bool) (a k : Nat) : Option Nat := match lstT P k with
  | none => none
  | some p => some (3 * a + p)
def onl (z : Nat → Nat → Int32) (a : Nat) : Option Nat := if cntT (fun k => decide (¬ z 33 (3 * a + k) = 0)) 3 = 1 then lsO (fun k => decide (¬ z 33 (3 * a + k) = 0)) a 3 else none
theorem asF_onl {z : Nat → Nat → Int32} {r : Int32} {a : Nat} (ha : a < 12) (h : z 5 a = 0 ∨ nI 4 < r) : asF (z 33) (cAsks z r) a = onl z a := by
  have e : (decide (z 5 a = 0) || decide (nI 4 < r)) = true := by
    rcases h with h | h
    · rw [decide_eq_true h, Bool.true_or]
    · rw [decide_eq_true h, Bool.or_true]
  unfold asF onl lsO
  by_cases c : cntT (fun k => decide (¬ z 33 (3 * a + k) = 0)) 3 = 1
  · rw [if_pos ⟨ha, by unfold cAsks; rw [decide_eq_true c, e]; rfl⟩, if_pos c]
    cases lstT (fun p => decide (¬ z 33 (3 * a + p) = 0)) 3 <;> rfl
  · rw [if_neg (fun h => by have h2 := h.2; unfold cAsks at h2; rw [decide_eq_false c] at h2; cases h2), if_neg c]
theorem asF_held {z : Nat → Nat → Int32} {r : Int32} {a : Nat} (h1 : ¬ z 5 a = 0) (h2 : ¬ nI 4 < r) : asF (z 33) (cAsks z r) a = none := by
  unfold asF
  rw [if_neg (fun h => by have h3 := h.2; unfold cAsks at h3; rw [decide_eq_false h1, decide_eq_false h2, Bool.or_false, Bool.and_false] at h3; cases h3)]
theorem cAs_0 {z : Nat → Nat → Int32} {r : Int32} : cAs z r 0 = z := by
  unfold cAs
  rw [show (fun i => if i < 0 then oi (asF (z 33) (cAsks z r) i) else z 34 i) = z 34 from funext fun k => if_neg (by omega), ur_self]
theorem cAs_s {z : Nat → Nat → Int32} {r w : Int32} {k : Nat} (hw : w = oi (asF (z 33) (cAsks z r) k)) : ur (cAs z r k) 34 (upd (cAs z r k 34) k w) = cAs z r (k + 1) := by
  unfold cAs
  rw [ur_ur, ur_eq]
  congr 1
  funext j
  unfold upd
  by_cases e : j = k
  · rw [if_pos e, if_pos (by omega), e, hw]
  · rw [if_neg e]
    dsimp only
    by_cases e2 : j < k
    · rw [if_pos e2, if_pos (by omega)]
    · rw [if_neg e2, if_neg (by omega)]
theorem clos_eq {z : Nat → Nat → Int32} {k o : Nat} (hne : k ≠ o) : ur (ur z 14 (upd (z 14) (k / 3) (nI (o / 3)))) 33 (upd (upd (z 33) k (nI 0)) o (nI 0)) = gClose 33 z k o := by
  unfold gClose
  rw [ur_comm _ _ _ (by decide)]
  congr 1
  congr 1
  funext j
  unfold upd
  by_cases e1 : j = o
  · by_cases e2 : j = k
    · exact absurd (e2.symm.trans e1) hne
    · rw [if_pos e1, if_neg e2, if_pos e1]
  · rw [if_neg e1]
    by_cases e2 : j = k
    · rw [if_pos e2, if_pos e2]
    · rw [if_neg e2, if_neg e2, if_neg e1]
theorem clos_eq2 {z : Nat → Nat → Int32} {k o : Nat} : ur (ur z 14 (upd (z 14) (o / 3) (nI (k / 3)))) 33 (upd (upd (z 33) k (nI 0)) o (nI 0)) = gClose 33 z o k := by
  unfold gClose
  rw [ur_comm _ _ _ (by decide)]
theorem oi_s {r : Option Nat} {k : Nat} (hk : k < 2 ^ 31) (hr : ∀ j, r = some j → j < 2 ^ 31) : oi r = nI k ↔ r = some k := by
  cases r with
  | none => exact ⟨fun h => absurd h.symm (nI_m1 hk), fun h => by cases h⟩
  | some j =>
    refine ⟨fun h => ?_, fun h => by cases h; rfl⟩
    have := (nI_eq (hr j rfl) hk).mp h
    rw [this]
theorem gClose_ne {z : Nat → Nat → Int32} {k o j : Nat} (h1 : j ≠ 33) (h2 : j ≠ 14) : gClose 33 z k o j = z j := by
  unfold gClose
  rw [ur_ne h2, ur_ne h1]
theorem cCon_ne {z : Nat → Nat → Int32} {k o j : Nat} (h1 : j ≠ 33) (h2 : j ≠ 14) (h4 : j ≠ 4) : cCon z k o j = z j := by
  have e : (mNB (mNB z (k / 3)).2 (o / 3)).2 j = z j := by
    unfold mNB
    dsimp only
    rw [ur_ne h4, ur_ne h4]
  unfold cCon
  split
  · exact e
  · split
    · rw [gClose_ne h1 h2]; exact e
    · rw [gClose_ne h1 h2]; exact e
theorem cCl_ne {ot as : Nat → Option Nat} {z : Nat → Nat → Int32} {j : Nat} (h1 : j ≠ 33) (h2 : j ≠ 14) (h4 : j ≠ 4) : ∀ m, cCl ot as z m j = z j := by
  intro m
  induction m with
  | zero => rfl
  | succ m ih =>
    show cCl1 ot as (cCl ot as z m) m j = _
    unfold cCl1
    cases as m with
    | none => exact ih
    | some k =>
      dsimp only
      cases ot k with
      | none => exact ih
      | some o =>
        dsimp only
        split
        · split
          · rw [cCon_ne h1 h2 h4]; exact ih
          · exact ih
        · rw [gClose_ne h1 h2]; exact ih
theorem PV.gcl {z : Nat → Nat → Int32} (v : PV z) (k o : Nat) : PV (gClose 33 z k o) := (v.ur (by decide)).ur (by decide)
theorem PV.con {z : Nat → Nat → Int32} (v : PV z) (k o : Nat) : PV (cCon z k o) := by
  unfold cCon
  split
  · exact (v.nb _).nb _
  · split
    · exact ((v.nb _).nb _).gcl _ _
    · exact ((v.nb _).nb _).gcl _ _
theorem PV.ccl {ot as : Nat → Option Nat} {z : Nat → Nat → Int32} (v : PV z) : ∀ m, PV (cCl ot as z m) := by
  intro m
  induction m with
  | zero => exact v
  | succ m ih =>
    show PV (cCl1 ot as (cCl ot as z m) m)
    unfold cCl1
    split
    · exact ih
    · split
      · exact ih
      · split
        · split
          · exact ih.con _ _
          · exact ih
        · exact ih.gcl _ _
section Cls5
variable {l : Launch} {D : va_G} {A : Nat → ClassId} {G : Heap} {b n df : Nat} {z : Nat → Nat → Int32} {r : Nat → Nat → Option Nat} {S : Nat → Bool} {q : Nat → Nat → Int32} {h : Hp}
set_option maxRecDepth 4000 in
set_option maxHeartbeats 1000000 in
theorem k_T_openCables (hl : l.stackTraces = false) {v0 : Int32} {ot : Nat → Option Nat} (hot : ∀ k, k < 36 → z 30 k = oi (ot k)) (ht36 : ∀ k t, k < 36 → ot k = some t → t < 36) : Ct l D A G my_T_openCables cd_T_openCables 5 none (df + 1) 0 0 [.ref (b + 4), .ref (b + 1), .int v0] (CH A b z r (RH S q h)) n (fun v h' n' => v = none ∧ h' = CH A b (cOpen ot z v0 36) r (RH S q h) ∧ n' = n) (fun _ _ _ => False) := by
  refine Ct.of (by decide) hl (Nat.le_of_ble_eq_true rfl) ?_
  intro p e s m args below meth c C hr hnm ht dp
  have lp : ∀ k, k ≤ 36 → Rw p l e (cR (df + 1) 0 0) s m args below meth c (CQ D G n (fun v h' n' => v = none ∧ h' = CH A b (cOpen ot z v0 36) r (RH S q h) ∧ n' = n) (fun _ _ _ => False) below args s 0 0) D G 5 0 0 (CH A b (cOpen ot z v0 k) r (RH S q h)) n [(0, .ref (b + 4)), (1, .ref (b + 1)), (2, .int v0), (3, .int (nI k))] 2 [] := by
    refine r_loop 36 _ ?_ ?_
    ·
      refine r_iload_n C dc_T_openCables_2 rfl rfl ?_
      refine r_bipush (v := nI 36) C dc_T_openCables_3 (by decide) ?_
      refine r_icmp_geN (tgt := 58) C dc_T_openCables_5 (by decide) (by omega) (by omega) (fun c5 => ?_) (fun c5 => ?_)
      ·
        exact r_vret C dp hr dc_T_openCables_58 (Nat.le_refl _) ⟨rfl, rfl, rfl⟩
      · exact absurd c5 (by omega)
    ·
      intro k hk ih
      refine r_iload_n C dc_T_openCables_2 rfl rfl ?_
      refine r_bipush (v := nI 36) C dc_T_openCables_3 (by decide) ?_
      refine r_icmp_geN (tgt := 58) C dc_T_openCables_5 (by decide) (by omega) (by omega) (fun c5 => ?_) (fun c5 => ?_)
      · exact absurd c5 (by omega)
      ·
        first | refine r_aload_n C dc_T_openCables_8 rfl rfl ?_ | refine r_aload_nq C dc_T_openCables_8 rfl rfl ?_
        refine r_iload_n C dc_T_openCables_9 rfl rfl ?_
        refine r_iconst (v := nI 3) C dc_T_openCables_10 (by decide) ?_
        first | refine r_idivN C dc_T_openCables_11 (by omega) (by decide) (by decide) ?_ | refine r_idiv C dc_T_openCables_11 (by decide) ?_
        refine r_callV C dp dc_T_openCables_12 cw_T_46 cm_W_busOf cv_W_busOf rfl (ch_W) (k_W_busOf (df := df) (i := k / 3) hl ch_W ch_bus (by omega)) (by omega) rfl rfl (Nat.le_of_ble_eq_true rfl) (fun v12 h12 n12 q12 z12 => ?_) (fun _ _ _ _ z => z.elim)
        obtain ⟨y12, y12h, y12n⟩ := z12
        rw [y12, y12h, y12n]
        refine r_iload_n C dc_T_openCables_15 rfl rfl ?_
        refine r_icmp_ne (tgt := 23) C dc_T_openCables_16 (by decide) (fun c16 => ?_) (fun c16 => ?_)
        ·
          refine r_iconst (v := nI 0) C dc_T_openCables_23 (by decide) ?_
          refine r_istore C dc_T_openCables_24 (by decide) (nw_of rfl) ?_
          first | refine r_aload_n C dc_T_openCables_26 rfl rfl ?_ | refine r_aload_nq C dc_T_openCables_26 rfl rfl ?_
          refine r_get C dc_T_openCables_27 fl_T_9 ch_T rfl ?_
          refine r_iload_n C dc_T_openCables_30 rfl rfl ?_
          refine r_iload C dc_T_openCables_31 rfl ?_
          refine r_if_eq (tgt := 50) C dc_T_openCables_33 (by decide) (fun c33 => ?_) (fun c33 => ?_)
          ·
            refine r_iconst (v := nI 0) C dc_T_openCables_50 (by decide) ?_
            refine r_zast C dc_T_openCables_51 ch_open rfl (by omega) (by decide) (by first | exact zi_01 _ | exact zv_0 | exact zv_1 | assumption | decide) ?_
            refine rw_hh cs_open ?_
            refine rw_hh (h' := CH A b (cOpen ot z v0 (k + 1)) r (RH S q h)) (by rw [cOpen_s (by rw [decide_eq_false (show ¬ z 31 (k / 3) = v0 from c16), Bool.false_and]; rfl)]) ?_
            first | refine r_iincN C dc_T_openCables_52 rfl (by decide) (nw_of rfl) ?_ | refine r_iinc C dc_T_openCables_52 rfl rfl (by decide) (nw_of rfl) ?_
            refine r_goto (tgt := 2) C dc_T_openCables_55 (by decide) ?_
            refine r_weak ?_ (ih)
            exact wl_c (rfl) (wl_c (rfl) (wl_c (rfl) (wl_c (rfl) (wl_n))))
          · exact absurd rfl c33
        ·
          refine r_iconst (v := nI 1) C dc_T_openCables_19 (by decide) ?_
          refine r_goto (tgt := 24) C dc_T_openCables_20 (by decide) ?_
          refine r_istore C dc_T_openCables_24 (by decide) (nw_of rfl) ?_
          first | refine r_aload_n C dc_T_openCables_26 rfl rfl ?_ | refine r_aload_nq C dc_T_openCables_26 rfl rfl ?_
          refine r_get C dc_T_openCables_27 fl_T_9 ch_T rfl ?_
          refine r_iload_n C dc_T_openCables_30 rfl rfl ?_
          refine r_iload C dc_T_openCables_31 rfl ?_
          refine r_if_eq (tgt := 50) C dc_T_openCables_33 (by decide) (fun c33 => ?_) (fun c33 => ?_)
          · exact absurd c33 (by decide)
          ·
            first | refine r_aload_n C dc_T_openCables_36 rfl rfl ?_ | refine r_aload_nq C dc_T_openCables_36 rfl rfl ?_
            refine r_get C dc_T_openCables_37 fl_T_58 ch_W rfl ?_
            refine r_iload_n C dc_T_openCables_40 rfl rfl ?_
            refine r_ialdN C dc_T_openCables_41 ch_far (by omega) (by decide) ?_
            refine sb_at (P := fun v => Rw _ _ _ _ _ _ _ _ _ _ _ _ _ _ _ _ _ _ _ _ (.int v :: _)) (show _ = oi (ot k) from hot k hk) ?_
            refine r_iconst (v := -1) C dc_T_openCables_42 (by decide) ?_
            cases eo : ot k with
            | none =>
              refine r_icmp_eq (tgt := 50) C dc_T_openCables_43 (by decide) (fun c43 => ?_) (fun c43 => ?_)
              ·
                refine r_iconst (v := nI 0) C dc_T_openCables_50 (by decide) ?_
                refine r_zast C dc_T_openCables_51 ch_open rfl (by omega) (by decide) (by first | exact zi_01 _ | exact zv_0 | exact zv_1 | assumption | decide) ?_
                refine rw_hh cs_open ?_
                refine rw_hh (h' := CH A b (cOpen ot z v0 (k + 1)) r (RH S q h)) (by rw [cOpen_s (by rw [eo, decide_eq_true (show z 31 (k / 3) = v0 from c16)]; rfl)]) ?_
                first | refine r_iincN C dc_T_openCables_52 rfl (by decide) (nw_of rfl) ?_ | refine r_iinc C dc_T_openCables_52 rfl rfl (by decide) (nw_of rfl) ?_
                refine r_goto (tgt := 2) C dc_T_openCables_55 (by decide) ?_
                refine r_weak ?_ (ih)
                exact wl_c (rfl) (wl_c (rfl) (wl_c (rfl) (wl_c (rfl) (wl_n))))
              · exact absurd rfl c43
            | some t =>
              have h36 := ht36 _ _ hk eo
              refine r_icmp_eq (tgt := 50) C dc_T_openCables_43 (by decide) (fun c43 => ?_) (fun c43 => ?_)
              · exact absurd (show nI t = -1 from c43) (nI_m1 (by omega))
              ·
                refine r_iconst (v := nI 1) C dc_T_openCables_46 (by decide) ?_
                refine r_goto (tgt := 51) C dc_T_openCables_47 (by decide) ?_
                refine r_zast C dc_T_openCables_51 ch_open rfl (by omega) (by decide) (by first | exact zi_01 _ | exact zv_0 | exact zv_1 | assumption | decide) ?_
                refine rw_hh cs_open ?_
                refine rw_hh (h' := CH A b (cOpen ot z v0 (k + 1)) r (RH S q h)) (by rw [cOpen_s (by rw [eo, decide_eq_true (show z 31 (k / 3) = v0 from c16)]; rfl)]) ?_
                first | refine r_iincN C dc_T_openCables_52 rfl (by decide) (nw_of rfl) ?_ | refine r_iinc C dc_T_openCables_52 rfl rfl (by decide) (nw_of rfl) ?_
                refine r_goto (tgt := 2) C dc_T_openCables_55 (by decide) ?_
                refine r_weak ?_ (ih)
                exact wl_c (rfl) (wl_c (rfl) (wl_c (rfl) (wl_c (rfl) (wl_n))))
  refine rw_hh (h' := CH A b (cOpen ot z v0 0) r (RH S q h)) (by rw [cOpen_0]) ?_
  refine r_iconst (v := nI 0) C dc_T_openCables_0 (by decide) ?_
  refine r_istore_n C dc_T_openCables_1 rfl (by decide) (nw_of rfl) ?_
  refine r_weak ?_ (lp 0 (by omega))
  exact wl_c (rfl) (wl_c (rfl) (wl_c (rfl) (wl_c (rfl) (wl_n))))
set_option maxRecDepth 4000 in
set_option maxHeartbeats 1000000 in
theorem k_T_someOpen (hl : l.stackTraces = false)  : Ct l D A G my_T_someCableIsOpen cd_T_someCableIsOpen 2 (some (.boolean)) df 0 0 [.ref (b + 4)] (CH A b z r (RH S q h)) n (fun v h' n' => v = some (.int (zi (cAny z))) ∧ h' = CH A b z r (RH S q h) ∧ n' = n) (fun _ _ _ => False) := by
  refine Ct.of (by decide) hl (Nat.le_of_ble_eq_true rfl) ?_
  intro p e s m args below meth c C hr hnm ht dp
  have lp : ∀ k, k ≤ 36 → anyT (fun k => decide (¬ z 33 k = 0)) k = false → Rw p l e (cR df 0 0) s m args below meth c (CQ D G n (fun v h' n' => v = some (.int (zi (cAny z))) ∧ h' = CH A b z r (RH S q h) ∧ n' = n) (fun _ _ _ => False) below args s 0 0) D G 2 0 0 (CH A b z r (RH S q h)) n [(0, .ref (b + 4)), (1, .int (nI k))] 2 [] := by
    refine r_loop 36 _ ?_ ?_
    ·
      intro hpre
      refine r_iload_n C dc_T_someCableIsOpen_2 rfl rfl ?_
      refine r_bipush (v := nI 36) C dc_T_someCableIsOpen_3 (by decide) ?_
      refine r_icmp_geN (tgt := 25) C dc_T_someCableIsOpen_5 (by decide) (by omega) (by omega) (fun c5 => ?_) (fun c5 => ?_)
      ·
        refine r_iconst (v := nI 0) C dc_T_someCableIsOpen_25 (by decide) ?_
        have e1 : cAny z = false := hpre
        exact r_zret (v := zi false) C dp hr dc_T_someCableIsOpen_26 (zi_01 _) (Nat.le_refl _) ⟨by rw [e1], rfl, rfl⟩
      · exact absurd c5 (by omega)
    ·
      intro k hk ih hpre
      refine r_iload_n C dc_T_someCableIsOpen_2 rfl rfl ?_
      refine r_bipush (v := nI 36) C dc_T_someCableIsOpen_3 (by decide) ?_
      refine r_icmp_geN (tgt := 25) C dc_T_someCableIsOpen_5 (by decide) (by omega) (by omega) (fun c5 => ?_) (fun c5 => ?_)
      · exact absurd c5 (by omega)
      ·
        first | refine r_aload_n C dc_T_someCableIsOpen_8 rfl rfl ?_ | refine r_aload_nq C dc_T_someCableIsOpen_8 rfl rfl ?_
        refine r_get C dc_T_someCableIsOpen_9 fl_T_9 ch_T rfl ?_
        refine r_iload_n C dc_T_someCableIsOpen_12 rfl rfl ?_
        refine r_zaldN C dc_T_someCableIsOpen_13 ch_open (by omega) (by decide) ?_
        refine r_if_eq (tgt := 19) C dc_T_someCableIsOpen_14 (by decide) (fun c14 => ?_) (fun c14 => ?_)
        ·
          first | refine r_iincN C dc_T_someCableIsOpen_19 rfl (by decide) (nw_of rfl) ?_ | refine r_iinc C dc_T_someCableIsOpen_19 rfl rfl (by decide) (nw_of rfl) ?_
          refine r_goto (tgt := 2) C dc_T_someCableIsOpen_22 (by decide) ?_
          refine r_weak ?_ (ih (by show (anyT (fun k => decide (¬ z 33 k = 0)) k || decide (¬ z 33 k = 0)) = false; rw [hpre, decide_eq_false (fun q => q c14)]; rfl))
          exact wl_c (rfl) (wl_c (rfl) (wl_n))
        ·
          refine r_iconst (v := nI 1) C dc_T_someCableIsOpen_17 (by decide) ?_
          have e1 : cAny z = true := any_of hk (decide_eq_true c14)
          exact r_zret (v := zi true) C dp hr dc_T_someCableIsOpen_18 (zi_01 _) (Nat.le_refl _) ⟨by rw [e1], rfl, rfl⟩
  refine r_iconst (v := nI 0) C dc_T_someCableIsOpen_0 (by decide) ?_
  refine r_istore_n C dc_T_someCableIsOpen_1 rfl (by decide) (nw_of rfl) ?_
  refine r_weak ?_ (lp 0 (by omega) rfl)
  exact wl_c (rfl) (wl_c (rfl) (wl_n))
set_option maxRecDepth 4000 in
set_option maxHeartbeats 1000000 in
theorem k_T_only (hl : l.stackTraces = false) {a : Nat} (ha : a < 12) : Ct l D A G my_T_onlyOpenSocket cd_T_onlyOpenSocket 5 (some (.int)) df 0 0 [.ref (b + 4), .int (nI a)] (CH A b z r (RH S q h)) n (fun v h' n' => v = some (.int (oi (onl z a))) ∧ h' = CH A b z r (RH S q h) ∧ n' = n) (fun _ _ _ => False) := by
  refine Ct.of (by decide) hl (Nat.le_of_ble_eq_true rfl) ?_
  intro p e s m args below meth c C hr hnm ht dp
  have lp : ∀ k, k ≤ 3 → Rw p l e (cR df 0 0) s m args below meth c (CQ D G n (fun v h' n' => v = some (.int (oi (onl z a))) ∧ h' = CH A b z r (RH S q h) ∧ n' = n) (fun _ _ _ => False) below args s 0 0) D G 5 0 0 (CH A b z r (RH S q h)) n [(0, .ref (b + 4)), (1, .int (nI a)), (2, .int (oi (lsO (fun k => decide (¬ z 33 (3 * a + k) = 0)) a k))), (3, .int (nI (cntT (fun k => decide (¬ z 33 (3 * a + k) = 0)) k))), (4, .int (nI k))] 7 [] := by
    refine r_loop 3 _ ?_ ?_
    ·
      refine r_iload C dc_T_onlyOpenSocket_7 rfl ?_
      refine r_iconst (v := nI 3) C dc_T_onlyOpenSocket_9 (by decide) ?_
      refine r_icmp_geN (tgt := 43) C dc_T_onlyOpenSocket_10 (by decide) (by omega) (by omega) (fun c10 => ?_) (fun c10 => ?_)
      ·
        have hc3 := cntT_le (fun k => decide (¬ z 33 (3 * a + k) = 0)) 3
        refine r_iload_n C dc_T_onlyOpenSocket_43 rfl rfl ?_
        refine r_iconst (v := nI 1) C dc_T_onlyOpenSocket_44 (by decide) ?_
        refine r_icmp_neN (tgt := 52) C dc_T_onlyOpenSocket_45 (by decide) (by omega) (by omega) (fun c45 => ?_) (fun c45 => ?_)
        ·
          refine r_iconst (v := -1) C dc_T_onlyOpenSocket_52 (by decide) ?_
          exact r_iret C dp hr dc_T_onlyOpenSocket_53 (Nat.le_refl _) ⟨by unfold onl; rw [if_neg c45]; rfl, rfl, rfl⟩
        ·
          refine r_iload_n C dc_T_onlyOpenSocket_48 rfl rfl ?_
          refine r_goto (tgt := 53) C dc_T_onlyOpenSocket_49 (by decide) ?_
          exact r_iret C dp hr dc_T_onlyOpenSocket_53 (Nat.le_refl _) ⟨by unfold onl; rw [if_pos c45], rfl, rfl⟩
      · exact absurd c10 (by omega)
    ·
      intro k hk ih
      refine r_iload C dc_T_onlyOpenSocket_7 rfl ?_
      refine r_iconst (v := nI 3) C dc_T_onlyOpenSocket_9 (by decide) ?_
      refine r_icmp_geN (tgt := 43) C dc_T_onlyOpenSocket_10 (by decide) (by omega) (by omega) (fun c10 => ?_) (fun c10 => ?_)
      · exact absurd c10 (by omega)
      ·
        first | refine r_aload_n C dc_T_onlyOpenSocket_13 rfl rfl ?_ | refine r_aload_nq C dc_T_onlyOpenSocket_13 rfl rfl ?_
        refine r_get C dc_T_onlyOpenSocket_14 fl_T_9 ch_T rfl ?_
        refine r_iload_n C dc_T_onlyOpenSocket_17 rfl rfl ?_
        refine r_iconst (v := nI 3) C dc_T_onlyOpenSocket_18 (by decide) ?_
        first | refine r_imulN C dc_T_onlyOpenSocket_19 ?_ | refine r_imul C dc_T_onlyOpenSocket_19 ?_
        refine r_iload C dc_T_onlyOpenSocket_20 rfl ?_
        first | refine r_iaddN C dc_T_onlyOpenSocket_22 ?_ | refine r_iadd C dc_T_onlyOpenSocket_22 ?_
        refine r_zaldN C dc_T_onlyOpenSocket_23 ch_open (by omega) (by decide) ?_
        refine sb_at (P := fun v => Rw _ _ _ _ _ _ _ _ _ _ _ _ _ _ _ _ _ _ _ _ (.int v :: _)) (show _ = z 33 (3 * a + k) from by rw [show a * 3 + k = 3 * a + k by omega]) ?_
        refine r_if_eq (tgt := 37) C dc_T_onlyOpenSocket_24 (by decide) (fun c24 => ?_) (fun c24 => ?_)
        ·
          have eP : (fun k => decide (¬ z 33 (3 * a + k) = 0)) k = false := decide_eq_false (fun q => q c24)
          first | refine r_iincN C dc_T_onlyOpenSocket_37 rfl (by decide) (nw_of rfl) ?_ | refine r_iinc C dc_T_onlyOpenSocket_37 rfl rfl (by decide) (nw_of rfl) ?_
          refine r_goto (tgt := 7) C dc_T_onlyOpenSocket_40 (by decide) ?_
          refine r_weak ?_ (ih)
          exact wl_c (rfl) (wl_c (rfl) (wl_c (by unfold lsO; rw [lst_0 eP]; rfl) (wl_c (by rw [cnt_0 eP]; rfl) (wl_c (rfl) (wl_n)))))
        ·
          have eP : (fun k => decide (¬ z 33 (3 * a + k) = 0)) k = true := decide_eq_true c24
          refine r_iload_n C dc_T_onlyOpenSocket_27 rfl rfl ?_
          refine r_iconst (v := nI 3) C dc_T_onlyOpenSocket_28 (by decide) ?_
          first | refine r_imulN C dc_T_onlyOpenSocket_29 ?_ | refine r_imul C dc_T_onlyOpenSocket_29 ?_
          refine r_iload C dc_T_onlyOpenSocket_30 rfl ?_
          first | refine r_iaddN C dc_T_onlyOpenSocket_32 ?_ | refine r_iadd C dc_T_onlyOpenSocket_32 ?_
          refine r_istore_n C dc_T_onlyOpenSocket_33 rfl (by decide) (nw_of rfl) ?_
          first | refine r_iincN C dc_T_onlyOpenSocket_34 rfl (by decide) (nw_of rfl) ?_ | refine r_iinc C dc_T_onlyOpenSocket_34 rfl rfl (by decide) (nw_of rfl) ?_
          first | refine r_iincN C dc_T_onlyOpenSocket_37 rfl (by decide) (nw_of rfl) ?_ | refine r_iinc C dc_T_onlyOpenSocket_37 rfl rfl (by decide) (nw_of rfl) ?_
          refine r_goto (tgt := 7) C dc_T_onlyOpenSocket_40 (by decide) ?_
          refine r_weak ?_ (ih)
          exact wl_c (rfl) (wl_c (rfl) (wl_c (by unfold lsO; rw [lst_1 eP, show a * 3 + k = 3 * a + k by omega]; rfl) (wl_c (by rw [cnt_1 eP]; rfl) (wl_c (rfl) (wl_n)))))
  refine r_iconst (v := -1) C dc_T_onlyOpenSocket_0 (by decide) ?_
  refine r_istore_n C dc_T_onlyOpenSocket_1 rfl (by decide) (nw_of rfl) ?_
  refine r_iconst (v := nI 0) C dc_T_onlyOpenSocket_2 (by decide) ?_
  refine r_istore_n C dc_T_onlyOpenSocket_3 rfl (by decide) (nw_of rfl) ?_
  refine r_iconst (v := nI 0) C dc_T_onlyOpenSocket_4 (by decide) ?_
  refine r_istore C dc_T_onlyOpenSocket_5 (by decide) (nw_of rfl) ?_
  refine r_weak ?_ (lp 0 (by omega))
  exact wl_c (rfl) (wl_c (rfl) (wl_c (rfl) (wl_c (rfl) (wl_c (rfl) (wl_n)))))
set_option maxRecDepth 4000 in
set_option maxHeartbeats 1000000 in
theorem k_T_choose (hl : l.stackTraces = false) {r0 : Int32} : Ct l D A G my_T_chooseAskers cd_T_chooseAskers 5 none (df + 1) 0 0 [.ref (b + 4), .ref (b + 7), .int r0] (CH A b z r (RH S q h)) n (fun v h' n' => v = none ∧ h' = CH A b (cAs z r0 12) r (RH S q h) ∧ n' = n) (fun _ _ _ => False) := by
  refine Ct.of (by decide) hl (Nat.le_of_ble_eq_true rfl) ?_
  intro p e s m args below meth c C hr hnm ht dp
  have lp : ∀ k, k ≤ 12 → Rw p l e (cR (df + 1) 0 0) s m args below meth c (CQ D G n (fun v h' n' => v = none ∧ h' = CH A b (cAs z r0 12) r (RH S q h) ∧ n' = n) (fun _ _ _ => False) below args s 0 0) D G 5 0 0 (CH A b (cAs z r0 k) r (RH S q h)) n [(0, .ref (b + 4)), (1, .ref (b + 7)), (2, .int r0), (3, .int (nI k))] 2 [] := by
    refine r_loop 12 _ ?_ ?_
    ·
      refine r_iload_n C dc_T_chooseAskers_2 rfl rfl ?_
      refine r_bipush (v := nI 12) C dc_T_chooseAskers_3 (by decide) ?_
      refine r_icmp_geN (tgt := 55) C dc_T_chooseAskers_5 (by decide) (by omega) (by omega) (fun c5 => ?_) (fun c5 => ?_)
      ·
        exact r_vret C dp hr dc_T_chooseAskers_55 (Nat.le_refl _) ⟨rfl, rfl, rfl⟩
      · exact absurd c5 (by omega)
    ·
      intro k hk ih
      refine r_iload_n C dc_T_chooseAskers_2 rfl rfl ?_
      refine r_bipush (v := nI 12) C dc_T_chooseAskers_3 (by decide) ?_
      refine r_icmp_geN (tgt := 55) C dc_T_chooseAskers_5 (by decide) (by omega) (by omega) (fun c5 => ?_) (fun c5 => ?_)
      · exact absurd c5 (by omega)
      ·
        first | refine r_aload_n C dc_T_chooseAskers_8 rfl rfl ?_ | refine r_aload_nq C dc_T_chooseAskers_8 rfl rfl ?_
        refine r_iload_n C dc_T_chooseAskers_9 rfl rfl ?_
        refine r_nald C dc_T_chooseAskers_10 (by omega) ?_
        refine r_get C dc_T_chooseAskers_11 fl_T_61 (ch_node (by omega)) rfl ?_
        refine r_if_eq (tgt := 26) C dc_T_chooseAskers_14 (by decide) (fun c14 => ?_) (fun c14 => ?_)
        ·
          refine r_iconst (v := nI 0) C dc_T_chooseAskers_26 (by decide) ?_
          refine r_istore C dc_T_chooseAskers_27 (by decide) (nw_of rfl) ?_
          first | refine r_aload_n C dc_T_chooseAskers_29 rfl rfl ?_ | refine r_aload_nq C dc_T_chooseAskers_29 rfl rfl ?_
          refine r_get C dc_T_chooseAskers_30 fl_T_15 ch_T rfl ?_
          refine r_iload_n C dc_T_chooseAskers_33 rfl rfl ?_
          refine r_iload C dc_T_chooseAskers_34 rfl ?_
          refine r_if_eq (tgt := 43) C dc_T_chooseAskers_36 (by decide) (fun c36 => ?_) (fun c36 => ?_)
          ·
            first | refine r_aload_n C dc_T_chooseAskers_43 rfl rfl ?_ | refine r_aload_nq C dc_T_chooseAskers_43 rfl rfl ?_
            refine r_iload_n C dc_T_chooseAskers_44 rfl rfl ?_
            refine r_callV C dp dc_T_chooseAskers_45 cw_T_65 cm_T_onlyOpenSocket cv_T_onlyOpenSocket rfl (ch_T) (k_T_only (df := df) (z := cAs z r0 k) (a := k) hl hk) (by omega) rfl rfl (Nat.le_of_ble_eq_true rfl) (fun v45 h45 n45 q45 z45 => ?_) (fun _ _ _ _ z => z.elim)
            obtain ⟨y45, y45h, y45n⟩ := z45
            rw [y45, y45h, y45n]
            refine r_iast C dc_T_chooseAskers_48 ch_ask rfl (by omega) (by decide) ?_
            refine rw_hh cs_ask ?_
            refine rw_hh (h' := CH A b (cAs z r0 (k + 1)) r (RH S q h)) (by rw [cAs_s (by rw [asF_onl (z := z) hk (Or.inl c14)]; rfl)]) ?_
            first | refine r_iincN C dc_T_chooseAskers_49 rfl (by decide) (nw_of rfl) ?_ | refine r_iinc C dc_T_chooseAskers_49 rfl rfl (by decide) (nw_of rfl) ?_
            refine r_goto (tgt := 2) C dc_T_chooseAskers_52 (by decide) ?_
            refine r_weak ?_ (ih)
            exact wl_c (rfl) (wl_c (rfl) (wl_c (rfl) (wl_c (rfl) (wl_n))))
          · exact absurd rfl c36
        ·
          refine r_iload_n C dc_T_chooseAskers_17 rfl rfl ?_
          refine r_iconst (v := nI 4) C dc_T_chooseAskers_18 (by decide) ?_
          refine r_icmp_gt (tgt := 26) C dc_T_chooseAskers_19 (by decide) (fun c19 => ?_) (fun c19 => ?_)
          ·
            refine r_iconst (v := nI 0) C dc_T_chooseAskers_26 (by decide) ?_
            refine r_istore C dc_T_chooseAskers_27 (by decide) (nw_of rfl) ?_
            first | refine r_aload_n C dc_T_chooseAskers_29 rfl rfl ?_ | refine r_aload_nq C dc_T_chooseAskers_29 rfl rfl ?_
            refine r_get C dc_T_chooseAskers_30 fl_T_15 ch_T rfl ?_
            refine r_iload_n C dc_T_chooseAskers_33 rfl rfl ?_
            refine r_iload C dc_T_chooseAskers_34 rfl ?_
            refine r_if_eq (tgt := 43) C dc_T_chooseAskers_36 (by decide) (fun c36 => ?_) (fun c36 => ?_)
            ·
              first | refine r_aload_n C dc_T_chooseAskers_43 rfl rfl ?_ | refine r_aload_nq C dc_T_chooseAskers_43 rfl rfl ?_
              refine r_iload_n C dc_T_chooseAskers_44 rfl rfl ?_
              refine r_callV C dp dc_T_chooseAskers_45 cw_T_65 cm_T_onlyOpenSocket cv_T_onlyOpenSocket rfl (ch_T) (k_T_only (df := df) (z := cAs z r0 k) (a := k) hl hk) (by omega) rfl rfl (Nat.le_of_ble_eq_true rfl) (fun v45 h45 n45 q45 z45 => ?_) (fun _ _ _ _ z => z.elim)
              obtain ⟨y45, y45h, y45n⟩ := z45
              rw [y45, y45h, y45n]
              refine r_iast C dc_T_chooseAskers_48 ch_ask rfl (by omega) (by decide) ?_
              refine rw_hh cs_ask ?_
              refine rw_hh (h' := CH A b (cAs z r0 (k + 1)) r (RH S q h)) (by rw [cAs_s (by rw [asF_onl (z := z) hk (Or.inr c19)]; rfl)]) ?_
              first | refine r_iincN C dc_T_chooseAskers_49 rfl (by decide) (nw_of rfl) ?_ | refine r_iinc C dc_T_chooseAskers_49 rfl rfl (by decide) (nw_of rfl) ?_
              refine r_goto (tgt := 2) C dc_T_chooseAskers_52 (by decide) ?_
              refine r_weak ?_ (ih)
              exact wl_c (rfl) (wl_c (rfl) (wl_c (rfl) (wl_c (rfl) (wl_n))))
            · exact absurd rfl c36
          ·
            refine r_iconst (v := nI 1) C dc_T_chooseAskers_22 (by decide) ?_
            refine r_goto (tgt := 27) C dc_T_chooseAskers_23 (by decide) ?_
            refine r_istore C dc_T_chooseAskers_27 (by decide) (nw_of rfl) ?_
            first | refine r_aload_n C dc_T_chooseAskers_29 rfl rfl ?_ | refine r_aload_nq C dc_T_chooseAskers_29 rfl rfl ?_
            refine r_get C dc_T_chooseAskers_30 fl_T_15 ch_T rfl ?_
            refine r_iload_n C dc_T_chooseAskers_33 rfl rfl ?_
            refine r_iload C dc_T_chooseAskers_34 rfl ?_
            refine r_if_eq (tgt := 43) C dc_T_chooseAskers_36 (by decide) (fun c36 => ?_) (fun c36 => ?_)
            · exact absurd c36 (by decide)
            ·
              refine r_iconst (v := -1) C dc_T_chooseAskers_39 (by decide) ?_
              refine r_goto (tgt := 48) C dc_T_chooseAskers_40 (by decide) ?_
              refine r_iast C dc_T_chooseAskers_48 ch_ask rfl (by omega) (by decide) ?_
              refine rw_hh cs_ask ?_
              refine rw_hh (h' := CH A b (cAs z r0 (k + 1)) r (RH S q h)) (by rw [cAs_s (by rw [asF_held (z := z) c14 c19]; rfl)]) ?_
              first | refine r_iincN C dc_T_chooseAskers_49 rfl (by decide) (nw_of rfl) ?_ | refine r_iinc C dc_T_chooseAskers_49 rfl rfl (by decide) (nw_of rfl) ?_
              refine r_goto (tgt := 2) C dc_T_chooseAskers_52 (by decide) ?_
              refine r_weak ?_ (ih)
              exact wl_c (rfl) (wl_c (rfl) (wl_c (rfl) (wl_c (rfl) (wl_n))))
  refine rw_hh (h' := CH A b (cAs z r0 0) r (RH S q h)) (by rw [cAs_0]) ?_
  refine r_iconst (v := nI 0) C dc_T_chooseAskers_0 (by decide) ?_
  refine r_istore_n C dc_T_chooseAskers_1 rfl (by decide) (nw_of rfl) ?_
  refine r_weak ?_ (lp 0 (by omega))
  exact wl_c (rfl) (wl_c (rfl) (wl_c (rfl) (wl_c (rfl) (wl_n))))
set_option maxRecDepth 4000 in
set_option maxHeartbeats 1000000 in
theorem k_T_close (hl : l.stackTraces = false) {i pv k o : Nat} (hi : i < 12) (hk : k < 36) (ho : o < 36) : Ct l D A G my_T_close cd_T_close 5 none df 0 0 [.ref (b + 4), .ref (b + 8 + 5 * i), .int (nI pv), .int (nI k), .int (nI o)] (CH A b z r (RH S q h)) n (fun v h' n' => v = none ∧ h' = CH A b (ur (ur z 14 (upd (z 14) i (nI pv))) 33 (upd (upd (z 33) k (nI 0)) o (nI 0))) r (RH S q h) ∧ n' = n) (fun _ _ _ => False) := by
  refine Ct.of (by decide) hl (Nat.le_of_ble_eq_true rfl) ?_
  intro p e s m args below meth c C hr hnm ht dp
  first | refine r_aload_n C dc_T_close_0 rfl rfl ?_ | refine r_aload_nq C dc_T_close_0 rfl rfl ?_
  refine r_iload_n C dc_T_close_1 rfl rfl ?_
  refine r_put C dc_T_close_2 fl_T_80 (ch_node (by omega)) rfl rfl (Nat.le_of_ble_eq_true rfl) ?_
  refine rw_hh (cs_n14 (by omega)) ?_
  first | refine r_aload_n C dc_T_close_5 rfl rfl ?_ | refine r_aload_nq C dc_T_close_5 rfl rfl ?_
  refine r_get C dc_T_close_6 fl_T_9 ch_T rfl ?_
  refine r_iload_n C dc_T_close_9 rfl rfl ?_
  refine r_iconst (v := nI 0) C dc_T_close_10 (by decide) ?_
  refine r_zast C dc_T_close_11 ch_open rfl (by omega) (by decide) (by first | exact zi_01 _ | exact zv_0 | exact zv_1 | assumption | decide) ?_
  refine rw_hh cs_open ?_
  first | refine r_aload_n C dc_T_close_12 rfl rfl ?_ | refine r_aload_nq C dc_T_close_12 rfl rfl ?_
  refine r_get C dc_T_close_13 fl_T_9 ch_T rfl ?_
  refine r_iload C dc_T_close_16 rfl ?_
  refine r_iconst (v := nI 0) C dc_T_close_18 (by decide) ?_
  refine r_zast C dc_T_close_19 ch_open rfl (by omega) (by decide) (by first | exact zi_01 _ | exact zv_0 | exact zv_1 | assumption | decide) ?_
  refine rw_hh cs_open ?_
  exact r_vret C dp hr dc_T_close_20 (Nat.le_refl _) ⟨rfl, by rw [ur_ur, ur_eq]; rfl, rfl⟩
set_option maxRecDepth 4000 in
set_option maxHeartbeats 1000000 in
theorem k_T_contend (hl : l.stackTraces = false) {k o : Nat} (hk : k < 36) (ho : o < 36) (hne : k / 3 ≠ o / 3) (hpv : PV z) : Ct l D A G my_T_contend cd_T_contend 8 none (df + 1) 0 0 [.ref (b + 4), .ref (b + 7), .int (nI k), .int (nI o)] (CH A b z r (RH S q h)) n (fun v h' n' => v = none ∧ h' = CH A b (cCon z k o) r (RH S q h) ∧ n' = n) (fun _ _ _ => False) := by
  refine Ct.of (by decide) hl (Nat.le_of_ble_eq_true rfl) ?_
  intro p e s m args below meth c C hr hnm ht dp
  obtain ⟨p1, hp1, ep1⟩ := hpv (k / 3) (by omega)
  obtain ⟨p2, hp2, ep2⟩ := (hpv.nb (k / 3)) (o / 3) (by omega)
  have b1 := bt_01 z (k / 3)
  have b2 := bt_01 (mNB z (k / 3)).2 (o / 3)
  refine r_iload_n C dc_T_contend_0 rfl rfl ?_
  refine r_iconst (v := nI 3) C dc_T_contend_1 (by decide) ?_
  first | refine r_idivN C dc_T_contend_2 (by omega) (by decide) (by decide) ?_ | refine r_idiv C dc_T_contend_2 (by decide) ?_
  refine r_istore C dc_T_contend_3 (by decide) (nw_of rfl) ?_
  refine r_iload_n C dc_T_contend_5 rfl rfl ?_
  refine r_iconst (v := nI 3) C dc_T_contend_6 (by decide) ?_
  first | refine r_idivN C dc_T_contend_7 (by omega) (by decide) (by decide) ?_ | refine r_idiv C dc_T_contend_7 (by decide) ?_
  refine r_istore C dc_T_contend_8 (by decide) (nw_of rfl) ?_
  first | refine r_aload_n C dc_T_contend_10 rfl rfl ?_ | refine r_aload_nq C dc_T_contend_10 rfl rfl ?_
  refine r_iload C dc_T_contend_11 rfl ?_
  refine r_nald C dc_T_contend_13 (by omega) ?_
  refine r_callV C dp dc_T_contend_14 cw_T_76 cm_N_takeBit cv_N_takeBit rfl (ch_node (by omega)) (k_N_takeBit (df := df) hl (by omega) ep1 hp1) (by omega) rfl rfl (Nat.le_of_ble_eq_true rfl) (fun v14 h14 n14 q14 z14 => ?_) (fun _ _ _ _ z => z.elim)
  obtain ⟨y14, y14h, y14n⟩ := z14
  rw [y14, y14h, y14n]
  refine r_istore C dc_T_contend_17 (by decide) (nw_of rfl) ?_
  first | refine r_aload_n C dc_T_contend_19 rfl rfl ?_ | refine r_aload_nq C dc_T_contend_19 rfl rfl ?_
  refine r_iload C dc_T_contend_20 rfl ?_
  refine r_nald C dc_T_contend_22 (by omega) ?_
  refine r_callV C dp dc_T_contend_23 cw_T_76 cm_N_takeBit cv_N_takeBit rfl (ch_node (by omega)) (k_N_takeBit (df := df) (z := (mNB z (k / 3)).2) hl (by omega) ep2 hp2) (by omega) rfl rfl (Nat.le_of_ble_eq_true rfl) (fun v23 h23 n23 q23 z23 => ?_) (fun _ _ _ _ z => z.elim)
  obtain ⟨y23, y23h, y23n⟩ := z23
  rw [y23, y23h, y23n]
  refine r_istore C dc_T_contend_26 (by decide) (nw_of rfl) ?_
  refine r_iload C dc_T_contend_28 rfl ?_
  refine r_iload C dc_T_contend_30 rfl ?_
  refine r_icmp_ge (tgt := 50) C dc_T_contend_32 (by decide) (fun c32 => ?_) (fun c32 => ?_)
  ·
    refine r_iload C dc_T_contend_50 rfl ?_
    refine r_iload C dc_T_contend_52 rfl ?_
    refine r_icmp_le (tgt := 69) C dc_T_contend_54 (by decide) (fun c54 => ?_) (fun c54 => ?_)
    ·
      have e1 : (mNB z (k / 3)).1 = (mNB (mNB z (k / 3)).2 (o / 3)).1 := Int32.le_antisymm c54 c32
      exact r_vret C dp hr dc_T_contend_69 (Nat.le_refl _) ⟨rfl, by unfold cCon; rw [if_pos e1], rfl⟩
    ·
      have e1 : (mNB z (k / 3)).1 = nI 1 := by
        rcases b1 with e | e
        · rcases b2 with e2 | e2
          · rw [e, e2] at c54; exact absurd (by decide) c54
          · rw [e, e2] at c54; exact absurd (by decide) c54
        · exact e
      first | refine r_aload_n C dc_T_contend_57 rfl rfl ?_ | refine r_aload_nq C dc_T_contend_57 rfl rfl ?_
      first | refine r_aload_n C dc_T_contend_58 rfl rfl ?_ | refine r_aload_nq C dc_T_contend_58 rfl rfl ?_
      refine r_iload C dc_T_contend_59 rfl ?_
      refine r_nald C dc_T_contend_61 (by omega) ?_
      refine r_iload C dc_T_contend_62 rfl ?_
      refine r_iload_n C dc_T_contend_64 rfl rfl ?_
      refine r_iload_n C dc_T_contend_65 rfl rfl ?_
      refine r_callV C dp dc_T_contend_66 cw_T_68 cm_T_close cv_T_close rfl (ch_T) (k_T_close (df := df) (z := (mNB (mNB z (k / 3)).2 (o / 3)).2) (i := o / 3) hl (by omega) hk ho) (by omega) rfl rfl (Nat.le_of_ble_eq_true rfl) (fun v66 h66 n66 q66 z66 => ?_) (fun _ _ _ _ z => z.elim)
      obtain ⟨y66, y66h, y66n⟩ := z66
      rw [y66, y66h, y66n]
      exact r_vret C dp hr dc_T_contend_69 (Nat.le_refl _) ⟨rfl, by unfold cCon; rw [if_neg (fun e => c54 (by rw [e]; exact Int32.le_refl _)), if_pos e1, ← clos_eq2], rfl⟩
  ·
    have e1 : ¬ (mNB z (k / 3)).1 = nI 1 := by
      intro e
      rcases b2 with e2 | e2
      · rw [e, e2] at c32; exact absurd (by decide) c32
      · rw [e, e2] at c32; exact absurd (by decide) c32
    first | refine r_aload_n C dc_T_contend_35 rfl rfl ?_ | refine r_aload_nq C dc_T_contend_35 rfl rfl ?_
    first | refine r_aload_n C dc_T_contend_36 rfl rfl ?_ | refine r_aload_nq C dc_T_contend_36 rfl rfl ?_
    refine r_iload C dc_T_contend_37 rfl ?_
    refine r_nald C dc_T_contend_39 (by omega) ?_
    refine r_iload C dc_T_contend_40 rfl ?_
    refine r_iload_n C dc_T_contend_42 rfl rfl ?_
    refine r_iload_n C dc_T_contend_43 rfl rfl ?_
    refine r_callV C dp dc_T_contend_44 cw_T_68 cm_T_close cv_T_close rfl (ch_T) (k_T_close (df := df) (z := (mNB (mNB z (k / 3)).2 (o / 3)).2) (i := k / 3) hl (by omega) hk ho) (by omega) rfl rfl (Nat.le_of_ble_eq_true rfl) (fun v44 h44 n44 q44 z44 => ?_) (fun _ _ _ _ z => z.elim)
    obtain ⟨y44, y44h, y44n⟩ := z44
    rw [y44, y44h, y44n]
    refine r_goto (tgt := 69) C dc_T_contend_47 (by decide) ?_
    exact r_vret C dp hr dc_T_contend_69 (Nat.le_refl _) ⟨rfl, by unfold cCon; rw [if_neg (fun e => c32 (by rw [e]; exact Int32.le_refl _)), if_neg e1, ← clos_eq (fun e => hne (by rw [e]))], rfl⟩
set_option maxRecDepth 4000 in
set_option maxHeartbeats 1000000 in
theorem k_T_closeAsked (hl : l.stackTraces = false) {as : Nat → Option Nat} {ot : Nat → Option Nat} (hot : ∀ k, k < 36 → z 30 k = oi (ot k)) (ht36 : ∀ k t, k < 36 → ot k = some t → t < 36) (hne0 : ∀ k t, k < 36 → ot k = some t → k / 3 ≠ t / 3) (has : ∀ a, a < 12 → z 34 a = oi (as a)) (ha0 : ∀ a k, as a = some k → k / 3 = a ∧ k < 36) (hpv : PV z) : Ct l D A G my_T_closeAskedCables cd_T_closeAskedCables 7 none (df + 2) 0 0 [.ref (b + 4), .ref (b + 1), .ref (b + 7)] (CH A b z r (RH S q h)) n (fun v h' n' => v = none ∧ h' = CH A b (cCl ot as z 12) r (RH S q h) ∧ n' = n) (fun _ _ _ => False) := by
  refine Ct.of (by decide) hl (Nat.le_of_ble_eq_true rfl) ?_
  intro p e s m args below meth c C hr hnm ht dp
  have lp : ∀ k, k ≤ 12 → Rw p l e (cR (df + 2) 0 0) s m args below meth c (CQ D G n (fun v h' n' => v = none ∧ h' = CH A b (cCl ot as z 12) r (RH S q h) ∧ n' = n) (fun _ _ _ => False) below args s 0 0) D G 7 0 0 (CH A b (cCl ot as z k) r (RH S q h)) n [(0, .ref (b + 4)), (1, .ref (b + 1)), (2, .ref (b + 7)), (3, .int (nI k))] 2 [] := by
    refine r_loop 12 _ ?_ ?_
    ·
      refine r_iload_n C dc_T_closeAskedCables_2 rfl rfl ?_
      refine r_bipush (v := nI 12) C dc_T_closeAskedCables_3 (by decide) ?_
      refine r_icmp_geN (tgt := 96) C dc_T_closeAskedCables_5 (by decide) (by omega) (by omega) (fun c5 => ?_) (fun c5 => ?_)
      ·
        exact r_vret C dp hr dc_T_closeAskedCables_96 (Nat.le_refl _) ⟨rfl, rfl, rfl⟩
      · exact absurd c5 (by omega)
    ·
      intro k hk ih
      refine r_iload_n C dc_T_closeAskedCables_2 rfl rfl ?_
      refine r_bipush (v := nI 12) C dc_T_closeAskedCables_3 (by decide) ?_
      refine r_icmp_geN (tgt := 96) C dc_T_closeAskedCables_5 (by decide) (by omega) (by omega) (fun c5 => ?_) (fun c5 => ?_)
      · exact absurd c5 (by omega)
      ·
        have h34 : cCl ot as z k 34 = z 34 := cCl_ne (by decide) (by decide) (by decide) k
        have h30 : cCl ot as z k 30 = z 30 := cCl_ne (by decide) (by decide) (by decide) k
        have hpk := hpv.ccl (ot := ot) (as := as) k
        have hst : cCl ot as z (k + 1) = cCl1 ot as (cCl ot as z k) k := rfl
        generalize hy : cCl ot as z k = y at h34 h30 hpk hst ⊢
        first | refine r_aload_n C dc_T_closeAskedCables_8 rfl rfl ?_ | refine r_aload_nq C dc_T_closeAskedCables_8 rfl rfl ?_
        refine r_get C dc_T_closeAskedCables_9 fl_T_15 ch_T rfl ?_
        refine r_iload_n C dc_T_closeAskedCables_12 rfl rfl ?_
        refine r_ialdN C dc_T_closeAskedCables_13 ch_ask (by omega) (by decide) ?_
        refine sb_at (P := fun v => Rw _ _ _ _ _ _ _ _ _ _ _ _ _ _ _ _ _ _ _ _ (.int v :: _)) (show _ = oi (as k) from (by rw [h34]; exact has k hk)) ?_
        cases ea : as k with
        | none =>
          refine r_istore C dc_T_closeAskedCables_14 (by decide) (nw_of rfl) ?_
          refine r_iload C dc_T_closeAskedCables_16 rfl ?_
          refine r_iconst (v := -1) C dc_T_closeAskedCables_18 (by decide) ?_
          refine r_icmp_ne (tgt := 26) C dc_T_closeAskedCables_19 (by decide) (fun c19 => ?_) (fun c19 => ?_)
          · exact absurd rfl c19
          ·
            refine r_iconst (v := -1) C dc_T_closeAskedCables_22 (by decide) ?_
            refine r_goto (tgt := 33) C dc_T_closeAskedCables_23 (by decide) ?_
            refine r_istore C dc_T_closeAskedCables_33 (by decide) (nw_of rfl) ?_
            refine r_iload C dc_T_closeAskedCables_35 rfl ?_
            refine r_iconst (v := -1) C dc_T_closeAskedCables_37 (by decide) ?_
            refine r_icmp_eq (tgt := 90) C dc_T_closeAskedCables_38 (by decide) (fun c38 => ?_) (fun c38 => ?_)
            ·
              refine rw_hh (h' := CH A b (cCl ot as z (k + 1)) r (RH S q h)) (by rw [hst]; unfold cCl1; rw [ea]) ?_
              first | refine r_iincN C dc_T_closeAskedCables_90 rfl (by decide) (nw_of rfl) ?_ | refine r_iinc C dc_T_closeAskedCables_90 rfl rfl (by decide) (nw_of rfl) ?_
              refine r_goto (tgt := 2) C dc_T_closeAskedCables_93 (by decide) ?_
              refine r_weak ?_ (ih)
              exact wl_c (rfl) (wl_c (rfl) (wl_c (rfl) (wl_c (rfl) (wl_n))))
            · exact absurd rfl c38
        | some s0 =>
          obtain ⟨g1, g2⟩ := ha0 k s0 ea
          refine sb_at (P := fun v => Rw _ _ _ _ _ _ _ _ _ _ _ _ _ _ _ _ _ _ _ _ (.int v :: _)) (show oi (some s0) = nI s0 from rfl) ?_
          refine r_istore C dc_T_closeAskedCables_14 (by decide) (nw_of rfl) ?_
          refine r_iload C dc_T_closeAskedCables_16 rfl ?_
          refine r_iconst (v := -1) C dc_T_closeAskedCables_18 (by decide) ?_
          refine r_icmp_ne (tgt := 26) C dc_T_closeAskedCables_19 (by decide) (fun c19 => ?_) (fun c19 => ?_)
          ·
            first | refine r_aload_n C dc_T_closeAskedCables_26 rfl rfl ?_ | refine r_aload_nq C dc_T_closeAskedCables_26 rfl rfl ?_
            refine r_get C dc_T_closeAskedCables_27 fl_T_58 ch_W rfl ?_
            refine r_iload C dc_T_closeAskedCables_30 rfl ?_
            refine r_ialdN C dc_T_closeAskedCables_32 ch_far (by omega) (by decide) ?_
            refine sb_at (P := fun v => Rw _ _ _ _ _ _ _ _ _ _ _ _ _ _ _ _ _ _ _ _ (.int v :: _)) (show _ = oi (ot s0) from (by rw [h30]; exact hot s0 g2)) ?_
            cases eo : ot s0 with
            | none =>
              refine r_istore C dc_T_closeAskedCables_33 (by decide) (nw_of rfl) ?_
              refine r_iload C dc_T_closeAskedCables_35 rfl ?_
              refine r_iconst (v := -1) C dc_T_closeAskedCables_37 (by decide) ?_
              refine r_icmp_eq (tgt := 90) C dc_T_closeAskedCables_38 (by decide) (fun c38 => ?_) (fun c38 => ?_)
              ·
                refine rw_hh (h' := CH A b (cCl ot as z (k + 1)) r (RH S q h)) (by rw [hst]; unfold cCl1; rw [ea]; dsimp only; rw [eo]) ?_
                first | refine r_iincN C dc_T_closeAskedCables_90 rfl (by decide) (nw_of rfl) ?_ | refine r_iinc C dc_T_closeAskedCables_90 rfl rfl (by decide) (nw_of rfl) ?_
                refine r_goto (tgt := 2) C dc_T_closeAskedCables_93 (by decide) ?_
                refine r_weak ?_ (ih)
                exact wl_c (rfl) (wl_c (rfl) (wl_c (rfl) (wl_c (rfl) (wl_n))))
              · exact absurd rfl c38
            | some o0 =>
              have h36 := ht36 _ _ g2 eo
              have hne := hne0 _ _ g2 eo
              refine sb_at (P := fun v => Rw _ _ _ _ _ _ _ _ _ _ _ _ _ _ _ _ _ _ _ _ (.int v :: _)) (show oi (some o0) = nI o0 from rfl) ?_
              refine r_istore C dc_T_closeAskedCables_33 (by decide) (nw_of rfl) ?_
              refine r_iload C dc_T_closeAskedCables_35 rfl ?_
              refine r_iconst (v := -1) C dc_T_closeAskedCables_37 (by decide) ?_
              refine r_icmp_eq (tgt := 90) C dc_T_closeAskedCables_38 (by decide) (fun c38 => ?_) (fun c38 => ?_)
              · exact absurd c38 (nI_m1 (by omega))
              ·
                refine r_iload C dc_T_closeAskedCables_41 rfl ?_
                refine r_iconst (v := nI 3) C dc_T_closeAskedCables_43 (by decide) ?_
                first | refine r_idivN C dc_T_closeAskedCables_44 (by omega) (by decide) (by decide) ?_ | refine r_idiv C dc_T_closeAskedCables_44 (by decide) ?_
                refine r_istore C dc_T_closeAskedCables_45 (by decide) (nw_of rfl) ?_
                first | refine r_aload_n C dc_T_closeAskedCables_47 rfl rfl ?_ | refine r_aload_nq C dc_T_closeAskedCables_47 rfl rfl ?_
                refine r_get C dc_T_closeAskedCables_48 fl_T_15 ch_T rfl ?_
                refine r_iload C dc_T_closeAskedCables_51 rfl ?_
                refine r_ialdN C dc_T_closeAskedCables_53 ch_ask (by omega) (by decide) ?_
                refine sb_at (P := fun v => Rw _ _ _ _ _ _ _ _ _ _ _ _ _ _ _ _ _ _ _ _ (.int v :: _)) (show _ = oi (as (o0 / 3)) from (by rw [h34]; exact has _ (by omega))) ?_
                refine r_iload C dc_T_closeAskedCables_54 rfl ?_
                refine r_icmp_eq (tgt := 75) C dc_T_closeAskedCables_56 (by decide) (fun c56 => ?_) (fun c56 => ?_)
                ·
                  have eas : as (o0 / 3) = some o0 := (oi_s (by omega) (fun j e => by have := (ha0 _ j e).2; omega)).mp c56
                  refine r_iload_n C dc_T_closeAskedCables_75 rfl rfl ?_
                  refine r_iload C dc_T_closeAskedCables_76 rfl ?_
                  refine r_icmp_geN (tgt := 90) C dc_T_closeAskedCables_78 (by decide) (by omega) (by omega) (fun c78 => ?_) (fun c78 => ?_)
                  ·
                    refine rw_hh (h' := CH A b (cCl ot as z (k + 1)) r (RH S q h)) (by rw [hst]; unfold cCl1; rw [ea]; dsimp only; rw [eo]; dsimp only; rw [if_pos eas, if_neg (by omega)]) ?_
                    first | refine r_iincN C dc_T_closeAskedCables_90 rfl (by decide) (nw_of rfl) ?_ | refine r_iinc C dc_T_closeAskedCables_90 rfl rfl (by decide) (nw_of rfl) ?_
                    refine r_goto (tgt := 2) C dc_T_closeAskedCables_93 (by decide) ?_
                    refine r_weak ?_ (ih)
                    exact wl_c (rfl) (wl_c (rfl) (wl_c (rfl) (wl_c (rfl) (wl_n))))
                  ·
                    first | refine r_aload_n C dc_T_closeAskedCables_81 rfl rfl ?_ | refine r_aload_nq C dc_T_closeAskedCables_81 rfl rfl ?_
                    first | refine r_aload_n C dc_T_closeAskedCables_82 rfl rfl ?_ | refine r_aload_nq C dc_T_closeAskedCables_82 rfl rfl ?_
                    refine r_iload C dc_T_closeAskedCables_83 rfl ?_
                    refine r_iload C dc_T_closeAskedCables_85 rfl ?_
                    refine r_callV C dp dc_T_closeAskedCables_87 cw_T_72 cm_T_contend cv_T_contend rfl (ch_T) (k_T_contend (df := df) (z := y) (k := s0) (o := o0) hl g2 h36 hne hpk) (by omega) rfl rfl (Nat.le_of_ble_eq_true rfl) (fun v87 h87 n87 q87 z87 => ?_) (fun _ _ _ _ z => z.elim)
                    obtain ⟨y87, y87h, y87n⟩ := z87
                    rw [y87, y87h, y87n]
                    refine rw_hh (h' := CH A b (cCl ot as z (k + 1)) r (RH S q h)) (by rw [hst]; unfold cCl1; rw [ea]; dsimp only; rw [eo]; dsimp only; rw [if_pos eas, if_pos c78]) ?_
                    first | refine r_iincN C dc_T_closeAskedCables_90 rfl (by decide) (nw_of rfl) ?_ | refine r_iinc C dc_T_closeAskedCables_90 rfl rfl (by decide) (nw_of rfl) ?_
                    refine r_goto (tgt := 2) C dc_T_closeAskedCables_93 (by decide) ?_
                    refine r_weak ?_ (ih)
                    exact wl_c (rfl) (wl_c (rfl) (wl_c (rfl) (wl_c (rfl) (wl_n))))
                ·
                  have eas : ¬ as (o0 / 3) = some o0 := fun e => c56 ((oi_s (by omega) (fun j e => by have := (ha0 _ j e).2; omega)).mpr e)
                  first | refine r_aload_n C dc_T_closeAskedCables_59 rfl rfl ?_ | refine r_aload_nq C dc_T_closeAskedCables_59 rfl rfl ?_
                  first | refine r_aload_n C dc_T_closeAskedCables_60 rfl rfl ?_ | refine r_aload_nq C dc_T_closeAskedCables_60 rfl rfl ?_
                  refine r_iload_n C dc_T_closeAskedCables_61 rfl rfl ?_
                  refine r_nald C dc_T_closeAskedCables_62 (by omega) ?_
                  refine r_iload C dc_T_closeAskedCables_63 rfl ?_
                  refine r_iload C dc_T_closeAskedCables_65 rfl ?_
                  refine r_iload C dc_T_closeAskedCables_67 rfl ?_
                  refine r_callV C dp dc_T_closeAskedCables_69 cw_T_68 cm_T_close cv_T_close rfl (ch_T) (k_T_close (df := df + 1) (z := y) (i := k) (pv := o0 / 3) (k := s0) (o := o0) hl hk g2 h36) (by omega) rfl rfl (Nat.le_of_ble_eq_true rfl) (fun v69 h69 n69 q69 z69 => ?_) (fun _ _ _ _ z => z.elim)
                  obtain ⟨y69, y69h, y69n⟩ := z69
                  rw [y69, y69h, y69n]
                  refine r_goto (tgt := 90) C dc_T_closeAskedCables_72 (by decide) ?_
                  refine rw_hh (h' := CH A b (cCl ot as z (k + 1)) r (RH S q h)) (by rw [hst]; unfold cCl1; rw [ea]; dsimp only; rw [eo]; dsimp only; rw [if_neg eas, ← clos_eq (fun e => hne (by rw [e])), g1]) ?_
                  first | refine r_iincN C dc_T_closeAskedCables_90 rfl (by decide) (nw_of rfl) ?_ | refine r_iinc C dc_T_closeAskedCables_90 rfl rfl (by decide) (nw_of rfl) ?_
                  refine r_goto (tgt := 2) C dc_T_closeAskedCables_93 (by decide) ?_
                  refine r_weak ?_ (ih)
                  exact wl_c (rfl) (wl_c (rfl) (wl_c (rfl) (wl_c (rfl) (wl_n))))
          · exact absurd c19 (nI_m1 (by omega))
  refine r_iconst (v := nI 0) C dc_T_closeAskedCables_0 (by decide) ?_
  refine r_istore_n C dc_T_closeAskedCables_1 rfl (by decide) (nw_of rfl) ?_
  refine r_weak ?_ (lp 0 (by omega))
  exact wl_c (rfl) (wl_c (rfl) (wl_c (rfl) (wl_c (rfl) (wl_n))))
end Cls5
