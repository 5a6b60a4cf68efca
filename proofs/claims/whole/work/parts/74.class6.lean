theorem cRs_ne {ot : Nat → Option Nat} {z : Nat → Nat → Int32} {j : Nat} (h1 : j ≠ 33) (h2 : j ≠ 14) (h4 : j ≠ 4) (h5 : j ≠ 34) : ∀ k, cRs ot z k j = z j := by
  intro k
  induction k with
  | zero => rfl
  | succ k ih =>
    show cRound ot (cRs ot z k) (nI (k + 1)) j = _
    unfold cRound
    rw [cCl_ne h1 h2 h4, cAs_ne h5]
    exact ih
theorem PV.crs {ot : Nat → Option Nat} {z : Nat → Nat → Int32} (v : PV z) : ∀ k, PV (cRs ot z k) := by
  intro k
  induction k with
  | zero => exact v
  | succ k ih => exact PV.ccl (PV.ur (k := 34) ih (by decide)) 12
theorem cRn_0 {ot : Nat → Option Nat} {z : Nat → Nat → Int32} {k : Nat} (hk : k < 24) (q : cAny (cRs ot z k) = false) : cRn ot z (24 - k) k = k := by
  rw [show 24 - k = (24 - (k + 1)) + 1 by omega]
  show (bif _ then _ else k) = k
  rw [q]; rfl
theorem cRn_1 {ot : Nat → Option Nat} {z : Nat → Nat → Int32} {k : Nat} (hk : k < 24) (q : cAny (cRs ot z k) = true) : cRn ot z (24 - k) k = cRn ot z (24 - (k + 1)) (k + 1) := by
  rw [show 24 - k = (24 - (k + 1)) + 1 by omega]
  show (bif _ then cRn ot z (24 - (k + 1)) (k + 1) else k) = _
  rw [q]; rfl
def grt (E : Nat → Bool) (nu : Nat → Int32) (k : Nat) : Int32 := match cMgT E nu k with
  | none => -1
  | some j => nu j
theorem cMg_0 {E : Nat → Bool} {nu : Nat → Int32} {k : Nat} (h : E k = false) : cMgT E nu (k + 1) = cMgT E nu k := by
  show (bif E k then _ else cMgT E nu k) = _
  rw [h]; rfl
theorem cMg_1 {E : Nat → Bool} {nu : Nat → Int32} {k : Nat} (h : E k = true) (hg : ¬ nu k ≤ grt E nu k) : cMgT E nu (k + 1) = some k := by
  show (bif E k then (match cMgT E nu k with | none => if -1 < nu k then some k else none | some j => if nu j < nu k then some k else some j) else cMgT E nu k) = _
  rw [h]
  unfold grt at hg
  cases e : cMgT E nu k with
  | none => rw [e] at hg; exact if_pos (Int32.not_le.mp hg)
  | some j => rw [e] at hg; exact if_pos (Int32.not_le.mp hg)
theorem cMg_2 {E : Nat → Bool} {nu : Nat → Int32} {k : Nat} (h : E k = true) (hg : nu k ≤ grt E nu k) : cMgT E nu (k + 1) = cMgT E nu k := by
  show (bif E k then (match cMgT E nu k with | none => if -1 < nu k then some k else none | some j => if nu j < nu k then some k else some j) else cMgT E nu k) = _
  rw [h]
  unfold grt at hg
  cases e : cMgT E nu k with
  | none => rw [e] at hg; exact if_neg (Int32.not_lt.mpr hg)
  | some j => rw [e] at hg; exact if_neg (Int32.not_lt.mpr hg)
theorem ovz {z : Nat → Nat → Int32} {v : Int32} {k : Nat} {w : Int32} {f : Nat → Int32} (h : z 31 k = v) : upd (ov (cBz z v k) 1 (fun _ => w) f) k w = ov (cBz z v (k + 1)) 1 (fun _ => w) f := by
  funext j
  unfold upd ov cBz
  rw [Nat.div_one]
  by_cases e : j = k
  · rw [if_pos e, e, h, decide_eq_true (show k < k + 1 by omega), decide_eq_true (rfl)]; rfl
  · rw [if_neg e]
    by_cases e2 : j < k
    · rw [decide_eq_true e2, decide_eq_true (show j < k + 1 by omega)]
    · rw [decide_eq_false e2, decide_eq_false (show ¬ j < k + 1 by omega)]
theorem cBz_n {z : Nat → Nat → Int32} {v : Int32} {k : Nat} (h : ¬ z 31 k = v) : cBz z v (k + 1) = cBz z v k := by
  funext j
  unfold cBz
  by_cases e : j = k
  · rw [e, decide_eq_false h, Bool.and_false, Bool.and_false]
  · by_cases e2 : j < k
    · rw [decide_eq_true e2, decide_eq_true (show j < k + 1 by omega)]
    · rw [decide_eq_false e2, decide_eq_false (show ¬ j < k + 1 by omega)]
theorem ovz_0 {z : Nat → Nat → Int32} {v : Int32} {nw f : Nat → Int32} : ov (cBz z v 0) 1 nw f = f := by
  funext j
  unfold ov cBz
  rw [decide_eq_false (by omega), Bool.false_and]; rfl
theorem cLn_0 {z y : Nat → Nat → Int32} {v rt mg : Int32} {lp : Bool} : cLn z (cBz y v 0) rt mg lp = z := by
  unfold cLn
  rw [ovz_0, ovz_0, ovz_0, ovz_0]
  have e : (bif lp then z 14 else z 14) = z 14 := by cases lp <;> rfl
  rw [e]
  funext j
  by_cases e14 : j = 14
  · rw [e14, ur_eq]
  rw [ur_ne e14]
  by_cases e16 : j = 16
  · rw [e16, ur_eq]
  rw [ur_ne e16]
  by_cases e15 : j = 15
  · rw [e15, ur_eq]
  rw [ur_ne e15]
  by_cases e12 : j = 12
  · rw [e12, ur_eq]
  rw [ur_ne e12]
theorem cLn_s {z : Nat → Nat → Int32} {v rt mg : Int32} {lp : Bool} {k : Nat} (h : z 31 k = v) : (bif lp then ur (ur (ur (ur (cLn z (cBz z v k) rt mg lp) 12 (upd (cLn z (cBz z v k) rt mg lp 12) k (zi lp))) 15 (upd (cLn z (cBz z v k) rt mg lp 15) k rt)) 16 (upd (cLn z (cBz z v k) rt mg lp 16) k mg)) 14 (upd (cLn z (cBz z v k) rt mg lp 14) k (-1)) else ur (ur (ur (cLn z (cBz z v k) rt mg lp) 12 (upd (cLn z (cBz z v k) rt mg lp 12) k (zi lp))) 15 (upd (cLn z (cBz z v k) rt mg lp 15) k rt)) 16 (upd (cLn z (cBz z v k) rt mg lp 16) k mg)) = cLn z (cBz z v (k + 1)) rt mg lp := by
  have c12 : ∀ c, cLn z c rt mg lp 12 = ov c 1 (fun _ => zi lp) (z 12) := fun _ => rfl
  have c15 : ∀ c, cLn z c rt mg lp 15 = ov c 1 (fun _ => rt) (z 15) := fun _ => rfl
  have c16 : ∀ c, cLn z c rt mg lp 16 = ov c 1 (fun _ => mg) (z 16) := fun _ => rfl
  have c14 : ∀ c, cLn z c rt mg lp 14 = (bif lp then ov c 1 (fun _ => -1) (z 14) else z 14) := fun _ => rfl
  rw [c12, c15, c16, c14, ovz h, ovz h, ovz h]
  funext j
  have rest : ∀ c, j ≠ 12 → j ≠ 14 → j ≠ 15 → j ≠ 16 → cLn z c rt mg lp j = z j := fun c h12 h14 h15 h16 => cLn_r h15 h16 h12 h14
  cases lp with
  | true =>
    show ur (ur (ur (ur _ 12 _) 15 _) 16 _) 14 (upd (ov (cBz z v k) 1 (fun _ => -1) (z 14)) k (-1)) j = _
    rw [ovz h]
    by_cases e14 : j = 14
    · rw [e14, ur_eq]; rfl
    rw [ur_ne e14]
    by_cases e16 : j = 16
    · rw [e16, ur_eq]; rfl
    rw [ur_ne e16]
    by_cases e15 : j = 15
    · rw [e15, ur_eq]; rfl
    rw [ur_ne e15]
    by_cases e12 : j = 12
    · rw [e12, ur_eq]; rfl
    rw [ur_ne e12, rest _ e12 e14 e15 e16, rest _ e12 e14 e15 e16]
  | false =>
    show ur (ur (ur _ 12 _) 15 _) 16 _ j = _
    by_cases e16 : j = 16
    · rw [e16, ur_eq]; rfl
    rw [ur_ne e16]
    by_cases e15 : j = 15
    · rw [e15, ur_eq]; rfl
    rw [ur_ne e15]
    by_cases e12 : j = 12
    · rw [e12, ur_eq]; rfl
    rw [ur_ne e12]
    by_cases e14 : j = 14
    · rw [e14]; rfl
    rw [rest _ e12 e14 e15 e16, rest _ e12 e14 e15 e16]
section Cls6
variable {l : Launch} {D : va_G} {A : Nat → ClassId} {G : Heap} {b n df : Nat} {z : Nat → Nat → Int32} {r : Nat → Nat → Option Nat} {S : Nat → Bool} {q : Nat → Nat → Int32} {h : Hp}
set_option maxRecDepth 4000 in
set_option maxHeartbeats 1000000 in
theorem k_T_findParents (hl : l.stackTraces = false) {v0 : Int32} {ot : Nat → Option Nat} (hot : ∀ k, k < 36 → z 30 k = oi (ot k)) (ht36 : ∀ k t, k < 36 → ot k = some t → t < 36) (hne0 : ∀ k t, k < 36 → ot k = some t → k / 3 ≠ t / 3) (hpv : PV z) : Ct l D A G my_T_findParents cd_T_findParents 5 (some (.boolean)) (df + 3) 0 0 [.ref (b + 4), .ref (b + 1), .ref (b + 7), .int v0] (CH A b z r (RH S q h)) n (fun v h' n' => v = some (.int (zi (!cAny (cRs ot (cOpen ot z v0 36) (cRn ot (cOpen ot z v0 36) 24 0))))) ∧ h' = CH A b (cRs ot (cOpen ot z v0 36) (cRn ot (cOpen ot z v0 36) 24 0)) r (RH S q h) ∧ n' = n) (fun _ _ _ => False) := by
  refine Ct.of (by decide) hl (Nat.le_of_ble_eq_true rfl) ?_
  intro p e s m args below meth c C hr hnm ht dp
  have h30 : ∀ k, (cRs ot (cOpen ot z v0 36) k) 30 = z 30 := fun k => cRs_ne (by decide) (by decide) (by decide) (by decide) k
  have hp : ∀ k, PV (cRs ot (cOpen ot z v0 36) k) := fun k => PV.crs (PV.ur (k := 33) hpv (by decide)) k
  have ex : ∀ k, cRn ot (cOpen ot z v0 36) 24 0 = k → Rw p l e (cR (df + 3) 0 0) s m args below meth c (CQ D G n (fun v h' n' => v = some (.int (zi (!cAny (cRs ot (cOpen ot z v0 36) (cRn ot (cOpen ot z v0 36) 24 0))))) ∧ h' = CH A b (cRs ot (cOpen ot z v0 36) (cRn ot (cOpen ot z v0 36) 24 0)) r (RH S q h) ∧ n' = n) (fun _ _ _ => False) below args s 0 0) D G 5 0 0 (CH A b (cRs ot (cOpen ot z v0 36) k) r (RH S q h)) n [(0, .ref (b + 4)), (1, .ref (b + 1)), (2, .ref (b + 7)), (3, .int v0), (4, .int (nI (k + 1)))] 42 [] := by
    intro k hk
    rw [hk]
    first | refine r_aload_n C dc_T_findParents_42 rfl rfl ?_ | refine r_aload_nq C dc_T_findParents_42 rfl rfl ?_
    refine r_callV C dp dc_T_findParents_43 cw_T_23 cm_T_someCableIsOpen cv_T_someCableIsOpen rfl (ch_T) (k_T_someOpen (df := df) (z := (cRs ot (cOpen ot z v0 36) k)) hl) (by omega) rfl rfl (Nat.le_of_ble_eq_true rfl) (fun v43 h43 n43 q43 z43 => ?_) (fun _ _ _ _ z => z.elim)
    obtain ⟨y43, y43h, y43n⟩ := z43
    rw [y43, y43h, y43n]
    refine r_if_neZ (tgt := 53) C dc_T_findParents_46 (by decide) (fun c46 => ?_) (fun c46 => ?_)
    ·
      refine r_iconst (v := nI 0) C dc_T_findParents_53 (by decide) ?_
      exact r_zret (v := zi false) C dp hr dc_T_findParents_54 (zi_01 _) (Nat.le_refl _) ⟨by rw [c46]; rfl, rfl, rfl⟩
    ·
      refine r_iconst (v := nI 1) C dc_T_findParents_49 (by decide) ?_
      refine r_goto (tgt := 54) C dc_T_findParents_50 (by decide) ?_
      exact r_zret (v := zi true) C dp hr dc_T_findParents_54 (zi_01 _) (Nat.le_refl _) ⟨by rw [c46]; rfl, rfl, rfl⟩
  have loop : ∀ k, k ≤ 24 → cRn ot (cOpen ot z v0 36) 24 0 = cRn ot (cOpen ot z v0 36) (24 - k) k → Rw p l e (cR (df + 3) 0 0) s m args below meth c (CQ D G n (fun v h' n' => v = some (.int (zi (!cAny (cRs ot (cOpen ot z v0 36) (cRn ot (cOpen ot z v0 36) 24 0))))) ∧ h' = CH A b (cRs ot (cOpen ot z v0 36) (cRn ot (cOpen ot z v0 36) 24 0)) r (RH S q h) ∧ n' = n) (fun _ _ _ => False) below args s 0 0) D G 5 0 0 (CH A b (cRs ot (cOpen ot z v0 36) k) r (RH S q h)) n [(0, .ref (b + 4)), (1, .ref (b + 1)), (2, .ref (b + 7)), (3, .int v0), (4, .int (nI (k + 1)))] 9 [] := by
    refine r_loop 24 _ ?_ ?_
    ·
      intro hpre
      refine r_iload C dc_T_findParents_9 rfl ?_
      refine r_bipush (v := nI 24) C dc_T_findParents_11 (by decide) ?_
      refine r_icmp_gtN (tgt := 42) C dc_T_findParents_13 (by decide) (by omega) (by omega) (fun c13 => ?_) (fun c13 => ?_)
      · exact ex 24 (by rw [hpre]; rfl)
      · exact absurd c13 (by omega)
    ·
      intro k hk ih hpre
      refine r_iload C dc_T_findParents_9 rfl ?_
      refine r_bipush (v := nI 24) C dc_T_findParents_11 (by decide) ?_
      refine r_icmp_gtN (tgt := 42) C dc_T_findParents_13 (by decide) (by omega) (by omega) (fun c13 => ?_) (fun c13 => ?_)
      · exact absurd c13 (by omega)
      ·
        first | refine r_aload_n C dc_T_findParents_16 rfl rfl ?_ | refine r_aload_nq C dc_T_findParents_16 rfl rfl ?_
        refine r_callV C dp dc_T_findParents_17 cw_T_23 cm_T_someCableIsOpen cv_T_someCableIsOpen rfl (ch_T) (k_T_someOpen (df := df) (z := (cRs ot (cOpen ot z v0 36) k)) hl) (by omega) rfl rfl (Nat.le_of_ble_eq_true rfl) (fun v17 h17 n17 q17 z17 => ?_) (fun _ _ _ _ z => z.elim)
        obtain ⟨y17, y17h, y17n⟩ := z17
        rw [y17, y17h, y17n]
        refine r_if_eqZ (tgt := 42) C dc_T_findParents_20 (by decide) (fun c20 => ?_) (fun c20 => ?_)
        · exact ex k (hpre.trans (cRn_0 hk c20))
        ·
          first | refine r_aload_n C dc_T_findParents_23 rfl rfl ?_ | refine r_aload_nq C dc_T_findParents_23 rfl rfl ?_
          first | refine r_aload_n C dc_T_findParents_24 rfl rfl ?_ | refine r_aload_nq C dc_T_findParents_24 rfl rfl ?_
          refine r_iload C dc_T_findParents_25 rfl ?_
          refine r_callV C dp dc_T_findParents_27 cw_T_27 cm_T_chooseAskers cv_T_chooseAskers rfl (ch_T) (k_T_choose (df := df) (z := (cRs ot (cOpen ot z v0 36) k)) hl) (by omega) rfl rfl (Nat.le_of_ble_eq_true rfl) (fun v27 h27 n27 q27 z27 => ?_) (fun _ _ _ _ z => z.elim)
          obtain ⟨y27, y27h, y27n⟩ := z27
          rw [y27, y27h, y27n]
          first | refine r_aload_n C dc_T_findParents_30 rfl rfl ?_ | refine r_aload_nq C dc_T_findParents_30 rfl rfl ?_
          first | refine r_aload_n C dc_T_findParents_31 rfl rfl ?_ | refine r_aload_nq C dc_T_findParents_31 rfl rfl ?_
          first | refine r_aload_n C dc_T_findParents_32 rfl rfl ?_ | refine r_aload_nq C dc_T_findParents_32 rfl rfl ?_
          refine r_callV C dp dc_T_findParents_33 cw_T_31 cm_T_closeAskedCables cv_T_closeAskedCables rfl (ch_T) (k_T_closeAsked (df := df) (z := (cAs (cRs ot (cOpen ot z v0 36) k) (nI (k + 1)) 12)) (ot := ot) (as := asF ((cRs ot (cOpen ot z v0 36) k) 33) (cAsks (cRs ot (cOpen ot z v0 36) k) (nI (k + 1)))) hl (fun j hj => (congrFun (h30 k) j).trans (hot j hj)) ht36 hne0 (fun a ha => (congrFun (ur_eq _ _ _) a).trans (if_pos ha)) (fun a j e => ⟨(asF_f e).2.2.1, (asF_f e).2.2.2.1⟩) (PV.ur (k := 34) (hp k) (by decide))) (by omega) rfl rfl (Nat.le_of_ble_eq_true rfl) (fun v33 h33 n33 q33 z33 => ?_) (fun _ _ _ _ z => z.elim)
          obtain ⟨y33, y33h, y33n⟩ := z33
          rw [y33, y33h, y33n]
          first | refine r_iincN C dc_T_findParents_36 rfl (by decide) (nw_of rfl) ?_ | refine r_iinc C dc_T_findParents_36 rfl rfl (by decide) (nw_of rfl) ?_
          refine r_goto (tgt := 9) C dc_T_findParents_39 (by decide) ?_
          refine r_weak ?_ (ih (hpre.trans (cRn_1 hk c20)))
          exact wl_c (rfl) (wl_c (rfl) (wl_c (rfl) (wl_c (rfl) (wl_c (rfl) (wl_n)))))
  first | refine r_aload_n C dc_T_findParents_0 rfl rfl ?_ | refine r_aload_nq C dc_T_findParents_0 rfl rfl ?_
  first | refine r_aload_n C dc_T_findParents_1 rfl rfl ?_ | refine r_aload_nq C dc_T_findParents_1 rfl rfl ?_
  refine r_iload_n C dc_T_findParents_2 rfl rfl ?_
  refine r_callV C dp dc_T_findParents_3 cw_T_19 cm_T_openCables cv_T_openCables rfl (ch_T) (k_T_openCables (df := df) (ot := ot) hl hot ht36) (by omega) rfl rfl (Nat.le_of_ble_eq_true rfl) (fun v3 h3 n3 q3 z3 => ?_) (fun _ _ _ _ z => z.elim)
  obtain ⟨y3, y3h, y3n⟩ := z3
  rw [y3, y3h, y3n]
  refine r_iconst (v := nI 1) C dc_T_findParents_6 (by decide) ?_
  refine r_istore C dc_T_findParents_7 (by decide) (nw_of rfl) ?_
  refine r_weak ?_ (loop 0 (by omega) rfl)
  exact wl_c (rfl) (wl_c (rfl) (wl_c (rfl) (wl_c (rfl) (wl_c (rfl) (wl_n)))))
set_option maxRecDepth 4000 in
set_option maxHeartbeats 1000000 in
theorem k_T_findRoot (hl : l.stackTraces = false) {b0 : Nat} : Ct l D A G my_T_findRoot cd_T_findRoot 5 (some (.int)) (df + 1) 0 0 [.ref (b + 4), .ref (b + 1), .ref (b + 7), .int (nI b0)] (CH A b z r (RH S q h)) n (fun v h' n' => v = some (.int (nI (cRoot z b0))) ∧ h' = CH A b z r (RH S q h) ∧ n' = n) (fun _ _ _ => False) := by
  refine Ct.of (by decide) hl (Nat.le_of_ble_eq_true rfl) ?_
  intro p e s m args below meth c C hr hnm ht dp
  have lp : ∀ k, k ≤ 12 → fstF (fun k => decide (z 31 k = nI b0 ∧ z 14 k = -1)) 12 0 = fstF (fun k => decide (z 31 k = nI b0 ∧ z 14 k = -1)) (12 - k) k → Rw p l e (cR (df + 1) 0 0) s m args below meth c (CQ D G n (fun v h' n' => v = some (.int (nI (cRoot z b0))) ∧ h' = CH A b z r (RH S q h) ∧ n' = n) (fun _ _ _ => False) below args s 0 0) D G 5 0 0 (CH A b z r (RH S q h)) n [(0, .ref (b + 4)), (1, .ref (b + 1)), (2, .ref (b + 7)), (3, .int (nI b0)), (4, .int (nI k))] 3 [] := by
    refine r_loop 12 _ ?_ ?_
    ·
      intro hpre
      refine r_iload C dc_T_findRoot_3 rfl ?_
      refine r_bipush (v := nI 12) C dc_T_findRoot_5 (by decide) ?_
      refine r_icmp_geN (tgt := 40) C dc_T_findRoot_7 (by decide) (by omega) (by omega) (fun c7 => ?_) (fun c7 => ?_)
      ·
        refine r_iload_n C dc_T_findRoot_40 rfl rfl ?_
        have e1 : fstF (fun k => decide (z 31 k = nI b0 ∧ z 14 k = -1)) 12 0 = none := hpre.trans fst_n
        exact r_iret C dp hr dc_T_findRoot_41 (Nat.le_refl _) ⟨by unfold cRoot; rw [e1], rfl, rfl⟩
      · exact absurd c7 (by omega)
    ·
      intro k hk ih hpre
      refine r_iload C dc_T_findRoot_3 rfl ?_
      refine r_bipush (v := nI 12) C dc_T_findRoot_5 (by decide) ?_
      refine r_icmp_geN (tgt := 40) C dc_T_findRoot_7 (by decide) (by omega) (by omega) (fun c7 => ?_) (fun c7 => ?_)
      · exact absurd c7 (by omega)
      ·
        first | refine r_aload_n C dc_T_findRoot_10 rfl rfl ?_ | refine r_aload_nq C dc_T_findRoot_10 rfl rfl ?_
        refine r_iload C dc_T_findRoot_11 rfl ?_
        refine r_callV C dp dc_T_findRoot_13 cw_T_46 cm_W_busOf cv_W_busOf rfl (ch_W) (k_W_busOf (df := df) (i := k) hl ch_W ch_bus hk) (by omega) rfl rfl (Nat.le_of_ble_eq_true rfl) (fun v13 h13 n13 q13 z13 => ?_) (fun _ _ _ _ z => z.elim)
        obtain ⟨y13, y13h, y13n⟩ := z13
        rw [y13, y13h, y13n]
        refine r_iload_n C dc_T_findRoot_16 rfl rfl ?_
        refine r_icmp_ne (tgt := 34) C dc_T_findRoot_17 (by decide) (fun c17 => ?_) (fun c17 => ?_)
        ·
          first | refine r_iincN C dc_T_findRoot_34 rfl (by decide) (nw_of rfl) ?_ | refine r_iinc C dc_T_findRoot_34 rfl rfl (by decide) (nw_of rfl) ?_
          refine r_goto (tgt := 3) C dc_T_findRoot_37 (by decide) ?_
          refine r_weak ?_ (ih (hpre.trans (fst_0 (P := (fun k => decide (z 31 k = nI b0 ∧ z 14 k = -1))) hk (decide_eq_false (fun h => c17 h.1)))))
          exact wl_c (rfl) (wl_c (rfl) (wl_c (rfl) (wl_c (rfl) (wl_c (rfl) (wl_n)))))
        ·
          first | refine r_aload_n C dc_T_findRoot_20 rfl rfl ?_ | refine r_aload_nq C dc_T_findRoot_20 rfl rfl ?_
          refine r_iload C dc_T_findRoot_21 rfl ?_
          refine r_nald C dc_T_findRoot_23 (by omega) ?_
          refine r_get C dc_T_findRoot_24 fl_T_80 (ch_node (by omega)) rfl ?_
          refine r_iconst (v := -1) C dc_T_findRoot_27 (by decide) ?_
          refine r_icmp_ne (tgt := 34) C dc_T_findRoot_28 (by decide) (fun c28 => ?_) (fun c28 => ?_)
          ·
            first | refine r_iincN C dc_T_findRoot_34 rfl (by decide) (nw_of rfl) ?_ | refine r_iinc C dc_T_findRoot_34 rfl rfl (by decide) (nw_of rfl) ?_
            refine r_goto (tgt := 3) C dc_T_findRoot_37 (by decide) ?_
            refine r_weak ?_ (ih (hpre.trans (fst_0 (P := (fun k => decide (z 31 k = nI b0 ∧ z 14 k = -1))) hk (decide_eq_false (fun h => c28 h.2)))))
            exact wl_c (rfl) (wl_c (rfl) (wl_c (rfl) (wl_c (rfl) (wl_c (rfl) (wl_n)))))
          ·
            refine r_iload C dc_T_findRoot_31 rfl ?_
            have e1 : fstF (fun k => decide (z 31 k = nI b0 ∧ z 14 k = -1)) 12 0 = some k := hpre.trans (fst_1 (P := (fun k => decide (z 31 k = nI b0 ∧ z 14 k = -1))) hk (decide_eq_true ⟨c17, c28⟩))
            exact r_iret C dp hr dc_T_findRoot_33 (Nat.le_refl _) ⟨by unfold cRoot; rw [e1], rfl, rfl⟩
  refine r_iconst (v := nI 0) C dc_T_findRoot_0 (by decide) ?_
  refine r_istore C dc_T_findRoot_1 (by decide) (nw_of rfl) ?_
  refine r_weak ?_ (lp 0 (by omega) rfl)
  exact wl_c (rfl) (wl_c (rfl) (wl_c (rfl) (wl_c (rfl) (wl_c (rfl) (wl_n)))))
set_option maxRecDepth 4000 in
set_option maxHeartbeats 1000000 in
theorem k_T_findManager (hl : l.stackTraces = false) {v0 : Int32} : Ct l D A G my_T_findManager cd_T_findManager 8 (some (.int)) (df + 1) 0 0 [.ref (b + 4), .ref (b + 1), .ref (b + 7), .int v0] (CH A b z r (RH S q h)) n (fun v h' n' => v = some (.int (oi (cMg z v0))) ∧ h' = CH A b z r (RH S q h) ∧ n' = n) (fun _ _ _ => False) := by
  refine Ct.of (by decide) hl (Nat.le_of_ble_eq_true rfl) ?_
  intro p e s m args below meth c C hr hnm ht dp
  have lp : ∀ k, k ≤ 12 → Rw p l e (cR (df + 1) 0 0) s m args below meth c (CQ D G n (fun v h' n' => v = some (.int (oi (cMg z v0))) ∧ h' = CH A b z r (RH S q h) ∧ n' = n) (fun _ _ _ => False) below args s 0 0) D G 8 0 0 (CH A b z r (RH S q h)) n [(0, .ref (b + 4)), (1, .ref (b + 1)), (2, .ref (b + 7)), (3, .int v0), (4, .int (oi (cMgT (fun k => decide (z 31 k = v0 ∧ ¬ z 6 k = 0)) (z 13) k))), (5, .int (grt (fun k => decide (z 31 k = v0 ∧ ¬ z 6 k = 0)) (z 13) k)), (6, .int (nI k))] 9 [] := by
    refine r_loop 12 _ ?_ ?_
    ·
      refine r_iload C dc_T_findManager_9 rfl ?_
      refine r_bipush (v := nI 12) C dc_T_findManager_11 (by decide) ?_
      refine r_icmp_geN (tgt := 79) C dc_T_findManager_13 (by decide) (by omega) (by omega) (fun c13 => ?_) (fun c13 => ?_)
      ·
        refine r_iload C dc_T_findManager_79 rfl ?_
        exact r_iret C dp hr dc_T_findManager_81 (Nat.le_refl _) ⟨rfl, rfl, rfl⟩
      · exact absurd c13 (by omega)
    ·
      intro k hk ih
      refine r_iload C dc_T_findManager_9 rfl ?_
      refine r_bipush (v := nI 12) C dc_T_findManager_11 (by decide) ?_
      refine r_icmp_geN (tgt := 79) C dc_T_findManager_13 (by decide) (by omega) (by omega) (fun c13 => ?_) (fun c13 => ?_)
      · exact absurd c13 (by omega)
      ·
        first | refine r_aload_n C dc_T_findManager_16 rfl rfl ?_ | refine r_aload_nq C dc_T_findManager_16 rfl rfl ?_
        refine r_iload C dc_T_findManager_17 rfl ?_
        refine r_callV C dp dc_T_findManager_19 cw_T_46 cm_W_busOf cv_W_busOf rfl (ch_W) (k_W_busOf (df := df) (i := k) hl ch_W ch_bus hk) (by omega) rfl rfl (Nat.le_of_ble_eq_true rfl) (fun v19 h19 n19 q19 z19 => ?_) (fun _ _ _ _ z => z.elim)
        obtain ⟨y19, y19h, y19n⟩ := z19
        rw [y19, y19h, y19n]
        refine r_iload_n C dc_T_findManager_22 rfl rfl ?_
        refine r_icmp_ne (tgt := 40) C dc_T_findManager_23 (by decide) (fun c23 => ?_) (fun c23 => ?_)
        ·
          have e9 : cMgT (fun k => decide (z 31 k = v0 ∧ ¬ z 6 k = 0)) (z 13) (k + 1) = cMgT (fun k => decide (z 31 k = v0 ∧ ¬ z 6 k = 0)) (z 13) k := cMg_0 (E := (fun k => decide (z 31 k = v0 ∧ ¬ z 6 k = 0))) (decide_eq_false (fun h => c23 h.1))
          refine r_iconst (v := nI 0) C dc_T_findManager_40 (by decide) ?_
          refine r_istore C dc_T_findManager_41 (by decide) (nw_of rfl) ?_
          refine r_iload C dc_T_findManager_43 rfl ?_
          refine r_if_eq (tgt := 73) C dc_T_findManager_45 (by decide) (fun c45 => ?_) (fun c45 => ?_)
          ·
            first | refine r_iincN C dc_T_findManager_73 rfl (by decide) (nw_of rfl) ?_ | refine r_iinc C dc_T_findManager_73 rfl rfl (by decide) (nw_of rfl) ?_
            refine r_goto (tgt := 9) C dc_T_findManager_76 (by decide) ?_
            refine r_weak ?_ (ih)
            exact wl_c (rfl) (wl_c (rfl) (wl_c (rfl) (wl_c (rfl) (wl_c (by rw [e9]; rfl) (wl_c (by unfold grt; rw [e9]; rfl) (wl_c (rfl) (wl_n)))))))
          · exact absurd rfl c45
        ·
          first | refine r_aload_n C dc_T_findManager_26 rfl rfl ?_ | refine r_aload_nq C dc_T_findManager_26 rfl rfl ?_
          refine r_iload C dc_T_findManager_27 rfl ?_
          refine r_nald C dc_T_findManager_29 (by omega) ?_
          refine r_get C dc_T_findManager_30 fl_T_91 (ch_node (by omega)) rfl ?_
          refine r_if_eq (tgt := 40) C dc_T_findManager_33 (by decide) (fun c33 => ?_) (fun c33 => ?_)
          ·
            have e9 : cMgT (fun k => decide (z 31 k = v0 ∧ ¬ z 6 k = 0)) (z 13) (k + 1) = cMgT (fun k => decide (z 31 k = v0 ∧ ¬ z 6 k = 0)) (z 13) k := cMg_0 (E := (fun k => decide (z 31 k = v0 ∧ ¬ z 6 k = 0))) (decide_eq_false (fun h => h.2 c33))
            refine r_iconst (v := nI 0) C dc_T_findManager_40 (by decide) ?_
            refine r_istore C dc_T_findManager_41 (by decide) (nw_of rfl) ?_
            refine r_iload C dc_T_findManager_43 rfl ?_
            refine r_if_eq (tgt := 73) C dc_T_findManager_45 (by decide) (fun c45 => ?_) (fun c45 => ?_)
            ·
              first | refine r_iincN C dc_T_findManager_73 rfl (by decide) (nw_of rfl) ?_ | refine r_iinc C dc_T_findManager_73 rfl rfl (by decide) (nw_of rfl) ?_
              refine r_goto (tgt := 9) C dc_T_findManager_76 (by decide) ?_
              refine r_weak ?_ (ih)
              exact wl_c (rfl) (wl_c (rfl) (wl_c (rfl) (wl_c (rfl) (wl_c (by rw [e9]; rfl) (wl_c (by unfold grt; rw [e9]; rfl) (wl_c (rfl) (wl_n)))))))
            · exact absurd rfl c45
          ·
            have eE : (fun k => decide (z 31 k = v0 ∧ ¬ z 6 k = 0)) k = true := decide_eq_true ⟨c23, c33⟩
            refine r_iconst (v := nI 1) C dc_T_findManager_36 (by decide) ?_
            refine r_goto (tgt := 41) C dc_T_findManager_37 (by decide) ?_
            refine r_istore C dc_T_findManager_41 (by decide) (nw_of rfl) ?_
            refine r_iload C dc_T_findManager_43 rfl ?_
            refine r_if_eq (tgt := 73) C dc_T_findManager_45 (by decide) (fun c45 => ?_) (fun c45 => ?_)
            · exact absurd c45 (by decide)
            ·
              first | refine r_aload_n C dc_T_findManager_48 rfl rfl ?_ | refine r_aload_nq C dc_T_findManager_48 rfl rfl ?_
              refine r_iload C dc_T_findManager_49 rfl ?_
              refine r_nald C dc_T_findManager_51 (by omega) ?_
              refine r_get C dc_T_findManager_52 fl_T_88 (ch_node (by omega)) rfl ?_
              refine r_iload C dc_T_findManager_55 rfl ?_
              refine r_icmp_le (tgt := 73) C dc_T_findManager_57 (by decide) (fun c57 => ?_) (fun c57 => ?_)
              ·
                have e9 : cMgT (fun k => decide (z 31 k = v0 ∧ ¬ z 6 k = 0)) (z 13) (k + 1) = cMgT (fun k => decide (z 31 k = v0 ∧ ¬ z 6 k = 0)) (z 13) k := cMg_2 (E := (fun k => decide (z 31 k = v0 ∧ ¬ z 6 k = 0))) eE c57
                first | refine r_iincN C dc_T_findManager_73 rfl (by decide) (nw_of rfl) ?_ | refine r_iinc C dc_T_findManager_73 rfl rfl (by decide) (nw_of rfl) ?_
                refine r_goto (tgt := 9) C dc_T_findManager_76 (by decide) ?_
                refine r_weak ?_ (ih)
                exact wl_c (rfl) (wl_c (rfl) (wl_c (rfl) (wl_c (rfl) (wl_c (by rw [e9]; rfl) (wl_c (by unfold grt; rw [e9]; rfl) (wl_c (rfl) (wl_n)))))))
              ·
                have e9 : cMgT (fun k => decide (z 31 k = v0 ∧ ¬ z 6 k = 0)) (z 13) (k + 1) = some k := cMg_1 (E := (fun k => decide (z 31 k = v0 ∧ ¬ z 6 k = 0))) eE c57
                refine r_iload C dc_T_findManager_60 rfl ?_
                refine r_istore C dc_T_findManager_62 (by decide) (nw_of rfl) ?_
                first | refine r_aload_n C dc_T_findManager_64 rfl rfl ?_ | refine r_aload_nq C dc_T_findManager_64 rfl rfl ?_
                refine r_iload C dc_T_findManager_65 rfl ?_
                refine r_nald C dc_T_findManager_67 (by omega) ?_
                refine r_get C dc_T_findManager_68 fl_T_88 (ch_node (by omega)) rfl ?_
                refine r_istore C dc_T_findManager_71 (by decide) (nw_of rfl) ?_
                first | refine r_iincN C dc_T_findManager_73 rfl (by decide) (nw_of rfl) ?_ | refine r_iinc C dc_T_findManager_73 rfl rfl (by decide) (nw_of rfl) ?_
                refine r_goto (tgt := 9) C dc_T_findManager_76 (by decide) ?_
                refine r_weak ?_ (ih)
                exact wl_c (rfl) (wl_c (rfl) (wl_c (rfl) (wl_c (rfl) (wl_c (by rw [e9]; rfl) (wl_c (by unfold grt; rw [e9]; rfl) (wl_c (rfl) (wl_n)))))))
  refine r_iconst (v := -1) C dc_T_findManager_0 (by decide) ?_
  refine r_istore C dc_T_findManager_1 (by decide) (nw_of rfl) ?_
  refine r_iconst (v := -1) C dc_T_findManager_3 (by decide) ?_
  refine r_istore C dc_T_findManager_4 (by decide) (nw_of rfl) ?_
  refine r_iconst (v := nI 0) C dc_T_findManager_6 (by decide) ?_
  refine r_istore C dc_T_findManager_7 (by decide) (nw_of rfl) ?_
  refine r_weak ?_ (lp 0 (by omega))
  exact wl_c (rfl) (wl_c (rfl) (wl_c (rfl) (wl_c (rfl) (wl_c (rfl) (wl_c (rfl) (wl_c (rfl) (wl_n)))))))
set_option maxRecDepth 4000 in
theorem k_T_give (hl : l.stackTraces = false) {ot : Nat → Option Nat} (hot : ∀ k, k < 36 → z 30 k = oi (ot k)) (ht36 : ∀ k t, k < 36 → ot k = some t → t < 36) : ∀ (dd d a f : Nat) (g : Nat → Int32), d + dd = 12 → a < 12 → Ct l D A G my_T_giveNumbers cd_T_giveNumbers 9 (some (.int)) (df + dd + 1) 0 0 [.ref (b + 4), .ref (b + 1), .ref (b + 7), .int (nI a), .int (nI f), .int (nI d)] (CH A b (ur z 13 g) r (RH S q h)) n (fun v h' n' => v = some (.int (nI (gN ot z dd a (f, g)).1)) ∧ h' = CH A b (ur z 13 (gN ot z dd a (f, g)).2) r (RH S q h) ∧ n' = n) (fun _ _ _ => False) := by
  intro dd
  induction dd with
  | zero =>
    intro d a f g hd ha
    refine Ct.of (by decide) hl (Nat.le_of_ble_eq_true rfl) ?_
    intro p e s m args below meth c C hr hnm ht dp
    refine r_iload C dc_T_giveNumbers_0 rfl ?_
    refine r_bipush (v := nI 12) C dc_T_giveNumbers_2 (by decide) ?_
    refine r_icmp_ltN (tgt := 10) C dc_T_giveNumbers_4 (by decide) (by omega) (by omega) (fun c4 => ?_) (fun c4 => ?_)
    · exact absurd c4 (by omega)
    ·
      refine r_iload C dc_T_giveNumbers_7 rfl ?_
      exact r_iret C dp hr dc_T_giveNumbers_9 (Nat.le_refl _) ⟨rfl, rfl, rfl⟩
  | succ dd ihd =>
    intro d a f g hd ha
    refine Ct.of (by decide) hl (Nat.le_of_ble_eq_true rfl) ?_
    intro p e s m args below meth c C hr hnm ht dp
    have lp : ∀ k, k ≤ 3 → ∀ s1 : gSt, gPt (gN ot z dd) ot z a 3 0 (f, g) = gPt (gN ot z dd) ot z a (3 - k) k s1 → Rw p l e (cR (df + (dd + 1) + 1) 0 0) s m args below meth c (CQ D G n (fun v h' n' => v = some (.int (nI (gN ot z (dd + 1) a (f, g)).1)) ∧ h' = CH A b (ur z 13 (gN ot z (dd + 1) a (f, g)).2) r (RH S q h) ∧ n' = n) (fun _ _ _ => False) below args s 0 0) D G 9 0 0 (CH A b (ur z 13 s1.2) r (RH S q h)) n [(0, .ref (b + 4)), (1, .ref (b + 1)), (2, .ref (b + 7)), (3, .int (nI a)), (5, .int (nI d)), (6, .int (nI s1.1)), (7, .int (nI k))] 17 [] := by
      refine r_loop 3 _ ?_ ?_
      ·
        intro s1 hpre
        refine r_iload C dc_T_giveNumbers_17 rfl ?_
        refine r_iconst (v := nI 3) C dc_T_giveNumbers_19 (by decide) ?_
        refine r_icmp_geN (tgt := 71) C dc_T_giveNumbers_20 (by decide) (by omega) (by omega) (fun c20 => ?_) (fun c20 => ?_)
        ·
          have e1 : gPt (gN ot z dd) ot z a 3 0 (f, g) = s1 := hpre
          have e2 : gN ot z (dd + 1) a (f, g) = gEnd a s1 := by show gEnd a (gPt (gN ot z dd) ot z a 3 0 (f, g)) = _; rw [e1]
          first | refine r_aload_n C dc_T_giveNumbers_71 rfl rfl ?_ | refine r_aload_nq C dc_T_giveNumbers_71 rfl rfl ?_
          refine r_iload_n C dc_T_giveNumbers_72 rfl rfl ?_
          refine r_nald C dc_T_giveNumbers_73 (by omega) ?_
          refine r_iload C dc_T_giveNumbers_74 rfl ?_
          refine r_put C dc_T_giveNumbers_76 fl_T_88 (ch_node (by omega)) rfl rfl (Nat.le_of_ble_eq_true rfl) ?_
          refine rw_hh (cs_n13 (by omega)) ?_
          refine r_iload C dc_T_giveNumbers_79 rfl ?_
          refine r_iconst (v := nI 1) C dc_T_giveNumbers_81 (by decide) ?_
          first | refine r_iaddN C dc_T_giveNumbers_82 ?_ | refine r_iadd C dc_T_giveNumbers_82 ?_
          exact r_iret C dp hr dc_T_giveNumbers_83 (Nat.le_refl _) ⟨by rw [e2]; rfl, by rw [e2, ur_ur, ur_eq]; rfl, rfl⟩
        · exact absurd c20 (by omega)
      ·
        intro k hk ih s1 hpre
        refine r_iload C dc_T_giveNumbers_17 rfl ?_
        refine r_iconst (v := nI 3) C dc_T_giveNumbers_19 (by decide) ?_
        refine r_icmp_geN (tgt := 71) C dc_T_giveNumbers_20 (by decide) (by omega) (by omega) (fun c20 => ?_) (fun c20 => ?_)
        · exact absurd c20 (by omega)
        ·
          have hstep : gPt (gN ot z dd) ot z a (3 - k) k s1 = gPt (gN ot z dd) ot z a (3 - (k + 1)) (k + 1) (bif cOf ot z a k then (gN ot z dd) ((ot (3 * a + k)).getD 0 / 3) s1 else s1) := by
            rw [show 3 - k = (3 - (k + 1)) + 1 by omega]; rfl
          first | refine r_aload_n C dc_T_giveNumbers_23 rfl rfl ?_ | refine r_aload_nq C dc_T_giveNumbers_23 rfl rfl ?_
          refine r_iload_n C dc_T_giveNumbers_24 rfl rfl ?_
          refine r_iload C dc_T_giveNumbers_25 rfl ?_
          refine r_callV C dp dc_T_giveNumbers_27 cw_T_84 cm_W_farNode cv_W_farNode rfl (ch_W) (k_W_farNode (df := df) (z := ur z 13 s1.2) (ot := ot) hl ha hk (fun j hj => hot j hj) ht36) (by omega) rfl rfl (Nat.le_of_ble_eq_true rfl) (fun v27 h27 n27 q27 z27 => ?_) (fun _ _ _ _ z => z.elim)
          obtain ⟨y27, y27h, y27n⟩ := z27
          rw [y27, y27h, y27n]
          cases eo : ot (3 * a + k) with
          | none =>
            refine sb_at (P := fun v => Rw _ _ _ _ _ _ _ _ _ _ _ _ _ _ _ _ _ _ _ _ (.int v :: _)) (show oi (fN ot (3 * a + k)) = -1 from by unfold fN; rw [eo]; rfl) ?_
            refine r_istore C dc_T_giveNumbers_30 (by decide) (nw_of rfl) ?_
            refine r_iload C dc_T_giveNumbers_32 rfl ?_
            refine r_iconst (v := -1) C dc_T_giveNumbers_34 (by decide) ?_
            refine r_icmp_eq (tgt := 65) C dc_T_giveNumbers_35 (by decide) (fun c35 => ?_) (fun c35 => ?_)
            ·
              have ecf : cOf ot z a k = false := by unfold cOf; rw [eo]
              rw [ecf] at hstep
              first | refine r_iincN C dc_T_giveNumbers_65 rfl (by decide) (nw_of rfl) ?_ | refine r_iinc C dc_T_giveNumbers_65 rfl rfl (by decide) (nw_of rfl) ?_
              refine r_goto (tgt := 17) C dc_T_giveNumbers_68 (by decide) ?_
              refine r_weak ?_ (ih s1 (hpre.trans hstep))
              exact wl_c (rfl) (wl_c (rfl) (wl_c (rfl) (wl_c (rfl) (wl_c (rfl) (wl_c (rfl) (wl_c (rfl) (wl_n)))))))
            · exact absurd rfl c35
          | some t =>
            have h36 := ht36 _ _ (by omega) eo
            refine sb_at (P := fun v => Rw _ _ _ _ _ _ _ _ _ _ _ _ _ _ _ _ _ _ _ _ (.int v :: _)) (show oi (fN ot (3 * a + k)) = nI (t / 3) from by unfold fN; rw [eo]; rfl) ?_
            refine r_istore C dc_T_giveNumbers_30 (by decide) (nw_of rfl) ?_
            refine r_iload C dc_T_giveNumbers_32 rfl ?_
            refine r_iconst (v := -1) C dc_T_giveNumbers_34 (by decide) ?_
            refine r_icmp_eq (tgt := 65) C dc_T_giveNumbers_35 (by decide) (fun c35 => ?_) (fun c35 => ?_)
            · exact absurd c35 (nI_m1 (by omega))
            ·
              first | refine r_aload_n C dc_T_giveNumbers_38 rfl rfl ?_ | refine r_aload_nq C dc_T_giveNumbers_38 rfl rfl ?_
              refine r_iload C dc_T_giveNumbers_39 rfl ?_
              refine r_nald C dc_T_giveNumbers_41 (by omega) ?_
              refine r_get C dc_T_giveNumbers_42 fl_T_80 (ch_node (by omega)) rfl ?_
              refine r_iload_n C dc_T_giveNumbers_45 rfl rfl ?_
              refine r_icmp_ne (tgt := 65) C dc_T_giveNumbers_46 (by decide) (fun c46 => ?_) (fun c46 => ?_)
              ·
                have ecf : cOf ot z a k = false := by unfold cOf; rw [eo]; exact decide_eq_false c46
                rw [ecf] at hstep
                first | refine r_iincN C dc_T_giveNumbers_65 rfl (by decide) (nw_of rfl) ?_ | refine r_iinc C dc_T_giveNumbers_65 rfl rfl (by decide) (nw_of rfl) ?_
                refine r_goto (tgt := 17) C dc_T_giveNumbers_68 (by decide) ?_
                refine r_weak ?_ (ih s1 (hpre.trans hstep))
                exact wl_c (rfl) (wl_c (rfl) (wl_c (rfl) (wl_c (rfl) (wl_c (rfl) (wl_c (rfl) (wl_c (rfl) (wl_n)))))))
              ·
                have ecf : cOf ot z a k = true := by unfold cOf; rw [eo]; exact decide_eq_true c46
                rw [ecf, eo] at hstep
                first | refine r_aload_n C dc_T_giveNumbers_49 rfl rfl ?_ | refine r_aload_nq C dc_T_giveNumbers_49 rfl rfl ?_
                first | refine r_aload_n C dc_T_giveNumbers_50 rfl rfl ?_ | refine r_aload_nq C dc_T_giveNumbers_50 rfl rfl ?_
                first | refine r_aload_n C dc_T_giveNumbers_51 rfl rfl ?_ | refine r_aload_nq C dc_T_giveNumbers_51 rfl rfl ?_
                refine r_iload C dc_T_giveNumbers_52 rfl ?_
                refine r_iload C dc_T_giveNumbers_54 rfl ?_
                refine r_iload C dc_T_giveNumbers_56 rfl ?_
                refine r_iconst (v := nI 1) C dc_T_giveNumbers_58 (by decide) ?_
                first | refine r_iaddN C dc_T_giveNumbers_59 ?_ | refine r_iadd C dc_T_giveNumbers_59 ?_
                refine r_callV C dp dc_T_giveNumbers_60 cw_T_39 cm_T_giveNumbers cv_T_giveNumbers rfl (ch_T) (ihd (d + 1) (t / 3) s1.1 s1.2 (by omega) (by omega)) (by omega) rfl rfl (Nat.le_of_ble_eq_true rfl) (fun v60 h60 n60 q60 z60 => ?_) (fun _ _ _ _ z => z.elim)
                obtain ⟨y60, y60h, y60n⟩ := z60
                rw [y60, y60h, y60n]
                refine r_istore C dc_T_giveNumbers_63 (by decide) (nw_of rfl) ?_
                first | refine r_iincN C dc_T_giveNumbers_65 rfl (by decide) (nw_of rfl) ?_ | refine r_iinc C dc_T_giveNumbers_65 rfl rfl (by decide) (nw_of rfl) ?_
                refine r_goto (tgt := 17) C dc_T_giveNumbers_68 (by decide) ?_
                refine r_weak ?_ (ih (gN ot z dd (t / 3) s1) (hpre.trans hstep))
                exact wl_c (rfl) (wl_c (rfl) (wl_c (rfl) (wl_c (rfl) (wl_c (rfl) (wl_c (rfl) (wl_c (rfl) (wl_n)))))))
    refine r_iload C dc_T_giveNumbers_0 rfl ?_
    refine r_bipush (v := nI 12) C dc_T_giveNumbers_2 (by decide) ?_
    refine r_icmp_ltN (tgt := 10) C dc_T_giveNumbers_4 (by decide) (by omega) (by omega) (fun c4 => ?_) (fun c4 => ?_)
    ·
      refine r_iload C dc_T_giveNumbers_10 rfl ?_
      refine r_istore C dc_T_giveNumbers_12 (by decide) (nw_of rfl) ?_
      refine r_iconst (v := nI 0) C dc_T_giveNumbers_14 (by decide) ?_
      refine r_istore C dc_T_giveNumbers_15 (by decide) (nw_of rfl) ?_
      refine r_weak ?_ (lp 0 (by omega) (f, g) rfl)
      exact wl_c (rfl) (wl_c (rfl) (wl_c (rfl) (wl_c (rfl) (wl_c (rfl) (wl_c (rfl) (wl_c (rfl) (wl_n)))))))
    · exact absurd c4 (by omega)
set_option maxRecDepth 4000 in
set_option maxHeartbeats 1000000 in
theorem k_T_settleL (hl : l.stackTraces = false) {b0 : Nat} : Ct l D A G my_T_settle cd_T_settle 8 none (df + 14) 0 0 [.ref (b + 4), .ref (b + 1), .ref (b + 7), .int (nI b0), .int (zi true)] (CH A b z r (RH S q h)) n (fun v h' n' => v = none ∧ h' = CH A b (cLn z (cBz z (nI b0) 12) (-1) (-1) true) r (RH S q h) ∧ n' = n) (fun _ _ _ => False) := by
  refine Ct.of (by decide) hl (Nat.le_of_ble_eq_true rfl) ?_
  intro p e s m args below meth c C hr hnm ht dp
  have lp : ∀ k, k ≤ 12 → Rw p l e (cR (df + 14) 0 0) s m args below meth c (CQ D G n (fun v h' n' => v = none ∧ h' = CH A b (cLn z (cBz z (nI b0) 12) (-1) (-1) true) r (RH S q h) ∧ n' = n) (fun _ _ _ => False) below args s 0 0) D G 8 0 0 (CH A b (cLn z (cBz z (nI b0) k) (-1) (-1) true) r (RH S q h)) n [(0, .ref (b + 4)), (1, .ref (b + 1)), (2, .ref (b + 7)), (3, .int (nI b0)), (4, .int (zi true)), (5, .int (-1)), (6, .int (-1)), (7, .int (nI k))] 43 [] := by
    refine r_loop 12 _ ?_ ?_
    ·
      refine r_iload C dc_T_settle_43 rfl ?_
      refine r_bipush (v := nI 12) C dc_T_settle_45 (by decide) ?_
      refine r_icmp_geN (tgt := 79) C dc_T_settle_47 (by decide) (by omega) (by omega) (fun c47 => ?_) (fun c47 => ?_)
      ·
        exact r_vret C dp hr dc_T_settle_79 (Nat.le_refl _) ⟨rfl, rfl, rfl⟩
      · exact absurd c47 (by omega)
    ·
      intro k hk ih
      refine r_iload C dc_T_settle_43 rfl ?_
      refine r_bipush (v := nI 12) C dc_T_settle_45 (by decide) ?_
      refine r_icmp_geN (tgt := 79) C dc_T_settle_47 (by decide) (by omega) (by omega) (fun c47 => ?_) (fun c47 => ?_)
      · exact absurd c47 (by omega)
      ·
        have h31 : (cLn z (cBz z (nI b0) k) (-1) (-1) true) 31 = z 31 := cLn_r (by decide) (by decide) (by decide) (by decide)
        first | refine r_aload_n C dc_T_settle_50 rfl rfl ?_ | refine r_aload_nq C dc_T_settle_50 rfl rfl ?_
        refine r_iload C dc_T_settle_51 rfl ?_
        refine r_callV C dp dc_T_settle_53 cw_T_46 cm_W_busOf cv_W_busOf rfl (ch_W) (k_W_busOf (df := df) (i := k) hl ch_W ch_bus hk) (by omega) rfl rfl (Nat.le_of_ble_eq_true rfl) (fun v53 h53 n53 q53 z53 => ?_) (fun _ _ _ _ z => z.elim)
        obtain ⟨y53, y53h, y53n⟩ := z53
        rw [y53, y53h, y53n]
        refine r_iload_n C dc_T_settle_56 rfl rfl ?_
        rw [h31]
        refine r_icmp_ne (tgt := 73) C dc_T_settle_57 (by decide) (fun c57 => ?_) (fun c57 => ?_)
        ·
          refine rw_hh (h' := CH A b (cLn z (cBz z (nI b0) (k + 1)) (-1) (-1) true) r (RH S q h)) (by rw [cBz_n c57]) ?_
          first | refine r_iincN C dc_T_settle_73 rfl (by decide) (nw_of rfl) ?_ | refine r_iinc C dc_T_settle_73 rfl rfl (by decide) (nw_of rfl) ?_
          refine r_goto (tgt := 43) C dc_T_settle_76 (by decide) ?_
          refine r_weak ?_ (ih)
          exact wl_c (rfl) (wl_c (rfl) (wl_c (rfl) (wl_c (rfl) (wl_c (rfl) (wl_c (rfl) (wl_c (rfl) (wl_c (rfl) (wl_n))))))))
        ·
          first | refine r_aload_n C dc_T_settle_60 rfl rfl ?_ | refine r_aload_nq C dc_T_settle_60 rfl rfl ?_
          refine r_iload C dc_T_settle_61 rfl ?_
          refine r_nald C dc_T_settle_63 (by omega) ?_
          refine r_iload C dc_T_settle_64 rfl ?_
          refine r_iload C dc_T_settle_66 rfl ?_
          refine r_iload C dc_T_settle_68 rfl ?_
          refine r_callV C dp dc_T_settle_70 cw_T_52 cm_N_learn cv_N_learn rfl (ch_node hk) (k_N_learn (df := df) (z := cLn z (cBz z (nI b0) k) (-1) (-1) true) (i := k) (lp := true) hl hk) (by omega) rfl rfl (Nat.le_of_ble_eq_true rfl) (fun v70 h70 n70 q70 z70 => ?_) (fun _ _ _ _ z => z.elim)
          obtain ⟨y70, y70h, y70n⟩ := z70
          rw [y70, y70h, y70n]
          refine rw_hh (h' := CH A b (cLn z (cBz z (nI b0) (k + 1)) (-1) (-1) true) r (RH S q h)) (congrArg (fun y => CH A b y r (RH S q h)) (cLn_s (lp := true) c57)) ?_
          first | refine r_iincN C dc_T_settle_73 rfl (by decide) (nw_of rfl) ?_ | refine r_iinc C dc_T_settle_73 rfl rfl (by decide) (nw_of rfl) ?_
          refine r_goto (tgt := 43) C dc_T_settle_76 (by decide) ?_
          refine r_weak ?_ (ih)
          exact wl_c (rfl) (wl_c (rfl) (wl_c (rfl) (wl_c (rfl) (wl_c (rfl) (wl_c (rfl) (wl_c (rfl) (wl_c (rfl) (wl_n))))))))
  refine r_iconst (v := -1) C dc_T_settle_0 (by decide) ?_
  refine r_istore C dc_T_settle_1 (by decide) (nw_of rfl) ?_
  refine r_iconst (v := -1) C dc_T_settle_3 (by decide) ?_
  refine r_istore C dc_T_settle_4 (by decide) (nw_of rfl) ?_
  refine r_iload C dc_T_settle_6 rfl ?_
  refine r_if_neZ (tgt := 40) C dc_T_settle_8 (by decide) (fun c8 => ?_) (fun c8 => ?_)
  ·
    refine rw_hh (h' := CH A b (cLn z (cBz z (nI b0) 0) (-1) (-1) true) r (RH S q h)) (by rw [cLn_0]) ?_
    refine r_iconst (v := nI 0) C dc_T_settle_40 (by decide) ?_
    refine r_istore C dc_T_settle_41 (by decide) (nw_of rfl) ?_
    refine r_weak ?_ (lp 0 (by omega))
    exact wl_c (rfl) (wl_c (rfl) (wl_c (rfl) (wl_c (rfl) (wl_c (rfl) (wl_c (rfl) (wl_c (rfl) (wl_c (rfl) (wl_n))))))))
  · exact absurd c8 (by decide)
set_option maxRecDepth 4000 in
set_option maxHeartbeats 1000000 in
theorem k_T_settleT (hl : l.stackTraces = false) {b0 : Nat} {ot : Nat → Option Nat} (hot : ∀ k, k < 36 → z 30 k = oi (ot k)) (ht36 : ∀ k t, k < 36 → ot k = some t → t < 36) (hrt : cRoot z b0 < 12) : Ct l D A G my_T_settle cd_T_settle 8 none (df + 14) 0 0 [.ref (b + 4), .ref (b + 1), .ref (b + 7), .int (nI b0), .int (zi false)] (CH A b z r (RH S q h)) n (fun v h' n' => v = none ∧ h' = CH A b (cLn (cX1 ot z b0) (cBz (cX1 ot z b0) (nI b0) 12) (nI (cRoot z b0)) (oi (cMg (cX1 ot z b0) (nI b0))) false) r (RH S q h) ∧ n' = n) (fun _ _ _ => False) := by
  refine Ct.of (by decide) hl (Nat.le_of_ble_eq_true rfl) ?_
  intro p e s m args below meth c C hr hnm ht dp
  have lp : ∀ k, k ≤ 12 → Rw p l e (cR (df + 14) 0 0) s m args below meth c (CQ D G n (fun v h' n' => v = none ∧ h' = CH A b (cLn (cX1 ot z b0) (cBz (cX1 ot z b0) (nI b0) 12) (nI (cRoot z b0)) (oi (cMg (cX1 ot z b0) (nI b0))) false) r (RH S q h) ∧ n' = n) (fun _ _ _ => False) below args s 0 0) D G 8 0 0 (CH A b (cLn (cX1 ot z b0) (cBz (cX1 ot z b0) (nI b0) k) (nI (cRoot z b0)) (oi (cMg (cX1 ot z b0) (nI b0))) false) r (RH S q h)) n [(0, .ref (b + 4)), (1, .ref (b + 1)), (2, .ref (b + 7)), (3, .int (nI b0)), (4, .int (zi false)), (5, .int (nI (cRoot z b0))), (6, .int (oi (cMg (cX1 ot z b0) (nI b0)))), (7, .int (nI k))] 43 [] := by
    refine r_loop 12 _ ?_ ?_
    ·
      refine r_iload C dc_T_settle_43 rfl ?_
      refine r_bipush (v := nI 12) C dc_T_settle_45 (by decide) ?_
      refine r_icmp_geN (tgt := 79) C dc_T_settle_47 (by decide) (by omega) (by omega) (fun c47 => ?_) (fun c47 => ?_)
      ·
        exact r_vret C dp hr dc_T_settle_79 (Nat.le_refl _) ⟨rfl, rfl, rfl⟩
      · exact absurd c47 (by omega)
    ·
      intro k hk ih
      refine r_iload C dc_T_settle_43 rfl ?_
      refine r_bipush (v := nI 12) C dc_T_settle_45 (by decide) ?_
      refine r_icmp_geN (tgt := 79) C dc_T_settle_47 (by decide) (by omega) (by omega) (fun c47 => ?_) (fun c47 => ?_)
      · exact absurd c47 (by omega)
      ·
        have h31 : (cLn (cX1 ot z b0) (cBz (cX1 ot z b0) (nI b0) k) (nI (cRoot z b0)) (oi (cMg (cX1 ot z b0) (nI b0))) false) 31 = (cX1 ot z b0) 31 := cLn_r (by decide) (by decide) (by decide) (by decide)
        first | refine r_aload_n C dc_T_settle_50 rfl rfl ?_ | refine r_aload_nq C dc_T_settle_50 rfl rfl ?_
        refine r_iload C dc_T_settle_51 rfl ?_
        refine r_callV C dp dc_T_settle_53 cw_T_46 cm_W_busOf cv_W_busOf rfl (ch_W) (k_W_busOf (df := df) (i := k) hl ch_W ch_bus hk) (by omega) rfl rfl (Nat.le_of_ble_eq_true rfl) (fun v53 h53 n53 q53 z53 => ?_) (fun _ _ _ _ z => z.elim)
        obtain ⟨y53, y53h, y53n⟩ := z53
        rw [y53, y53h, y53n]
        refine r_iload_n C dc_T_settle_56 rfl rfl ?_
        rw [h31]
        refine r_icmp_ne (tgt := 73) C dc_T_settle_57 (by decide) (fun c57 => ?_) (fun c57 => ?_)
        ·
          refine rw_hh (h' := CH A b (cLn (cX1 ot z b0) (cBz (cX1 ot z b0) (nI b0) (k + 1)) (nI (cRoot z b0)) (oi (cMg (cX1 ot z b0) (nI b0))) false) r (RH S q h)) (by rw [cBz_n c57]) ?_
          first | refine r_iincN C dc_T_settle_73 rfl (by decide) (nw_of rfl) ?_ | refine r_iinc C dc_T_settle_73 rfl rfl (by decide) (nw_of rfl) ?_
          refine r_goto (tgt := 43) C dc_T_settle_76 (by decide) ?_
          refine r_weak ?_ (ih)
          exact wl_c (rfl) (wl_c (rfl) (wl_c (rfl) (wl_c (rfl) (wl_c (rfl) (wl_c (rfl) (wl_c (rfl) (wl_c (rfl) (wl_n))))))))
        ·
          first | refine r_aload_n C dc_T_settle_60 rfl rfl ?_ | refine r_aload_nq C dc_T_settle_60 rfl rfl ?_
          refine r_iload C dc_T_settle_61 rfl ?_
          refine r_nald C dc_T_settle_63 (by omega) ?_
          refine r_iload C dc_T_settle_64 rfl ?_
          refine r_iload C dc_T_settle_66 rfl ?_
          refine r_iload C dc_T_settle_68 rfl ?_
          refine r_callV C dp dc_T_settle_70 cw_T_52 cm_N_learn cv_N_learn rfl (ch_node hk) (k_N_learn (df := df) (z := cLn (cX1 ot z b0) (cBz (cX1 ot z b0) (nI b0) k) (nI (cRoot z b0)) (oi (cMg (cX1 ot z b0) (nI b0))) false) (i := k) (lp := false) hl hk) (by omega) rfl rfl (Nat.le_of_ble_eq_true rfl) (fun v70 h70 n70 q70 z70 => ?_) (fun _ _ _ _ z => z.elim)
          obtain ⟨y70, y70h, y70n⟩ := z70
          rw [y70, y70h, y70n]
          refine rw_hh (h' := CH A b (cLn (cX1 ot z b0) (cBz (cX1 ot z b0) (nI b0) (k + 1)) (nI (cRoot z b0)) (oi (cMg (cX1 ot z b0) (nI b0))) false) r (RH S q h)) (congrArg (fun y => CH A b y r (RH S q h)) (cLn_s (lp := false) c57)) ?_
          first | refine r_iincN C dc_T_settle_73 rfl (by decide) (nw_of rfl) ?_ | refine r_iinc C dc_T_settle_73 rfl rfl (by decide) (nw_of rfl) ?_
          refine r_goto (tgt := 43) C dc_T_settle_76 (by decide) ?_
          refine r_weak ?_ (ih)
          exact wl_c (rfl) (wl_c (rfl) (wl_c (rfl) (wl_c (rfl) (wl_c (rfl) (wl_c (rfl) (wl_c (rfl) (wl_c (rfl) (wl_n))))))))
  refine r_iconst (v := -1) C dc_T_settle_0 (by decide) ?_
  refine r_istore C dc_T_settle_1 (by decide) (nw_of rfl) ?_
  refine r_iconst (v := -1) C dc_T_settle_3 (by decide) ?_
  refine r_istore C dc_T_settle_4 (by decide) (nw_of rfl) ?_
  refine r_iload C dc_T_settle_6 rfl ?_
  refine r_if_neZ (tgt := 40) C dc_T_settle_8 (by decide) (fun c8 => ?_) (fun c8 => ?_)
  · exact absurd c8 (by decide)
  ·
    first | refine r_aload_n C dc_T_settle_11 rfl rfl ?_ | refine r_aload_nq C dc_T_settle_11 rfl rfl ?_
    first | refine r_aload_n C dc_T_settle_12 rfl rfl ?_ | refine r_aload_nq C dc_T_settle_12 rfl rfl ?_
    first | refine r_aload_n C dc_T_settle_13 rfl rfl ?_ | refine r_aload_nq C dc_T_settle_13 rfl rfl ?_
    refine r_iload_n C dc_T_settle_14 rfl rfl ?_
    refine r_callV C dp dc_T_settle_15 cw_T_35 cm_T_findRoot cv_T_findRoot rfl (ch_T) (k_T_findRoot (df := df) (b0 := b0) hl) (by omega) rfl rfl (Nat.le_of_ble_eq_true rfl) (fun v15 h15 n15 q15 z15 => ?_) (fun _ _ _ _ z => z.elim)
    obtain ⟨y15, y15h, y15n⟩ := z15
    rw [y15, y15h, y15n]
    refine r_istore C dc_T_settle_18 (by decide) (nw_of rfl) ?_
    first | refine r_aload_n C dc_T_settle_20 rfl rfl ?_ | refine r_aload_nq C dc_T_settle_20 rfl rfl ?_
    first | refine r_aload_n C dc_T_settle_21 rfl rfl ?_ | refine r_aload_nq C dc_T_settle_21 rfl rfl ?_
    first | refine r_aload_n C dc_T_settle_22 rfl rfl ?_ | refine r_aload_nq C dc_T_settle_22 rfl rfl ?_
    refine r_iload C dc_T_settle_23 rfl ?_
    refine r_iconst (v := nI 0) C dc_T_settle_25 (by decide) ?_
    refine r_iconst (v := nI 0) C dc_T_settle_26 (by decide) ?_
    have hg := k_T_give (l := l) (D := D) (A := A) (G := G) (b := b) (n := n) (df := df) (r := r) (S := S) (q := q) (h := h) hl hot ht36 12 0 (cRoot z b0) 0 (z 13) rfl hrt
    rw [ur_self] at hg
    refine r_callV C dp dc_T_settle_27 cw_T_39 cm_T_giveNumbers cv_T_giveNumbers rfl (ch_T) (hg) (by omega) rfl rfl (Nat.le_of_ble_eq_true rfl) (fun v27 h27 n27 q27 z27 => ?_) (fun _ _ _ _ z => z.elim)
    obtain ⟨y27, y27h, y27n⟩ := z27
    rw [y27, y27h, y27n]
    refine r_pop C dc_T_settle_30 rfl ?_
    first | refine r_aload_n C dc_T_settle_31 rfl rfl ?_ | refine r_aload_nq C dc_T_settle_31 rfl rfl ?_
    first | refine r_aload_n C dc_T_settle_32 rfl rfl ?_ | refine r_aload_nq C dc_T_settle_32 rfl rfl ?_
    first | refine r_aload_n C dc_T_settle_33 rfl rfl ?_ | refine r_aload_nq C dc_T_settle_33 rfl rfl ?_
    refine r_iload_n C dc_T_settle_34 rfl rfl ?_
    refine r_callV C dp dc_T_settle_35 cw_T_43 cm_T_findManager cv_T_findManager rfl (ch_T) (k_T_findManager (df := df) (z := (cX1 ot z b0)) (v0 := nI b0) hl) (by omega) rfl rfl (Nat.le_of_ble_eq_true rfl) (fun v35 h35 n35 q35 z35 => ?_) (fun _ _ _ _ z => z.elim)
    obtain ⟨y35, y35h, y35n⟩ := z35
    rw [y35, y35h, y35n]
    refine rw_hh (h' := CH A b (cLn (cX1 ot z b0) (cBz (cX1 ot z b0) (nI b0) 0) (nI (cRoot z b0)) (oi (cMg (cX1 ot z b0) (nI b0))) false) r (RH S q h)) (by rw [cLn_0]) ?_
    refine r_istore C dc_T_settle_38 (by decide) (nw_of rfl) ?_
    refine r_iconst (v := nI 0) C dc_T_settle_40 (by decide) ?_
    refine r_istore C dc_T_settle_41 (by decide) (nw_of rfl) ?_
    refine r_weak ?_ (lp 0 (by omega))
    exact wl_c (rfl) (wl_c (rfl) (wl_c (rfl) (wl_c (rfl) (wl_c (rfl) (wl_c (rfl) (wl_c (rfl) (wl_c (rfl) (wl_n))))))))
end Cls6
