theorem ou_n {v : Int32} {k : Nat} (hk : k < 2 ^ 31) (h : ¬ ou v k) : ∃ j, j < k ∧ v = nI j := by
  rcases pk_ix v hk with z | z | z
  · exact absurd (Or.inl z) h
  · exact absurd (Or.inr z) h
  · exact z
def plC (ot : Nat → Option Nat) (a p0 c q0 : Int32) : Nat := if ou a 12 then 1 else if ou c 12 then 1 else if ou p0 3 then 2 else if ou q0 3 then 2 else if a = c then 2 else match ot (3 * cl a + cl p0) with
  | some _ => 3
  | none => match ot (3 * cl c + cl q0) with
    | some _ => 3
    | none => 0
def unC (ot : Nat → Option Nat) (a p0 : Int32) : Nat := if ou a 12 then 1 else if ou p0 3 then 2 else match ot (3 * cl a + cl p0) with
  | none => 3
  | some _ => 0
def reC (a : Int32) : Nat := if ou a 12 then 1 else 0
def enC (r : Nat → Nat → Option Nat) (a lb : Int32) : Nat := if ou a 12 then 1 else if ou lb 4 then 2 else match r (12 + cl a) (cl lb) with
  | none => 3
  | some _ => 0
def vaC (r : Nat → Nat → Option Nat) (q : Nat → Nat → Int32) (a lb : Int32) : Nat := if ou a 12 then 1 else if ou lb 4 then 2 else match r (12 + cl a) (cl lb) with
  | none => 3
  | some y => if q y 6 = -1 then 3 else if q y 6 = 0 then 0 else 4
def abC (a w : Int32) : Nat := if ou a 12 then 1 else if w < 0 ∨ nI 9 ≤ w then 2 else 0
def woC (a w : Int32) : Nat := if ou a 12 then 1 else if ou w 8 then 2 else 0
def taC (a c w : Int32) : Nat := if ou a 12 then 1 else if c < 0 ∨ nI 32 ≤ c then 2 else if w < 0 ∨ nI 100 < w then 2 else 0
def rgC (v : Int32) (lo hi : Nat) : Nat := if v < nI lo ∨ nI hi < v then 2 else 0
/-- the far sockets with a cable more; with one less -/
def otP (ot : Nat → Option Nat) (s t : Nat) : Nat → Option Nat := fun k => if k = t then some s else if k = s then some t else ot k
def otU (ot : Nat → Option Nat) (s t : Nat) : Nat → Option Nat := fun k => if k = t then none else if k = s then none else ot k
theorem otP_z {ot : Nat → Option Nat} {f : Nat → Int32} (h : ∀ k, k < 36 → f k = oi (ot k)) {s t : Nat} : ∀ k, k < 36 → upd (upd f s (nI t)) t (nI s) k = oi (otP ot s t k) := by
  intro k hk
  unfold upd otP
  by_cases e1 : k = t
  · rw [if_pos e1, if_pos e1]; rfl
  · rw [if_neg e1, if_neg e1]
    by_cases e2 : k = s
    · rw [if_pos e2, if_pos e2]; rfl
    · rw [if_neg e2, if_neg e2]; exact h k hk
theorem otU_z {ot : Nat → Option Nat} {f : Nat → Int32} (h : ∀ k, k < 36 → f k = oi (ot k)) {s t : Nat} : ∀ k, k < 36 → upd (upd f s (-1)) t (-1) k = oi (otU ot s t k) := by
  intro k hk
  unfold upd otU
  by_cases e1 : k = t
  · rw [if_pos e1, if_pos e1]; rfl
  · rw [if_neg e1, if_neg e1]
    by_cases e2 : k = s
    · rw [if_pos e2, if_pos e2]; rfl
    · rw [if_neg e2, if_neg e2]; exact h k hk
theorem otP_36 {ot : Nat → Option Nat} (h : ∀ k t, k < 36 → ot k = some t → t < 36) {s t : Nat} (hs : s < 36) (ht : t < 36) : ∀ k u, k < 36 → otP ot s t k = some u → u < 36 := by
  intro k u hk e
  unfold otP at e
  split at e
  · cases e; exact hs
  · split at e
    · cases e; exact ht
    · exact h k u hk e
theorem otU_36 {ot : Nat → Option Nat} (h : ∀ k t, k < 36 → ot k = some t → t < 36) {s t : Nat} : ∀ k u, k < 36 → otU ot s t k = some u → u < 36 := by
  intro k u hk e
  unfold otU at e
  split at e
  · cases e
  · split at e
    · cases e
    · exact h k u hk e
def plZ (ot : Nat → Option Nat) (z : Nat → Nat → Int32) (i pi j pj : Nat) : Nat → Nat → Int32 := sR (sR (ur (ur (ur z 30 (upd (upd (z 30) (3 * i + pi) (nI (3 * j + pj))) (3 * j + pj) (nI (3 * i + pi)))) 32 (fun _ => z 32 0 + nI 1)) 31 (rN (itP (otP ot (3 * i + pi) (3 * j + pj)) 11) (z 31))) 11 i (nI 1)) 11 j (nI 1)
def unZ (ot : Nat → Option Nat) (z : Nat → Nat → Int32) (i pi t : Nat) : Nat → Nat → Int32 := sR (sR (ur (ur (ur z 30 (upd (upd (z 30) (3 * i + pi) (-1)) t (-1))) 32 (fun _ => z 32 0 - nI 1)) 31 (rN (itP (otU ot (3 * i + pi) t) 11) (z 31))) 11 i (nI 1)) 11 (t / 3) (nI 1)
def reZ (z : Nat → Nat → Int32) (i : Nat) (bits : Int32) (hd ct : Bool) : Nat → Nat → Int32 := sR (sR (sR (sR (sR z 3 i (bits &&& 65535)) 4 i (nI 0)) 5 i (zi hd)) 6 i (zi ct)) 11 i (nI 1)
def cAbJ (z : Nat → Nat → Int32) (r : Nat → Nat → Option Nat) (q : Nat → Nat → Int32) (a : Nat) : Nat → Int32
  | 0 => bif cDirty z (z 31 a) then -1 else z 13 a
  | 1 => z 14 a
  | 2 => z 15 a
  | 3 => z 16 a
  | 4 => z 17 a
  | 5 => z 9 a
  | 6 => z 4 a
  | 7 => nI (cntT (fun k => cW q (r (12 + a) k)) 4)
  | _ => if z 10 a = 0 then nI 0 else nI 1
def cCnJ (z : Nat → Nat → Int32) (g : Nat → Nat) : Nat → Int32
  | 0 => z 32 0
  | 1 => nI (cntT (fun k => decide (g k = k)) 12)
  | 2 => z 35 0
  | 3 => z 37 0
  | 4 => z 38 0
  | 5 => z 39 0
  | 6 => z 40 0
  | _ => nI (cntT (fun k => decide (g k = k) && (decide (¬ z 12 k = 0) && !cDirty z (nI k))) 12)
theorem lc_S74 : Cond.constant rn_S 74 65535 ∈ tbl := by decide +kernel
section Cls10
variable {l : Launch} {D : va_G} {A : Nat → ClassId} {G : Heap} {b n df : Nat} {z : Nat → Nat → Int32} {r : Nat → Nat → Option Nat} {S : Nat → Bool} {q : Nat → Nat → Int32} {h : Hp}
set_option maxRecDepth 4000 in
set_option maxHeartbeats 1000000 in
theorem k_S_time (hl : l.stackTraces = false) {v0 : Int32} : Ct l D A G my_S_time cd_S_time 2 none df 1 6 [.ref b, .int v0] (CH A b z r (RH S q h)) n (fun v h' n' => (rgC v0 2 60) = 0 ∧ v = none ∧ h' = CH A b (ur z 36 (fun _ => v0)) r (RH S q h) ∧ n' = n) (fun E h' n' => ¬ (rgC v0 2 60) = 0 ∧ E = exN (rgC v0 2 60) ∧ h' = (CH A b z r (RH S q h)) ∧ n ≤ n') := by
  refine Ct.of (by decide) hl (Nat.le_of_ble_eq_true rfl) ?_
  intro p e s m args below meth c C hr hnm ht dp
  refine r_iload_n C dc_S_time_0 rfl rfl ?_
  refine r_iconst (v := nI 2) C dc_S_time_1 (by decide) ?_
  refine r_icmp_lt (tgt := 11) C dc_S_time_2 (by decide) (fun c2 => ?_) (fun c2 => ?_)
  ·
    have hcd : (rgC v0 2 60) = 2 := by unfold rgC; rw [if_pos (Or.inl c2)]
    exact r_throw (names := exM) (cls := exN 2) (text := "no such time") C dp ht dc_S_time_11 dc_S_time_14 dc_S_time_15 dc_S_time_17 dc_S_time_20 ex_f2 ex_m (by decide) ex_w2 (by decide +kernel) (Nat.le_refl _) (Nat.le_of_ble_eq_true rfl) ⟨by omega, by omega⟩ (fun n' hn' => ⟨by rw [hcd]; decide, by rw [hcd], rfl, hn'⟩)
  ·
    refine r_iload_n C dc_S_time_5 rfl rfl ?_
    refine r_bipush (v := nI 60) C dc_S_time_6 (by decide) ?_
    refine r_icmp_le (tgt := 21) C dc_S_time_8 (by decide) (fun c8 => ?_) (fun c8 => ?_)
    ·
      first | refine r_aload_n C dc_S_time_21 rfl rfl ?_ | refine r_aload_nq C dc_S_time_21 rfl rfl ?_
      refine r_iload_n C dc_S_time_22 rfl rfl ?_
      refine r_put C dc_S_time_23 fl_S_30 ch_S rfl rfl (Nat.le_of_ble_eq_true rfl) ?_
      refine rw_hh cs_s36 ?_
      exact r_vret C dp hr dc_S_time_26 (Nat.le_refl _) ⟨by unfold rgC; rw [if_neg (fun z => z.elim c2 (fun z => absurd c8 (Int32.not_le.mpr z)))], rfl, rfl, rfl⟩
    ·
      have hcd : (rgC v0 2 60) = 2 := by unfold rgC; rw [if_pos (Or.inr (Int32.not_le.mp c8))]
      exact r_throw (names := exM) (cls := exN 2) (text := "no such time") C dp ht dc_S_time_11 dc_S_time_14 dc_S_time_15 dc_S_time_17 dc_S_time_20 ex_f2 ex_m (by decide) ex_w2 (by decide +kernel) (Nat.le_refl _) (Nat.le_of_ble_eq_true rfl) ⟨by omega, by omega⟩ (fun n' hn' => ⟨by rw [hcd]; decide, by rw [hcd], rfl, hn'⟩)
set_option maxRecDepth 4000 in
set_option maxHeartbeats 1000000 in
theorem k_S_talk (hl : l.stackTraces = false) {a c0 w0 : Int32} : Ct l D A G my_S_talk cd_S_talk 4 none (df + 1) 2 12 [.ref b, .int a, .int c0, .int w0] (CH A b z r (RH S q h)) n (fun v h' n' => (taC a c0 w0) = 0 ∧ v = none ∧ h' = CH A b (sR (sR z 7 (cl a) c0) 8 (cl a) w0) r (RH S q h) ∧ n' = n) (fun E h' n' => ¬ (taC a c0 w0) = 0 ∧ E = exN (taC a c0 w0) ∧ h' = (CH A b z r (RH S q h)) ∧ n ≤ n') := by
  refine Ct.of (by decide) hl (Nat.le_of_ble_eq_true rfl) ?_
  intro p e s m args below meth c C hr hnm ht dp
  refine r_iload_n C dc_S_talk_0 rfl rfl ?_
  refine r_callS C dp dc_S_talk_1 cw_S_34 cs_S_checkNode (k_S_checkNode (df := df) (vv := a) hl) (by omega) rfl rfl (Nat.le_of_ble_eq_true rfl) (fun v9 h9 n9 q9 z9 => ?_) (fun E hE nE qE zE => ?_)
  rotate_left
  · have hcd : (taC a c0 w0) = 1 := by unfold taC; rw [if_pos zE.2.1]
    exact x_out C dp ht zE.2.2.2 ⟨by rw [hcd]; decide, by rw [hcd]; exact zE.1, zE.2.2.1, zE.2.2.2⟩
  obtain ⟨y1, ng1, y2, y3⟩ := z9
  rw [y1, y2, y3]
  refine r_iload_n C dc_S_talk_4 rfl rfl ?_
  refine r_if_lt (tgt := 14) C dc_S_talk_5 (by decide) (fun c5 => ?_) (fun c5 => ?_)
  ·
    have hcd : (taC a c0 w0) = 2 := by unfold taC; rw [if_neg ng1, if_pos (Or.inl c5)]
    exact r_throw (names := exM) (cls := exN 2) (text := "no such channel") C dp ht dc_S_talk_14 dc_S_talk_17 dc_S_talk_18 dc_S_talk_20 dc_S_talk_23 ex_f2 ex_m (by decide) ex_w2 (by decide +kernel) (Nat.le_refl _) (Nat.le_of_ble_eq_true rfl) ⟨by omega, by omega⟩ (fun n' hn' => ⟨by rw [hcd]; decide, by rw [hcd], rfl, hn'⟩)
  ·
    refine r_iload_n C dc_S_talk_8 rfl rfl ?_
    refine r_bipush (v := nI 32) C dc_S_talk_9 (by decide) ?_
    refine r_icmp_lt (tgt := 24) C dc_S_talk_11 (by decide) (fun c11 => ?_) (fun c11 => ?_)
    ·
      refine r_iload_n C dc_S_talk_24 rfl rfl ?_
      refine r_if_lt (tgt := 34) C dc_S_talk_25 (by decide) (fun c25 => ?_) (fun c25 => ?_)
      ·
        have hcd : (taC a c0 w0) = 2 := by unfold taC; rw [if_neg ng1, if_neg (fun z => z.elim c5 (fun z => absurd c11 (Int32.not_lt.mpr z))), if_pos (Or.inl c25)]
        exact r_throw (names := exM) (cls := exN 2) (text := "no such bandwidth") C dp ht dc_S_talk_34 dc_S_talk_37 dc_S_talk_38 dc_S_talk_40 dc_S_talk_43 ex_f2 ex_m (by decide) ex_w2 (by decide +kernel) (Nat.le_refl _) (Nat.le_of_ble_eq_true rfl) ⟨by omega, by omega⟩ (fun n' hn' => ⟨by rw [hcd]; decide, by rw [hcd], rfl, hn'⟩)
      ·
        refine r_iload_n C dc_S_talk_28 rfl rfl ?_
        refine r_bipush (v := nI 100) C dc_S_talk_29 (by decide) ?_
        refine r_icmp_le (tgt := 44) C dc_S_talk_31 (by decide) (fun c31 => ?_) (fun c31 => ?_)
        ·
          have hcd0 : (taC a c0 w0) = 0 := by unfold taC; rw [if_neg ng1, if_neg (fun z => z.elim c5 (fun z => absurd c11 (Int32.not_lt.mpr z))), if_neg (fun z => z.elim c25 (fun z => absurd c31 (Int32.not_le.mpr z)))]
          obtain ⟨i, hi, rfl⟩ := ou_n (by decide) ng1
          have ci : cl (nI i) = i := cl_nI (by omega)
          first | refine r_aload_n C dc_S_talk_44 rfl rfl ?_ | refine r_aload_nq C dc_S_talk_44 rfl rfl ?_
          refine r_get C dc_S_talk_45 fl_S_25 ch_S rfl ?_
          refine r_iload_n C dc_S_talk_48 rfl rfl ?_
          refine r_nald C dc_S_talk_49 (by omega) ?_
          refine r_iload_n C dc_S_talk_50 rfl rfl ?_
          refine r_put C dc_S_talk_51 fl_S_133 (ch_node (by omega)) rfl rfl (Nat.le_of_ble_eq_true rfl) ?_
          refine rw_hh (cs_n7 (by omega)) ?_
          first | refine r_aload_n C dc_S_talk_54 rfl rfl ?_ | refine r_aload_nq C dc_S_talk_54 rfl rfl ?_
          refine r_get C dc_S_talk_55 fl_S_25 ch_S rfl ?_
          refine r_iload_n C dc_S_talk_58 rfl rfl ?_
          refine r_nald C dc_S_talk_59 (by omega) ?_
          refine r_iload_n C dc_S_talk_60 rfl rfl ?_
          refine r_put C dc_S_talk_61 fl_S_136 (ch_node (by omega)) rfl rfl (Nat.le_of_ble_eq_true rfl) ?_
          refine rw_hh (cs_n8 (by omega)) ?_
          exact r_vret C dp hr dc_S_talk_64 (Nat.le_refl _) ⟨hcd0, rfl, by rw [ci]; rfl, rfl⟩
        ·
          have hcd : (taC a c0 w0) = 2 := by unfold taC; rw [if_neg ng1, if_neg (fun z => z.elim c5 (fun z => absurd c11 (Int32.not_lt.mpr z))), if_pos (Or.inr (Int32.not_le.mp c31))]
          exact r_throw (names := exM) (cls := exN 2) (text := "no such bandwidth") C dp ht dc_S_talk_34 dc_S_talk_37 dc_S_talk_38 dc_S_talk_40 dc_S_talk_43 ex_f2 ex_m (by decide) ex_w2 (by decide +kernel) (Nat.le_refl _) (Nat.le_of_ble_eq_true rfl) ⟨by omega, by omega⟩ (fun n' hn' => ⟨by rw [hcd]; decide, by rw [hcd], rfl, hn'⟩)
    ·
      have hcd : (taC a c0 w0) = 2 := by unfold taC; rw [if_neg ng1, if_pos (Or.inr (Int32.not_lt.mp c11))]
      exact r_throw (names := exM) (cls := exN 2) (text := "no such channel") C dp ht dc_S_talk_14 dc_S_talk_17 dc_S_talk_18 dc_S_talk_20 dc_S_talk_23 ex_f2 ex_m (by decide) ex_w2 (by decide +kernel) (Nat.le_refl _) (Nat.le_of_ble_eq_true rfl) ⟨by omega, by omega⟩ (fun n' hn' => ⟨by rw [hcd]; decide, by rw [hcd], rfl, hn'⟩)
set_option maxRecDepth 4000 in
set_option maxHeartbeats 1000000 in
theorem k_S_reset (hl : l.stackTraces = false) {a bits : Int32} {hd ct : Bool} : Ct l D A G my_S_reset cd_S_reset 6 none (df + 1) 1 6 [.ref b, .int a, .int bits, .int (zi hd), .int (zi ct)] (CH A b z r (RH S q h)) n (fun v h' n' => (reC a) = 0 ∧ v = none ∧ h' = CH A b (reZ z (cl a) bits hd ct) r (RH S q h) ∧ n' = n) (fun E h' n' => ¬ (reC a) = 0 ∧ E = exN (reC a) ∧ h' = (CH A b z r (RH S q h)) ∧ n ≤ n') := by
  refine Ct.of (by decide) hl (Nat.le_of_ble_eq_true rfl) ?_
  intro p e s m args below meth c C hr hnm ht dp
  refine r_iload_n C dc_S_reset_0 rfl rfl ?_
  refine r_callS C dp dc_S_reset_1 cw_S_34 cs_S_checkNode (k_S_checkNode (df := df) (vv := a) hl) (by omega) rfl rfl (Nat.le_of_ble_eq_true rfl) (fun v9 h9 n9 q9 z9 => ?_) (fun E hE nE qE zE => ?_)
  rotate_left
  · have hcd : (reC a) = 1 := by unfold reC; rw [if_pos zE.2.1]
    exact x_out C dp ht zE.2.2.2 ⟨by rw [hcd]; decide, by rw [hcd]; exact zE.1, zE.2.2.1, zE.2.2.2⟩
  obtain ⟨y1, ng1, y2, y3⟩ := z9
  rw [y1, y2, y3]
  have hcd0 : (reC a) = 0 := by unfold reC; rw [if_neg ng1]
  obtain ⟨i, hi, rfl⟩ := ou_n (by decide) ng1
  have ci : cl (nI i) = i := cl_nI (by omega)
  first | refine r_aload_n C dc_S_reset_4 rfl rfl ?_ | refine r_aload_nq C dc_S_reset_4 rfl rfl ?_
  refine r_get C dc_S_reset_5 fl_S_25 ch_S rfl ?_
  refine r_iload_n C dc_S_reset_8 rfl rfl ?_
  refine r_nald C dc_S_reset_9 (by omega) ?_
  first | refine r_astore C dc_S_reset_10 (by decide) (nw_of rfl) ?_ | refine r_astoreN C dc_S_reset_10 (by decide) (nw_of rfl) ?_ | refine r_astoreq C dc_S_reset_10 (by decide) (nw_of rfl) ?_
  first | refine r_aload C dc_S_reset_12 rfl ?_ | refine r_aloadq C dc_S_reset_12 rfl ?_
  refine r_iload_n C dc_S_reset_14 rfl rfl ?_
  refine r_ldc (v := 65535) C dc_S_reset_15 lc_S74 ?_
  refine r_iand C dc_S_reset_17 ?_
  refine r_put C dc_S_reset_18 fl_S_75 (ch_node (by omega)) rfl rfl (Nat.le_of_ble_eq_true rfl) ?_
  refine rw_hh (cs_n3 (by omega)) ?_
  first | refine r_aload C dc_S_reset_21 rfl ?_ | refine r_aloadq C dc_S_reset_21 rfl ?_
  refine r_iconst (v := nI 0) C dc_S_reset_23 (by decide) ?_
  refine r_put C dc_S_reset_24 fl_S_78 (ch_node (by omega)) rfl rfl (Nat.le_of_ble_eq_true rfl) ?_
  refine rw_hh (cs_n4 (by omega)) ?_
  first | refine r_aload C dc_S_reset_27 rfl ?_ | refine r_aloadq C dc_S_reset_27 rfl ?_
  refine r_iload_n C dc_S_reset_29 rfl rfl ?_
  refine r_put C dc_S_reset_30 fl_S_81 (ch_node (by omega)) (by first | exact zi_n _ | rfl) (by first | exact zi_f _ | rfl) (Nat.le_of_ble_eq_true rfl) ?_
  refine rw_hh (cs_n5 (by omega)) ?_
  first | refine r_aload C dc_S_reset_33 rfl ?_ | refine r_aloadq C dc_S_reset_33 rfl ?_
  refine r_iload C dc_S_reset_35 rfl ?_
  refine r_put C dc_S_reset_37 fl_S_84 (ch_node (by omega)) (by first | exact zi_n _ | rfl) (by first | exact zi_f _ | rfl) (Nat.le_of_ble_eq_true rfl) ?_
  refine rw_hh (cs_n6 (by omega)) ?_
  first | refine r_aload C dc_S_reset_40 rfl ?_ | refine r_aloadq C dc_S_reset_40 rfl ?_
  refine r_iconst (v := nI 1) C dc_S_reset_42 (by decide) ?_
  refine r_put C dc_S_reset_43 fl_S_61 (ch_node (by omega)) (by first | exact zi_n _ | rfl) (by first | exact zi_f _ | rfl) (Nat.le_of_ble_eq_true rfl) ?_
  refine rw_hh (cs_n11 (by omega)) ?_
  exact r_vret C dp hr dc_S_reset_46 (Nat.le_refl _) ⟨hcd0, rfl, by rw [ci]; rfl, rfl⟩
set_option maxRecDepth 4000 in
set_option maxHeartbeats 1000000 in
theorem k_S_word (hl : l.stackTraces = false) {a w0 : Int32} : Ct l D A G my_S_word cd_S_word 3 (some (.int)) (df + 1) 2 12 [.ref b, .int a, .int w0] (CH A b z r (RH S q h)) n (fun v h' n' => (woC a w0) = 0 ∧ v = some (.int (z (100 + cl a) (cl w0))) ∧ h' = CH A b z r (RH S q h) ∧ n' = n) (fun E h' n' => ¬ (woC a w0) = 0 ∧ E = exN (woC a w0) ∧ h' = (CH A b z r (RH S q h)) ∧ n ≤ n') := by
  refine Ct.of (by decide) hl (Nat.le_of_ble_eq_true rfl) ?_
  intro p e s m args below meth c C hr hnm ht dp
  refine r_iload_n C dc_S_word_0 rfl rfl ?_
  refine r_callS C dp dc_S_word_1 cw_S_34 cs_S_checkNode (k_S_checkNode (df := df) (vv := a) hl) (by omega) rfl rfl (Nat.le_of_ble_eq_true rfl) (fun v9 h9 n9 q9 z9 => ?_) (fun E hE nE qE zE => ?_)
  rotate_left
  · have hcd : (woC a w0) = 1 := by unfold woC; rw [if_pos zE.2.1]
    exact x_out C dp ht zE.2.2.2 ⟨by rw [hcd]; decide, by rw [hcd]; exact zE.1, zE.2.2.1, zE.2.2.2⟩
  obtain ⟨y1, ng1, y2, y3⟩ := z9
  rw [y1, y2, y3]
  refine r_iload_n C dc_S_word_4 rfl rfl ?_
  refine r_callS C dp dc_S_word_5 cw_S_87 cs_S_checkWord (k_S_checkWord (df := df) (vv := w0) hl) (by omega) rfl rfl (Nat.le_of_ble_eq_true rfl) (fun v9 h9 n9 q9 z9 => ?_) (fun E hE nE qE zE => ?_)
  rotate_left
  · have hcd : (woC a w0) = 2 := by unfold woC; rw [if_neg ng1, if_pos zE.2.1]
    exact x_out C dp ht zE.2.2.2 ⟨by rw [hcd]; decide, by rw [hcd]; exact zE.1, zE.2.2.1, zE.2.2.2⟩
  obtain ⟨y1, ng2, y2, y3⟩ := z9
  rw [y1, y2, y3]
  have hcd0 : (woC a w0) = 0 := by unfold woC; rw [if_neg ng1, if_neg ng2]
  obtain ⟨i, hi, rfl⟩ := ou_n (by decide) ng1
  have ci : cl (nI i) = i := cl_nI (by omega)
  obtain ⟨k, hk, rfl⟩ := ou_n (by decide) ng2
  have ck : cl (nI k) = k := cl_nI (by omega)
  first | refine r_aload_n C dc_S_word_8 rfl rfl ?_ | refine r_aload_nq C dc_S_word_8 rfl rfl ?_
  refine r_get C dc_S_word_9 fl_S_25 ch_S rfl ?_
  refine r_iload_n C dc_S_word_12 rfl rfl ?_
  refine r_nald C dc_S_word_13 (by omega) ?_
  refine r_get C dc_S_word_14 fl_S_201 (ch_node (by omega)) rfl ?_
  refine r_iload_n C dc_S_word_17 rfl rfl ?_
  refine r_ialdN C dc_S_word_18 (ch_words (by omega)) (by omega) (by decide) ?_
  exact r_iret C dp hr dc_S_word_19 (Nat.le_refl _) ⟨hcd0, by rw [ci, ck], rfl, rfl⟩
set_option maxRecDepth 4000 in
set_option maxHeartbeats 1000000 in
theorem k_S_ended (hl : l.stackTraces = false) {a l0 : Int32} (hv : RV b r S) : Ct l D A G my_S_ended cd_S_ended 4 (some (.int)) (df + 1) 3 18 [.ref b, .int a, .int l0] (CH A b z r (RH S q h)) n (fun v h' n' => (enC r a l0) = 0 ∧ ∃ y, r (12 + cl a) (cl l0) = some y ∧ v = some (.int (q y 6)) ∧ h' = CH A b z r (RH S q h) ∧ n' = n) (fun E h' n' => ¬ (enC r a l0) = 0 ∧ E = exN (enC r a l0) ∧ h' = (CH A b z r (RH S q h)) ∧ n ≤ n') := by
  refine Ct.of (by decide) hl (Nat.le_of_ble_eq_true rfl) ?_
  intro p e s m args below meth c C hr hnm ht dp
  refine r_iload_n C dc_S_ended_0 rfl rfl ?_
  refine r_callS C dp dc_S_ended_1 cw_S_34 cs_S_checkNode (k_S_checkNode (df := df) (vv := a) hl) (by omega) rfl rfl (Nat.le_of_ble_eq_true rfl) (fun v9 h9 n9 q9 z9 => ?_) (fun E hE nE qE zE => ?_)
  rotate_left
  · have hcd : (enC r a l0) = 1 := by unfold enC; rw [if_pos zE.2.1]
    exact x_out C dp ht zE.2.2.2 ⟨by rw [hcd]; decide, by rw [hcd]; exact zE.1, zE.2.2.1, zE.2.2.2⟩
  obtain ⟨y1, ng1, y2, y3⟩ := z9
  rw [y1, y2, y3]
  refine r_iload_n C dc_S_ended_4 rfl rfl ?_
  refine r_callS C dp dc_S_ended_5 cw_S_153 cs_S_checkLabel (k_S_checkLabel (df := df) (vv := l0) hl) (by omega) rfl rfl (Nat.le_of_ble_eq_true rfl) (fun v9 h9 n9 q9 z9 => ?_) (fun E hE nE qE zE => ?_)
  rotate_left
  · have hcd : (enC r a l0) = 2 := by unfold enC; rw [if_neg ng1, if_pos zE.2.1]
    exact x_out C dp ht zE.2.2.2 ⟨by rw [hcd]; decide, by rw [hcd]; exact zE.1, zE.2.2.1, zE.2.2.2⟩
  obtain ⟨y1, ng2, y2, y3⟩ := z9
  rw [y1, y2, y3]
  have hcd1 : (enC r a l0) = match r (12 + cl a) (cl l0) with | none => 3 | some _ => 0 := by unfold enC; rw [if_neg ng1, if_neg ng2]
  obtain ⟨i, hi, rfl⟩ := ou_n (by decide) ng1
  have ci : cl (nI i) = i := cl_nI (by omega)
  obtain ⟨k, hk, rfl⟩ := ou_n (by decide) ng2
  have ck : cl (nI k) = k := cl_nI (by omega)
  rw [ci, ck] at hcd1 ⊢
  first | refine r_aload_n C dc_S_ended_8 rfl rfl ?_ | refine r_aload_nq C dc_S_ended_8 rfl rfl ?_
  refine r_get C dc_S_ended_9 fl_S_25 ch_S rfl ?_
  refine r_iload_n C dc_S_ended_12 rfl rfl ?_
  refine r_nald C dc_S_ended_13 (by omega) ?_
  refine r_get C dc_S_ended_14 fl_S_121 (ch_node (by omega)) rfl ?_
  refine r_iload_n C dc_S_ended_17 rfl rfl ?_
  refine r_aaldN C dc_S_ended_18 (ch_labels (by omega)) rfl (by omega) (by decide) ?_
  cases ea : r (12 + i) k with
  | none =>
    rw [ea] at hcd1
    first | refine r_astore_n C dc_S_ended_19 rfl (by decide) (nw_of rfl) ?_ | refine r_astore_nN C dc_S_ended_19 rfl (by decide) (nw_of rfl) ?_ | refine r_astore_nq C dc_S_ended_19 rfl (by decide) (nw_of rfl) ?_
    refine r_aload_nq (r := none) C dc_S_ended_20 rfl rfl ?_
    refine r_ifnonnull (r := none) (tgt := 34) C dc_S_ended_21 (by decide) (fun _ z => by cases z) (fun _ => ?_)
    have hcd : (enC r (nI i) (nI k)) = 3 := hcd1
    exact r_throw (names := exM) (cls := exN 3) (text := "the label is free") C dp ht dc_S_ended_24 dc_S_ended_27 dc_S_ended_28 dc_S_ended_30 dc_S_ended_33 ex_f3 ex_m (by decide) ex_w3 (by decide +kernel) (Nat.le_refl _) (Nat.le_of_ble_eq_true rfl) ⟨by omega, by omega⟩ (fun n' hn' => ⟨by rw [hcd]; decide, by rw [hcd], rfl, hn'⟩)
  | some y =>
    rw [ea] at hcd1
    have hy := hv.1 _ _ _ ea
    refine sb_av (P := fun v => Rw _ _ _ _ _ _ _ _ _ _ _ _ _ _ _ _ _ _ _ _ (v :: _)) (show va_rf (some y) = .ref y from rfl) ?_
    refine r_astore_n C dc_S_ended_19 rfl (by decide) (nw_of rfl) ?_
    refine r_aload_n C dc_S_ended_20 rfl rfl ?_
    refine r_ifnonnull (r := some y) (tgt := 34) C dc_S_ended_21 (by decide) (fun _ _ => ?_) (fun z => by cases z)
    first | refine r_aload_n C dc_S_ended_34 rfl rfl ?_ | refine r_aload_nq C dc_S_ended_34 rfl rfl ?_
    refine r_get C dc_S_ended_35 fl_S_158 (ch_rq hv.2 (by first | assumption | exact hv.1 _ _ _ (by assumption))) rfl ?_
    exact r_iret C dp hr dc_S_ended_38 (Nat.le_refl _) ⟨hcd1, y, rfl, rfl, rfl, rfl⟩
set_option maxRecDepth 4000 in
set_option maxHeartbeats 1000000 in
theorem k_S_value (hl : l.stackTraces = false) {a l0 : Int32} (hv : RV b r S) : Ct l D A G my_S_value cd_S_value 4 (some (.int)) (df + 1) 3 18 [.ref b, .int a, .int l0] (CH A b z r (RH S q h)) n (fun v h' n' => (vaC r q a l0) = 0 ∧ ∃ y, r (12 + cl a) (cl l0) = some y ∧ v = some (.int (q y 9)) ∧ h' = CH A b z (ur r (12 + cl a) (va_up (r (12 + cl a)) (cl l0) none)) (RH S q h) ∧ n' = n) (fun E h' n' => ¬ (vaC r q a l0) = 0 ∧ E = exN (vaC r q a l0) ∧ h' = (if (vaC r q a l0) = 4 then CH A b z (ur r (12 + cl a) (va_up (r (12 + cl a)) (cl l0) none)) (RH S q h) else CH A b z r (RH S q h)) ∧ n ≤ n') := by
  refine Ct.of (by decide) hl (Nat.le_of_ble_eq_true rfl) ?_
  intro p e s m args below meth c C hr hnm ht dp
  refine r_iload_n C dc_S_value_0 rfl rfl ?_
  refine r_callS C dp dc_S_value_1 cw_S_34 cs_S_checkNode (k_S_checkNode (df := df) (vv := a) hl) (by omega) rfl rfl (Nat.le_of_ble_eq_true rfl) (fun v9 h9 n9 q9 z9 => ?_) (fun E hE nE qE zE => ?_)
  rotate_left
  · have hcd : (vaC r q a l0) = 1 := by unfold vaC; rw [if_pos zE.2.1]
    exact x_out C dp ht zE.2.2.2 ⟨by rw [hcd]; decide, by rw [hcd]; exact zE.1, by rw [hcd]; exact zE.2.2.1, zE.2.2.2⟩
  obtain ⟨y1, ng1, y2, y3⟩ := z9
  rw [y1, y2, y3]
  refine r_iload_n C dc_S_value_4 rfl rfl ?_
  refine r_callS C dp dc_S_value_5 cw_S_153 cs_S_checkLabel (k_S_checkLabel (df := df) (vv := l0) hl) (by omega) rfl rfl (Nat.le_of_ble_eq_true rfl) (fun v9 h9 n9 q9 z9 => ?_) (fun E hE nE qE zE => ?_)
  rotate_left
  · have hcd : (vaC r q a l0) = 2 := by unfold vaC; rw [if_neg ng1, if_pos zE.2.1]
    exact x_out C dp ht zE.2.2.2 ⟨by rw [hcd]; decide, by rw [hcd]; exact zE.1, by rw [hcd]; exact zE.2.2.1, zE.2.2.2⟩
  obtain ⟨y1, ng2, y2, y3⟩ := z9
  rw [y1, y2, y3]
  have hcd1 : (vaC r q a l0) = match r (12 + cl a) (cl l0) with | none => 3 | some y => if q y 6 = -1 then 3 else if q y 6 = 0 then 0 else 4 := by unfold vaC; rw [if_neg ng1, if_neg ng2]
  obtain ⟨i, hi, rfl⟩ := ou_n (by decide) ng1
  have ci : cl (nI i) = i := cl_nI (by omega)
  obtain ⟨k, hk, rfl⟩ := ou_n (by decide) ng2
  have ck : cl (nI k) = k := cl_nI (by omega)
  rw [ci, ck] at hcd1 ⊢
  first | refine r_aload_n C dc_S_value_8 rfl rfl ?_ | refine r_aload_nq C dc_S_value_8 rfl rfl ?_
  refine r_get C dc_S_value_9 fl_S_25 ch_S rfl ?_
  refine r_iload_n C dc_S_value_12 rfl rfl ?_
  refine r_nald C dc_S_value_13 (by omega) ?_
  refine r_get C dc_S_value_14 fl_S_121 (ch_node (by omega)) rfl ?_
  refine r_iload_n C dc_S_value_17 rfl rfl ?_
  refine r_aaldN C dc_S_value_18 (ch_labels (by omega)) rfl (by omega) (by decide) ?_
  cases ea : r (12 + i) k with
  | none =>
    rw [ea] at hcd1
    first | refine r_astore_n C dc_S_value_19 rfl (by decide) (nw_of rfl) ?_ | refine r_astore_nN C dc_S_value_19 rfl (by decide) (nw_of rfl) ?_ | refine r_astore_nq C dc_S_value_19 rfl (by decide) (nw_of rfl) ?_
    refine r_aload_nq (r := none) C dc_S_value_20 rfl rfl ?_
    refine r_ifnull (r := none) (tgt := 32) C dc_S_value_21 (by decide) (fun _ => ?_) (fun _ z => by cases z)
    have hcd : (vaC r q (nI i) (nI k)) = 3 := hcd1
    exact r_throw (names := exM) (cls := exN 3) (text := "the label is free or waits") C dp ht dc_S_value_32 dc_S_value_35 dc_S_value_36 dc_S_value_38 dc_S_value_41 ex_f3 ex_m (by decide) ex_w3 (by decide +kernel) (Nat.le_refl _) (Nat.le_of_ble_eq_true rfl) ⟨by omega, by omega⟩ (fun n' hn' => ⟨by rw [hcd]; decide, by rw [hcd], by rw [hcd]; rfl, hn'⟩)
  | some y =>
    rw [ea] at hcd1
    have hy := hv.1 _ _ _ ea
    dsimp only at hcd1
    refine sb_av (P := fun v => Rw _ _ _ _ _ _ _ _ _ _ _ _ _ _ _ _ _ _ _ _ (v :: _)) (show va_rf (some y) = .ref y from rfl) ?_
    refine r_astore_n C dc_S_value_19 rfl (by decide) (nw_of rfl) ?_
    refine r_aload_n C dc_S_value_20 rfl rfl ?_
    refine r_ifnull (r := some y) (tgt := 32) C dc_S_value_21 (by decide) (fun z => by cases z) (fun _ _ => ?_)
    first | refine r_aload_n C dc_S_value_24 rfl rfl ?_ | refine r_aload_nq C dc_S_value_24 rfl rfl ?_
    refine r_get C dc_S_value_25 fl_S_158 (ch_rq hv.2 (by first | assumption | exact hv.1 _ _ _ (by assumption))) rfl ?_
    refine r_iconst (v := -1) C dc_S_value_28 (by decide) ?_
    refine r_icmp_ne (tgt := 42) C dc_S_value_29 (by decide) (fun c29 => ?_) (fun c29 => ?_)
    ·
      rw [if_neg c29] at hcd1
      first | refine r_aload_n C dc_S_value_42 rfl rfl ?_ | refine r_aload_nq C dc_S_value_42 rfl rfl ?_
      refine r_get C dc_S_value_43 fl_S_25 ch_S rfl ?_
      refine r_iload_n C dc_S_value_46 rfl rfl ?_
      refine r_nald C dc_S_value_47 (by omega) ?_
      refine r_get C dc_S_value_48 fl_S_121 (ch_node (by omega)) rfl ?_
      refine r_iload_n C dc_S_value_51 rfl rfl ?_
      refine r_null C dc_S_value_52 ?_
      refine r_aastQ (v := none) C dc_S_value_53 (ch_labels (by omega)) (fun b' e => by cases e) (by omega) (by decide) ?_
      refine rw_hh (cs_lb (by omega)) ?_
      have hv2 : RV b (ur r (12 + i) (va_up (r (12 + i)) k none)) S := hv.row (vaup_S (fun j a e => hv.1 _ _ _ e) (fun a e => by cases e))
      refine r_aload_n C dc_S_value_54 rfl rfl ?_
      refine r_get C dc_S_value_55 fl_S_158 (ch_rq hv2.2 hy) rfl ?_
      refine r_if_eq (tgt := 71) C dc_S_value_58 (by decide) (fun c58 => ?_) (fun c58 => ?_)
      ·
        rw [if_pos c58] at hcd1
        refine r_aload_n C dc_S_value_71 rfl rfl ?_
        refine r_get C dc_S_value_72 fl_S_165 (ch_rq hv2.2 hy) rfl ?_
        exact r_iret C dp hr dc_S_value_75 (Nat.le_refl _) ⟨hcd1, y, rfl, rfl, rfl, rfl⟩
      ·
        rw [if_neg c58] at hcd1
        have hcd : (vaC r q (nI i) (nI k)) = 4 := hcd1
        exact r_throw (names := exM) (cls := exN 4) (text := "the request was not done") C dp ht dc_S_value_61 dc_S_value_64 dc_S_value_65 dc_S_value_67 dc_S_value_70 ex_f4 ex_m (by decide) ex_w4 (by decide +kernel) (Nat.le_refl _) (Nat.le_of_ble_eq_true rfl) ⟨by omega, by omega⟩ (fun n' hn' => ⟨by rw [hcd]; decide, by rw [hcd], by rw [if_pos hcd], hn'⟩)
    ·
      rw [if_pos c29] at hcd1
      have hcd : (vaC r q (nI i) (nI k)) = 3 := hcd1
      exact r_throw (names := exM) (cls := exN 3) (text := "the label is free or waits") C dp ht dc_S_value_32 dc_S_value_35 dc_S_value_36 dc_S_value_38 dc_S_value_41 ex_f3 ex_m (by decide) ex_w3 (by decide +kernel) (Nat.le_refl _) (Nat.le_of_ble_eq_true rfl) ⟨by omega, by omega⟩ (fun n' hn' => ⟨by rw [hcd]; decide, by rw [hcd], by rw [hcd]; rfl, hn'⟩)
end Cls10
