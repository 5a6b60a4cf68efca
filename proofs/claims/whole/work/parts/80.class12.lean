def rq0 (t wk wn ex gv la : Int32) : Nat → Int32
  | 0 => t
  | 1 => wk
  | 2 => wn
  | 3 => ex
  | 4 => gv
  | 5 => la
  | 6 => -1
  | _ => 0
theorem rq0_eq {t wk wn ex gv la : Int32} : upd (upd (upd (upd (upd (upd (upd (fun _ => 0) 6 (-1)) 0 t) 1 wk) 2 wn) 3 ex) 4 gv) 5 la = rq0 t wk wn ex gv la := by
  funext k
  unfold upd
  match k with
  | 0 => rfl
  | 1 => rfl
  | 2 => rfl
  | 3 => rfl
  | 4 => rfl
  | 5 => rfl
  | 6 => rfl
  | k + 7 =>
    rw [if_neg (by omega), if_neg (by omega), if_neg (by omega), if_neg (by omega), if_neg (by omega), if_neg (by omega), if_neg (by omega)]
    rfl
theorem rh_new {A : Nat → ClassId} {b : Nat} {z : Nat → Nat → Int32} {r : Nat → Nat → Option Nat} {S : Nat → Bool} {q : Nat → Nat → Int32} {h : Hp} {a : Nat} {f : Nat → Int32} (ha : a < b ∨ b + 67 < a) : hs (CH A b z r (RH S q h)) a (oc 2 (rfs f)) = CH A b z r (RH (va_up S a true) (ur q a f) h) := by
  rw [ch_hs ha]
  congr 1
  funext c
  by_cases e : c = a
  · rw [e, hs_eq, rh_in (show va_up S a true a = true from if_pos rfl), ur_eq]
  · rw [hs_ne e]
    unfold RH
    have e1 : va_up S a true c = S c := if_neg e
    rw [e1, ur_ne e]
theorem RV.new {b : Nat} {r : Nat → Nat → Option Nat} {S : Nat → Bool} {a : Nat} (hv : RV b r S) (ha : a < b ∨ b + 67 < a) : RV b r (va_up S a true) := by
  refine ⟨fun k j c e => ?_, fun c e => ?_⟩
  · unfold va_up
    split
    · rfl
    · exact hv.1 k j c e
  · unfold va_up at e
    split at e
    · rename_i e1; rw [e1]; exact ha
    · exact hv.2 c e
theorem ch_fr {A : Nat → ClassId} {b : Nat} {z : Nat → Nat → Int32} {r : Nat → Nat → Option Nat} {S : Nat → Bool} {q : Nat → Nat → Int32} {h : Hp} {a : Nat} (hf : CH A b z r (RH S q h) a = none) : (a < b ∨ b + 67 < a) ∧ S a = false := by
  have h1 : a < b ∨ b + 67 < a := by
    refine Classical.byContradiction (fun hno => ?_)
    have h2 := ch_in (A := A) (b := b) (z := z) (r := r) (h := RH S q h) (j := a - b) (by omega)
    rw [show b + (a - b) = a by omega, hf] at h2
    cases h2
  refine ⟨h1, ?_⟩
  cases e : S a with
  | false => rfl
  | true => rw [ch_out h1, rh_in e] at hf; cases hf
def asC (z : Nat → Nat → Int32) (r : Nat → Nat → Option Nat) (q : Nat → Nat → Int32) (a c wk w : Int32) : Nat := if ou a 12 then 1 else if ou c 12 then 1 else if ou w 8 then 2 else if ¬ (wk = 0 ∨ wk = nI 1 ∨ wk = nI 2) then 2 else match fstF (fun k => !cW q (r (12 + cl a) k)) 4 0 with
  | none => 3
  | some _ => if cl (z 17 (cl a)) < 6 then 0 else 4
theorem nd_R : ∀ j, j < 10 → ∀ ty, parseFieldDescriptor (ft_R j).2.2.1 = some ty → defaultValue ty = vp_V (rfs (fun _ => 0)) j := by
  intro j hj ty h
  rw [ty_R j hj] at h
  cases h
  rcases (show j = 0 ∨ j = 1 ∨ j = 2 ∨ j = 3 ∨ j = 4 ∨ j = 5 ∨ j = 6 ∨ j = 7 ∨ j = 8 ∨ j = 9 by omega) with e | e | e | e | e | e | e | e | e | e <;> subst e <;> rfl
section Cls12
variable {l : Launch} {D : va_G} {A : Nat → ClassId} {G : Heap} {b n df : Nat} {z : Nat → Nat → Int32} {r : Nat → Nat → Option Nat} {S : Nat → Bool} {q : Nat → Nat → Int32} {h : Hp}
set_option maxRecDepth 4000 in
set_option maxHeartbeats 1000000 in
theorem k_R_init (hl : l.stackTraces = false) {a : Nat} {t wk wn ex gv la : Int32} (ha : S a = true) (hv : RV b r S) (hq0 : q a = fun _ => 0) : Ct l D A G my_R_init cd_R_init 7 none df 0 0 [.ref a, .int t, .int wk, .int wn, .int ex, .int gv, .int la] (CH A b z r (RH S q h)) n (fun v h' n' => v = none ∧ h' = CH A b z r (RH S (ur q a (rq0 t wk wn ex gv la)) h) ∧ n' = n) (fun _ _ _ => False) := by
  refine Ct.of (by decide) hl (Nat.le_of_ble_eq_true rfl) ?_
  intro p e s m args below meth c C hr hnm ht dp
  refine r_aload_n C dc_R_init_0 rfl rfl ?_
  refine r_objInit C dp dc_R_init_1 (tm 406 (by decide +kernel) rfl) (by decide) ?_
  first | refine r_aload_n C dc_R_init_4 rfl rfl ?_ | refine r_aload_nq C dc_R_init_4 rfl rfl ?_
  refine r_iconst (v := -1) C dc_R_init_5 (by decide) ?_
  refine r_put C dc_R_init_6 fl_R_9 (ch_rq hv.2 (by first | assumption | exact hv.1 _ _ _ (by assumption))) rfl rfl (Nat.le_of_ble_eq_true rfl) ?_
  refine rw_hh (cs_r6 hv.2 (by first | assumption | exact hv.1 _ _ _ (by assumption))) ?_
  refine rw_hh (h' := CH A b z r (RH S (ur q a (upd (fun _ => 0) 6 (-1))) h)) (by rw [hq0]) ?_
  first | refine r_aload_n C dc_R_init_9 rfl rfl ?_ | refine r_aload_nq C dc_R_init_9 rfl rfl ?_
  refine r_iload_n C dc_R_init_10 rfl rfl ?_
  refine r_putF C dc_R_init_11 fl_R_15 ⟨_, _, rfl⟩ hnm (nfl_of nfl_R (by decide)) (ch_rq hv.2 ha) rfl rfl (Nat.le_of_ble_eq_true rfl) ?_
  refine rw_hh (cs_r0 hv.2 ha) ?_
  refine rw_hh (h' := CH A b z r (RH S (ur q a (upd (upd (fun _ => 0) 6 (-1)) 0 t)) h)) (by rw [ur_ur, ur_eq]) ?_
  first | refine r_aload_n C dc_R_init_14 rfl rfl ?_ | refine r_aload_nq C dc_R_init_14 rfl rfl ?_
  refine r_iload_n C dc_R_init_15 rfl rfl ?_
  refine r_putF C dc_R_init_16 fl_R_18 ⟨_, _, rfl⟩ hnm (nfl_of nfl_R (by decide)) (ch_rq hv.2 ha) rfl rfl (Nat.le_of_ble_eq_true rfl) ?_
  refine rw_hh (cs_r1 hv.2 ha) ?_
  refine rw_hh (h' := CH A b z r (RH S (ur q a (upd (upd (upd (fun _ => 0) 6 (-1)) 0 t) 1 wk)) h)) (by rw [ur_ur, ur_eq]) ?_
  first | refine r_aload_n C dc_R_init_19 rfl rfl ?_ | refine r_aload_nq C dc_R_init_19 rfl rfl ?_
  refine r_iload_n C dc_R_init_20 rfl rfl ?_
  refine r_putF C dc_R_init_21 fl_R_21 ⟨_, _, rfl⟩ hnm (nfl_of nfl_R (by decide)) (ch_rq hv.2 ha) rfl rfl (Nat.le_of_ble_eq_true rfl) ?_
  refine rw_hh (cs_r2 hv.2 ha) ?_
  refine rw_hh (h' := CH A b z r (RH S (ur q a (upd (upd (upd (upd (fun _ => 0) 6 (-1)) 0 t) 1 wk) 2 wn)) h)) (by rw [ur_ur, ur_eq]) ?_
  first | refine r_aload_n C dc_R_init_24 rfl rfl ?_ | refine r_aload_nq C dc_R_init_24 rfl rfl ?_
  refine r_iload C dc_R_init_25 rfl ?_
  refine r_putF C dc_R_init_27 fl_R_24 ⟨_, _, rfl⟩ hnm (nfl_of nfl_R (by decide)) (ch_rq hv.2 ha) rfl rfl (Nat.le_of_ble_eq_true rfl) ?_
  refine rw_hh (cs_r3 hv.2 ha) ?_
  refine rw_hh (h' := CH A b z r (RH S (ur q a (upd (upd (upd (upd (upd (fun _ => 0) 6 (-1)) 0 t) 1 wk) 2 wn) 3 ex)) h)) (by rw [ur_ur, ur_eq]) ?_
  first | refine r_aload_n C dc_R_init_30 rfl rfl ?_ | refine r_aload_nq C dc_R_init_30 rfl rfl ?_
  refine r_iload C dc_R_init_31 rfl ?_
  refine r_putF C dc_R_init_33 fl_R_27 ⟨_, _, rfl⟩ hnm (nfl_of nfl_R (by decide)) (ch_rq hv.2 ha) rfl rfl (Nat.le_of_ble_eq_true rfl) ?_
  refine rw_hh (cs_r4 hv.2 ha) ?_
  refine rw_hh (h' := CH A b z r (RH S (ur q a (upd (upd (upd (upd (upd (upd (fun _ => 0) 6 (-1)) 0 t) 1 wk) 2 wn) 3 ex) 4 gv)) h)) (by rw [ur_ur, ur_eq]) ?_
  first | refine r_aload_n C dc_R_init_36 rfl rfl ?_ | refine r_aload_nq C dc_R_init_36 rfl rfl ?_
  refine r_iload C dc_R_init_37 rfl ?_
  refine r_putF C dc_R_init_39 fl_R_30 ⟨_, _, rfl⟩ hnm (nfl_of nfl_R (by decide)) (ch_rq hv.2 ha) rfl rfl (Nat.le_of_ble_eq_true rfl) ?_
  refine rw_hh (cs_r5 hv.2 ha) ?_
  refine rw_hh (h' := CH A b z r (RH S (ur q a (upd (upd (upd (upd (upd (upd (upd (fun _ => 0) 6 (-1)) 0 t) 1 wk) 2 wn) 3 ex) 4 gv) 5 la)) h)) (by rw [ur_ur, ur_eq]) ?_
  exact r_vret C dp hr dc_R_init_42 (Nat.le_refl _) ⟨rfl, by rw [rq0_eq], rfl⟩
set_option maxRecDepth 4000 in
set_option maxHeartbeats 1000000 in
theorem k_S_ask (hl : l.stackTraces = false) {a c0 wk w0 x0 v0 : Int32} (hv : RV b r S) (hsz12 : ∀ t, t < 12 → ∃ sz, sz ≤ 6 ∧ z 17 t = nI sz) : Ct l D A G my_S_ask cd_S_ask 10 (some (.int)) (df + 2) 5 34 [.ref b, .int a, .int c0, .int wk, .int w0, .int x0, .int v0] (CH A b z r (RH S q h)) n (fun v h' n' => (asC z r q a c0 wk w0) = 0 ∧ ∃ k sz, fstF (fun k => !cW q (r (12 + (cl a)) k)) 4 0 = some k ∧ z 17 (cl a) = nI sz ∧ sz < 6 ∧ v = some (.int (nI k)) ∧ h' = CH A b (ur z 17 (upd (z 17) (cl a) (nI (sz + 1)))) (ur (ur r (12 + (cl a)) (va_up (r (12 + (cl a))) k (some (G.size + n)))) (cl a) (va_up (r (cl a)) sz (some (G.size + n)))) (RH (va_up S (G.size + n) true) (ur q (G.size + n) (rq0 c0 wk w0 x0 v0 (z 35 0 + z 36 0))) h) ∧ n' = n + 1 ∧ ((G.size + n) < b ∨ b + 67 < (G.size + n)) ∧ S (G.size + n) = false) (fun E h' n' => ¬ (asC z r q a c0 wk w0) = 0 ∧ E = exN (asC z r q a c0 wk w0) ∧ h' = (CH A b z r (RH S q h)) ∧ n ≤ n') := by
  refine Ct.of (by decide) hl (Nat.le_of_ble_eq_true rfl) ?_
  intro p e s m args below meth c C hr hnm ht dp
  refine r_iload_n C dc_S_ask_0 rfl rfl ?_
  refine r_callS C dp dc_S_ask_1 cw_S_34 cs_S_checkNode (k_S_checkNode (df := df) (vv := a) hl) (by omega) rfl rfl (Nat.le_of_ble_eq_true rfl) (fun v9 h9 n9 q9 z9 => ?_) (fun E hE nE qE zE => ?_)
  rotate_left
  · have hcd : (asC z r q a c0 wk w0) = 1 := by unfold asC; rw [if_pos zE.2.1]
    exact x_out C dp ht zE.2.2.2 ⟨by rw [hcd]; decide, by rw [hcd]; exact zE.1, zE.2.2.1, zE.2.2.2⟩
  obtain ⟨y1, ng1, y2, y3⟩ := z9
  rw [y1, y2, y3]
  refine r_iload_n C dc_S_ask_4 rfl rfl ?_
  refine r_callS C dp dc_S_ask_5 cw_S_34 cs_S_checkNode (k_S_checkNode (df := df) (vv := c0) hl) (by omega) rfl rfl (Nat.le_of_ble_eq_true rfl) (fun v9 h9 n9 q9 z9 => ?_) (fun E hE nE qE zE => ?_)
  rotate_left
  · have hcd : (asC z r q a c0 wk w0) = 1 := by unfold asC; rw [if_neg ng1, if_pos zE.2.1]
    exact x_out C dp ht zE.2.2.2 ⟨by rw [hcd]; decide, by rw [hcd]; exact zE.1, zE.2.2.1, zE.2.2.2⟩
  obtain ⟨y1, ng2, y2, y3⟩ := z9
  rw [y1, y2, y3]
  refine r_iload C dc_S_ask_8 rfl ?_
  refine r_callS C dp dc_S_ask_10 cw_S_87 cs_S_checkWord (k_S_checkWord (df := df) (vv := w0) hl) (by omega) rfl rfl (Nat.le_of_ble_eq_true rfl) (fun v9 h9 n9 q9 z9 => ?_) (fun E hE nE qE zE => ?_)
  rotate_left
  · have hcd : (asC z r q a c0 wk w0) = 2 := by unfold asC; rw [if_neg ng1, if_neg ng2, if_pos zE.2.1]
    exact x_out C dp ht zE.2.2.2 ⟨by rw [hcd]; decide, by rw [hcd]; exact zE.1, zE.2.2.1, zE.2.2.2⟩
  obtain ⟨y1, ng3, y2, y3⟩ := z9
  rw [y1, y2, y3]
  have rest : (wk = 0 ∨ wk = nI 1 ∨ wk = nI 2) → Rw p l e (cR (df + 2) 5 34) s m args below meth c (CQ D G n (fun v h' n' => (asC z r q a c0 wk w0) = 0 ∧ ∃ k sz, fstF (fun k => !cW q (r (12 + (cl a)) k)) 4 0 = some k ∧ z 17 (cl a) = nI sz ∧ sz < 6 ∧ v = some (.int (nI k)) ∧ h' = CH A b (ur z 17 (upd (z 17) (cl a) (nI (sz + 1)))) (ur (ur r (12 + (cl a)) (va_up (r (12 + (cl a))) k (some (G.size + n)))) (cl a) (va_up (r (cl a)) sz (some (G.size + n)))) (RH (va_up S (G.size + n) true) (ur q (G.size + n) (rq0 c0 wk w0 x0 v0 (z 35 0 + z 36 0))) h) ∧ n' = n + 1 ∧ ((G.size + n) < b ∨ b + 67 < (G.size + n)) ∧ S (G.size + n) = false) (fun E h' n' => ¬ (asC z r q a c0 wk w0) = 0 ∧ E = exN (asC z r q a c0 wk w0) ∧ h' = (CH A b z r (RH S q h)) ∧ n ≤ n') below args s 5 34) D G 10 2 16 (CH A b z r (RH S q h)) n [(0, .ref b), (1, .int a), (2, .int c0), (3, .int wk), (4, .int w0), (5, .int x0), (6, .int v0)] 37 [] := by
    intro hwk
    have hcd1 : (asC z r q a c0 wk w0) = match fstF (fun k => !cW q (r (12 + cl a) k)) 4 0 with | none => 3 | some _ => if cl (z 17 (cl a)) < 6 then 0 else 4 := by
      unfold asC
      rw [if_neg ng1, if_neg ng2, if_neg ng3, if_neg (fun h => h hwk)]
    obtain ⟨i, hi, rfl⟩ := ou_n (by decide) ng1
    have ci : cl (nI i) = i := cl_nI (by omega)
    rw [ci] at hcd1 ⊢
    obtain ⟨sz, hs6, hsz⟩ := hsz12 i hi
    have csz : cl (z 17 i) = sz := by rw [hsz]; exact cl_nI (by omega)
    rw [csz] at hcd1
    first | refine r_aload_n C dc_S_ask_37 rfl rfl ?_ | refine r_aload_nq C dc_S_ask_37 rfl rfl ?_
    refine r_get C dc_S_ask_38 fl_S_25 ch_S rfl ?_
    refine r_iload_n C dc_S_ask_41 rfl rfl ?_
    refine r_nald C dc_S_ask_42 (by omega) ?_
    first | refine r_astore C dc_S_ask_43 (by decide) (nw_of rfl) ?_ | refine r_astoreN C dc_S_ask_43 (by decide) (nw_of rfl) ?_ | refine r_astoreq C dc_S_ask_43 (by decide) (nw_of rfl) ?_
    first | refine r_aload C dc_S_ask_45 rfl ?_ | refine r_aloadq C dc_S_ask_45 rfl ?_
    refine r_callV C dp dc_S_ask_47 cw_S_92 cm_N_leastLabelThatDoesNotWait cv_N_leastLabelThatDoesNotWait rfl (ch_node hi) (k_N_least (df := df) (i := i) hl hi hv) (by omega) rfl rfl (Nat.le_of_ble_eq_true rfl) (fun v47 h47 n47 q47 z47 => ?_) (fun _ _ _ _ z => z.elim)
    obtain ⟨y47, y47h, y47n⟩ := z47
    rw [y47, y47h, y47n]
    cases ef : fstF (fun k => !cW q (r (12 + i) k)) 4 0 with
    | none =>
      rw [ef] at hcd1
      refine r_istore C dc_S_ask_50 (by decide) (nw_of rfl) ?_
      refine r_iload C dc_S_ask_52 rfl ?_
      refine r_iconst (v := -1) C dc_S_ask_54 (by decide) ?_
      refine r_icmp_ne (tgt := 68) C dc_S_ask_55 (by decide) (fun c55 => ?_) (fun c55 => ?_)
      · exact absurd rfl c55
      ·
        have hcd : (asC z r q (nI i) c0 wk w0) = 3 := hcd1
        exact r_throw (names := exM) (cls := exN 3) (text := "all labels wait") C dp ht dc_S_ask_58 dc_S_ask_61 dc_S_ask_62 dc_S_ask_64 dc_S_ask_67 ex_f3 ex_m (by decide) ex_w3 (by decide +kernel) (Nat.le_refl _) (Nat.le_of_ble_eq_true rfl) ⟨by omega, by omega⟩ (fun n' hn' => ⟨by rw [hcd]; decide, by rw [hcd], rfl, hn'⟩)
    | some k =>
      rw [ef] at hcd1
      dsimp only at hcd1
      have hk : k < 4 := by have := fst_lt ef; omega
      refine sb_at (P := fun v => Rw _ _ _ _ _ _ _ _ _ _ _ _ _ _ _ _ _ _ _ _ (.int v :: _)) (show oi (some k) = nI k from rfl) ?_
      refine r_istore C dc_S_ask_50 (by decide) (nw_of rfl) ?_
      refine r_iload C dc_S_ask_52 rfl ?_
      refine r_iconst (v := -1) C dc_S_ask_54 (by decide) ?_
      refine r_icmp_ne (tgt := 68) C dc_S_ask_55 (by decide) (fun c55 => ?_) (fun c55 => ?_)
      ·
        first | refine r_aload C dc_S_ask_68 rfl ?_ | refine r_aloadq C dc_S_ask_68 rfl ?_
        refine r_get C dc_S_ask_70 fl_S_98 (ch_node (by omega)) rfl ?_
        refine r_callV C dp dc_S_ask_73 cw_S_102 cm_Q_isFull cv_Q_isFull rfl (ch_queue hi) (k_Q_isFull (df := df) (k := sz) hl (by rw [ch_queue hi, hsz]) (by omega)) (by omega) rfl rfl (Nat.le_of_ble_eq_true rfl) (fun v73 h73 n73 q73 z73 => ?_) (fun _ _ _ _ z => z.elim)
        obtain ⟨y73, y73h, y73n⟩ := z73
        rw [y73, y73h, y73n]
        refine r_if_eqZ (tgt := 89) C dc_S_ask_76 (by decide) (fun c76 => ?_) (fun c76 => ?_)
        ·
          have hlt : sz < 6 := Nat.lt_of_not_le (of_decide_eq_false c76)
          rw [if_pos hlt] at hcd1
          refine r_new (fs := rfs (fun _ => 0)) C dc_S_ask_89 nk_S_113 ⟨_, _, rfl, nd_R⟩ (fun hfr => ?_)
          have hfr2 := ch_fr (hfr n (Nat.le_refl _))
          have hv2 := hv.new hfr2.1
          have haa : va_up S (G.size + n) true (G.size + n) = true := if_pos rfl
          refine rw_hh (rh_new hfr2.1) ?_
          refine r_dup C dc_S_ask_92 rfl ?_
          refine r_iload_n C dc_S_ask_93 rfl rfl ?_
          refine r_iload_n C dc_S_ask_94 rfl rfl ?_
          refine r_iload C dc_S_ask_95 rfl ?_
          refine r_iload C dc_S_ask_97 rfl ?_
          refine r_iload C dc_S_ask_99 rfl ?_
          first | refine r_aload_n C dc_S_ask_101 rfl rfl ?_ | refine r_aload_nq C dc_S_ask_101 rfl rfl ?_
          refine r_get C dc_S_ask_102 fl_S_115 ch_S rfl ?_
          first | refine r_aload_n C dc_S_ask_105 rfl rfl ?_ | refine r_aload_nq C dc_S_ask_105 rfl rfl ?_
          refine r_get C dc_S_ask_106 fl_S_30 ch_S rfl ?_
          first | refine r_iaddN C dc_S_ask_109 ?_ | refine r_iadd C dc_S_ask_109 ?_
          refine r_callI C dp dc_S_ask_110 cw_S_118 rfl cm_R_init (k_R_init (df := df) (n := n + 1) (S := va_up S (G.size + n) true) (q := ur q (G.size + n) (fun _ => 0)) hl haa hv2 (ur_eq _ _ _)) (by omega) rfl rfl (Nat.le_of_ble_eq_true rfl) (fun v9 h9 n9 q9 z9 => ?_)
          obtain ⟨y1, y2, y3⟩ := z9
          rw [y1, y2, y3]
          refine rw_hh (h' := CH A b z r (RH (va_up S (G.size + n) true) (ur q (G.size + n) (rq0 c0 wk w0 x0 v0 (z 35 0 + z 36 0))) h)) (by rw [ur_ur]) ?_
          refine r_astore C dc_S_ask_113 (by decide) (nw_of rfl) ?_
          first | refine r_aload C dc_S_ask_115 rfl ?_ | refine r_aloadq C dc_S_ask_115 rfl ?_
          refine r_get C dc_S_ask_117 fl_S_121 (ch_node (by omega)) rfl ?_
          refine r_iload C dc_S_ask_120 rfl ?_
          refine r_aload C dc_S_ask_122 rfl ?_
          refine r_aastQ (v := some (G.size + n)) C dc_S_ask_124 (ch_labels hi) (fun b' e => ⟨_, ch_rq hv2.2 (by cases e; exact haa)⟩) (by omega) (by decide) ?_
          refine rw_hh (cs_lb hi) ?_
          have hv3 : RV b (ur r (12 + i) (va_up (r (12 + i)) k (some (G.size + n)))) (va_up S (G.size + n) true) := hv2.row (vaup_S (fun j a e => hv2.1 _ _ _ e) (fun a e => by cases e; exact haa))
          first | refine r_aload C dc_S_ask_125 rfl ?_ | refine r_aloadq C dc_S_ask_125 rfl ?_
          refine r_get C dc_S_ask_127 fl_S_98 (ch_node (by omega)) rfl ?_
          refine r_aload C dc_S_ask_130 rfl ?_
          refine r_callV C dp dc_S_ask_132 cw_S_125 cm_Q_append cv_Q_append rfl (ch_queue hi) (k_Q_append (df := df) (n := n + 1) (z := z) (r := ur r (12 + i) (va_up (r (12 + i)) k (some (G.size + n)))) (S := va_up S (G.size + n) true) (q := ur q (G.size + n) (rq0 c0 wk w0 x0 v0 (z 35 0 + z 36 0))) (a := (G.size + n)) (i := i) (sz := sz) hl hi hsz (by omega) hv3 haa) (by omega) rfl rfl (Nat.le_of_ble_eq_true rfl) (fun v132 h132 n132 q132 z132 => ?_) (fun _ _ _ _ z => z.elim)
          obtain ⟨y132, y132h, y132n⟩ := z132
          rw [y132, y132h, y132n]
          rw [if_pos hlt, show ur r (12 + i) (va_up (r (12 + i)) k (some (G.size + n))) i = r i from ur_ne (by omega)]
          refine r_iload C dc_S_ask_135 rfl ?_
          exact r_iret C dp hr dc_S_ask_137 (by omega) ⟨hcd1, k, sz, rfl, hsz, hlt, rfl, rfl, rfl, hfr2.1, hfr2.2⟩
        ·
          have hge : 6 ≤ sz := of_decide_eq_true c76
          rw [if_neg (by omega)] at hcd1
          have hcd : (asC z r q (nI i) c0 wk w0) = 4 := hcd1
          exact r_throw (names := exM) (cls := exN 4) (text := "the queue is full") C dp ht dc_S_ask_79 dc_S_ask_82 dc_S_ask_83 dc_S_ask_85 dc_S_ask_88 ex_f4 ex_m (by decide) ex_w4 (by decide +kernel) (Nat.le_refl _) (Nat.le_of_ble_eq_true rfl) ⟨by omega, by omega⟩ (fun n' hn' => ⟨by rw [hcd]; decide, by rw [hcd], rfl, hn'⟩)
      · exact absurd c55 (nI_m1 (by omega))
  refine r_iload_n C dc_S_ask_13 rfl rfl ?_
  refine r_if_eq (tgt := 37) C dc_S_ask_14 (by decide) (fun c14 => ?_) (fun c14 => ?_)
  · exact rest (Or.inl c14)
  ·
    refine r_iload_n C dc_S_ask_17 rfl rfl ?_
    refine r_iconst (v := nI 1) C dc_S_ask_18 (by decide) ?_
    refine r_icmp_eq (tgt := 37) C dc_S_ask_19 (by decide) (fun c19 => ?_) (fun c19 => ?_)
    · exact rest (Or.inr (Or.inl c19))
    ·
      refine r_iload_n C dc_S_ask_22 rfl rfl ?_
      refine r_iconst (v := nI 2) C dc_S_ask_23 (by decide) ?_
      refine r_icmp_eq (tgt := 37) C dc_S_ask_24 (by decide) (fun c24 => ?_) (fun c24 => ?_)
      · exact rest (Or.inr (Or.inr c24))
      ·
        have hcd : (asC z r q a c0 wk w0) = 2 := by unfold asC; rw [if_neg ng1, if_neg ng2, if_neg ng3, if_pos (fun h => h.elim c14 (fun h => h.elim c19 c24))]
        exact r_throw (names := exM) (cls := exN 2) (text := "no such work") C dp ht dc_S_ask_27 dc_S_ask_30 dc_S_ask_31 dc_S_ask_33 dc_S_ask_36 ex_f2 ex_m (by decide) ex_w2 (by decide +kernel) (Nat.le_refl _) (Nat.le_of_ble_eq_true rfl) ⟨by omega, by omega⟩ (fun n' hn' => ⟨by rw [hcd]; decide, by rw [hcd], rfl, hn'⟩)
end Cls12
