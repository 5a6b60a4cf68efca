section Law2
variable {l : Launch} {D : va_G} {A : Nat → ClassId} {G : Heap} {b lg n df bc bs cd : Nat} {h : Hp} {fs : List Value} {P0 : Option Value → Hp → Nat → Prop} {X0 : String → Hp → Nat → Prop}
theorem lk_13 : Cond.classLink rn_L 13 "java/util/NoSuchElementException" ∈ tbl := (tm 216 (by decide +kernel) rfl)
theorem lc_13 : Cond.castable (exN 1) "java/util/NoSuchElementException" ∈ tbl := (tm 228 (by decide +kernel) rfl)
theorem lk_15 : Cond.classLink rn_L 15 "java/lang/IllegalArgumentException" ∈ tbl := (tm 217 (by decide +kernel) rfl)
theorem lc_15 : Cond.castable (exN 2) "java/lang/IllegalArgumentException" ∈ tbl := (tm 300 (by decide +kernel) rfl)
theorem lk_17 : Cond.classLink rn_L 17 "java/lang/IllegalStateException" ∈ tbl := (tm 218 (by decide +kernel) rfl)
theorem lc_17 : Cond.castable (exN 3) "java/lang/IllegalStateException" ∈ tbl := (tm 321 (by decide +kernel) rfl)
theorem lk_31 : Cond.classLink rn_L 31 "java/lang/UnsupportedOperationException" ∈ tbl := (tm 362 (by decide +kernel) rfl)
theorem lc_31 : Cond.castable (exN 4) "java/lang/UnsupportedOperationException" ∈ tbl := (tm 387 (by decide +kernel) rfl)
set_option maxRecDepth 4000 in
set_option maxHeartbeats 1000000 in
theorem k_L_plug (hl : l.stackTraces = false) {v0 v1 v2 v3 : Int32} (hb : h b = some (.inr (5, fs))) (hM : Ct l D A G my_S_plug cd_S_plug 5 (some (.int)) df bc bs [.ref b, .int v0, .int v1, .int v2, .int v3] h n P0 X0) (hP : ∀ v h1 n1, P0 v h1 n1 → ∃ V f, v = some (.int V) ∧ h1 lg = some (jc A 1 f)) (hX : ∀ E h1 n1, X0 E h1 n1 → E = exN cd ∧ (cd = 1 ∨ cd = 2 ∨ cd = 3)) : CtH l D A G my_L_plug cd_L_plug 7 (some .int) [((0 : Nat), (14 : Nat), (17 : Nat), (13 : Nat)), ((0 : Nat), (14 : Nat), (21 : Nat), (15 : Nat)), ((0 : Nat), (14 : Nat), (25 : Nat), (17 : Nat))] (df + 1) bc bs [.ref b, .int v0, .int v1, .int v2, .int v3, .ref lg] h n (fun v h' n' => (∃ V h1 f, P0 (some (.int V)) h1 n' ∧ v = some (.int (nI 0)) ∧ h1 lg = some (jc A 1 f) ∧ h' = hs h1 lg (jc A 1 (vp_updL f 0 V.toInt64))) ∨ (X0 (exN cd) h' n' ∧ v = some (.int (nI cd)))) := by
  refine CtH.of (by decide) hl (Nat.le_of_ble_eq_true rfl) ?_
  intro p e s m args below meth c C hr ht dp
  refine r_room (bc' := 0 + bc) (bs' := 0 + bs) (by omega) (by omega) ?_
  first | refine r_aload C dc_L_plug_0 rfl ?_ | refine r_aloadq C dc_L_plug_0 rfl ?_
  refine r_iconst (v := nI 0) C dc_L_plug_2 (by decide) ?_
  first | refine r_aload_n C dc_L_plug_3 rfl rfl ?_ | refine r_aload_nq C dc_L_plug_3 rfl rfl ?_
  refine r_iload_n C dc_L_plug_4 rfl rfl ?_
  refine r_iload_n C dc_L_plug_5 rfl rfl ?_
  refine r_iload_n C dc_L_plug_6 rfl rfl ?_
  refine r_iload C dc_L_plug_7 rfl ?_
  refine r_callV C dp dc_L_plug_9 cw_L_7 cm_S_plug cv_S_plug rfl hb hM (Nat.lt_succ_self _) rfl rfl (Nat.le_of_ble_eq_true rfl) (fun v9 h9 n9 q9 z9 => ?_) (fun E hE nE qE zE => ?_)
  ·
    obtain ⟨V, f, rfl, hlg⟩ := hP _ _ _ z9
    refine r_i2l C dc_L_plug_12 rfl ?_
    refine r_jast C dc_L_plug_13 hlg rfl (by decide) (by decide) ?_
    refine r_goto (tgt := 29) C dc_L_plug_14 (by decide) ?_
    refine r_iconst (v := nI 0) C dc_L_plug_29 (by decide) ?_
    exact r_iret C dp hr dc_L_plug_30 (by omega) (Or.inl ⟨V, h9, f, z9, rfl, hlg, rfl⟩)
  ·
    obtain ⟨e1, e2⟩ := hX _ _ _ zE
    rcases e2 with e2 | e2 | e2
    ·
      rw [e1] at zE ⊢
      rw [e2] at zE ⊢
      refine r_catch C [] ⟨0, 14, 17, 13⟩ [⟨0, 14, 21, 15⟩, ⟨0, 14, 25, 17⟩] (ht.trans rfl) (fun _ hz => nomatch hz) (by decide) (by decide) lk_13 lc_13 (fun q => ?_)
      first | refine r_astore C dc_L_plug_17 (by decide) (nw_of rfl) ?_ | refine r_astoreN C dc_L_plug_17 (by decide) (nw_of rfl) ?_ | refine r_astoreq C dc_L_plug_17 (by decide) (nw_of rfl) ?_
      refine r_iconst (v := nI 1) C dc_L_plug_19 (by decide) ?_
      exact r_iret C dp hr dc_L_plug_20 qE (Or.inr ⟨zE, rfl⟩)
    ·
      rw [e1] at zE ⊢
      rw [e2] at zE ⊢
      refine r_catch C [⟨0, 14, 17, 13⟩] ⟨0, 14, 21, 15⟩ [⟨0, 14, 25, 17⟩] (ht.trans rfl) (List.forall_mem_cons.mpr ⟨⟨by decide, _, lk_13, by decide⟩, fun _ hz => nomatch hz⟩) (by decide) (by decide) lk_15 lc_15 (fun q => ?_)
      first | refine r_astore C dc_L_plug_21 (by decide) (nw_of rfl) ?_ | refine r_astoreN C dc_L_plug_21 (by decide) (nw_of rfl) ?_ | refine r_astoreq C dc_L_plug_21 (by decide) (nw_of rfl) ?_
      refine r_iconst (v := nI 2) C dc_L_plug_23 (by decide) ?_
      exact r_iret C dp hr dc_L_plug_24 qE (Or.inr ⟨zE, rfl⟩)
    ·
      rw [e1] at zE ⊢
      rw [e2] at zE ⊢
      refine r_catch C [⟨0, 14, 17, 13⟩, ⟨0, 14, 21, 15⟩] ⟨0, 14, 25, 17⟩ [] (ht.trans rfl) (List.forall_mem_cons.mpr ⟨⟨by decide, _, lk_13, by decide⟩, List.forall_mem_cons.mpr ⟨⟨by decide, _, lk_15, by decide⟩, fun _ hz => nomatch hz⟩⟩) (by decide) (by decide) lk_17 lc_17 (fun q => ?_)
      first | refine r_astore C dc_L_plug_25 (by decide) (nw_of rfl) ?_ | refine r_astoreN C dc_L_plug_25 (by decide) (nw_of rfl) ?_ | refine r_astoreq C dc_L_plug_25 (by decide) (nw_of rfl) ?_
      refine r_iconst (v := nI 3) C dc_L_plug_27 (by decide) ?_
      exact r_iret C dp hr dc_L_plug_28 qE (Or.inr ⟨zE, rfl⟩)
theorem gw_plug : GoodIn tbl (va_wsS rn_L 61 my_L_plug [Cond.codeWith my_L_plug cd_L_plug 7 (some .int) [((0 : Nat), (14 : Nat), (17 : Nat), (13 : Nat)), ((0 : Nat), (14 : Nat), (21 : Nat), (15 : Nat)), ((0 : Nat), (14 : Nat), (25 : Nat), (17 : Nat))]]) := gh (tm 213 (by decide +kernel) rfl) (tm 214 (by decide +kernel) rfl) (tm 0 (by decide +kernel) rfl) (tm 215 (by decide +kernel) rfl)
set_option maxRecDepth 4000 in
set_option maxHeartbeats 1000000 in
theorem k_L_unplug (hl : l.stackTraces = false) {v0 v1 : Int32} (hb : h b = some (.inr (5, fs))) (hM : Ct l D A G my_S_unplug cd_S_unplug 4 (some (.int)) df bc bs [.ref b, .int v0, .int v1] h n P0 X0) (hP : ∀ v h1 n1, P0 v h1 n1 → ∃ V f, v = some (.int V) ∧ h1 lg = some (jc A 1 f)) (hX : ∀ E h1 n1, X0 E h1 n1 → E = exN cd ∧ (cd = 1 ∨ cd = 2 ∨ cd = 3)) : CtH l D A G my_L_unplug cd_L_unplug 5 (some .int) [((0 : Nat), (10 : Nat), (13 : Nat), (13 : Nat)), ((0 : Nat), (10 : Nat), (17 : Nat), (15 : Nat)), ((0 : Nat), (10 : Nat), (21 : Nat), (17 : Nat))] (df + 1) bc bs [.ref b, .int v0, .int v1, .ref lg] h n (fun v h' n' => (∃ V h1 f, P0 (some (.int V)) h1 n' ∧ v = some (.int (nI 0)) ∧ h1 lg = some (jc A 1 f) ∧ h' = hs h1 lg (jc A 1 (vp_updL f 0 V.toInt64))) ∨ (X0 (exN cd) h' n' ∧ v = some (.int (nI cd)))) := by
  refine CtH.of (by decide) hl (Nat.le_of_ble_eq_true rfl) ?_
  intro p e s m args below meth c C hr ht dp
  refine r_room (bc' := 0 + bc) (bs' := 0 + bs) (by omega) (by omega) ?_
  first | refine r_aload_n C dc_L_unplug_0 rfl rfl ?_ | refine r_aload_nq C dc_L_unplug_0 rfl rfl ?_
  refine r_iconst (v := nI 0) C dc_L_unplug_1 (by decide) ?_
  first | refine r_aload_n C dc_L_unplug_2 rfl rfl ?_ | refine r_aload_nq C dc_L_unplug_2 rfl rfl ?_
  refine r_iload_n C dc_L_unplug_3 rfl rfl ?_
  refine r_iload_n C dc_L_unplug_4 rfl rfl ?_
  refine r_callV C dp dc_L_unplug_5 cw_L_19 cm_S_unplug cv_S_unplug rfl hb hM (Nat.lt_succ_self _) rfl rfl (Nat.le_of_ble_eq_true rfl) (fun v9 h9 n9 q9 z9 => ?_) (fun E hE nE qE zE => ?_)
  ·
    obtain ⟨V, f, rfl, hlg⟩ := hP _ _ _ z9
    refine r_i2l C dc_L_unplug_8 rfl ?_
    refine r_jast C dc_L_unplug_9 hlg rfl (by decide) (by decide) ?_
    refine r_goto (tgt := 25) C dc_L_unplug_10 (by decide) ?_
    refine r_iconst (v := nI 0) C dc_L_unplug_25 (by decide) ?_
    exact r_iret C dp hr dc_L_unplug_26 (by omega) (Or.inl ⟨V, h9, f, z9, rfl, hlg, rfl⟩)
  ·
    obtain ⟨e1, e2⟩ := hX _ _ _ zE
    rcases e2 with e2 | e2 | e2
    ·
      rw [e1] at zE ⊢
      rw [e2] at zE ⊢
      refine r_catch C [] ⟨0, 10, 13, 13⟩ [⟨0, 10, 17, 15⟩, ⟨0, 10, 21, 17⟩] (ht.trans rfl) (fun _ hz => nomatch hz) (by decide) (by decide) lk_13 lc_13 (fun q => ?_)
      first | refine r_astore C dc_L_unplug_13 (by decide) (nw_of rfl) ?_ | refine r_astoreN C dc_L_unplug_13 (by decide) (nw_of rfl) ?_ | refine r_astoreq C dc_L_unplug_13 (by decide) (nw_of rfl) ?_
      refine r_iconst (v := nI 1) C dc_L_unplug_15 (by decide) ?_
      exact r_iret C dp hr dc_L_unplug_16 qE (Or.inr ⟨zE, rfl⟩)
    ·
      rw [e1] at zE ⊢
      rw [e2] at zE ⊢
      refine r_catch C [⟨0, 10, 13, 13⟩] ⟨0, 10, 17, 15⟩ [⟨0, 10, 21, 17⟩] (ht.trans rfl) (List.forall_mem_cons.mpr ⟨⟨by decide, _, lk_13, by decide⟩, fun _ hz => nomatch hz⟩) (by decide) (by decide) lk_15 lc_15 (fun q => ?_)
      first | refine r_astore C dc_L_unplug_17 (by decide) (nw_of rfl) ?_ | refine r_astoreN C dc_L_unplug_17 (by decide) (nw_of rfl) ?_ | refine r_astoreq C dc_L_unplug_17 (by decide) (nw_of rfl) ?_
      refine r_iconst (v := nI 2) C dc_L_unplug_19 (by decide) ?_
      exact r_iret C dp hr dc_L_unplug_20 qE (Or.inr ⟨zE, rfl⟩)
    ·
      rw [e1] at zE ⊢
      rw [e2] at zE ⊢
      refine r_catch C [⟨0, 10, 13, 13⟩, ⟨0, 10, 17, 15⟩] ⟨0, 10, 21, 17⟩ [] (ht.trans rfl) (List.forall_mem_cons.mpr ⟨⟨by decide, _, lk_13, by decide⟩, List.forall_mem_cons.mpr ⟨⟨by decide, _, lk_15, by decide⟩, fun _ hz => nomatch hz⟩⟩) (by decide) (by decide) lk_17 lc_17 (fun q => ?_)
      first | refine r_astore C dc_L_unplug_21 (by decide) (nw_of rfl) ?_ | refine r_astoreN C dc_L_unplug_21 (by decide) (nw_of rfl) ?_ | refine r_astoreq C dc_L_unplug_21 (by decide) (nw_of rfl) ?_
      refine r_iconst (v := nI 3) C dc_L_unplug_23 (by decide) ?_
      exact r_iret C dp hr dc_L_unplug_24 qE (Or.inr ⟨zE, rfl⟩)
theorem gw_unplug : GoodIn tbl (va_wsS rn_L 71 my_L_unplug [Cond.codeWith my_L_unplug cd_L_unplug 5 (some .int) [((0 : Nat), (10 : Nat), (13 : Nat), (13 : Nat)), ((0 : Nat), (10 : Nat), (17 : Nat), (15 : Nat)), ((0 : Nat), (10 : Nat), (21 : Nat), (17 : Nat))]]) := gh (tm 339 (by decide +kernel) rfl) (tm 340 (by decide +kernel) rfl) (tm 0 (by decide +kernel) rfl) (tm 341 (by decide +kernel) rfl)
set_option maxRecDepth 4000 in
set_option maxHeartbeats 1000000 in
theorem k_L_reset (hl : l.stackTraces = false) {v0 v1 v2 v3 : Int32} (hb : h b = some (.inr (5, fs))) (hM : Ct l D A G my_S_reset cd_S_reset 6 none df bc bs [.ref b, .int v0, .int v1, .int v2, .int v3] h n P0 X0) (hP : ∀ v h1 n1, P0 v h1 n1 → v = none) (hX : ∀ E h1 n1, X0 E h1 n1 → E = exN cd ∧ (cd = 1)) : CtH l D A G my_L_reset cd_L_reset 6 (some .int) [((0 : Nat), (9 : Nat), (12 : Nat), (13 : Nat))] (df + 1) bc bs [.ref b, .int v0, .int v1, .int v2, .int v3] h n (fun v h' n' => (P0 none h' n' ∧ v = some (.int (nI 0))) ∨ (X0 (exN cd) h' n' ∧ v = some (.int (nI cd)))) := by
  refine CtH.of (by decide) hl (Nat.le_of_ble_eq_true rfl) ?_
  intro p e s m args below meth c C hr ht dp
  refine r_room (bc' := 0 + bc) (bs' := 0 + bs) (by omega) (by omega) ?_
  first | refine r_aload_n C dc_L_reset_0 rfl rfl ?_ | refine r_aload_nq C dc_L_reset_0 rfl rfl ?_
  refine r_iload_n C dc_L_reset_1 rfl rfl ?_
  refine r_iload_n C dc_L_reset_2 rfl rfl ?_
  refine r_iload_n C dc_L_reset_3 rfl rfl ?_
  refine r_iload C dc_L_reset_4 rfl ?_
  refine r_callV C dp dc_L_reset_6 cw_L_23 cm_S_reset cv_S_reset rfl hb hM (Nat.lt_succ_self _) rfl rfl (Nat.le_of_ble_eq_true rfl) (fun v9 h9 n9 q9 z9 => ?_) (fun E hE nE qE zE => ?_)
  ·
    cases hP _ _ _ z9
    refine r_goto (tgt := 16) C dc_L_reset_9 (by decide) ?_
    refine r_iconst (v := nI 0) C dc_L_reset_16 (by decide) ?_
    exact r_iret C dp hr dc_L_reset_17 (by omega) (Or.inl ⟨z9, rfl⟩)
  ·
    obtain ⟨e1, e2⟩ := hX _ _ _ zE
    ·
      rw [e1] at zE ⊢
      rw [e2] at zE ⊢
      refine r_catch C [] ⟨0, 9, 12, 13⟩ [] (ht.trans rfl) (fun _ hz => nomatch hz) (by decide) (by decide) lk_13 lc_13 (fun q => ?_)
      first | refine r_astore C dc_L_reset_12 (by decide) (nw_of rfl) ?_ | refine r_astoreN C dc_L_reset_12 (by decide) (nw_of rfl) ?_ | refine r_astoreq C dc_L_reset_12 (by decide) (nw_of rfl) ?_
      refine r_iconst (v := nI 1) C dc_L_reset_14 (by decide) ?_
      exact r_iret C dp hr dc_L_reset_15 qE (Or.inr ⟨zE, rfl⟩)
theorem gw_reset : GoodIn tbl (va_wsS rn_L 75 my_L_reset [Cond.codeWith my_L_reset cd_L_reset 6 (some .int) [((0 : Nat), (9 : Nat), (12 : Nat), (13 : Nat))]]) := gh (tm 351 (by decide +kernel) rfl) (tm 352 (by decide +kernel) rfl) (tm 0 (by decide +kernel) rfl) (tm 353 (by decide +kernel) rfl)
set_option maxRecDepth 4000 in
set_option maxHeartbeats 1000000 in
theorem k_L_ask (hl : l.stackTraces = false) {v0 v1 v2 v3 v4 v5 : Int32} (hb : h b = some (.inr (5, fs))) (hM : Ct l D A G my_S_ask cd_S_ask 10 (some (.int)) df bc bs [.ref b, .int v0, .int v1, .int v2, .int v3, .int v4, .int v5] h n P0 X0) (hP : ∀ v h1 n1, P0 v h1 n1 → ∃ V f, v = some (.int V) ∧ h1 lg = some (jc A 1 f)) (hX : ∀ E h1 n1, X0 E h1 n1 → E = exN cd ∧ (cd = 1 ∨ cd = 2 ∨ cd = 3 ∨ cd = 4)) : CtH l D A G my_L_ask cd_L_ask 9 (some .int) [((0 : Nat), (18 : Nat), (21 : Nat), (13 : Nat)), ((0 : Nat), (18 : Nat), (25 : Nat), (15 : Nat)), ((0 : Nat), (18 : Nat), (29 : Nat), (17 : Nat)), ((0 : Nat), (18 : Nat), (33 : Nat), (31 : Nat))] (df + 1) bc bs [.ref b, .int v0, .int v1, .int v2, .int v3, .int v4, .int v5, .ref lg] h n (fun v h' n' => (∃ V h1 f, P0 (some (.int V)) h1 n' ∧ v = some (.int (nI 0)) ∧ h1 lg = some (jc A 1 f) ∧ h' = hs h1 lg (jc A 1 (vp_updL f 0 V.toInt64))) ∨ (X0 (exN cd) h' n' ∧ v = some (.int (nI cd)))) := by
  refine CtH.of (by decide) hl (Nat.le_of_ble_eq_true rfl) ?_
  intro p e s m args below meth c C hr ht dp
  refine r_room (bc' := 0 + bc) (bs' := 0 + bs) (by omega) (by omega) ?_
  first | refine r_aload C dc_L_ask_0 rfl ?_ | refine r_aloadq C dc_L_ask_0 rfl ?_
  refine r_iconst (v := nI 0) C dc_L_ask_2 (by decide) ?_
  first | refine r_aload_n C dc_L_ask_3 rfl rfl ?_ | refine r_aload_nq C dc_L_ask_3 rfl rfl ?_
  refine r_iload_n C dc_L_ask_4 rfl rfl ?_
  refine r_iload_n C dc_L_ask_5 rfl rfl ?_
  refine r_iload_n C dc_L_ask_6 rfl rfl ?_
  refine r_iload C dc_L_ask_7 rfl ?_
  refine r_iload C dc_L_ask_9 rfl ?_
  refine r_iload C dc_L_ask_11 rfl ?_
  refine r_callV C dp dc_L_ask_13 cw_L_27 cm_S_ask cv_S_ask rfl hb hM (Nat.lt_succ_self _) rfl rfl (Nat.le_of_ble_eq_true rfl) (fun v9 h9 n9 q9 z9 => ?_) (fun E hE nE qE zE => ?_)
  ·
    obtain ⟨V, f, rfl, hlg⟩ := hP _ _ _ z9
    refine r_i2l C dc_L_ask_16 rfl ?_
    refine r_jast C dc_L_ask_17 hlg rfl (by decide) (by decide) ?_
    refine r_goto (tgt := 37) C dc_L_ask_18 (by decide) ?_
    refine r_iconst (v := nI 0) C dc_L_ask_37 (by decide) ?_
    exact r_iret C dp hr dc_L_ask_38 (by omega) (Or.inl ⟨V, h9, f, z9, rfl, hlg, rfl⟩)
  ·
    obtain ⟨e1, e2⟩ := hX _ _ _ zE
    rcases e2 with e2 | e2 | e2 | e2
    ·
      rw [e1] at zE ⊢
      rw [e2] at zE ⊢
      refine r_catch C [] ⟨0, 18, 21, 13⟩ [⟨0, 18, 25, 15⟩, ⟨0, 18, 29, 17⟩, ⟨0, 18, 33, 31⟩] (ht.trans rfl) (fun _ hz => nomatch hz) (by decide) (by decide) lk_13 lc_13 (fun q => ?_)
      first | refine r_astore C dc_L_ask_21 (by decide) (nw_of rfl) ?_ | refine r_astoreN C dc_L_ask_21 (by decide) (nw_of rfl) ?_ | refine r_astoreq C dc_L_ask_21 (by decide) (nw_of rfl) ?_
      refine r_iconst (v := nI 1) C dc_L_ask_23 (by decide) ?_
      exact r_iret C dp hr dc_L_ask_24 qE (Or.inr ⟨zE, rfl⟩)
    ·
      rw [e1] at zE ⊢
      rw [e2] at zE ⊢
      refine r_catch C [⟨0, 18, 21, 13⟩] ⟨0, 18, 25, 15⟩ [⟨0, 18, 29, 17⟩, ⟨0, 18, 33, 31⟩] (ht.trans rfl) (List.forall_mem_cons.mpr ⟨⟨by decide, _, lk_13, by decide⟩, fun _ hz => nomatch hz⟩) (by decide) (by decide) lk_15 lc_15 (fun q => ?_)
      first | refine r_astore C dc_L_ask_25 (by decide) (nw_of rfl) ?_ | refine r_astoreN C dc_L_ask_25 (by decide) (nw_of rfl) ?_ | refine r_astoreq C dc_L_ask_25 (by decide) (nw_of rfl) ?_
      refine r_iconst (v := nI 2) C dc_L_ask_27 (by decide) ?_
      exact r_iret C dp hr dc_L_ask_28 qE (Or.inr ⟨zE, rfl⟩)
    ·
      rw [e1] at zE ⊢
      rw [e2] at zE ⊢
      refine r_catch C [⟨0, 18, 21, 13⟩, ⟨0, 18, 25, 15⟩] ⟨0, 18, 29, 17⟩ [⟨0, 18, 33, 31⟩] (ht.trans rfl) (List.forall_mem_cons.mpr ⟨⟨by decide, _, lk_13, by decide⟩, List.forall_mem_cons.mpr ⟨⟨by decide, _, lk_15, by decide⟩, fun _ hz => nomatch hz⟩⟩) (by decide) (by decide) lk_17 lc_17 (fun q => ?_)
      first | refine r_astore C dc_L_ask_29 (by decide) (nw_of rfl) ?_ | refine r_astoreN C dc_L_ask_29 (by decide) (nw_of rfl) ?_ | refine r_astoreq C dc_L_ask_29 (by decide) (nw_of rfl) ?_
      refine r_iconst (v := nI 3) C dc_L_ask_31 (by decide) ?_
      exact r_iret C dp hr dc_L_ask_32 qE (Or.inr ⟨zE, rfl⟩)
    ·
      rw [e1] at zE ⊢
      rw [e2] at zE ⊢
      refine r_catch C [⟨0, 18, 21, 13⟩, ⟨0, 18, 25, 15⟩, ⟨0, 18, 29, 17⟩] ⟨0, 18, 33, 31⟩ [] (ht.trans rfl) (List.forall_mem_cons.mpr ⟨⟨by decide, _, lk_13, by decide⟩, List.forall_mem_cons.mpr ⟨⟨by decide, _, lk_15, by decide⟩, List.forall_mem_cons.mpr ⟨⟨by decide, _, lk_17, by decide⟩, fun _ hz => nomatch hz⟩⟩⟩) (by decide) (by decide) lk_31 lc_31 (fun q => ?_)
      first | refine r_astore C dc_L_ask_33 (by decide) (nw_of rfl) ?_ | refine r_astoreN C dc_L_ask_33 (by decide) (nw_of rfl) ?_ | refine r_astoreq C dc_L_ask_33 (by decide) (nw_of rfl) ?_
      refine r_iconst (v := nI 4) C dc_L_ask_35 (by decide) ?_
      exact r_iret C dp hr dc_L_ask_36 qE (Or.inr ⟨zE, rfl⟩)
theorem gw_ask : GoodIn tbl (va_wsS rn_L 79 my_L_ask [Cond.codeWith my_L_ask cd_L_ask 9 (some .int) [((0 : Nat), (18 : Nat), (21 : Nat), (13 : Nat)), ((0 : Nat), (18 : Nat), (25 : Nat), (15 : Nat)), ((0 : Nat), (18 : Nat), (29 : Nat), (17 : Nat)), ((0 : Nat), (18 : Nat), (33 : Nat), (31 : Nat))]]) := gh (tm 359 (by decide +kernel) rfl) (tm 360 (by decide +kernel) rfl) (tm 0 (by decide +kernel) rfl) (tm 361 (by decide +kernel) rfl)
set_option maxRecDepth 4000 in
set_option maxHeartbeats 1000000 in
theorem k_L_talk (hl : l.stackTraces = false) {v0 v1 v2 : Int32} (hb : h b = some (.inr (5, fs))) (hM : Ct l D A G my_S_talk cd_S_talk 4 none df bc bs [.ref b, .int v0, .int v1, .int v2] h n P0 X0) (hP : ∀ v h1 n1, P0 v h1 n1 → v = none) (hX : ∀ E h1 n1, X0 E h1 n1 → E = exN cd ∧ (cd = 1 ∨ cd = 2)) : CtH l D A G my_L_talk cd_L_talk 5 (some .int) [((0 : Nat), (7 : Nat), (10 : Nat), (13 : Nat)), ((0 : Nat), (7 : Nat), (14 : Nat), (15 : Nat))] (df + 1) bc bs [.ref b, .int v0, .int v1, .int v2] h n (fun v h' n' => (P0 none h' n' ∧ v = some (.int (nI 0))) ∨ (X0 (exN cd) h' n' ∧ v = some (.int (nI cd)))) := by
  refine CtH.of (by decide) hl (Nat.le_of_ble_eq_true rfl) ?_
  intro p e s m args below meth c C hr ht dp
  refine r_room (bc' := 0 + bc) (bs' := 0 + bs) (by omega) (by omega) ?_
  first | refine r_aload_n C dc_L_talk_0 rfl rfl ?_ | refine r_aload_nq C dc_L_talk_0 rfl rfl ?_
  refine r_iload_n C dc_L_talk_1 rfl rfl ?_
  refine r_iload_n C dc_L_talk_2 rfl rfl ?_
  refine r_iload_n C dc_L_talk_3 rfl rfl ?_
  refine r_callV C dp dc_L_talk_4 cw_L_33 cm_S_talk cv_S_talk rfl hb hM (Nat.lt_succ_self _) rfl rfl (Nat.le_of_ble_eq_true rfl) (fun v9 h9 n9 q9 z9 => ?_) (fun E hE nE qE zE => ?_)
  ·
    cases hP _ _ _ z9
    refine r_goto (tgt := 18) C dc_L_talk_7 (by decide) ?_
    refine r_iconst (v := nI 0) C dc_L_talk_18 (by decide) ?_
    exact r_iret C dp hr dc_L_talk_19 (by omega) (Or.inl ⟨z9, rfl⟩)
  ·
    obtain ⟨e1, e2⟩ := hX _ _ _ zE
    rcases e2 with e2 | e2
    ·
      rw [e1] at zE ⊢
      rw [e2] at zE ⊢
      refine r_catch C [] ⟨0, 7, 10, 13⟩ [⟨0, 7, 14, 15⟩] (ht.trans rfl) (fun _ hz => nomatch hz) (by decide) (by decide) lk_13 lc_13 (fun q => ?_)
      first | refine r_astore C dc_L_talk_10 (by decide) (nw_of rfl) ?_ | refine r_astoreN C dc_L_talk_10 (by decide) (nw_of rfl) ?_ | refine r_astoreq C dc_L_talk_10 (by decide) (nw_of rfl) ?_
      refine r_iconst (v := nI 1) C dc_L_talk_12 (by decide) ?_
      exact r_iret C dp hr dc_L_talk_13 qE (Or.inr ⟨zE, rfl⟩)
    ·
      rw [e1] at zE ⊢
      rw [e2] at zE ⊢
      refine r_catch C [⟨0, 7, 10, 13⟩] ⟨0, 7, 14, 15⟩ [] (ht.trans rfl) (List.forall_mem_cons.mpr ⟨⟨by decide, _, lk_13, by decide⟩, fun _ hz => nomatch hz⟩) (by decide) (by decide) lk_15 lc_15 (fun q => ?_)
      first | refine r_astore C dc_L_talk_14 (by decide) (nw_of rfl) ?_ | refine r_astoreN C dc_L_talk_14 (by decide) (nw_of rfl) ?_ | refine r_astoreq C dc_L_talk_14 (by decide) (nw_of rfl) ?_
      refine r_iconst (v := nI 2) C dc_L_talk_16 (by decide) ?_
      exact r_iret C dp hr dc_L_talk_17 qE (Or.inr ⟨zE, rfl⟩)
theorem gw_talk : GoodIn tbl (va_wsS rn_L 83 my_L_talk [Cond.codeWith my_L_talk cd_L_talk 5 (some .int) [((0 : Nat), (7 : Nat), (10 : Nat), (13 : Nat)), ((0 : Nat), (7 : Nat), (14 : Nat), (15 : Nat))]]) := gh (tm 450 (by decide +kernel) rfl) (tm 451 (by decide +kernel) rfl) (tm 0 (by decide +kernel) rfl) (tm 452 (by decide +kernel) rfl)
set_option maxRecDepth 4000 in
set_option maxHeartbeats 1000000 in
theorem k_L_time (hl : l.stackTraces = false) {v0 : Int32} (hb : h b = some (.inr (5, fs))) (hM : Ct l D A G my_S_time cd_S_time 2 none df bc bs [.ref b, .int v0] h n P0 X0) (hP : ∀ v h1 n1, P0 v h1 n1 → v = none) (hX : ∀ E h1 n1, X0 E h1 n1 → E = exN cd ∧ (cd = 2)) : CtH l D A G my_L_time cd_L_time 3 (some .int) [((0 : Nat), (5 : Nat), (8 : Nat), (15 : Nat))] (df + 1) bc bs [.ref b, .int v0] h n (fun v h' n' => (P0 none h' n' ∧ v = some (.int (nI 0))) ∨ (X0 (exN cd) h' n' ∧ v = some (.int (nI 1)))) := by
  refine CtH.of (by decide) hl (Nat.le_of_ble_eq_true rfl) ?_
  intro p e s m args below meth c C hr ht dp
  refine r_room (bc' := 0 + bc) (bs' := 0 + bs) (by omega) (by omega) ?_
  first | refine r_aload_n C dc_L_time_0 rfl rfl ?_ | refine r_aload_nq C dc_L_time_0 rfl rfl ?_
  refine r_iload_n C dc_L_time_1 rfl rfl ?_
  refine r_callV C dp dc_L_time_2 cw_L_37 cm_S_time cv_S_time rfl hb hM (Nat.lt_succ_self _) rfl rfl (Nat.le_of_ble_eq_true rfl) (fun v9 h9 n9 q9 z9 => ?_) (fun E hE nE qE zE => ?_)
  ·
    cases hP _ _ _ z9
    refine r_goto (tgt := 11) C dc_L_time_5 (by decide) ?_
    refine r_iconst (v := nI 0) C dc_L_time_11 (by decide) ?_
    exact r_iret C dp hr dc_L_time_12 (by omega) (Or.inl ⟨z9, rfl⟩)
  ·
    obtain ⟨e1, e2⟩ := hX _ _ _ zE
    ·
      rw [e1] at zE ⊢
      rw [e2] at zE ⊢
      refine r_catch C [] ⟨0, 5, 8, 15⟩ [] (ht.trans rfl) (fun _ hz => nomatch hz) (by decide) (by decide) lk_15 lc_15 (fun q => ?_)
      first | refine r_astore_n C dc_L_time_8 rfl (by decide) (nw_of rfl) ?_ | refine r_astore_nN C dc_L_time_8 rfl (by decide) (nw_of rfl) ?_ | refine r_astore_nq C dc_L_time_8 rfl (by decide) (nw_of rfl) ?_
      refine r_iconst (v := nI 1) C dc_L_time_9 (by decide) ?_
      exact r_iret C dp hr dc_L_time_10 qE (Or.inr ⟨zE, rfl⟩)
theorem gw_time : GoodIn tbl (va_wsS rn_L 87 my_L_time [Cond.codeWith my_L_time cd_L_time 3 (some .int) [((0 : Nat), (5 : Nat), (8 : Nat), (15 : Nat))]]) := gh (tm 459 (by decide +kernel) rfl) (tm 460 (by decide +kernel) rfl) (tm 0 (by decide +kernel) rfl) (tm 461 (by decide +kernel) rfl)
set_option maxRecDepth 4000 in
set_option maxHeartbeats 1000000 in
theorem k_L_tick (hl : l.stackTraces = false) {v0 : Int32} (hb : h b = some (.inr (5, fs))) (hM : Ct l D A G my_S_tick cd_S_tick 4 (some (.int)) df bc bs [.ref b, .int v0] h n P0 X0) (hP : ∀ v h1 n1, P0 v h1 n1 → ∃ V f, v = some (.int V) ∧ h1 lg = some (jc A 1 f)) (hX : ∀ E h1 n1, X0 E h1 n1 → E = exN cd ∧ (cd = 2)) : CtH l D A G my_L_tick cd_L_tick 4 (some .int) [((0 : Nat), (9 : Nat), (12 : Nat), (15 : Nat))] (df + 1) bc bs [.ref b, .int v0, .ref lg] h n (fun v h' n' => (∃ V h1 f, P0 (some (.int V)) h1 n' ∧ v = some (.int (nI 0)) ∧ h1 lg = some (jc A 1 f) ∧ h' = hs h1 lg (jc A 1 (vp_updL f 0 V.toInt64))) ∨ (X0 (exN cd) h' n' ∧ v = some (.int (nI 1)))) := by
  refine CtH.of (by decide) hl (Nat.le_of_ble_eq_true rfl) ?_
  intro p e s m args below meth c C hr ht dp
  refine r_room (bc' := 0 + bc) (bs' := 0 + bs) (by omega) (by omega) ?_
  first | refine r_aload_n C dc_L_tick_0 rfl rfl ?_ | refine r_aload_nq C dc_L_tick_0 rfl rfl ?_
  refine r_iconst (v := nI 0) C dc_L_tick_1 (by decide) ?_
  first | refine r_aload_n C dc_L_tick_2 rfl rfl ?_ | refine r_aload_nq C dc_L_tick_2 rfl rfl ?_
  refine r_iload_n C dc_L_tick_3 rfl rfl ?_
  refine r_callV C dp dc_L_tick_4 cw_L_41 cm_S_tick cv_S_tick rfl hb hM (Nat.lt_succ_self _) rfl rfl (Nat.le_of_ble_eq_true rfl) (fun v9 h9 n9 q9 z9 => ?_) (fun E hE nE qE zE => ?_)
  ·
    obtain ⟨V, f, rfl, hlg⟩ := hP _ _ _ z9
    refine r_i2l C dc_L_tick_7 rfl ?_
    refine r_jast C dc_L_tick_8 hlg rfl (by decide) (by decide) ?_
    refine r_goto (tgt := 15) C dc_L_tick_9 (by decide) ?_
    refine r_iconst (v := nI 0) C dc_L_tick_15 (by decide) ?_
    exact r_iret C dp hr dc_L_tick_16 (by omega) (Or.inl ⟨V, h9, f, z9, rfl, hlg, rfl⟩)
  ·
    obtain ⟨e1, e2⟩ := hX _ _ _ zE
    ·
      rw [e1] at zE ⊢
      rw [e2] at zE ⊢
      refine r_catch C [] ⟨0, 9, 12, 15⟩ [] (ht.trans rfl) (fun _ hz => nomatch hz) (by decide) (by decide) lk_15 lc_15 (fun q => ?_)
      first | refine r_astore_n C dc_L_tick_12 rfl (by decide) (nw_of rfl) ?_ | refine r_astore_nN C dc_L_tick_12 rfl (by decide) (nw_of rfl) ?_ | refine r_astore_nq C dc_L_tick_12 rfl (by decide) (nw_of rfl) ?_
      refine r_iconst (v := nI 1) C dc_L_tick_13 (by decide) ?_
      exact r_iret C dp hr dc_L_tick_14 qE (Or.inr ⟨zE, rfl⟩)
theorem gw_tick : GoodIn tbl (va_wsS rn_L 91 my_L_tick [Cond.codeWith my_L_tick cd_L_tick 4 (some .int) [((0 : Nat), (9 : Nat), (12 : Nat), (15 : Nat))]]) := gh (tm 467 (by decide +kernel) rfl) (tm 468 (by decide +kernel) rfl) (tm 0 (by decide +kernel) rfl) (tm 469 (by decide +kernel) rfl)
set_option maxRecDepth 4000 in
set_option maxHeartbeats 1000000 in
theorem k_L_ended (hl : l.stackTraces = false) {v0 v1 : Int32} (hb : h b = some (.inr (5, fs))) (hM : Ct l D A G my_S_ended cd_S_ended 4 (some (.int)) df bc bs [.ref b, .int v0, .int v1] h n P0 X0) (hP : ∀ v h1 n1, P0 v h1 n1 → ∃ V f, v = some (.int V) ∧ h1 lg = some (jc A 1 f)) (hX : ∀ E h1 n1, X0 E h1 n1 → E = exN cd ∧ (cd = 1 ∨ cd = 2 ∨ cd = 3)) : CtH l D A G my_L_ended cd_L_ended 5 (some .int) [((0 : Nat), (10 : Nat), (13 : Nat), (13 : Nat)), ((0 : Nat), (10 : Nat), (17 : Nat), (15 : Nat)), ((0 : Nat), (10 : Nat), (21 : Nat), (17 : Nat))] (df + 1) bc bs [.ref b, .int v0, .int v1, .ref lg] h n (fun v h' n' => (∃ V h1 f, P0 (some (.int V)) h1 n' ∧ v = some (.int (nI 0)) ∧ h1 lg = some (jc A 1 f) ∧ h' = hs h1 lg (jc A 1 (vp_updL f 0 V.toInt64))) ∨ (X0 (exN cd) h' n' ∧ v = some (.int (nI cd)))) := by
  refine CtH.of (by decide) hl (Nat.le_of_ble_eq_true rfl) ?_
  intro p e s m args below meth c C hr ht dp
  refine r_room (bc' := 0 + bc) (bs' := 0 + bs) (by omega) (by omega) ?_
  first | refine r_aload_n C dc_L_ended_0 rfl rfl ?_ | refine r_aload_nq C dc_L_ended_0 rfl rfl ?_
  refine r_iconst (v := nI 0) C dc_L_ended_1 (by decide) ?_
  first | refine r_aload_n C dc_L_ended_2 rfl rfl ?_ | refine r_aload_nq C dc_L_ended_2 rfl rfl ?_
  refine r_iload_n C dc_L_ended_3 rfl rfl ?_
  refine r_iload_n C dc_L_ended_4 rfl rfl ?_
  refine r_callV C dp dc_L_ended_5 cw_L_45 cm_S_ended cv_S_ended rfl hb hM (Nat.lt_succ_self _) rfl rfl (Nat.le_of_ble_eq_true rfl) (fun v9 h9 n9 q9 z9 => ?_) (fun E hE nE qE zE => ?_)
  ·
    obtain ⟨V, f, rfl, hlg⟩ := hP _ _ _ z9
    refine r_i2l C dc_L_ended_8 rfl ?_
    refine r_jast C dc_L_ended_9 hlg rfl (by decide) (by decide) ?_
    refine r_goto (tgt := 25) C dc_L_ended_10 (by decide) ?_
    refine r_iconst (v := nI 0) C dc_L_ended_25 (by decide) ?_
    exact r_iret C dp hr dc_L_ended_26 (by omega) (Or.inl ⟨V, h9, f, z9, rfl, hlg, rfl⟩)
  ·
    obtain ⟨e1, e2⟩ := hX _ _ _ zE
    rcases e2 with e2 | e2 | e2
    ·
      rw [e1] at zE ⊢
      rw [e2] at zE ⊢
      refine r_catch C [] ⟨0, 10, 13, 13⟩ [⟨0, 10, 17, 15⟩, ⟨0, 10, 21, 17⟩] (ht.trans rfl) (fun _ hz => nomatch hz) (by decide) (by decide) lk_13 lc_13 (fun q => ?_)
      first | refine r_astore C dc_L_ended_13 (by decide) (nw_of rfl) ?_ | refine r_astoreN C dc_L_ended_13 (by decide) (nw_of rfl) ?_ | refine r_astoreq C dc_L_ended_13 (by decide) (nw_of rfl) ?_
      refine r_iconst (v := nI 1) C dc_L_ended_15 (by decide) ?_
      exact r_iret C dp hr dc_L_ended_16 qE (Or.inr ⟨zE, rfl⟩)
    ·
      rw [e1] at zE ⊢
      rw [e2] at zE ⊢
      refine r_catch C [⟨0, 10, 13, 13⟩] ⟨0, 10, 17, 15⟩ [⟨0, 10, 21, 17⟩] (ht.trans rfl) (List.forall_mem_cons.mpr ⟨⟨by decide, _, lk_13, by decide⟩, fun _ hz => nomatch hz⟩) (by decide) (by decide) lk_15 lc_15 (fun q => ?_)
      first | refine r_astore C dc_L_ended_17 (by decide) (nw_of rfl) ?_ | refine r_astoreN C dc_L_ended_17 (by decide) (nw_of rfl) ?_ | refine r_astoreq C dc_L_ended_17 (by decide) (nw_of rfl) ?_
      refine r_iconst (v := nI 2) C dc_L_ended_19 (by decide) ?_
      exact r_iret C dp hr dc_L_ended_20 qE (Or.inr ⟨zE, rfl⟩)
    ·
      rw [e1] at zE ⊢
      rw [e2] at zE ⊢
      refine r_catch C [⟨0, 10, 13, 13⟩, ⟨0, 10, 17, 15⟩] ⟨0, 10, 21, 17⟩ [] (ht.trans rfl) (List.forall_mem_cons.mpr ⟨⟨by decide, _, lk_13, by decide⟩, List.forall_mem_cons.mpr ⟨⟨by decide, _, lk_15, by decide⟩, fun _ hz => nomatch hz⟩⟩) (by decide) (by decide) lk_17 lc_17 (fun q => ?_)
      first | refine r_astore C dc_L_ended_21 (by decide) (nw_of rfl) ?_ | refine r_astoreN C dc_L_ended_21 (by decide) (nw_of rfl) ?_ | refine r_astoreq C dc_L_ended_21 (by decide) (nw_of rfl) ?_
      refine r_iconst (v := nI 3) C dc_L_ended_23 (by decide) ?_
      exact r_iret C dp hr dc_L_ended_24 qE (Or.inr ⟨zE, rfl⟩)
theorem gw_ended : GoodIn tbl (va_wsS rn_L 95 my_L_ended [Cond.codeWith my_L_ended cd_L_ended 5 (some .int) [((0 : Nat), (10 : Nat), (13 : Nat), (13 : Nat)), ((0 : Nat), (10 : Nat), (17 : Nat), (15 : Nat)), ((0 : Nat), (10 : Nat), (21 : Nat), (17 : Nat))]]) := gh (tm 612 (by decide +kernel) rfl) (tm 613 (by decide +kernel) rfl) (tm 0 (by decide +kernel) rfl) (tm 614 (by decide +kernel) rfl)
set_option maxRecDepth 4000 in
set_option maxHeartbeats 1000000 in
theorem k_L_value (hl : l.stackTraces = false) {v0 v1 : Int32} (hb : h b = some (.inr (5, fs))) (hM : Ct l D A G my_S_value cd_S_value 4 (some (.int)) df bc bs [.ref b, .int v0, .int v1] h n P0 X0) (hP : ∀ v h1 n1, P0 v h1 n1 → ∃ V f, v = some (.int V) ∧ h1 lg = some (jc A 1 f)) (hX : ∀ E h1 n1, X0 E h1 n1 → E = exN cd ∧ (cd = 1 ∨ cd = 2 ∨ cd = 3 ∨ cd = 4)) : CtH l D A G my_L_value cd_L_value 5 (some .int) [((0 : Nat), (10 : Nat), (13 : Nat), (13 : Nat)), ((0 : Nat), (10 : Nat), (17 : Nat), (15 : Nat)), ((0 : Nat), (10 : Nat), (21 : Nat), (17 : Nat)), ((0 : Nat), (10 : Nat), (25 : Nat), (31 : Nat))] (df + 1) bc bs [.ref b, .int v0, .int v1, .ref lg] h n (fun v h' n' => (∃ V h1 f, P0 (some (.int V)) h1 n' ∧ v = some (.int (nI 0)) ∧ h1 lg = some (jc A 1 f) ∧ h' = hs h1 lg (jc A 1 (vp_updL f 0 V.toInt64))) ∨ (X0 (exN cd) h' n' ∧ v = some (.int (nI cd)))) := by
  refine CtH.of (by decide) hl (Nat.le_of_ble_eq_true rfl) ?_
  intro p e s m args below meth c C hr ht dp
  refine r_room (bc' := 0 + bc) (bs' := 0 + bs) (by omega) (by omega) ?_
  first | refine r_aload_n C dc_L_value_0 rfl rfl ?_ | refine r_aload_nq C dc_L_value_0 rfl rfl ?_
  refine r_iconst (v := nI 0) C dc_L_value_1 (by decide) ?_
  first | refine r_aload_n C dc_L_value_2 rfl rfl ?_ | refine r_aload_nq C dc_L_value_2 rfl rfl ?_
  refine r_iload_n C dc_L_value_3 rfl rfl ?_
  refine r_iload_n C dc_L_value_4 rfl rfl ?_
  refine r_callV C dp dc_L_value_5 cw_L_48 cm_S_value cv_S_value rfl hb hM (Nat.lt_succ_self _) rfl rfl (Nat.le_of_ble_eq_true rfl) (fun v9 h9 n9 q9 z9 => ?_) (fun E hE nE qE zE => ?_)
  ·
    obtain ⟨V, f, rfl, hlg⟩ := hP _ _ _ z9
    refine r_i2l C dc_L_value_8 rfl ?_
    refine r_jast C dc_L_value_9 hlg rfl (by decide) (by decide) ?_
    refine r_goto (tgt := 29) C dc_L_value_10 (by decide) ?_
    refine r_iconst (v := nI 0) C dc_L_value_29 (by decide) ?_
    exact r_iret C dp hr dc_L_value_30 (by omega) (Or.inl ⟨V, h9, f, z9, rfl, hlg, rfl⟩)
  ·
    obtain ⟨e1, e2⟩ := hX _ _ _ zE
    rcases e2 with e2 | e2 | e2 | e2
    ·
      rw [e1] at zE ⊢
      rw [e2] at zE ⊢
      refine r_catch C [] ⟨0, 10, 13, 13⟩ [⟨0, 10, 17, 15⟩, ⟨0, 10, 21, 17⟩, ⟨0, 10, 25, 31⟩] (ht.trans rfl) (fun _ hz => nomatch hz) (by decide) (by decide) lk_13 lc_13 (fun q => ?_)
      first | refine r_astore C dc_L_value_13 (by decide) (nw_of rfl) ?_ | refine r_astoreN C dc_L_value_13 (by decide) (nw_of rfl) ?_ | refine r_astoreq C dc_L_value_13 (by decide) (nw_of rfl) ?_
      refine r_iconst (v := nI 1) C dc_L_value_15 (by decide) ?_
      exact r_iret C dp hr dc_L_value_16 qE (Or.inr ⟨zE, rfl⟩)
    ·
      rw [e1] at zE ⊢
      rw [e2] at zE ⊢
      refine r_catch C [⟨0, 10, 13, 13⟩] ⟨0, 10, 17, 15⟩ [⟨0, 10, 21, 17⟩, ⟨0, 10, 25, 31⟩] (ht.trans rfl) (List.forall_mem_cons.mpr ⟨⟨by decide, _, lk_13, by decide⟩, fun _ hz => nomatch hz⟩) (by decide) (by decide) lk_15 lc_15 (fun q => ?_)
      first | refine r_astore C dc_L_value_17 (by decide) (nw_of rfl) ?_ | refine r_astoreN C dc_L_value_17 (by decide) (nw_of rfl) ?_ | refine r_astoreq C dc_L_value_17 (by decide) (nw_of rfl) ?_
      refine r_iconst (v := nI 2) C dc_L_value_19 (by decide) ?_
      exact r_iret C dp hr dc_L_value_20 qE (Or.inr ⟨zE, rfl⟩)
    ·
      rw [e1] at zE ⊢
      rw [e2] at zE ⊢
      refine r_catch C [⟨0, 10, 13, 13⟩, ⟨0, 10, 17, 15⟩] ⟨0, 10, 21, 17⟩ [⟨0, 10, 25, 31⟩] (ht.trans rfl) (List.forall_mem_cons.mpr ⟨⟨by decide, _, lk_13, by decide⟩, List.forall_mem_cons.mpr ⟨⟨by decide, _, lk_15, by decide⟩, fun _ hz => nomatch hz⟩⟩) (by decide) (by decide) lk_17 lc_17 (fun q => ?_)
      first | refine r_astore C dc_L_value_21 (by decide) (nw_of rfl) ?_ | refine r_astoreN C dc_L_value_21 (by decide) (nw_of rfl) ?_ | refine r_astoreq C dc_L_value_21 (by decide) (nw_of rfl) ?_
      refine r_iconst (v := nI 3) C dc_L_value_23 (by decide) ?_
      exact r_iret C dp hr dc_L_value_24 qE (Or.inr ⟨zE, rfl⟩)
    ·
      rw [e1] at zE ⊢
      rw [e2] at zE ⊢
      refine r_catch C [⟨0, 10, 13, 13⟩, ⟨0, 10, 17, 15⟩, ⟨0, 10, 21, 17⟩] ⟨0, 10, 25, 31⟩ [] (ht.trans rfl) (List.forall_mem_cons.mpr ⟨⟨by decide, _, lk_13, by decide⟩, List.forall_mem_cons.mpr ⟨⟨by decide, _, lk_15, by decide⟩, List.forall_mem_cons.mpr ⟨⟨by decide, _, lk_17, by decide⟩, fun _ hz => nomatch hz⟩⟩⟩) (by decide) (by decide) lk_31 lc_31 (fun q => ?_)
      first | refine r_astore C dc_L_value_25 (by decide) (nw_of rfl) ?_ | refine r_astoreN C dc_L_value_25 (by decide) (nw_of rfl) ?_ | refine r_astoreq C dc_L_value_25 (by decide) (nw_of rfl) ?_
      refine r_iconst (v := nI 4) C dc_L_value_27 (by decide) ?_
      exact r_iret C dp hr dc_L_value_28 qE (Or.inr ⟨zE, rfl⟩)
theorem gw_value : GoodIn tbl (va_wsS rn_L 98 my_L_value [Cond.codeWith my_L_value cd_L_value 5 (some .int) [((0 : Nat), (10 : Nat), (13 : Nat), (13 : Nat)), ((0 : Nat), (10 : Nat), (17 : Nat), (15 : Nat)), ((0 : Nat), (10 : Nat), (21 : Nat), (17 : Nat)), ((0 : Nat), (10 : Nat), (25 : Nat), (31 : Nat))]]) := gh (tm 624 (by decide +kernel) rfl) (tm 625 (by decide +kernel) rfl) (tm 0 (by decide +kernel) rfl) (tm 626 (by decide +kernel) rfl)
set_option maxRecDepth 4000 in
set_option maxHeartbeats 1000000 in
theorem k_L_about (hl : l.stackTraces = false) {v0 v1 : Int32} (hb : h b = some (.inr (5, fs))) (hM : Ct l D A G my_S_about cd_S_about 4 (some (.int)) df bc bs [.ref b, .int v0, .int v1] h n P0 X0) (hP : ∀ v h1 n1, P0 v h1 n1 → ∃ V f, v = some (.int V) ∧ h1 lg = some (jc A 1 f)) (hX : ∀ E h1 n1, X0 E h1 n1 → E = exN cd ∧ (cd = 1 ∨ cd = 2)) : CtH l D A G my_L_about cd_L_about 5 (some .int) [((0 : Nat), (10 : Nat), (13 : Nat), (13 : Nat)), ((0 : Nat), (10 : Nat), (17 : Nat), (15 : Nat))] (df + 1) bc bs [.ref b, .int v0, .int v1, .ref lg] h n (fun v h' n' => (∃ V h1 f, P0 (some (.int V)) h1 n' ∧ v = some (.int (nI 0)) ∧ h1 lg = some (jc A 1 f) ∧ h' = hs h1 lg (jc A 1 (vp_updL f 0 V.toInt64))) ∨ (X0 (exN cd) h' n' ∧ v = some (.int (nI cd)))) := by
  refine CtH.of (by decide) hl (Nat.le_of_ble_eq_true rfl) ?_
  intro p e s m args below meth c C hr ht dp
  refine r_room (bc' := 0 + bc) (bs' := 0 + bs) (by omega) (by omega) ?_
  first | refine r_aload_n C dc_L_about_0 rfl rfl ?_ | refine r_aload_nq C dc_L_about_0 rfl rfl ?_
  refine r_iconst (v := nI 0) C dc_L_about_1 (by decide) ?_
  first | refine r_aload_n C dc_L_about_2 rfl rfl ?_ | refine r_aload_nq C dc_L_about_2 rfl rfl ?_
  refine r_iload_n C dc_L_about_3 rfl rfl ?_
  refine r_iload_n C dc_L_about_4 rfl rfl ?_
  refine r_callV C dp dc_L_about_5 cw_L_51 cm_S_about cv_S_about rfl hb hM (Nat.lt_succ_self _) rfl rfl (Nat.le_of_ble_eq_true rfl) (fun v9 h9 n9 q9 z9 => ?_) (fun E hE nE qE zE => ?_)
  ·
    obtain ⟨V, f, rfl, hlg⟩ := hP _ _ _ z9
    refine r_i2l C dc_L_about_8 rfl ?_
    refine r_jast C dc_L_about_9 hlg rfl (by decide) (by decide) ?_
    refine r_goto (tgt := 21) C dc_L_about_10 (by decide) ?_
    refine r_iconst (v := nI 0) C dc_L_about_21 (by decide) ?_
    exact r_iret C dp hr dc_L_about_22 (by omega) (Or.inl ⟨V, h9, f, z9, rfl, hlg, rfl⟩)
  ·
    obtain ⟨e1, e2⟩ := hX _ _ _ zE
    rcases e2 with e2 | e2
    ·
      rw [e1] at zE ⊢
      rw [e2] at zE ⊢
      refine r_catch C [] ⟨0, 10, 13, 13⟩ [⟨0, 10, 17, 15⟩] (ht.trans rfl) (fun _ hz => nomatch hz) (by decide) (by decide) lk_13 lc_13 (fun q => ?_)
      first | refine r_astore C dc_L_about_13 (by decide) (nw_of rfl) ?_ | refine r_astoreN C dc_L_about_13 (by decide) (nw_of rfl) ?_ | refine r_astoreq C dc_L_about_13 (by decide) (nw_of rfl) ?_
      refine r_iconst (v := nI 1) C dc_L_about_15 (by decide) ?_
      exact r_iret C dp hr dc_L_about_16 qE (Or.inr ⟨zE, rfl⟩)
    ·
      rw [e1] at zE ⊢
      rw [e2] at zE ⊢
      refine r_catch C [⟨0, 10, 13, 13⟩] ⟨0, 10, 17, 15⟩ [] (ht.trans rfl) (List.forall_mem_cons.mpr ⟨⟨by decide, _, lk_13, by decide⟩, fun _ hz => nomatch hz⟩) (by decide) (by decide) lk_15 lc_15 (fun q => ?_)
      first | refine r_astore C dc_L_about_17 (by decide) (nw_of rfl) ?_ | refine r_astoreN C dc_L_about_17 (by decide) (nw_of rfl) ?_ | refine r_astoreq C dc_L_about_17 (by decide) (nw_of rfl) ?_
      refine r_iconst (v := nI 2) C dc_L_about_19 (by decide) ?_
      exact r_iret C dp hr dc_L_about_20 qE (Or.inr ⟨zE, rfl⟩)
theorem gw_about : GoodIn tbl (va_wsS rn_L 101 my_L_about [Cond.codeWith my_L_about cd_L_about 5 (some .int) [((0 : Nat), (10 : Nat), (13 : Nat), (13 : Nat)), ((0 : Nat), (10 : Nat), (17 : Nat), (15 : Nat))]]) := gh (tm 633 (by decide +kernel) rfl) (tm 634 (by decide +kernel) rfl) (tm 0 (by decide +kernel) rfl) (tm 635 (by decide +kernel) rfl)
set_option maxRecDepth 4000 in
set_option maxHeartbeats 1000000 in
theorem k_L_word (hl : l.stackTraces = false) {v0 v1 : Int32} (hb : h b = some (.inr (5, fs))) (hM : Ct l D A G my_S_word cd_S_word 3 (some (.int)) df bc bs [.ref b, .int v0, .int v1] h n P0 X0) (hP : ∀ v h1 n1, P0 v h1 n1 → ∃ V f, v = some (.int V) ∧ h1 lg = some (jc A 1 f)) (hX : ∀ E h1 n1, X0 E h1 n1 → E = exN cd ∧ (cd = 1 ∨ cd = 2)) : CtH l D A G my_L_word cd_L_word 5 (some .int) [((0 : Nat), (10 : Nat), (13 : Nat), (13 : Nat)), ((0 : Nat), (10 : Nat), (17 : Nat), (15 : Nat))] (df + 1) bc bs [.ref b, .int v0, .int v1, .ref lg] h n (fun v h' n' => (∃ V h1 f, P0 (some (.int V)) h1 n' ∧ v = some (.int (nI 0)) ∧ h1 lg = some (jc A 1 f) ∧ h' = hs h1 lg (jc A 1 (vp_updL f 0 V.toInt64))) ∨ (X0 (exN cd) h' n' ∧ v = some (.int (nI cd)))) := by
  refine CtH.of (by decide) hl (Nat.le_of_ble_eq_true rfl) ?_
  intro p e s m args below meth c C hr ht dp
  refine r_room (bc' := 0 + bc) (bs' := 0 + bs) (by omega) (by omega) ?_
  first | refine r_aload_n C dc_L_word_0 rfl rfl ?_ | refine r_aload_nq C dc_L_word_0 rfl rfl ?_
  refine r_iconst (v := nI 0) C dc_L_word_1 (by decide) ?_
  first | refine r_aload_n C dc_L_word_2 rfl rfl ?_ | refine r_aload_nq C dc_L_word_2 rfl rfl ?_
  refine r_iload_n C dc_L_word_3 rfl rfl ?_
  refine r_iload_n C dc_L_word_4 rfl rfl ?_
  refine r_callV C dp dc_L_word_5 cw_L_54 cm_S_word cv_S_word rfl hb hM (Nat.lt_succ_self _) rfl rfl (Nat.le_of_ble_eq_true rfl) (fun v9 h9 n9 q9 z9 => ?_) (fun E hE nE qE zE => ?_)
  ·
    obtain ⟨V, f, rfl, hlg⟩ := hP _ _ _ z9
    refine r_i2l C dc_L_word_8 rfl ?_
    refine r_jast C dc_L_word_9 hlg rfl (by decide) (by decide) ?_
    refine r_goto (tgt := 21) C dc_L_word_10 (by decide) ?_
    refine r_iconst (v := nI 0) C dc_L_word_21 (by decide) ?_
    exact r_iret C dp hr dc_L_word_22 (by omega) (Or.inl ⟨V, h9, f, z9, rfl, hlg, rfl⟩)
  ·
    obtain ⟨e1, e2⟩ := hX _ _ _ zE
    rcases e2 with e2 | e2
    ·
      rw [e1] at zE ⊢
      rw [e2] at zE ⊢
      refine r_catch C [] ⟨0, 10, 13, 13⟩ [⟨0, 10, 17, 15⟩] (ht.trans rfl) (fun _ hz => nomatch hz) (by decide) (by decide) lk_13 lc_13 (fun q => ?_)
      first | refine r_astore C dc_L_word_13 (by decide) (nw_of rfl) ?_ | refine r_astoreN C dc_L_word_13 (by decide) (nw_of rfl) ?_ | refine r_astoreq C dc_L_word_13 (by decide) (nw_of rfl) ?_
      refine r_iconst (v := nI 1) C dc_L_word_15 (by decide) ?_
      exact r_iret C dp hr dc_L_word_16 qE (Or.inr ⟨zE, rfl⟩)
    ·
      rw [e1] at zE ⊢
      rw [e2] at zE ⊢
      refine r_catch C [⟨0, 10, 13, 13⟩] ⟨0, 10, 17, 15⟩ [] (ht.trans rfl) (List.forall_mem_cons.mpr ⟨⟨by decide, _, lk_13, by decide⟩, fun _ hz => nomatch hz⟩) (by decide) (by decide) lk_15 lc_15 (fun q => ?_)
      first | refine r_astore C dc_L_word_17 (by decide) (nw_of rfl) ?_ | refine r_astoreN C dc_L_word_17 (by decide) (nw_of rfl) ?_ | refine r_astoreq C dc_L_word_17 (by decide) (nw_of rfl) ?_
      refine r_iconst (v := nI 2) C dc_L_word_19 (by decide) ?_
      exact r_iret C dp hr dc_L_word_20 qE (Or.inr ⟨zE, rfl⟩)
theorem gw_word : GoodIn tbl (va_wsS rn_L 104 my_L_word [Cond.codeWith my_L_word cd_L_word 5 (some .int) [((0 : Nat), (10 : Nat), (13 : Nat), (13 : Nat)), ((0 : Nat), (10 : Nat), (17 : Nat), (15 : Nat))]]) := gh (tm 645 (by decide +kernel) rfl) (tm 646 (by decide +kernel) rfl) (tm 0 (by decide +kernel) rfl) (tm 647 (by decide +kernel) rfl)
end Law2
