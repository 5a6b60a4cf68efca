def mPlugX (x : Nat → Nat → Int32) (a p0 b q0 : Nat) : Nat → Nat → Int32 := ur (ur (ur (ur (th x 0) 1 (upd (x 1) (3 * a + p0) (nI (3 * b + q0)))) 1 (upd (upd (x 1) (3 * a + p0) (nI (3 * b + q0))) (3 * b + q0) (nI (3 * a + p0)))) 11 (upd (x 11) b (nI 1))) 11 (upd (upd (x 11) b (nI 1)) a (nI 1))
def mPlug (ot : Nat → Option Nat) (x : Nat → Nat → Int32) (a p0 b q0 : Int32) : Int32 × (Nat → Nat → Int32) := if ou a 12 then (nI 0, th x 1) else if ou b 12 then (nI 0, th x 1) else if ou p0 3 then (nI 0, th x 2) else if ou q0 3 then (nI 0, th x 2) else if a = b then (nI 0, th x 2)
  else match ot (3 * cl a + cl p0) with
  | some _ => (nI 0, th x 3)
  | none => match ot (3 * cl b + cl q0) with
    | some _ => (nI 0, th x 3)
    | none => (nI (cntT (fun k => decide (nI k < mPlugX x (cl a) (cl p0) (cl b) (cl q0) 1 k)) 36), mPlugX x (cl a) (cl p0) (cl b) (cl q0))
def mAskX (x : Nat → Nat → Int32) (a k q : Nat) (b wk w x0 v : Int32) : Nat → Nat → Int32 :=
  mPut (ur (ur (ur (ur (ur (ur (ur (ur (ur (th x 0) 29 (fun _ => x 29 0 + nI 1)) 20 (upd (x 20) (4 * a + k) (-1))) 21 (upd (x 21) (4 * a + k) b)) 22 (upd (x 22) (4 * a + k) wk)) 23 (upd (x 23) (4 * a + k) w)) 24 (upd (x 24) (4 * a + k) x0)) 25 (upd (x 25) (4 * a + k) v)) 27 (upd (x 27) (4 * a + k) (x 36 0 + x 37 0))) 28 (upd (x 28) (4 * a + k) (x 29 0 + nI 1))) a q (nI (4 * a + k)) (x 29 0 + nI 1) (nI 0) false (nI 0)
def mAsk (qn : Nat → Nat) (x : Nat → Nat → Int32) (a b wk w x0 v : Int32) : Int32 × (Nat → Nat → Int32) := if ou a 12 then (nI 0, th x 1) else if ou b 12 then (nI 0, th x 1) else if ou wk 3 then (nI 0, th x 2) else if ou w 8 then (nI 0, th x 2)
  else match fstF (fun k => decide (¬ x 20 (4 * cl a + k) = -1)) 4 0 with
  | none => (nI 0, th x 3)
  | some k => if qn (cl a) = 6 then (nI 0, th x 4) else (nI k, mAskX x (cl a) k (qn (cl a)) b wk w x0 v)
section Model7
variable {l : Launch} {D : va_G} {A : Nat → ClassId} {G : Heap} {h : Hp} {n mm df : Nat} {x : Nat → Nat → Int32}
set_option maxRecDepth 4000 in
theorem k_M_plug (hl : l.stackTraces = false) {v0 v1 v2 v3 : Int32} {ot : Nat → Option Nat} (hot : ∀ k, k < 36 → x 1 k = oi (ot k)) (ht36 : ∀ k t, k < 36 → ot k = some t → t < 36) : Ct l D A G my_M_plug cd_M_plug 5 (some (.int)) (df + 1) 0 0 [.ref mm, .int v0, .int v1, .int v2, .int v3] (MH A mm x h) n (fun v h' n' => v = some (.int (mPlug ot x v0 v1 v2 v3).1) ∧ h' = MH A mm ((mPlug ot x v0 v1 v2 v3).2) h ∧ n' = n) (fun _ _ _ => False) := by
  refine Ct.of (by decide) hl (Nat.le_of_ble_eq_true rfl) ?_
  intro p e s m args below meth c C hr hnm ht dp
  first | refine r_aload_n C dc_M_plug_0 rfl rfl ?_ | refine r_aload_nq C dc_M_plug_0 rfl rfl ?_
  refine r_iconst (v := nI 0) C dc_M_plug_1 (by decide) ?_
  refine r_put C dc_M_plug_2 fl_M_117 mh_0 rfl rfl (Nat.le_of_ble_eq_true rfl) ?_
  rw [mp_0]
  refine r_iload_n C dc_M_plug_5 rfl rfl ?_
  refine r_bipush (v := nI 12) C dc_M_plug_6 (by decide) ?_
  refine r_callS C dp dc_M_plug_8 cw_M_120 cs_M_out (k_M_out hl) (Nat.lt_succ_self _) rfl rfl (Nat.le_of_ble_eq_true rfl) (fun v8 h8 n8 q8 z8 => ?_) (fun _ _ _ _ z => z.elim)
  obtain ⟨y8, y8h, y8n⟩ := z8
  rw [y8, y8h, y8n]
  refine r_if_neZ (tgt := 23) C dc_M_plug_11 (by decide) (fun c11 => ?_) (fun c11 => ?_)
  ·
    first | refine r_aload_n C dc_M_plug_23 rfl rfl ?_ | refine r_aload_nq C dc_M_plug_23 rfl rfl ?_
    refine r_iconst (v := nI 1) C dc_M_plug_24 (by decide) ?_
    refine r_callV C dp dc_M_plug_25 cw_M_124 cm_M_fail cv_M_fail rfl (mh_0) (k_M_fail hl) (Nat.lt_succ_self _) rfl rfl (Nat.le_of_ble_eq_true rfl) (fun v25 h25 n25 q25 z25 => ?_) (fun _ _ _ _ z => z.elim)
    obtain ⟨y25, y25h, y25n⟩ := z25
    rw [y25, y25h, y25n]
    exact r_iret C dp hr dc_M_plug_28 (Nat.le_refl _) ⟨by unfold mPlug; rw [if_pos (of_decide_eq_true c11)] <;> (first | rfl | (simp only [ur_ur]; done) | (simp only [ur_ur]; rfl)), by unfold mPlug; rw [if_pos (of_decide_eq_true c11)] <;> (first | rfl | (simp only [ur_ur]; done) | (simp only [ur_ur]; rfl)), rfl⟩
  ·
    refine r_iload_n C dc_M_plug_14 rfl rfl ?_
    refine r_bipush (v := nI 12) C dc_M_plug_15 (by decide) ?_
    refine r_callS C dp dc_M_plug_17 cw_M_120 cs_M_out (k_M_out hl) (Nat.lt_succ_self _) rfl rfl (Nat.le_of_ble_eq_true rfl) (fun v17 h17 n17 q17 z17 => ?_) (fun _ _ _ _ z => z.elim)
    obtain ⟨y17, y17h, y17n⟩ := z17
    rw [y17, y17h, y17n]
    refine r_if_eqZ (tgt := 29) C dc_M_plug_20 (by decide) (fun c20 => ?_) (fun c20 => ?_)
    ·
      refine r_iload_n C dc_M_plug_29 rfl rfl ?_
      refine r_iconst (v := nI 3) C dc_M_plug_30 (by decide) ?_
      refine r_callS C dp dc_M_plug_31 cw_M_120 cs_M_out (k_M_out hl) (Nat.lt_succ_self _) rfl rfl (Nat.le_of_ble_eq_true rfl) (fun v31 h31 n31 q31 z31 => ?_) (fun _ _ _ _ z => z.elim)
      obtain ⟨y31, y31h, y31n⟩ := z31
      rw [y31, y31h, y31n]
      refine r_if_neZ (tgt := 51) C dc_M_plug_34 (by decide) (fun c34 => ?_) (fun c34 => ?_)
      ·
        first | refine r_aload_n C dc_M_plug_51 rfl rfl ?_ | refine r_aload_nq C dc_M_plug_51 rfl rfl ?_
        refine r_iconst (v := nI 2) C dc_M_plug_52 (by decide) ?_
        refine r_callV C dp dc_M_plug_53 cw_M_124 cm_M_fail cv_M_fail rfl (mh_0) (k_M_fail hl) (Nat.lt_succ_self _) rfl rfl (Nat.le_of_ble_eq_true rfl) (fun v53 h53 n53 q53 z53 => ?_) (fun _ _ _ _ z => z.elim)
        obtain ⟨y53, y53h, y53n⟩ := z53
        rw [y53, y53h, y53n]
        exact r_iret C dp hr dc_M_plug_56 (Nat.le_refl _) ⟨by unfold mPlug; rw [if_neg (of_decide_eq_false c11), if_neg (of_decide_eq_false c20), if_pos (of_decide_eq_true c34)] <;> (first | rfl | (simp only [ur_ur]; done) | (simp only [ur_ur]; rfl)), by unfold mPlug; rw [if_neg (of_decide_eq_false c11), if_neg (of_decide_eq_false c20), if_pos (of_decide_eq_true c34)] <;> (first | rfl | (simp only [ur_ur]; done) | (simp only [ur_ur]; rfl)), rfl⟩
      ·
        refine r_iload C dc_M_plug_37 rfl ?_
        refine r_iconst (v := nI 3) C dc_M_plug_39 (by decide) ?_
        refine r_callS C dp dc_M_plug_40 cw_M_120 cs_M_out (k_M_out hl) (Nat.lt_succ_self _) rfl rfl (Nat.le_of_ble_eq_true rfl) (fun v40 h40 n40 q40 z40 => ?_) (fun _ _ _ _ z => z.elim)
        obtain ⟨y40, y40h, y40n⟩ := z40
        rw [y40, y40h, y40n]
        refine r_if_neZ (tgt := 51) C dc_M_plug_43 (by decide) (fun c43 => ?_) (fun c43 => ?_)
        ·
          first | refine r_aload_n C dc_M_plug_51 rfl rfl ?_ | refine r_aload_nq C dc_M_plug_51 rfl rfl ?_
          refine r_iconst (v := nI 2) C dc_M_plug_52 (by decide) ?_
          refine r_callV C dp dc_M_plug_53 cw_M_124 cm_M_fail cv_M_fail rfl (mh_0) (k_M_fail hl) (Nat.lt_succ_self _) rfl rfl (Nat.le_of_ble_eq_true rfl) (fun v53 h53 n53 q53 z53 => ?_) (fun _ _ _ _ z => z.elim)
          obtain ⟨y53, y53h, y53n⟩ := z53
          rw [y53, y53h, y53n]
          exact r_iret C dp hr dc_M_plug_56 (Nat.le_refl _) ⟨by unfold mPlug; rw [if_neg (of_decide_eq_false c11), if_neg (of_decide_eq_false c20), if_neg (of_decide_eq_false c34), if_pos (of_decide_eq_true c43)] <;> (first | rfl | (simp only [ur_ur]; done) | (simp only [ur_ur]; rfl)), by unfold mPlug; rw [if_neg (of_decide_eq_false c11), if_neg (of_decide_eq_false c20), if_neg (of_decide_eq_false c34), if_pos (of_decide_eq_true c43)] <;> (first | rfl | (simp only [ur_ur]; done) | (simp only [ur_ur]; rfl)), rfl⟩
        ·
          refine r_iload_n C dc_M_plug_46 rfl rfl ?_
          refine r_iload_n C dc_M_plug_47 rfl rfl ?_
          refine r_icmp_ne (tgt := 57) C dc_M_plug_48 (by decide) (fun c48 => ?_) (fun c48 => ?_)
          ·
            obtain ⟨a, ha, rfl⟩ := nd_of (of_decide_eq_false c11)
            obtain ⟨b, hb, rfl⟩ := nd_of (of_decide_eq_false c20)
            obtain ⟨i, hi, rfl⟩ := nd_of (of_decide_eq_false c34)
            obtain ⟨j, hj, rfl⟩ := nd_of (of_decide_eq_false c43)
            first | refine r_aload_n C dc_M_plug_57 rfl rfl ?_ | refine r_aload_nq C dc_M_plug_57 rfl rfl ?_
            refine r_get C dc_M_plug_58 fl_M_7 mh_0 rfl ?_
            refine r_iconst (v := nI 3) C dc_M_plug_61 (by decide) ?_
            refine r_iload_n C dc_M_plug_62 rfl rfl ?_
            first | refine r_imulN C dc_M_plug_63 ?_ | refine r_imul C dc_M_plug_63 ?_
            refine r_iload_n C dc_M_plug_64 rfl rfl ?_
            first | refine r_iaddN C dc_M_plug_65 ?_ | refine r_iadd C dc_M_plug_65 ?_
            refine r_ialdN C dc_M_plug_66 mh_1 (by omega) (by decide) ?_
            refine sb_at (P := fun v => Rw _ _ _ _ _ _ _ _ _ _ _ _ _ _ _ _ _ _ _ _ (.int v :: _)) (show _ = oi (ot (3 * a + i)) from hot _ (by omega)) ?_
            cases eo : ot (3 * a + i) with
            | some t =>
              have ht3 := ht36 _ t (by omega) eo
              refine sb_at (P := fun v => Rw _ _ _ _ _ _ _ _ _ _ _ _ _ _ _ _ _ _ _ _ (.int v :: _)) (show oi (some t) = nI t from rfl) ?_
              refine r_if_ge (tgt := 84) C dc_M_plug_67 (by decide) (fun c67 => ?_) (fun c67 => ?_)
              ·
                first | refine r_aload_n C dc_M_plug_84 rfl rfl ?_ | refine r_aload_nq C dc_M_plug_84 rfl rfl ?_
                refine r_iconst (v := nI 3) C dc_M_plug_85 (by decide) ?_
                refine r_callV C dp dc_M_plug_86 cw_M_124 cm_M_fail cv_M_fail rfl (mh_0) (k_M_fail hl) (Nat.lt_succ_self _) rfl rfl (Nat.le_of_ble_eq_true rfl) (fun v86 h86 n86 q86 z86 => ?_) (fun _ _ _ _ z => z.elim)
                obtain ⟨y86, y86h, y86n⟩ := z86
                rw [y86, y86h, y86n]
                exact r_iret C dp hr dc_M_plug_89 (Nat.le_refl _) ⟨by unfold mPlug; rw [if_neg (of_decide_eq_false c11), if_neg (of_decide_eq_false c20), if_neg (of_decide_eq_false c34), if_neg (of_decide_eq_false c43), if_neg c48, cl_nI (k := a) (by omega), cl_nI (k := b) (by omega), cl_nI (k := i) (by omega), cl_nI (k := j) (by omega), eo] <;> (first | rfl | (simp only [ur_ur]; done) | (simp only [ur_ur]; rfl)), by unfold mPlug; rw [if_neg (of_decide_eq_false c11), if_neg (of_decide_eq_false c20), if_neg (of_decide_eq_false c34), if_neg (of_decide_eq_false c43), if_neg c48, cl_nI (k := a) (by omega), cl_nI (k := b) (by omega), cl_nI (k := i) (by omega), cl_nI (k := j) (by omega), eo] <;> (first | rfl | (simp only [ur_ur]; done) | (simp only [ur_ur]; rfl)), rfl⟩
              · exact absurd (nI_pos' (by omega)) c67
            | none =>
              refine r_if_ge (tgt := 84) C dc_M_plug_67 (by decide) (fun c67 => ?_) (fun c67 => ?_)
              · exact absurd m1_lt0 (Int32.not_lt.mpr c67)
              ·
                first | refine r_aload_n C dc_M_plug_70 rfl rfl ?_ | refine r_aload_nq C dc_M_plug_70 rfl rfl ?_
                refine r_get C dc_M_plug_71 fl_M_7 mh_0 rfl ?_
                refine r_iconst (v := nI 3) C dc_M_plug_74 (by decide) ?_
                refine r_iload_n C dc_M_plug_75 rfl rfl ?_
                first | refine r_imulN C dc_M_plug_76 ?_ | refine r_imul C dc_M_plug_76 ?_
                refine r_iload C dc_M_plug_77 rfl ?_
                first | refine r_iaddN C dc_M_plug_79 ?_ | refine r_iadd C dc_M_plug_79 ?_
                refine r_ialdN C dc_M_plug_80 mh_1 (by omega) (by decide) ?_
                refine sb_at (P := fun v => Rw _ _ _ _ _ _ _ _ _ _ _ _ _ _ _ _ _ _ _ _ (.int v :: _)) (show _ = oi (ot (3 * b + j)) from hot _ (by omega)) ?_
                cases eo2 : ot (3 * b + j) with
                | some t =>
                  have ht3 := ht36 _ t (by omega) eo2
                  refine sb_at (P := fun v => Rw _ _ _ _ _ _ _ _ _ _ _ _ _ _ _ _ _ _ _ _ (.int v :: _)) (show oi (some t) = nI t from rfl) ?_
                  refine r_if_lt (tgt := 90) C dc_M_plug_81 (by decide) (fun c81 => ?_) (fun c81 => ?_)
                  · exact absurd c81 (nI_lt0 (by omega))
                  ·
                    first | refine r_aload_n C dc_M_plug_84 rfl rfl ?_ | refine r_aload_nq C dc_M_plug_84 rfl rfl ?_
                    refine r_iconst (v := nI 3) C dc_M_plug_85 (by decide) ?_
                    refine r_callV C dp dc_M_plug_86 cw_M_124 cm_M_fail cv_M_fail rfl (mh_0) (k_M_fail hl) (Nat.lt_succ_self _) rfl rfl (Nat.le_of_ble_eq_true rfl) (fun v86 h86 n86 q86 z86 => ?_) (fun _ _ _ _ z => z.elim)
                    obtain ⟨y86, y86h, y86n⟩ := z86
                    rw [y86, y86h, y86n]
                    exact r_iret C dp hr dc_M_plug_89 (Nat.le_refl _) ⟨by unfold mPlug; rw [if_neg (of_decide_eq_false c11), if_neg (of_decide_eq_false c20), if_neg (of_decide_eq_false c34), if_neg (of_decide_eq_false c43), if_neg c48, cl_nI (k := a) (by omega), cl_nI (k := b) (by omega), cl_nI (k := i) (by omega), cl_nI (k := j) (by omega), eo] <;> (dsimp only) <;> rw [eo2] <;> (first | rfl | (simp only [ur_ur]; done) | (simp only [ur_ur]; rfl)), by unfold mPlug; rw [if_neg (of_decide_eq_false c11), if_neg (of_decide_eq_false c20), if_neg (of_decide_eq_false c34), if_neg (of_decide_eq_false c43), if_neg c48, cl_nI (k := a) (by omega), cl_nI (k := b) (by omega), cl_nI (k := i) (by omega), cl_nI (k := j) (by omega), eo] <;> (dsimp only) <;> rw [eo2] <;> (first | rfl | (simp only [ur_ur]; done) | (simp only [ur_ur]; rfl)), rfl⟩
                | none =>
                  refine r_if_lt (tgt := 90) C dc_M_plug_81 (by decide) (fun c81 => ?_) (fun c81 => ?_)
                  ·
                    first | refine r_aload_n C dc_M_plug_90 rfl rfl ?_ | refine r_aload_nq C dc_M_plug_90 rfl rfl ?_
                    refine r_get C dc_M_plug_91 fl_M_7 mh_0 rfl ?_
                    refine r_iconst (v := nI 3) C dc_M_plug_94 (by decide) ?_
                    refine r_iload_n C dc_M_plug_95 rfl rfl ?_
                    first | refine r_imulN C dc_M_plug_96 ?_ | refine r_imul C dc_M_plug_96 ?_
                    refine r_iload_n C dc_M_plug_97 rfl rfl ?_
                    first | refine r_iaddN C dc_M_plug_98 ?_ | refine r_iadd C dc_M_plug_98 ?_
                    refine r_iconst (v := nI 3) C dc_M_plug_99 (by decide) ?_
                    refine r_iload_n C dc_M_plug_100 rfl rfl ?_
                    first | refine r_imulN C dc_M_plug_101 ?_ | refine r_imul C dc_M_plug_101 ?_
                    refine r_iload C dc_M_plug_102 rfl ?_
                    first | refine r_iaddN C dc_M_plug_104 ?_ | refine r_iadd C dc_M_plug_104 ?_
                    refine r_iast C dc_M_plug_105 mh_1 rfl (by omega) (by decide) ?_
                    rw [ms_1]
                    first | refine r_aload_n C dc_M_plug_106 rfl rfl ?_ | refine r_aload_nq C dc_M_plug_106 rfl rfl ?_
                    refine r_get C dc_M_plug_107 fl_M_7 mh_0 rfl ?_
                    refine r_iconst (v := nI 3) C dc_M_plug_110 (by decide) ?_
                    refine r_iload_n C dc_M_plug_111 rfl rfl ?_
                    first | refine r_imulN C dc_M_plug_112 ?_ | refine r_imul C dc_M_plug_112 ?_
                    refine r_iload C dc_M_plug_113 rfl ?_
                    first | refine r_iaddN C dc_M_plug_115 ?_ | refine r_iadd C dc_M_plug_115 ?_
                    refine r_iconst (v := nI 3) C dc_M_plug_116 (by decide) ?_
                    refine r_iload_n C dc_M_plug_117 rfl rfl ?_
                    first | refine r_imulN C dc_M_plug_118 ?_ | refine r_imul C dc_M_plug_118 ?_
                    refine r_iload_n C dc_M_plug_119 rfl rfl ?_
                    first | refine r_iaddN C dc_M_plug_120 ?_ | refine r_iadd C dc_M_plug_120 ?_
                    refine r_iast C dc_M_plug_121 mh_1 rfl (by omega) (by decide) ?_
                    rw [ms_1]
                    first | refine r_aload_n C dc_M_plug_122 rfl rfl ?_ | refine r_aload_nq C dc_M_plug_122 rfl rfl ?_
                    refine r_get C dc_M_plug_123 fl_M_41 mh_0 rfl ?_
                    refine r_iload_n C dc_M_plug_126 rfl rfl ?_
                    first | refine r_aload_n C dc_M_plug_127 rfl rfl ?_ | refine r_aload_nq C dc_M_plug_127 rfl rfl ?_
                    refine r_get C dc_M_plug_128 fl_M_41 mh_0 rfl ?_
                    refine r_iload_n C dc_M_plug_131 rfl rfl ?_
                    refine r_iconst (v := nI 1) C dc_M_plug_132 (by decide) ?_
                    refine r_dup_x2 C dc_M_plug_133 rfl rfl rfl ?_
                    refine r_zast C dc_M_plug_134 mh_11 rfl (by omega) (by decide) (by first | exact zi_01 _ | exact zv_0 | exact zv_1 | assumption | decide) ?_
                    rw [ms_11]
                    refine r_zast C dc_M_plug_135 mh_11 rfl (by omega) (by decide) (by first | exact zi_01 _ | exact zv_0 | exact zv_1 | assumption | decide) ?_
                    rw [ms_11]
                    first | refine r_aload_n C dc_M_plug_136 rfl rfl ?_ | refine r_aload_nq C dc_M_plug_136 rfl rfl ?_
                    refine r_callV C dp dc_M_plug_137 cw_M_128 cm_M_cables cv_M_cables rfl (mh_0) (k_M_cables hl) (Nat.lt_succ_self _) rfl rfl (Nat.le_of_ble_eq_true rfl) (fun v137 h137 n137 q137 z137 => ?_) (fun _ _ _ _ z => z.elim)
                    obtain ⟨y137, y137h, y137n⟩ := z137
                    rw [y137, y137h, y137n]
                    exact r_iret C dp hr dc_M_plug_140 (Nat.le_refl _) ⟨by unfold mPlug; rw [if_neg (of_decide_eq_false c11), if_neg (of_decide_eq_false c20), if_neg (of_decide_eq_false c34), if_neg (of_decide_eq_false c43), if_neg c48, cl_nI (k := a) (by omega), cl_nI (k := b) (by omega), cl_nI (k := i) (by omega), cl_nI (k := j) (by omega), eo] <;> (dsimp only) <;> rw [eo2] <;> (first | rfl | (simp only [ur_ur]; done) | (simp only [ur_ur]; rfl)), by unfold mPlug; rw [if_neg (of_decide_eq_false c11), if_neg (of_decide_eq_false c20), if_neg (of_decide_eq_false c34), if_neg (of_decide_eq_false c43), if_neg c48, cl_nI (k := a) (by omega), cl_nI (k := b) (by omega), cl_nI (k := i) (by omega), cl_nI (k := j) (by omega), eo] <;> (dsimp only) <;> rw [eo2] <;> (first | rfl | (simp only [ur_ur]; done) | (simp only [ur_ur]; rfl)), rfl⟩
                  · exact absurd m1_lt0 c81
          ·
            first | refine r_aload_n C dc_M_plug_51 rfl rfl ?_ | refine r_aload_nq C dc_M_plug_51 rfl rfl ?_
            refine r_iconst (v := nI 2) C dc_M_plug_52 (by decide) ?_
            refine r_callV C dp dc_M_plug_53 cw_M_124 cm_M_fail cv_M_fail rfl (mh_0) (k_M_fail hl) (Nat.lt_succ_self _) rfl rfl (Nat.le_of_ble_eq_true rfl) (fun v53 h53 n53 q53 z53 => ?_) (fun _ _ _ _ z => z.elim)
            obtain ⟨y53, y53h, y53n⟩ := z53
            rw [y53, y53h, y53n]
            exact r_iret C dp hr dc_M_plug_56 (Nat.le_refl _) ⟨by unfold mPlug; rw [if_neg (of_decide_eq_false c11), if_neg (of_decide_eq_false c20), if_neg (of_decide_eq_false c34), if_neg (of_decide_eq_false c43), if_pos c48] <;> (first | rfl | (simp only [ur_ur]; done) | (simp only [ur_ur]; rfl)), by unfold mPlug; rw [if_neg (of_decide_eq_false c11), if_neg (of_decide_eq_false c20), if_neg (of_decide_eq_false c34), if_neg (of_decide_eq_false c43), if_pos c48] <;> (first | rfl | (simp only [ur_ur]; done) | (simp only [ur_ur]; rfl)), rfl⟩
    ·
      first | refine r_aload_n C dc_M_plug_23 rfl rfl ?_ | refine r_aload_nq C dc_M_plug_23 rfl rfl ?_
      refine r_iconst (v := nI 1) C dc_M_plug_24 (by decide) ?_
      refine r_callV C dp dc_M_plug_25 cw_M_124 cm_M_fail cv_M_fail rfl (mh_0) (k_M_fail hl) (Nat.lt_succ_self _) rfl rfl (Nat.le_of_ble_eq_true rfl) (fun v25 h25 n25 q25 z25 => ?_) (fun _ _ _ _ z => z.elim)
      obtain ⟨y25, y25h, y25n⟩ := z25
      rw [y25, y25h, y25n]
      exact r_iret C dp hr dc_M_plug_28 (Nat.le_refl _) ⟨by unfold mPlug; rw [if_neg (of_decide_eq_false c11), if_pos (of_decide_eq_true c20)] <;> (first | rfl | (simp only [ur_ur]; done) | (simp only [ur_ur]; rfl)), by unfold mPlug; rw [if_neg (of_decide_eq_false c11), if_pos (of_decide_eq_true c20)] <;> (first | rfl | (simp only [ur_ur]; done) | (simp only [ur_ur]; rfl)), rfl⟩
set_option maxRecDepth 4000 in
theorem k_M_ask (hl : l.stackTraces = false) {v0 v1 v2 v3 v4 v5 : Int32} {qn : Nat → Nat} (hqn : ∀ a, a < 12 → x 35 a = nI (qn a)) (hqn6 : ∀ a, a < 12 → qn a ≤ 6) : Ct l D A G my_M_ask cd_M_ask 8 (some (.int)) (df + 1) 0 0 [.ref mm, .int v0, .int v1, .int v2, .int v3, .int v4, .int v5] (MH A mm x h) n (fun v h' n' => v = some (.int (mAsk qn x v0 v1 v2 v3 v4 v5).1) ∧ h' = MH A mm ((mAsk qn x v0 v1 v2 v3 v4 v5).2) h ∧ n' = n) (fun _ _ _ => False) := by
  refine Ct.of (by decide) hl (Nat.le_of_ble_eq_true rfl) ?_
  intro p e s m args below meth c C hr hnm ht dp
  first | refine r_aload_n C dc_M_ask_0 rfl rfl ?_ | refine r_aload_nq C dc_M_ask_0 rfl rfl ?_
  refine r_iconst (v := nI 0) C dc_M_ask_1 (by decide) ?_
  refine r_put C dc_M_ask_2 fl_M_117 mh_0 rfl rfl (Nat.le_of_ble_eq_true rfl) ?_
  rw [mp_0]
  refine r_iload_n C dc_M_ask_5 rfl rfl ?_
  refine r_bipush (v := nI 12) C dc_M_ask_6 (by decide) ?_
  refine r_callS C dp dc_M_ask_8 cw_M_120 cs_M_out (k_M_out hl) (Nat.lt_succ_self _) rfl rfl (Nat.le_of_ble_eq_true rfl) (fun v8 h8 n8 q8 z8 => ?_) (fun _ _ _ _ z => z.elim)
  obtain ⟨y8, y8h, y8n⟩ := z8
  rw [y8, y8h, y8n]
  refine r_if_neZ (tgt := 23) C dc_M_ask_11 (by decide) (fun c11 => ?_) (fun c11 => ?_)
  ·
    first | refine r_aload_n C dc_M_ask_23 rfl rfl ?_ | refine r_aload_nq C dc_M_ask_23 rfl rfl ?_
    refine r_iconst (v := nI 1) C dc_M_ask_24 (by decide) ?_
    refine r_callV C dp dc_M_ask_25 cw_M_124 cm_M_fail cv_M_fail rfl (mh_0) (k_M_fail hl) (Nat.lt_succ_self _) rfl rfl (Nat.le_of_ble_eq_true rfl) (fun v25 h25 n25 q25 z25 => ?_) (fun _ _ _ _ z => z.elim)
    obtain ⟨y25, y25h, y25n⟩ := z25
    rw [y25, y25h, y25n]
    exact r_iret C dp hr dc_M_ask_28 (Nat.le_refl _) ⟨by unfold mAsk; rw [if_pos (of_decide_eq_true c11)] <;> (first | rfl | (simp only [ur_ur]; done) | (simp only [ur_ur]; rfl)), by unfold mAsk; rw [if_pos (of_decide_eq_true c11)] <;> (first | rfl | (simp only [ur_ur]; done) | (simp only [ur_ur]; rfl)), rfl⟩
  ·
    refine r_iload_n C dc_M_ask_14 rfl rfl ?_
    refine r_bipush (v := nI 12) C dc_M_ask_15 (by decide) ?_
    refine r_callS C dp dc_M_ask_17 cw_M_120 cs_M_out (k_M_out hl) (Nat.lt_succ_self _) rfl rfl (Nat.le_of_ble_eq_true rfl) (fun v17 h17 n17 q17 z17 => ?_) (fun _ _ _ _ z => z.elim)
    obtain ⟨y17, y17h, y17n⟩ := z17
    rw [y17, y17h, y17n]
    refine r_if_eqZ (tgt := 29) C dc_M_ask_20 (by decide) (fun c20 => ?_) (fun c20 => ?_)
    ·
      refine r_iload_n C dc_M_ask_29 rfl rfl ?_
      refine r_iconst (v := nI 3) C dc_M_ask_30 (by decide) ?_
      refine r_callS C dp dc_M_ask_31 cw_M_120 cs_M_out (k_M_out hl) (Nat.lt_succ_self _) rfl rfl (Nat.le_of_ble_eq_true rfl) (fun v31 h31 n31 q31 z31 => ?_) (fun _ _ _ _ z => z.elim)
      obtain ⟨y31, y31h, y31n⟩ := z31
      rw [y31, y31h, y31n]
      refine r_if_neZ (tgt := 47) C dc_M_ask_34 (by decide) (fun c34 => ?_) (fun c34 => ?_)
      ·
        first | refine r_aload_n C dc_M_ask_47 rfl rfl ?_ | refine r_aload_nq C dc_M_ask_47 rfl rfl ?_
        refine r_iconst (v := nI 2) C dc_M_ask_48 (by decide) ?_
        refine r_callV C dp dc_M_ask_49 cw_M_124 cm_M_fail cv_M_fail rfl (mh_0) (k_M_fail hl) (Nat.lt_succ_self _) rfl rfl (Nat.le_of_ble_eq_true rfl) (fun v49 h49 n49 q49 z49 => ?_) (fun _ _ _ _ z => z.elim)
        obtain ⟨y49, y49h, y49n⟩ := z49
        rw [y49, y49h, y49n]
        exact r_iret C dp hr dc_M_ask_52 (Nat.le_refl _) ⟨by unfold mAsk; rw [if_neg (of_decide_eq_false c11), if_neg (of_decide_eq_false c20), if_pos (of_decide_eq_true c34)] <;> (first | rfl | (simp only [ur_ur]; done) | (simp only [ur_ur]; rfl)), by unfold mAsk; rw [if_neg (of_decide_eq_false c11), if_neg (of_decide_eq_false c20), if_pos (of_decide_eq_true c34)] <;> (first | rfl | (simp only [ur_ur]; done) | (simp only [ur_ur]; rfl)), rfl⟩
      ·
        refine r_iload C dc_M_ask_37 rfl ?_
        refine r_bipush (v := nI 8) C dc_M_ask_39 (by decide) ?_
        refine r_callS C dp dc_M_ask_41 cw_M_120 cs_M_out (k_M_out hl) (Nat.lt_succ_self _) rfl rfl (Nat.le_of_ble_eq_true rfl) (fun v41 h41 n41 q41 z41 => ?_) (fun _ _ _ _ z => z.elim)
        obtain ⟨y41, y41h, y41n⟩ := z41
        rw [y41, y41h, y41n]
        refine r_if_eqZ (tgt := 53) C dc_M_ask_44 (by decide) (fun c44 => ?_) (fun c44 => ?_)
        ·
          obtain ⟨a, ha, rfl⟩ := nd_of (of_decide_eq_false c11)
          have a85 : ∀ k, k ≤ 4 → fstF (fun k => decide (¬ x 20 (4 * a + k) = -1)) 4 0 = (if k < 4 then some k else none) → Rw p l e (cR (df + 1) 0 0) s m args below meth c (CQ D G n (fun v h' n' => v = some (.int (mAsk qn x (nI a) v1 v2 v3 v4 v5).1) ∧ h' = MH A mm ((mAsk qn x (nI a) v1 v2 v3 v4 v5).2) h ∧ n' = n) (fun _ _ _ => False) below args s 0 0) D G 8 0 0 (MH A mm (th x 0) h) n [(0, .ref mm), (1, .int (nI a)), (2, .int v1), (3, .int v2), (4, .int v3), (5, .int v4), (6, .int v5), (7, .int (nI (4 * a + k)))] 85 [] := by
            intro k hk4 hpre
            refine r_iload C dc_M_ask_85 rfl ?_
            refine r_iconst (v := nI 4) C dc_M_ask_87 (by decide) ?_
            refine r_iload_n C dc_M_ask_88 rfl rfl ?_
            first | refine r_imulN C dc_M_ask_89 ?_ | refine r_imul C dc_M_ask_89 ?_
            refine r_iconst (v := nI 4) C dc_M_ask_90 (by decide) ?_
            first | refine r_iaddN C dc_M_ask_91 ?_ | refine r_iadd C dc_M_ask_91 ?_
            refine r_icmp_neN (tgt := 101) C dc_M_ask_92 (by decide) (by omega) (by omega) (fun c92 => ?_) (fun c92 => ?_)
            ·
              rw [if_pos (by omega)] at hpre
              have hqa := hqn a ha
              have hq6 := hqn6 a ha
              first | refine r_aload_n C dc_M_ask_101 rfl rfl ?_ | refine r_aload_nq C dc_M_ask_101 rfl rfl ?_
              refine r_get C dc_M_ask_102 fl_M_110 mh_0 rfl ?_
              refine r_iload_n C dc_M_ask_105 rfl rfl ?_
              refine r_ialdN C dc_M_ask_106 mh_35 (by omega) (by decide) ?_
              refine sb_at (P := fun v => Rw _ _ _ _ _ _ _ _ _ _ _ _ _ _ _ _ _ _ _ _ (.int v :: _)) (show _ = nI (qn a) from hqa) ?_
              refine r_bipush (v := nI 6) C dc_M_ask_107 (by decide) ?_
              refine r_icmp_neN (tgt := 118) C dc_M_ask_109 (by decide) (by omega) (by omega) (fun c109 => ?_) (fun c109 => ?_)
              ·
                first | refine r_aload_n C dc_M_ask_118 rfl rfl ?_ | refine r_aload_nq C dc_M_ask_118 rfl rfl ?_
                refine r_dup C dc_M_ask_119 rfl ?_
                refine r_get C dc_M_ask_120 fl_M_133 mh_0 rfl ?_
                refine r_iconst (v := nI 1) C dc_M_ask_123 (by decide) ?_
                first | refine r_iaddN C dc_M_ask_124 ?_ | refine r_iadd C dc_M_ask_124 ?_
                refine r_put C dc_M_ask_125 fl_M_133 mh_0 rfl rfl (Nat.le_of_ble_eq_true rfl) ?_
                rw [mp_29]
                first | refine r_aload_n C dc_M_ask_128 rfl rfl ?_ | refine r_aload_nq C dc_M_ask_128 rfl rfl ?_
                refine r_get C dc_M_ask_129 fl_M_68 mh_0 rfl ?_
                refine r_iload C dc_M_ask_132 rfl ?_
                refine r_iconst (v := -1) C dc_M_ask_134 (by decide) ?_
                refine r_iast C dc_M_ask_135 mh_20 rfl (by omega) (by decide) ?_
                rw [ms_20]
                first | refine r_aload_n C dc_M_ask_136 rfl rfl ?_ | refine r_aload_nq C dc_M_ask_136 rfl rfl ?_
                refine r_get C dc_M_ask_137 fl_M_71 mh_0 rfl ?_
                refine r_iload C dc_M_ask_140 rfl ?_
                refine r_iload_n C dc_M_ask_142 rfl rfl ?_
                refine r_iast C dc_M_ask_143 mh_21 rfl (by omega) (by decide) ?_
                rw [ms_21]
                first | refine r_aload_n C dc_M_ask_144 rfl rfl ?_ | refine r_aload_nq C dc_M_ask_144 rfl rfl ?_
                refine r_get C dc_M_ask_145 fl_M_74 mh_0 rfl ?_
                refine r_iload C dc_M_ask_148 rfl ?_
                refine r_iload_n C dc_M_ask_150 rfl rfl ?_
                refine r_iast C dc_M_ask_151 mh_22 rfl (by omega) (by decide) ?_
                rw [ms_22]
                first | refine r_aload_n C dc_M_ask_152 rfl rfl ?_ | refine r_aload_nq C dc_M_ask_152 rfl rfl ?_
                refine r_get C dc_M_ask_153 fl_M_77 mh_0 rfl ?_
                refine r_iload C dc_M_ask_156 rfl ?_
                refine r_iload C dc_M_ask_158 rfl ?_
                refine r_iast C dc_M_ask_160 mh_23 rfl (by omega) (by decide) ?_
                rw [ms_23]
                first | refine r_aload_n C dc_M_ask_161 rfl rfl ?_ | refine r_aload_nq C dc_M_ask_161 rfl rfl ?_
                refine r_get C dc_M_ask_162 fl_M_80 mh_0 rfl ?_
                refine r_iload C dc_M_ask_165 rfl ?_
                refine r_iload C dc_M_ask_167 rfl ?_
                refine r_iast C dc_M_ask_169 mh_24 rfl (by omega) (by decide) ?_
                rw [ms_24]
                first | refine r_aload_n C dc_M_ask_170 rfl rfl ?_ | refine r_aload_nq C dc_M_ask_170 rfl rfl ?_
                refine r_get C dc_M_ask_171 fl_M_83 mh_0 rfl ?_
                refine r_iload C dc_M_ask_174 rfl ?_
                refine r_iload C dc_M_ask_176 rfl ?_
                refine r_iast C dc_M_ask_178 mh_25 rfl (by omega) (by decide) ?_
                rw [ms_25]
                first | refine r_aload_n C dc_M_ask_179 rfl rfl ?_ | refine r_aload_nq C dc_M_ask_179 rfl rfl ?_
                refine r_get C dc_M_ask_180 fl_M_89 mh_0 rfl ?_
                refine r_iload C dc_M_ask_183 rfl ?_
                first | refine r_aload_n C dc_M_ask_185 rfl rfl ?_ | refine r_aload_nq C dc_M_ask_185 rfl rfl ?_
                refine r_get C dc_M_ask_186 fl_M_136 mh_0 rfl ?_
                first | refine r_aload_n C dc_M_ask_189 rfl rfl ?_ | refine r_aload_nq C dc_M_ask_189 rfl rfl ?_
                refine r_get C dc_M_ask_190 fl_M_113 mh_0 rfl ?_
                first | refine r_iaddN C dc_M_ask_193 ?_ | refine r_iadd C dc_M_ask_193 ?_
                refine r_iast C dc_M_ask_194 mh_27 rfl (by omega) (by decide) ?_
                rw [ms_27]
                first | refine r_aload_n C dc_M_ask_195 rfl rfl ?_ | refine r_aload_nq C dc_M_ask_195 rfl rfl ?_
                refine r_get C dc_M_ask_196 fl_M_92 mh_0 rfl ?_
                refine r_iload C dc_M_ask_199 rfl ?_
                first | refine r_aload_n C dc_M_ask_201 rfl rfl ?_ | refine r_aload_nq C dc_M_ask_201 rfl rfl ?_
                refine r_get C dc_M_ask_202 fl_M_133 mh_0 rfl ?_
                refine r_iast C dc_M_ask_205 mh_28 rfl (by omega) (by decide) ?_
                rw [ms_28]
                first | refine r_aload_n C dc_M_ask_206 rfl rfl ?_ | refine r_aload_nq C dc_M_ask_206 rfl rfl ?_
                refine r_iload_n C dc_M_ask_207 rfl rfl ?_
                refine r_iload C dc_M_ask_208 rfl ?_
                first | refine r_aload_n C dc_M_ask_210 rfl rfl ?_ | refine r_aload_nq C dc_M_ask_210 rfl rfl ?_
                refine r_get C dc_M_ask_211 fl_M_133 mh_0 rfl ?_
                refine r_iconst (v := nI 0) C dc_M_ask_214 (by decide) ?_
                refine r_iconst (v := nI 0) C dc_M_ask_215 (by decide) ?_
                refine r_iconst (v := nI 0) C dc_M_ask_216 (by decide) ?_
                refine r_callV C dp dc_M_ask_217 cw_M_139 cm_M_put cv_M_put rfl (mh_0) (k_M_put (an := false) (k := qn a) hl ha (by exact hqa) (by omega)) (Nat.lt_succ_self _) rfl rfl (Nat.le_of_ble_eq_true rfl) (fun v217 h217 n217 q217 z217 => ?_) (fun _ _ _ _ z => z.elim)
                obtain ⟨y217, y217h, y217n⟩ := z217
                rw [y217, y217h, y217n]
                refine r_iload C dc_M_ask_220 rfl ?_
                refine r_iconst (v := nI 4) C dc_M_ask_222 (by decide) ?_
                refine r_iload_n C dc_M_ask_223 rfl rfl ?_
                first | refine r_imulN C dc_M_ask_224 ?_ | refine r_imul C dc_M_ask_224 ?_
                first | refine r_isubN C dc_M_ask_225 (by omega) ?_ | refine r_isub C dc_M_ask_225 ?_
                rw [Nat.add_sub_cancel_left]
                exact r_iret C dp hr dc_M_ask_226 (Nat.le_refl _) ⟨by unfold mAsk; rw [if_neg (of_decide_eq_false c11), if_neg (of_decide_eq_false c20), if_neg (of_decide_eq_false c34), if_neg (of_decide_eq_false c44), cl_nI (k := a) (by omega), hpre] <;> (dsimp only) <;> rw [if_neg (show ¬ qn a = 6 by omega)] <;> (first | rfl | (simp only [ur_ur]; done) | (simp only [ur_ur]; rfl)), by unfold mAsk; rw [if_neg (of_decide_eq_false c11), if_neg (of_decide_eq_false c20), if_neg (of_decide_eq_false c34), if_neg (of_decide_eq_false c44), cl_nI (k := a) (by omega), hpre] <;> (dsimp only) <;> rw [if_neg (show ¬ qn a = 6 by omega)] <;> (first | rfl | (simp only [ur_ur]; done) | (simp only [ur_ur]; rfl)), rfl⟩
              ·
                first | refine r_aload_n C dc_M_ask_112 rfl rfl ?_ | refine r_aload_nq C dc_M_ask_112 rfl rfl ?_
                refine r_iconst (v := nI 4) C dc_M_ask_113 (by decide) ?_
                refine r_callV C dp dc_M_ask_114 cw_M_124 cm_M_fail cv_M_fail rfl (mh_0) (k_M_fail hl) (Nat.lt_succ_self _) rfl rfl (Nat.le_of_ble_eq_true rfl) (fun v114 h114 n114 q114 z114 => ?_) (fun _ _ _ _ z => z.elim)
                obtain ⟨y114, y114h, y114n⟩ := z114
                rw [y114, y114h, y114n]
                exact r_iret C dp hr dc_M_ask_117 (Nat.le_refl _) ⟨by unfold mAsk; rw [if_neg (of_decide_eq_false c11), if_neg (of_decide_eq_false c20), if_neg (of_decide_eq_false c34), if_neg (of_decide_eq_false c44), cl_nI (k := a) (by omega), hpre] <;> (dsimp only) <;> rw [if_pos (show qn a = 6 by omega)] <;> (first | rfl | (simp only [ur_ur]; done) | (simp only [ur_ur]; rfl)), by unfold mAsk; rw [if_neg (of_decide_eq_false c11), if_neg (of_decide_eq_false c20), if_neg (of_decide_eq_false c34), if_neg (of_decide_eq_false c44), cl_nI (k := a) (by omega), hpre] <;> (dsimp only) <;> rw [if_pos (show qn a = 6 by omega)] <;> (first | rfl | (simp only [ur_ur]; done) | (simp only [ur_ur]; rfl)), rfl⟩
            ·
              rw [if_neg (by omega)] at hpre
              first | refine r_aload_n C dc_M_ask_95 rfl rfl ?_ | refine r_aload_nq C dc_M_ask_95 rfl rfl ?_
              refine r_iconst (v := nI 3) C dc_M_ask_96 (by decide) ?_
              refine r_callV C dp dc_M_ask_97 cw_M_124 cm_M_fail cv_M_fail rfl (mh_0) (k_M_fail hl) (Nat.lt_succ_self _) rfl rfl (Nat.le_of_ble_eq_true rfl) (fun v97 h97 n97 q97 z97 => ?_) (fun _ _ _ _ z => z.elim)
              obtain ⟨y97, y97h, y97n⟩ := z97
              rw [y97, y97h, y97n]
              exact r_iret C dp hr dc_M_ask_100 (Nat.le_refl _) ⟨by unfold mAsk; rw [if_neg (of_decide_eq_false c11), if_neg (of_decide_eq_false c20), if_neg (of_decide_eq_false c34), if_neg (of_decide_eq_false c44), cl_nI (k := a) (by omega), hpre] <;> (first | rfl | (simp only [ur_ur]; done) | (simp only [ur_ur]; rfl)), by unfold mAsk; rw [if_neg (of_decide_eq_false c11), if_neg (of_decide_eq_false c20), if_neg (of_decide_eq_false c34), if_neg (of_decide_eq_false c44), cl_nI (k := a) (by omega), hpre] <;> (first | rfl | (simp only [ur_ur]; done) | (simp only [ur_ur]; rfl)), rfl⟩
          have loop : ∀ k, k ≤ 4 → fstF (fun k => decide (¬ x 20 (4 * a + k) = -1)) 4 0 = fstF (fun k => decide (¬ x 20 (4 * a + k) = -1)) (4 - k) k → Rw p l e (cR (df + 1) 0 0) s m args below meth c (CQ D G n (fun v h' n' => v = some (.int (mAsk qn x (nI a) v1 v2 v3 v4 v5).1) ∧ h' = MH A mm ((mAsk qn x (nI a) v1 v2 v3 v4 v5).2) h ∧ n' = n) (fun _ _ _ => False) below args s 0 0) D G 8 0 0 (MH A mm (th x 0) h) n [(0, .ref mm), (1, .int (nI a)), (2, .int v1), (3, .int v2), (4, .int v3), (5, .int v4), (6, .int v5), (7, .int (nI (4 * a + k)))] 58 [] := by
            refine r_loop 4 _ ?_ ?_
            ·
              intro hpre
              refine r_iload C dc_M_ask_58 rfl ?_
              refine r_iconst (v := nI 4) C dc_M_ask_60 (by decide) ?_
              refine r_iload_n C dc_M_ask_61 rfl rfl ?_
              first | refine r_imulN C dc_M_ask_62 ?_ | refine r_imul C dc_M_ask_62 ?_
              refine r_iconst (v := nI 4) C dc_M_ask_63 (by decide) ?_
              first | refine r_iaddN C dc_M_ask_64 ?_ | refine r_iadd C dc_M_ask_64 ?_
              refine r_icmp_geN (tgt := 85) C dc_M_ask_65 (by decide) (by omega) (by omega) (fun c65 => ?_) (fun c65 => ?_)
              · exact a85 4 (by omega) (by rw [if_neg (by omega)]; exact hpre.trans fst_n)
              · exact absurd c65 (by omega)
            ·
              intro k hk ih hpre
              refine r_iload C dc_M_ask_58 rfl ?_
              refine r_iconst (v := nI 4) C dc_M_ask_60 (by decide) ?_
              refine r_iload_n C dc_M_ask_61 rfl rfl ?_
              first | refine r_imulN C dc_M_ask_62 ?_ | refine r_imul C dc_M_ask_62 ?_
              refine r_iconst (v := nI 4) C dc_M_ask_63 (by decide) ?_
              first | refine r_iaddN C dc_M_ask_64 ?_ | refine r_iadd C dc_M_ask_64 ?_
              refine r_icmp_geN (tgt := 85) C dc_M_ask_65 (by decide) (by omega) (by omega) (fun c65 => ?_) (fun c65 => ?_)
              · exact absurd c65 (by omega)
              ·
                first | refine r_aload_n C dc_M_ask_68 rfl rfl ?_ | refine r_aload_nq C dc_M_ask_68 rfl rfl ?_
                refine r_get C dc_M_ask_69 fl_M_68 mh_0 rfl ?_
                refine r_iload C dc_M_ask_72 rfl ?_
                refine r_ialdN C dc_M_ask_74 mh_20 (by omega) (by decide) ?_
                refine r_iconst (v := -1) C dc_M_ask_75 (by decide) ?_
                refine r_icmp_ne (tgt := 85) C dc_M_ask_76 (by decide) (fun c76 => ?_) (fun c76 => ?_)
                · exact a85 k (by omega) (by rw [if_pos hk]; exact hpre.trans (fst_1 hk (decide_eq_true c76)))
                ·
                  have e9 := fst_0 (P := fun k => decide (¬ x 20 (4 * a + k) = -1)) hk (decide_eq_false (fun z => z c76))
                  first | refine r_iincN C dc_M_ask_79 rfl (by decide) (nw_of rfl) ?_ | refine r_iinc C dc_M_ask_79 rfl rfl (by decide) (nw_of rfl) ?_
                  refine r_goto (tgt := 58) C dc_M_ask_82 (by decide) ?_
                  refine r_weak ?_ (ih (hpre.trans e9))
                  exact wl_c (rfl) (wl_c (rfl) (wl_c (rfl) (wl_c (rfl) (wl_c (rfl) (wl_c (rfl) (wl_c (rfl) (wl_c (rfl) (wl_n))))))))
          refine r_iconst (v := nI 4) C dc_M_ask_53 (by decide) ?_
          refine r_iload_n C dc_M_ask_54 rfl rfl ?_
          first | refine r_imulN C dc_M_ask_55 ?_ | refine r_imul C dc_M_ask_55 ?_
          refine r_istore C dc_M_ask_56 (by decide) (nw_of rfl) ?_
          refine r_weak ?_ (loop 0 (by omega) rfl)
          exact wl_c (rfl) (wl_c (rfl) (wl_c (rfl) (wl_c (rfl) (wl_c (rfl) (wl_c (rfl) (wl_c (rfl) (wl_c (rfl) (wl_n))))))))
        ·
          first | refine r_aload_n C dc_M_ask_47 rfl rfl ?_ | refine r_aload_nq C dc_M_ask_47 rfl rfl ?_
          refine r_iconst (v := nI 2) C dc_M_ask_48 (by decide) ?_
          refine r_callV C dp dc_M_ask_49 cw_M_124 cm_M_fail cv_M_fail rfl (mh_0) (k_M_fail hl) (Nat.lt_succ_self _) rfl rfl (Nat.le_of_ble_eq_true rfl) (fun v49 h49 n49 q49 z49 => ?_) (fun _ _ _ _ z => z.elim)
          obtain ⟨y49, y49h, y49n⟩ := z49
          rw [y49, y49h, y49n]
          exact r_iret C dp hr dc_M_ask_52 (Nat.le_refl _) ⟨by unfold mAsk; rw [if_neg (of_decide_eq_false c11), if_neg (of_decide_eq_false c20), if_neg (of_decide_eq_false c34), if_pos (of_decide_eq_true c44)] <;> (first | rfl | (simp only [ur_ur]; done) | (simp only [ur_ur]; rfl)), by unfold mAsk; rw [if_neg (of_decide_eq_false c11), if_neg (of_decide_eq_false c20), if_neg (of_decide_eq_false c34), if_pos (of_decide_eq_true c44)] <;> (first | rfl | (simp only [ur_ur]; done) | (simp only [ur_ur]; rfl)), rfl⟩
    ·
      first | refine r_aload_n C dc_M_ask_23 rfl rfl ?_ | refine r_aload_nq C dc_M_ask_23 rfl rfl ?_
      refine r_iconst (v := nI 1) C dc_M_ask_24 (by decide) ?_
      refine r_callV C dp dc_M_ask_25 cw_M_124 cm_M_fail cv_M_fail rfl (mh_0) (k_M_fail hl) (Nat.lt_succ_self _) rfl rfl (Nat.le_of_ble_eq_true rfl) (fun v25 h25 n25 q25 z25 => ?_) (fun _ _ _ _ z => z.elim)
      obtain ⟨y25, y25h, y25n⟩ := z25
      rw [y25, y25h, y25n]
      exact r_iret C dp hr dc_M_ask_28 (Nat.le_refl _) ⟨by unfold mAsk; rw [if_neg (of_decide_eq_false c11), if_pos (of_decide_eq_true c20)] <;> (first | rfl | (simp only [ur_ur]; done) | (simp only [ur_ur]; rfl)), by unfold mAsk; rw [if_neg (of_decide_eq_false c11), if_pos (of_decide_eq_true c20)] <;> (first | rfl | (simp only [ur_ur]; done) | (simp only [ur_ur]; rfl)), rfl⟩
end Model7
