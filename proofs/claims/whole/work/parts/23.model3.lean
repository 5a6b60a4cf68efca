section Model3
variable {l : Launch} {D : va_G} {A : Nat → ClassId} {G : Heap} {h : Hp} {n mm df : Nat} {x : Nat → Nat → Int32}
abbrev th (x : Nat → Nat → Int32) (k : Nat) : Nat → Nat → Int32 := ur x 0 (fun _ => nI k)
abbrev ou (v : Int32) (k : Nat) : Prop := v < 0 ∨ nI k ≤ v
abbrev cl (v : Int32) : Nat := v.toNatClampNeg
theorem cl_nI {k : Nat} (q : k < 2 ^ 31) : cl (nI k) = k := nI_clamp q
theorem r_ldc {p : Program} {e : Env} {R : Room} {s : State} {m : MethodId} {args : Array Value} {below : List Frame} {meth : Method} {c : Code} {Q : State → Prop} {cc : ByteArray} {nL : Nat} {own : String} {bc bs : Nat} {lo : List (Nat × Value)} {pc : Nat} {st : List Value} {index : Nat} {v : Int32} (C : Cx p l s m args meth c D A G cc nL own) (d : decode cc pc = .ok (.ldc index, 2)) (hw : Cond.constant own index v ∈ tbl) (k : Rw p l e R s m args below meth c Q D G nL bc bs h n lo (pc + 2) (.int v :: st)) : Rw p l e R s m args below meth c Q D G nL bc bs h n lo pc st :=
  fun H ls locs cells slots hR hz hl hf hc hs => lv_ldc C.1 C.2.1 C.2.2.2.1 (C.2.2.2.2.1.w hw) d (k H ls locs cells slots hR hz hl hf hc hs)
def mWord (x : Nat → Nat → Int32) (a w : Int32) : Int32 × (Nat → Nat → Int32) := if ou a 12 then (nI 0, th x 1) else if ou w 8 then (nI 0, th x 2) else (x 13 (8 * cl a + cl w), th x 0)
set_option maxRecDepth 4000 in
theorem k_M_word (hl : l.stackTraces = false) {v0 v1 : Int32} : Ct l D A G my_M_word cd_M_word 3 (some (.int)) (df + 1) 0 0 [.ref mm, .int v0, .int v1] (MH A mm x h) n (fun v h' n' => v = some (.int (mWord x v0 v1).1) ∧ h' = MH A mm ((mWord x v0 v1).2) h ∧ n' = n) (fun _ _ _ => False) := by
  refine Ct.of (by decide) hl (Nat.le_of_ble_eq_true rfl) ?_
  intro p e s m args below meth c C hr hnm ht dp
  first | refine r_aload_n C dc_M_word_0 rfl rfl ?_ | refine r_aload_nq C dc_M_word_0 rfl rfl ?_
  refine r_iconst (v := nI 0) C dc_M_word_1 (by decide) ?_
  refine r_put C dc_M_word_2 fl_M_117 mh_0 rfl rfl (Nat.le_of_ble_eq_true rfl) ?_
  rw [mp_0]
  refine r_iload_n C dc_M_word_5 rfl rfl ?_
  refine r_bipush (v := nI 12) C dc_M_word_6 (by decide) ?_
  refine r_callS C dp dc_M_word_8 cw_M_120 cs_M_out (k_M_out hl) (Nat.lt_succ_self _) rfl rfl (Nat.le_of_ble_eq_true rfl) (fun v8 h8 n8 q8 z8 => ?_) (fun _ _ _ _ z => z.elim)
  obtain ⟨y8, y8h, y8n⟩ := z8
  rw [y8, y8h, y8n]
  refine r_if_eqZ (tgt := 20) C dc_M_word_11 (by decide) (fun c11 => ?_) (fun c11 => ?_)
  ·
    refine r_iload_n C dc_M_word_20 rfl rfl ?_
    refine r_bipush (v := nI 8) C dc_M_word_21 (by decide) ?_
    refine r_callS C dp dc_M_word_23 cw_M_120 cs_M_out (k_M_out hl) (Nat.lt_succ_self _) rfl rfl (Nat.le_of_ble_eq_true rfl) (fun v23 h23 n23 q23 z23 => ?_) (fun _ _ _ _ z => z.elim)
    obtain ⟨y23, y23h, y23n⟩ := z23
    rw [y23, y23h, y23n]
    refine r_if_eqZ (tgt := 37) C dc_M_word_26 (by decide) (fun c26 => ?_) (fun c26 => ?_)
    ·
      obtain ⟨a, ha, rfl⟩ := nd_of (of_decide_eq_false c11)
      obtain ⟨j, hj, rfl⟩ := nd_of (of_decide_eq_false c26)
      first | refine r_aload_n C dc_M_word_37 rfl rfl ?_ | refine r_aload_nq C dc_M_word_37 rfl rfl ?_
      refine r_get C dc_M_word_38 fl_M_47 mh_0 rfl ?_
      refine r_bipush (v := nI 8) C dc_M_word_41 (by decide) ?_
      refine r_iload_n C dc_M_word_43 rfl rfl ?_
      first | refine r_imulN C dc_M_word_44 ?_ | refine r_imul C dc_M_word_44 ?_
      refine r_iload_n C dc_M_word_45 rfl rfl ?_
      first | refine r_iaddN C dc_M_word_46 ?_ | refine r_iadd C dc_M_word_46 ?_
      refine r_ialdN C dc_M_word_47 mh_13 (by omega) (by decide) ?_
      exact r_iret C dp hr dc_M_word_48 (Nat.le_refl _) ⟨by unfold mWord; rw [if_neg (of_decide_eq_false c11), if_neg (of_decide_eq_false c26), cl_nI (k := a) (by omega), cl_nI (k := j) (by omega)] <;> (first | rfl | (simp only [ur_ur]; done) | (simp only [ur_ur]; rfl)), by unfold mWord; rw [if_neg (of_decide_eq_false c11), if_neg (of_decide_eq_false c26), cl_nI (k := a) (by omega), cl_nI (k := j) (by omega)] <;> (first | rfl | (simp only [ur_ur]; done) | (simp only [ur_ur]; rfl)), rfl⟩
    ·
      first | refine r_aload_n C dc_M_word_29 rfl rfl ?_ | refine r_aload_nq C dc_M_word_29 rfl rfl ?_
      refine r_iconst (v := nI 2) C dc_M_word_30 (by decide) ?_
      refine r_callV C dp dc_M_word_31 cw_M_124 cm_M_fail cv_M_fail rfl (mh_0) (k_M_fail hl) (Nat.lt_succ_self _) rfl rfl (Nat.le_of_ble_eq_true rfl) (fun v31 h31 n31 q31 z31 => ?_) (fun _ _ _ _ z => z.elim)
      obtain ⟨y31, y31h, y31n⟩ := z31
      rw [y31, y31h, y31n]
      refine r_goto (tgt := 48) C dc_M_word_34 (by decide) ?_
      exact r_iret C dp hr dc_M_word_48 (Nat.le_refl _) ⟨by unfold mWord; rw [if_neg (of_decide_eq_false c11), if_pos (of_decide_eq_true c26)] <;> (first | rfl | (simp only [ur_ur]; done) | (simp only [ur_ur]; rfl)), by unfold mWord; rw [if_neg (of_decide_eq_false c11), if_pos (of_decide_eq_true c26)] <;> (first | rfl | (simp only [ur_ur]; done) | (simp only [ur_ur]; rfl)), rfl⟩
  ·
    first | refine r_aload_n C dc_M_word_14 rfl rfl ?_ | refine r_aload_nq C dc_M_word_14 rfl rfl ?_
    refine r_iconst (v := nI 1) C dc_M_word_15 (by decide) ?_
    refine r_callV C dp dc_M_word_16 cw_M_124 cm_M_fail cv_M_fail rfl (mh_0) (k_M_fail hl) (Nat.lt_succ_self _) rfl rfl (Nat.le_of_ble_eq_true rfl) (fun v16 h16 n16 q16 z16 => ?_) (fun _ _ _ _ z => z.elim)
    obtain ⟨y16, y16h, y16n⟩ := z16
    rw [y16, y16h, y16n]
    exact r_iret C dp hr dc_M_word_19 (Nat.le_refl _) ⟨by unfold mWord; rw [if_pos (of_decide_eq_true c11)] <;> (first | rfl | (simp only [ur_ur]; done) | (simp only [ur_ur]; rfl)), by unfold mWord; rw [if_pos (of_decide_eq_true c11)] <;> (first | rfl | (simp only [ur_ur]; done) | (simp only [ur_ur]; rfl)), rfl⟩
def mEnded (x : Nat → Nat → Int32) (a w : Int32) : Int32 × (Nat → Nat → Int32) := if ou a 12 then (nI 0, th x 1) else if ou w 4 then (nI 0, th x 2) else if x 20 (4 * cl a + cl w) = -2 then (nI 0, th x 3) else (x 20 (4 * cl a + cl w), th x 0)
set_option maxRecDepth 4000 in
theorem k_M_ended (hl : l.stackTraces = false) {v0 v1 : Int32} : Ct l D A G my_M_ended cd_M_ended 3 (some (.int)) (df + 1) 0 0 [.ref mm, .int v0, .int v1] (MH A mm x h) n (fun v h' n' => v = some (.int (mEnded x v0 v1).1) ∧ h' = MH A mm ((mEnded x v0 v1).2) h ∧ n' = n) (fun _ _ _ => False) := by
  refine Ct.of (by decide) hl (Nat.le_of_ble_eq_true rfl) ?_
  intro p e s m args below meth c C hr hnm ht dp
  first | refine r_aload_n C dc_M_ended_0 rfl rfl ?_ | refine r_aload_nq C dc_M_ended_0 rfl rfl ?_
  refine r_iconst (v := nI 0) C dc_M_ended_1 (by decide) ?_
  refine r_put C dc_M_ended_2 fl_M_117 mh_0 rfl rfl (Nat.le_of_ble_eq_true rfl) ?_
  rw [mp_0]
  refine r_iload_n C dc_M_ended_5 rfl rfl ?_
  refine r_bipush (v := nI 12) C dc_M_ended_6 (by decide) ?_
  refine r_callS C dp dc_M_ended_8 cw_M_120 cs_M_out (k_M_out hl) (Nat.lt_succ_self _) rfl rfl (Nat.le_of_ble_eq_true rfl) (fun v8 h8 n8 q8 z8 => ?_) (fun _ _ _ _ z => z.elim)
  obtain ⟨y8, y8h, y8n⟩ := z8
  rw [y8, y8h, y8n]
  refine r_if_eqZ (tgt := 20) C dc_M_ended_11 (by decide) (fun c11 => ?_) (fun c11 => ?_)
  ·
    refine r_iload_n C dc_M_ended_20 rfl rfl ?_
    refine r_iconst (v := nI 4) C dc_M_ended_21 (by decide) ?_
    refine r_callS C dp dc_M_ended_22 cw_M_120 cs_M_out (k_M_out hl) (Nat.lt_succ_self _) rfl rfl (Nat.le_of_ble_eq_true rfl) (fun v22 h22 n22 q22 z22 => ?_) (fun _ _ _ _ z => z.elim)
    obtain ⟨y22, y22h, y22n⟩ := z22
    rw [y22, y22h, y22n]
    refine r_if_eqZ (tgt := 34) C dc_M_ended_25 (by decide) (fun c25 => ?_) (fun c25 => ?_)
    ·
      obtain ⟨a, ha, rfl⟩ := nd_of (of_decide_eq_false c11)
      obtain ⟨j, hj, rfl⟩ := nd_of (of_decide_eq_false c25)
      first | refine r_aload_n C dc_M_ended_34 rfl rfl ?_ | refine r_aload_nq C dc_M_ended_34 rfl rfl ?_
      refine r_get C dc_M_ended_35 fl_M_68 mh_0 rfl ?_
      refine r_iconst (v := nI 4) C dc_M_ended_38 (by decide) ?_
      refine r_iload_n C dc_M_ended_39 rfl rfl ?_
      first | refine r_imulN C dc_M_ended_40 ?_ | refine r_imul C dc_M_ended_40 ?_
      refine r_iload_n C dc_M_ended_41 rfl rfl ?_
      first | refine r_iaddN C dc_M_ended_42 ?_ | refine r_iadd C dc_M_ended_42 ?_
      refine r_ialdN C dc_M_ended_43 mh_20 (by omega) (by decide) ?_
      refine r_bipush (v := -2) C dc_M_ended_44 (by decide) ?_
      refine r_icmp_ne (tgt := 57) C dc_M_ended_46 (by decide) (fun c46 => ?_) (fun c46 => ?_)
      ·
        first | refine r_aload_n C dc_M_ended_57 rfl rfl ?_ | refine r_aload_nq C dc_M_ended_57 rfl rfl ?_
        refine r_get C dc_M_ended_58 fl_M_68 mh_0 rfl ?_
        refine r_iconst (v := nI 4) C dc_M_ended_61 (by decide) ?_
        refine r_iload_n C dc_M_ended_62 rfl rfl ?_
        first | refine r_imulN C dc_M_ended_63 ?_ | refine r_imul C dc_M_ended_63 ?_
        refine r_iload_n C dc_M_ended_64 rfl rfl ?_
        first | refine r_iaddN C dc_M_ended_65 ?_ | refine r_iadd C dc_M_ended_65 ?_
        refine r_ialdN C dc_M_ended_66 mh_20 (by omega) (by decide) ?_
        exact r_iret C dp hr dc_M_ended_67 (Nat.le_refl _) ⟨by unfold mEnded; rw [if_neg (of_decide_eq_false c11), if_neg (of_decide_eq_false c25), cl_nI (k := a) (by omega), cl_nI (k := j) (by omega), if_neg (show ¬ x 20 (4 * a + j) = -2 from c46)] <;> (first | rfl | (simp only [ur_ur]; done) | (simp only [ur_ur]; rfl)), by unfold mEnded; rw [if_neg (of_decide_eq_false c11), if_neg (of_decide_eq_false c25), cl_nI (k := a) (by omega), cl_nI (k := j) (by omega), if_neg (show ¬ x 20 (4 * a + j) = -2 from c46)] <;> (first | rfl | (simp only [ur_ur]; done) | (simp only [ur_ur]; rfl)), rfl⟩
      ·
        first | refine r_aload_n C dc_M_ended_49 rfl rfl ?_ | refine r_aload_nq C dc_M_ended_49 rfl rfl ?_
        refine r_iconst (v := nI 3) C dc_M_ended_50 (by decide) ?_
        refine r_callV C dp dc_M_ended_51 cw_M_124 cm_M_fail cv_M_fail rfl (mh_0) (k_M_fail hl) (Nat.lt_succ_self _) rfl rfl (Nat.le_of_ble_eq_true rfl) (fun v51 h51 n51 q51 z51 => ?_) (fun _ _ _ _ z => z.elim)
        obtain ⟨y51, y51h, y51n⟩ := z51
        rw [y51, y51h, y51n]
        refine r_goto (tgt := 67) C dc_M_ended_54 (by decide) ?_
        exact r_iret C dp hr dc_M_ended_67 (Nat.le_refl _) ⟨by unfold mEnded; rw [if_neg (of_decide_eq_false c11), if_neg (of_decide_eq_false c25), cl_nI (k := a) (by omega), cl_nI (k := j) (by omega), if_pos (show x 20 (4 * a + j) = -2 from c46)] <;> (first | rfl | (simp only [ur_ur]; done) | (simp only [ur_ur]; rfl)), by unfold mEnded; rw [if_neg (of_decide_eq_false c11), if_neg (of_decide_eq_false c25), cl_nI (k := a) (by omega), cl_nI (k := j) (by omega), if_pos (show x 20 (4 * a + j) = -2 from c46)] <;> (first | rfl | (simp only [ur_ur]; done) | (simp only [ur_ur]; rfl)), rfl⟩
    ·
      first | refine r_aload_n C dc_M_ended_28 rfl rfl ?_ | refine r_aload_nq C dc_M_ended_28 rfl rfl ?_
      refine r_iconst (v := nI 2) C dc_M_ended_29 (by decide) ?_
      refine r_callV C dp dc_M_ended_30 cw_M_124 cm_M_fail cv_M_fail rfl (mh_0) (k_M_fail hl) (Nat.lt_succ_self _) rfl rfl (Nat.le_of_ble_eq_true rfl) (fun v30 h30 n30 q30 z30 => ?_) (fun _ _ _ _ z => z.elim)
      obtain ⟨y30, y30h, y30n⟩ := z30
      rw [y30, y30h, y30n]
      exact r_iret C dp hr dc_M_ended_33 (Nat.le_refl _) ⟨by unfold mEnded; rw [if_neg (of_decide_eq_false c11), if_pos (of_decide_eq_true c25)] <;> (first | rfl | (simp only [ur_ur]; done) | (simp only [ur_ur]; rfl)), by unfold mEnded; rw [if_neg (of_decide_eq_false c11), if_pos (of_decide_eq_true c25)] <;> (first | rfl | (simp only [ur_ur]; done) | (simp only [ur_ur]; rfl)), rfl⟩
  ·
    first | refine r_aload_n C dc_M_ended_14 rfl rfl ?_ | refine r_aload_nq C dc_M_ended_14 rfl rfl ?_
    refine r_iconst (v := nI 1) C dc_M_ended_15 (by decide) ?_
    refine r_callV C dp dc_M_ended_16 cw_M_124 cm_M_fail cv_M_fail rfl (mh_0) (k_M_fail hl) (Nat.lt_succ_self _) rfl rfl (Nat.le_of_ble_eq_true rfl) (fun v16 h16 n16 q16 z16 => ?_) (fun _ _ _ _ z => z.elim)
    obtain ⟨y16, y16h, y16n⟩ := z16
    rw [y16, y16h, y16n]
    exact r_iret C dp hr dc_M_ended_19 (Nat.le_refl _) ⟨by unfold mEnded; rw [if_pos (of_decide_eq_true c11)] <;> (first | rfl | (simp only [ur_ur]; done) | (simp only [ur_ur]; rfl)), by unfold mEnded; rw [if_pos (of_decide_eq_true c11)] <;> (first | rfl | (simp only [ur_ur]; done) | (simp only [ur_ur]; rfl)), rfl⟩
def mValue (x : Nat → Nat → Int32) (a w : Int32) : Int32 × (Nat → Nat → Int32) := if ou a 12 then (nI 0, th x 1) else if ou w 4 then (nI 0, th x 2) else if x 20 (4 * cl a + cl w) = -2 then (nI 0, th x 3) else if x 20 (4 * cl a + cl w) = -1 then (nI 0, th x 3) else if x 20 (4 * cl a + cl w) = 0 then (x 26 (4 * cl a + cl w), ur (th x 0) 20 (upd (x 20) (4 * cl a + cl w) (-2))) else (nI 0, ur (ur (th x 0) 20 (upd (x 20) (4 * cl a + cl w) (-2))) 0 (fun _ => nI 4))
set_option maxRecDepth 4000 in
theorem k_M_value (hl : l.stackTraces = false) {v0 v1 : Int32} : Ct l D A G my_M_value cd_M_value 4 (some (.int)) (df + 1) 0 0 [.ref mm, .int v0, .int v1] (MH A mm x h) n (fun v h' n' => v = some (.int (mValue x v0 v1).1) ∧ h' = MH A mm ((mValue x v0 v1).2) h ∧ n' = n) (fun _ _ _ => False) := by
  refine Ct.of (by decide) hl (Nat.le_of_ble_eq_true rfl) ?_
  intro p e s m args below meth c C hr hnm ht dp
  first | refine r_aload_n C dc_M_value_0 rfl rfl ?_ | refine r_aload_nq C dc_M_value_0 rfl rfl ?_
  refine r_iconst (v := nI 0) C dc_M_value_1 (by decide) ?_
  refine r_put C dc_M_value_2 fl_M_117 mh_0 rfl rfl (Nat.le_of_ble_eq_true rfl) ?_
  rw [mp_0]
  refine r_iload_n C dc_M_value_5 rfl rfl ?_
  refine r_bipush (v := nI 12) C dc_M_value_6 (by decide) ?_
  refine r_callS C dp dc_M_value_8 cw_M_120 cs_M_out (k_M_out hl) (Nat.lt_succ_self _) rfl rfl (Nat.le_of_ble_eq_true rfl) (fun v8 h8 n8 q8 z8 => ?_) (fun _ _ _ _ z => z.elim)
  obtain ⟨y8, y8h, y8n⟩ := z8
  rw [y8, y8h, y8n]
  refine r_if_eqZ (tgt := 20) C dc_M_value_11 (by decide) (fun c11 => ?_) (fun c11 => ?_)
  ·
    refine r_iload_n C dc_M_value_20 rfl rfl ?_
    refine r_iconst (v := nI 4) C dc_M_value_21 (by decide) ?_
    refine r_callS C dp dc_M_value_22 cw_M_120 cs_M_out (k_M_out hl) (Nat.lt_succ_self _) rfl rfl (Nat.le_of_ble_eq_true rfl) (fun v22 h22 n22 q22 z22 => ?_) (fun _ _ _ _ z => z.elim)
    obtain ⟨y22, y22h, y22n⟩ := z22
    rw [y22, y22h, y22n]
    refine r_if_eqZ (tgt := 34) C dc_M_value_25 (by decide) (fun c25 => ?_) (fun c25 => ?_)
    ·
      obtain ⟨a, ha, rfl⟩ := nd_of (of_decide_eq_false c11)
      obtain ⟨j, hj, rfl⟩ := nd_of (of_decide_eq_false c25)
      first | refine r_aload_n C dc_M_value_34 rfl rfl ?_ | refine r_aload_nq C dc_M_value_34 rfl rfl ?_
      refine r_get C dc_M_value_35 fl_M_68 mh_0 rfl ?_
      refine r_iconst (v := nI 4) C dc_M_value_38 (by decide) ?_
      refine r_iload_n C dc_M_value_39 rfl rfl ?_
      first | refine r_imulN C dc_M_value_40 ?_ | refine r_imul C dc_M_value_40 ?_
      refine r_iload_n C dc_M_value_41 rfl rfl ?_
      first | refine r_iaddN C dc_M_value_42 ?_ | refine r_iadd C dc_M_value_42 ?_
      refine r_ialdN C dc_M_value_43 mh_20 (by omega) (by decide) ?_
      refine r_istore_n C dc_M_value_44 rfl (by decide) (nw_of rfl) ?_
      refine r_iload_n C dc_M_value_45 rfl rfl ?_
      refine r_bipush (v := -2) C dc_M_value_46 (by decide) ?_
      refine r_icmp_eq (tgt := 56) C dc_M_value_48 (by decide) (fun c48 => ?_) (fun c48 => ?_)
      ·
        first | refine r_aload_n C dc_M_value_56 rfl rfl ?_ | refine r_aload_nq C dc_M_value_56 rfl rfl ?_
        refine r_iconst (v := nI 3) C dc_M_value_57 (by decide) ?_
        refine r_callV C dp dc_M_value_58 cw_M_124 cm_M_fail cv_M_fail rfl (mh_0) (k_M_fail hl) (Nat.lt_succ_self _) rfl rfl (Nat.le_of_ble_eq_true rfl) (fun v58 h58 n58 q58 z58 => ?_) (fun _ _ _ _ z => z.elim)
        obtain ⟨y58, y58h, y58n⟩ := z58
        rw [y58, y58h, y58n]
        exact r_iret C dp hr dc_M_value_61 (Nat.le_refl _) ⟨by unfold mValue; rw [if_neg (of_decide_eq_false c11), if_neg (of_decide_eq_false c25), cl_nI (k := a) (by omega), cl_nI (k := j) (by omega), if_pos (show x 20 (4 * a + j) = -2 from c48)] <;> (first | rfl | (simp only [ur_ur]; done) | (simp only [ur_ur]; rfl)), by unfold mValue; rw [if_neg (of_decide_eq_false c11), if_neg (of_decide_eq_false c25), cl_nI (k := a) (by omega), cl_nI (k := j) (by omega), if_pos (show x 20 (4 * a + j) = -2 from c48)] <;> (first | rfl | (simp only [ur_ur]; done) | (simp only [ur_ur]; rfl)), rfl⟩
      ·
        refine r_iload_n C dc_M_value_51 rfl rfl ?_
        refine r_iconst (v := -1) C dc_M_value_52 (by decide) ?_
        refine r_icmp_ne (tgt := 62) C dc_M_value_53 (by decide) (fun c53 => ?_) (fun c53 => ?_)
        ·
          first | refine r_aload_n C dc_M_value_62 rfl rfl ?_ | refine r_aload_nq C dc_M_value_62 rfl rfl ?_
          refine r_get C dc_M_value_63 fl_M_68 mh_0 rfl ?_
          refine r_iconst (v := nI 4) C dc_M_value_66 (by decide) ?_
          refine r_iload_n C dc_M_value_67 rfl rfl ?_
          first | refine r_imulN C dc_M_value_68 ?_ | refine r_imul C dc_M_value_68 ?_
          refine r_iload_n C dc_M_value_69 rfl rfl ?_
          first | refine r_iaddN C dc_M_value_70 ?_ | refine r_iadd C dc_M_value_70 ?_
          refine r_bipush (v := -2) C dc_M_value_71 (by decide) ?_
          refine r_iast C dc_M_value_73 mh_20 rfl (by omega) (by decide) ?_
          rw [ms_20]
          refine r_iload_n C dc_M_value_74 rfl rfl ?_
          refine r_if_ne (tgt := 91) C dc_M_value_75 (by decide) (fun c75 => ?_) (fun c75 => ?_)
          ·
            first | refine r_aload_n C dc_M_value_91 rfl rfl ?_ | refine r_aload_nq C dc_M_value_91 rfl rfl ?_
            refine r_iconst (v := nI 4) C dc_M_value_92 (by decide) ?_
            refine r_callV C dp dc_M_value_93 cw_M_124 cm_M_fail cv_M_fail rfl (mh_0) (k_M_fail hl) (Nat.lt_succ_self _) rfl rfl (Nat.le_of_ble_eq_true rfl) (fun v93 h93 n93 q93 z93 => ?_) (fun _ _ _ _ z => z.elim)
            obtain ⟨y93, y93h, y93n⟩ := z93
            rw [y93, y93h, y93n]
            exact r_iret C dp hr dc_M_value_96 (Nat.le_refl _) ⟨by unfold mValue; rw [if_neg (of_decide_eq_false c11), if_neg (of_decide_eq_false c25), cl_nI (k := a) (by omega), cl_nI (k := j) (by omega), if_neg (show ¬ x 20 (4 * a + j) = -2 from c48), if_neg (show ¬ x 20 (4 * a + j) = -1 from c53), if_neg (show ¬ x 20 (4 * a + j) = 0 from c75)] <;> (first | rfl | (simp only [ur_ur]; done) | (simp only [ur_ur]; rfl)), by unfold mValue; rw [if_neg (of_decide_eq_false c11), if_neg (of_decide_eq_false c25), cl_nI (k := a) (by omega), cl_nI (k := j) (by omega), if_neg (show ¬ x 20 (4 * a + j) = -2 from c48), if_neg (show ¬ x 20 (4 * a + j) = -1 from c53), if_neg (show ¬ x 20 (4 * a + j) = 0 from c75)] <;> (first | rfl | (simp only [ur_ur]; done) | (simp only [ur_ur]; rfl)), rfl⟩
          ·
            first | refine r_aload_n C dc_M_value_78 rfl rfl ?_ | refine r_aload_nq C dc_M_value_78 rfl rfl ?_
            refine r_get C dc_M_value_79 fl_M_86 mh_0 rfl ?_
            refine r_iconst (v := nI 4) C dc_M_value_82 (by decide) ?_
            refine r_iload_n C dc_M_value_83 rfl rfl ?_
            first | refine r_imulN C dc_M_value_84 ?_ | refine r_imul C dc_M_value_84 ?_
            refine r_iload_n C dc_M_value_85 rfl rfl ?_
            first | refine r_iaddN C dc_M_value_86 ?_ | refine r_iadd C dc_M_value_86 ?_
            refine r_ialdN C dc_M_value_87 mh_26 (by omega) (by decide) ?_
            refine r_goto (tgt := 96) C dc_M_value_88 (by decide) ?_
            exact r_iret C dp hr dc_M_value_96 (Nat.le_refl _) ⟨by unfold mValue; rw [if_neg (of_decide_eq_false c11), if_neg (of_decide_eq_false c25), cl_nI (k := a) (by omega), cl_nI (k := j) (by omega), if_neg (show ¬ x 20 (4 * a + j) = -2 from c48), if_neg (show ¬ x 20 (4 * a + j) = -1 from c53), if_pos (show x 20 (4 * a + j) = 0 from c75)] <;> (first | rfl | (simp only [ur_ur]; done) | (simp only [ur_ur]; rfl)), by unfold mValue; rw [if_neg (of_decide_eq_false c11), if_neg (of_decide_eq_false c25), cl_nI (k := a) (by omega), cl_nI (k := j) (by omega), if_neg (show ¬ x 20 (4 * a + j) = -2 from c48), if_neg (show ¬ x 20 (4 * a + j) = -1 from c53), if_pos (show x 20 (4 * a + j) = 0 from c75)] <;> (first | rfl | (simp only [ur_ur]; done) | (simp only [ur_ur]; rfl)), rfl⟩
        ·
          first | refine r_aload_n C dc_M_value_56 rfl rfl ?_ | refine r_aload_nq C dc_M_value_56 rfl rfl ?_
          refine r_iconst (v := nI 3) C dc_M_value_57 (by decide) ?_
          refine r_callV C dp dc_M_value_58 cw_M_124 cm_M_fail cv_M_fail rfl (mh_0) (k_M_fail hl) (Nat.lt_succ_self _) rfl rfl (Nat.le_of_ble_eq_true rfl) (fun v58 h58 n58 q58 z58 => ?_) (fun _ _ _ _ z => z.elim)
          obtain ⟨y58, y58h, y58n⟩ := z58
          rw [y58, y58h, y58n]
          exact r_iret C dp hr dc_M_value_61 (Nat.le_refl _) ⟨by unfold mValue; rw [if_neg (of_decide_eq_false c11), if_neg (of_decide_eq_false c25), cl_nI (k := a) (by omega), cl_nI (k := j) (by omega), if_neg (show ¬ x 20 (4 * a + j) = -2 from c48), if_pos (show x 20 (4 * a + j) = -1 from c53)] <;> (first | rfl | (simp only [ur_ur]; done) | (simp only [ur_ur]; rfl)), by unfold mValue; rw [if_neg (of_decide_eq_false c11), if_neg (of_decide_eq_false c25), cl_nI (k := a) (by omega), cl_nI (k := j) (by omega), if_neg (show ¬ x 20 (4 * a + j) = -2 from c48), if_pos (show x 20 (4 * a + j) = -1 from c53)] <;> (first | rfl | (simp only [ur_ur]; done) | (simp only [ur_ur]; rfl)), rfl⟩
    ·
      first | refine r_aload_n C dc_M_value_28 rfl rfl ?_ | refine r_aload_nq C dc_M_value_28 rfl rfl ?_
      refine r_iconst (v := nI 2) C dc_M_value_29 (by decide) ?_
      refine r_callV C dp dc_M_value_30 cw_M_124 cm_M_fail cv_M_fail rfl (mh_0) (k_M_fail hl) (Nat.lt_succ_self _) rfl rfl (Nat.le_of_ble_eq_true rfl) (fun v30 h30 n30 q30 z30 => ?_) (fun _ _ _ _ z => z.elim)
      obtain ⟨y30, y30h, y30n⟩ := z30
      rw [y30, y30h, y30n]
      exact r_iret C dp hr dc_M_value_33 (Nat.le_refl _) ⟨by unfold mValue; rw [if_neg (of_decide_eq_false c11), if_pos (of_decide_eq_true c25)] <;> (first | rfl | (simp only [ur_ur]; done) | (simp only [ur_ur]; rfl)), by unfold mValue; rw [if_neg (of_decide_eq_false c11), if_pos (of_decide_eq_true c25)] <;> (first | rfl | (simp only [ur_ur]; done) | (simp only [ur_ur]; rfl)), rfl⟩
  ·
    first | refine r_aload_n C dc_M_value_14 rfl rfl ?_ | refine r_aload_nq C dc_M_value_14 rfl rfl ?_
    refine r_iconst (v := nI 1) C dc_M_value_15 (by decide) ?_
    refine r_callV C dp dc_M_value_16 cw_M_124 cm_M_fail cv_M_fail rfl (mh_0) (k_M_fail hl) (Nat.lt_succ_self _) rfl rfl (Nat.le_of_ble_eq_true rfl) (fun v16 h16 n16 q16 z16 => ?_) (fun _ _ _ _ z => z.elim)
    obtain ⟨y16, y16h, y16n⟩ := z16
    rw [y16, y16h, y16n]
    exact r_iret C dp hr dc_M_value_19 (Nat.le_refl _) ⟨by unfold mValue; rw [if_pos (of_decide_eq_true c11)] <;> (first | rfl | (simp only [ur_ur]; done) | (simp only [ur_ur]; rfl)), by unfold mValue; rw [if_pos (of_decide_eq_true c11)] <;> (first | rfl | (simp only [ur_ur]; done) | (simp only [ur_ur]; rfl)), rfl⟩
def mReset (x : Nat → Nat → Int32) (a bits : Int32) (hd ct : Bool) : Nat → Nat → Int32 := if ou a 12 then th x 1 else ur (ur (ur (ur (ur (th x 0) 3 (upd (x 3) (cl a) (bits &&& 65535))) 4 (upd (x 4) (cl a) (nI 0))) 8 (upd (x 8) (cl a) (zi hd))) 9 (upd (x 9) (cl a) (zi ct))) 11 (upd (x 11) (cl a) (nI 1))
theorem lc_M : Cond.constant rn_M 132 65535 ∈ tbl := by decide +kernel
set_option maxRecDepth 4000 in
theorem k_M_reset (hl : l.stackTraces = false) {v0 v1 : Int32} {hd ct : Bool} : Ct l D A G my_M_reset cd_M_reset 5 none (df + 1) 0 0 [.ref mm, .int v0, .int v1, .int (zi hd), .int (zi ct)] (MH A mm x h) n (fun v h' n' => v = none ∧ h' = MH A mm (mReset x v0 v1 hd ct) h ∧ n' = n) (fun _ _ _ => False) := by
  refine Ct.of (by decide) hl (Nat.le_of_ble_eq_true rfl) ?_
  intro p e s m args below meth c C hr hnm ht dp
  first | refine r_aload_n C dc_M_reset_0 rfl rfl ?_ | refine r_aload_nq C dc_M_reset_0 rfl rfl ?_
  refine r_iconst (v := nI 0) C dc_M_reset_1 (by decide) ?_
  refine r_put C dc_M_reset_2 fl_M_117 mh_0 rfl rfl (Nat.le_of_ble_eq_true rfl) ?_
  rw [mp_0]
  refine r_iload_n C dc_M_reset_5 rfl rfl ?_
  refine r_bipush (v := nI 12) C dc_M_reset_6 (by decide) ?_
  refine r_callS C dp dc_M_reset_8 cw_M_120 cs_M_out (k_M_out hl) (Nat.lt_succ_self _) rfl rfl (Nat.le_of_ble_eq_true rfl) (fun v8 h8 n8 q8 z8 => ?_) (fun _ _ _ _ z => z.elim)
  obtain ⟨y8, y8h, y8n⟩ := z8
  rw [y8, y8h, y8n]
  refine r_if_eqZ (tgt := 20) C dc_M_reset_11 (by decide) (fun c11 => ?_) (fun c11 => ?_)
  ·
    obtain ⟨a, ha, rfl⟩ := nd_of (of_decide_eq_false c11)
    first | refine r_aload_n C dc_M_reset_20 rfl rfl ?_ | refine r_aload_nq C dc_M_reset_20 rfl rfl ?_
    refine r_get C dc_M_reset_21 fl_M_17 mh_0 rfl ?_
    refine r_iload_n C dc_M_reset_24 rfl rfl ?_
    refine r_iload_n C dc_M_reset_25 rfl rfl ?_
    refine r_ldc (v := 65535) C dc_M_reset_26 lc_M ?_
    refine r_iand C dc_M_reset_28 ?_
    refine r_iast C dc_M_reset_29 mh_3 rfl (by omega) (by decide) ?_
    rw [ms_3]
    first | refine r_aload_n C dc_M_reset_30 rfl rfl ?_ | refine r_aload_nq C dc_M_reset_30 rfl rfl ?_
    refine r_get C dc_M_reset_31 fl_M_20 mh_0 rfl ?_
    refine r_iload_n C dc_M_reset_34 rfl rfl ?_
    refine r_iconst (v := nI 0) C dc_M_reset_35 (by decide) ?_
    refine r_iast C dc_M_reset_36 mh_4 rfl (by omega) (by decide) ?_
    rw [ms_4]
    first | refine r_aload_n C dc_M_reset_37 rfl rfl ?_ | refine r_aload_nq C dc_M_reset_37 rfl rfl ?_
    refine r_get C dc_M_reset_38 fl_M_32 mh_0 rfl ?_
    refine r_iload_n C dc_M_reset_41 rfl rfl ?_
    refine r_iload_n C dc_M_reset_42 rfl rfl ?_
    refine r_zast C dc_M_reset_43 mh_8 rfl (by omega) (by decide) (by first | exact zi_01 _ | exact zv_0 | exact zv_1 | assumption | decide) ?_
    rw [ms_8]
    first | refine r_aload_n C dc_M_reset_44 rfl rfl ?_ | refine r_aload_nq C dc_M_reset_44 rfl rfl ?_
    refine r_get C dc_M_reset_45 fl_M_35 mh_0 rfl ?_
    refine r_iload_n C dc_M_reset_48 rfl rfl ?_
    refine r_iload C dc_M_reset_49 rfl ?_
    refine r_zast C dc_M_reset_51 mh_9 rfl (by omega) (by decide) (by first | exact zi_01 _ | exact zv_0 | exact zv_1 | assumption | decide) ?_
    rw [ms_9]
    first | refine r_aload_n C dc_M_reset_52 rfl rfl ?_ | refine r_aload_nq C dc_M_reset_52 rfl rfl ?_
    refine r_get C dc_M_reset_53 fl_M_41 mh_0 rfl ?_
    refine r_iload_n C dc_M_reset_56 rfl rfl ?_
    refine r_iconst (v := nI 1) C dc_M_reset_57 (by decide) ?_
    refine r_zast C dc_M_reset_58 mh_11 rfl (by omega) (by decide) (by first | exact zi_01 _ | exact zv_0 | exact zv_1 | assumption | decide) ?_
    rw [ms_11]
    exact r_vret C dp hr dc_M_reset_59 (Nat.le_refl _) ⟨by rfl, by unfold mReset; rw [if_neg (of_decide_eq_false c11), cl_nI (k := a) (by omega)] <;> (first | rfl | (simp only [ur_ur]; done) | (simp only [ur_ur]; rfl)), rfl⟩
  ·
    first | refine r_aload_n C dc_M_reset_14 rfl rfl ?_ | refine r_aload_nq C dc_M_reset_14 rfl rfl ?_
    refine r_iconst (v := nI 1) C dc_M_reset_15 (by decide) ?_
    refine r_put C dc_M_reset_16 fl_M_117 mh_0 rfl rfl (Nat.le_of_ble_eq_true rfl) ?_
    rw [mp_0]
    exact r_vret C dp hr dc_M_reset_19 (Nat.le_refl _) ⟨by rfl, by unfold mReset; rw [if_pos (of_decide_eq_true c11)] <;> (first | rfl | (simp only [ur_ur]; done) | (simp only [ur_ur]; rfl)), rfl⟩
def mPut (x : Nat → Nat → Int32) (a k : Nat) (lb sr tm : Int32) (an : Bool) (va : Int32) : Nat → Nat → Int32 := ur (ur (ur (ur (ur (ur x 30 (upd (x 30) (6 * a + k) lb)) 31 (upd (x 31) (6 * a + k) sr)) 32 (upd (x 32) (6 * a + k) tm)) 34 (upd (x 34) (6 * a + k) (zi an))) 33 (upd (x 33) (6 * a + k) va)) 35 (upd (x 35) a (nI (k + 1)))
set_option maxRecDepth 4000 in
theorem k_M_put (hl : l.stackTraces = false) {a k : Nat} {lb sr tm va : Int32} {an : Bool} (ha : a < 12) (hk : x 35 a = nI k) (hk6 : k < 6) : Ct l D A G my_M_put cd_M_put 8 none df 0 0 [.ref mm, .int (nI a), .int lb, .int sr, .int tm, .int (zi an), .int va] (MH A mm x h) n (fun v h' n' => v = none ∧ h' = MH A mm (mPut x a k lb sr tm an va) h ∧ n' = n) (fun _ _ _ => False) := by
  refine Ct.of (by decide) hl (Nat.le_of_ble_eq_true rfl) ?_
  intro p e s m args below meth c C hr hnm ht dp
  refine r_bipush (v := nI 6) C dc_M_put_0 (by decide) ?_
  refine r_iload_n C dc_M_put_2 rfl rfl ?_
  first | refine r_imulN C dc_M_put_3 ?_ | refine r_imul C dc_M_put_3 ?_
  first | refine r_aload_n C dc_M_put_4 rfl rfl ?_ | refine r_aload_nq C dc_M_put_4 rfl rfl ?_
  refine r_get C dc_M_put_5 fl_M_110 mh_0 rfl ?_
  refine r_iload_n C dc_M_put_8 rfl rfl ?_
  refine r_ialdN C dc_M_put_9 mh_35 (by omega) (by decide) ?_
  refine sb_at (P := fun v => Rw _ _ _ _ _ _ _ _ _ _ _ _ _ _ _ _ _ _ _ _ (.int v :: _)) hk ?_
  first | refine r_iaddN C dc_M_put_10 ?_ | refine r_iadd C dc_M_put_10 ?_
  refine r_istore C dc_M_put_11 (by decide) (nw_of rfl) ?_
  first | refine r_aload_n C dc_M_put_13 rfl rfl ?_ | refine r_aload_nq C dc_M_put_13 rfl rfl ?_
  refine r_get C dc_M_put_14 fl_M_95 mh_0 rfl ?_
  refine r_iload C dc_M_put_17 rfl ?_
  refine r_iload_n C dc_M_put_19 rfl rfl ?_
  refine r_iast C dc_M_put_20 mh_30 rfl (by omega) (by decide) ?_
  rw [ms_30]
  first | refine r_aload_n C dc_M_put_21 rfl rfl ?_ | refine r_aload_nq C dc_M_put_21 rfl rfl ?_
  refine r_get C dc_M_put_22 fl_M_98 mh_0 rfl ?_
  refine r_iload C dc_M_put_25 rfl ?_
  refine r_iload_n C dc_M_put_27 rfl rfl ?_
  refine r_iast C dc_M_put_28 mh_31 rfl (by omega) (by decide) ?_
  rw [ms_31]
  first | refine r_aload_n C dc_M_put_29 rfl rfl ?_ | refine r_aload_nq C dc_M_put_29 rfl rfl ?_
  refine r_get C dc_M_put_30 fl_M_101 mh_0 rfl ?_
  refine r_iload C dc_M_put_33 rfl ?_
  refine r_iload C dc_M_put_35 rfl ?_
  refine r_iast C dc_M_put_37 mh_32 rfl (by omega) (by decide) ?_
  rw [ms_32]
  first | refine r_aload_n C dc_M_put_38 rfl rfl ?_ | refine r_aload_nq C dc_M_put_38 rfl rfl ?_
  refine r_get C dc_M_put_39 fl_M_107 mh_0 rfl ?_
  refine r_iload C dc_M_put_42 rfl ?_
  refine r_iload C dc_M_put_44 rfl ?_
  refine r_zast C dc_M_put_46 mh_34 rfl (by omega) (by decide) (by first | exact zi_01 _ | exact zv_0 | exact zv_1 | assumption | decide) ?_
  rw [ms_34]
  first | refine r_aload_n C dc_M_put_47 rfl rfl ?_ | refine r_aload_nq C dc_M_put_47 rfl rfl ?_
  refine r_get C dc_M_put_48 fl_M_104 mh_0 rfl ?_
  refine r_iload C dc_M_put_51 rfl ?_
  refine r_iload C dc_M_put_53 rfl ?_
  refine r_iast C dc_M_put_55 mh_33 rfl (by omega) (by decide) ?_
  rw [ms_33]
  first | refine r_aload_n C dc_M_put_56 rfl rfl ?_ | refine r_aload_nq C dc_M_put_56 rfl rfl ?_
  refine r_get C dc_M_put_57 fl_M_110 mh_0 rfl ?_
  refine r_iload_n C dc_M_put_60 rfl rfl ?_
  refine r_dup2 C dc_M_put_61 rfl rfl ?_
  refine r_ialdN C dc_M_put_62 mh_35 (by omega) (by decide) ?_
  refine sb_at (P := fun v => Rw _ _ _ _ _ _ _ _ _ _ _ _ _ _ _ _ _ _ _ _ (.int v :: _)) hk ?_
  refine r_iconst (v := nI 1) C dc_M_put_63 (by decide) ?_
  first | refine r_iaddN C dc_M_put_64 ?_ | refine r_iadd C dc_M_put_64 ?_
  refine r_iast C dc_M_put_65 mh_35 rfl (by omega) (by decide) ?_
  rw [ms_35]
  exact r_vret C dp hr dc_M_put_66 (Nat.le_refl _) ⟨rfl, rfl, rfl⟩
def mDone (x : Nat → Nat → Int32) (j t wd : Nat) : Int32 × (Nat → Nat → Int32) := (if x 22 j = nI 1 then nI 0 else x 13 (8 * t + wd), if x 22 j = nI 1 ∨ (x 22 j = nI 2 ∧ x 13 (8 * t + wd) = x 24 j) then ur x 13 (upd (x 13) (8 * t + wd) (x 25 j)) else x)
set_option maxRecDepth 4000 in
theorem k_M_done (hl : l.stackTraces = false) {j t wd : Nat} (hj : j < 48) (ht0 : x 21 j = nI t) (ht1 : t < 12) (hw0 : x 23 j = nI wd) (hw1 : wd < 8) : Ct l D A G my_M_done cd_M_done 4 (some (.int)) df 0 0 [.ref mm, .int (nI j)] (MH A mm x h) n (fun v h' n' => v = some (.int (mDone x j t wd).1) ∧ h' = MH A mm ((mDone x j t wd).2) h ∧ n' = n) (fun _ _ _ => False) := by
  refine Ct.of (by decide) hl (Nat.le_of_ble_eq_true rfl) ?_
  intro p e s m args below meth c C hr hnm ht dp
  refine r_bipush (v := nI 8) C dc_M_done_0 (by decide) ?_
  first | refine r_aload_n C dc_M_done_2 rfl rfl ?_ | refine r_aload_nq C dc_M_done_2 rfl rfl ?_
  refine r_get C dc_M_done_3 fl_M_71 mh_0 rfl ?_
  refine r_iload_n C dc_M_done_6 rfl rfl ?_
  refine r_ialdN C dc_M_done_7 mh_21 (by omega) (by decide) ?_
  refine sb_at (P := fun v => Rw _ _ _ _ _ _ _ _ _ _ _ _ _ _ _ _ _ _ _ _ (.int v :: _)) ht0 ?_
  first | refine r_imulN C dc_M_done_8 ?_ | refine r_imul C dc_M_done_8 ?_
  first | refine r_aload_n C dc_M_done_9 rfl rfl ?_ | refine r_aload_nq C dc_M_done_9 rfl rfl ?_
  refine r_get C dc_M_done_10 fl_M_77 mh_0 rfl ?_
  refine r_iload_n C dc_M_done_13 rfl rfl ?_
  refine r_ialdN C dc_M_done_14 mh_23 (by omega) (by decide) ?_
  refine sb_at (P := fun v => Rw _ _ _ _ _ _ _ _ _ _ _ _ _ _ _ _ _ _ _ _ (.int v :: _)) hw0 ?_
  first | refine r_iaddN C dc_M_done_15 ?_ | refine r_iadd C dc_M_done_15 ?_
  refine r_istore_n C dc_M_done_16 rfl (by decide) (nw_of rfl) ?_
  first | refine r_aload_n C dc_M_done_17 rfl rfl ?_ | refine r_aload_nq C dc_M_done_17 rfl rfl ?_
  refine r_get C dc_M_done_18 fl_M_47 mh_0 rfl ?_
  refine r_iload_n C dc_M_done_21 rfl rfl ?_
  refine r_ialdN C dc_M_done_22 mh_13 (by omega) (by decide) ?_
  refine r_istore_n C dc_M_done_23 rfl (by decide) (nw_of rfl) ?_
  first | refine r_aload_n C dc_M_done_24 rfl rfl ?_ | refine r_aload_nq C dc_M_done_24 rfl rfl ?_
  refine r_get C dc_M_done_25 fl_M_74 mh_0 rfl ?_
  refine r_iload_n C dc_M_done_28 rfl rfl ?_
  refine r_ialdN C dc_M_done_29 mh_22 (by omega) (by decide) ?_
  refine r_iconst (v := nI 1) C dc_M_done_30 (by decide) ?_
  refine r_icmp_eq (tgt := 54) C dc_M_done_31 (by decide) (fun c31 => ?_) (fun c31 => ?_)
  ·
    first | refine r_aload_n C dc_M_done_54 rfl rfl ?_ | refine r_aload_nq C dc_M_done_54 rfl rfl ?_
    refine r_get C dc_M_done_55 fl_M_47 mh_0 rfl ?_
    refine r_iload_n C dc_M_done_58 rfl rfl ?_
    first | refine r_aload_n C dc_M_done_59 rfl rfl ?_ | refine r_aload_nq C dc_M_done_59 rfl rfl ?_
    refine r_get C dc_M_done_60 fl_M_83 mh_0 rfl ?_
    refine r_iload_n C dc_M_done_63 rfl rfl ?_
    refine r_ialdN C dc_M_done_64 mh_25 (by omega) (by decide) ?_
    refine r_iast C dc_M_done_65 mh_13 rfl (by omega) (by decide) ?_
    rw [ms_13]
    first | refine r_aload_n C dc_M_done_66 rfl rfl ?_ | refine r_aload_nq C dc_M_done_66 rfl rfl ?_
    refine r_get C dc_M_done_67 fl_M_74 mh_0 rfl ?_
    refine r_iload_n C dc_M_done_70 rfl rfl ?_
    refine r_ialdN C dc_M_done_71 mh_22 (by omega) (by decide) ?_
    refine r_iconst (v := nI 1) C dc_M_done_72 (by decide) ?_
    refine r_icmp_ne (tgt := 80) C dc_M_done_73 (by decide) (fun c73 => ?_) (fun c73 => ?_)
    ·
      refine r_iload_n C dc_M_done_80 rfl rfl ?_
      exact r_iret C dp hr dc_M_done_81 (Nat.le_refl _) ⟨by unfold mDone; rw [if_neg (show ¬ x 22 j = nI 1 from c73)], by unfold mDone; rw [if_pos (show (x 22 j = nI 1 ∨ (x 22 j = nI 2 ∧ x 13 (8 * t + wd) = x 24 j)) from Or.inl c31)], rfl⟩
    ·
      refine r_iconst (v := nI 0) C dc_M_done_76 (by decide) ?_
      refine r_goto (tgt := 81) C dc_M_done_77 (by decide) ?_
      exact r_iret C dp hr dc_M_done_81 (Nat.le_refl _) ⟨by unfold mDone; rw [if_pos (show x 22 j = nI 1 from c73)], by unfold mDone; rw [if_pos (show (x 22 j = nI 1 ∨ (x 22 j = nI 2 ∧ x 13 (8 * t + wd) = x 24 j)) from Or.inl c31)], rfl⟩
  ·
    first | refine r_aload_n C dc_M_done_34 rfl rfl ?_ | refine r_aload_nq C dc_M_done_34 rfl rfl ?_
    refine r_get C dc_M_done_35 fl_M_74 mh_0 rfl ?_
    refine r_iload_n C dc_M_done_38 rfl rfl ?_
    refine r_ialdN C dc_M_done_39 mh_22 (by omega) (by decide) ?_
    refine r_iconst (v := nI 2) C dc_M_done_40 (by decide) ?_
    refine r_icmp_ne (tgt := 66) C dc_M_done_41 (by decide) (fun c41 => ?_) (fun c41 => ?_)
    ·
      first | refine r_aload_n C dc_M_done_66 rfl rfl ?_ | refine r_aload_nq C dc_M_done_66 rfl rfl ?_
      refine r_get C dc_M_done_67 fl_M_74 mh_0 rfl ?_
      refine r_iload_n C dc_M_done_70 rfl rfl ?_
      refine r_ialdN C dc_M_done_71 mh_22 (by omega) (by decide) ?_
      refine r_iconst (v := nI 1) C dc_M_done_72 (by decide) ?_
      refine r_icmp_ne (tgt := 80) C dc_M_done_73 (by decide) (fun c73 => ?_) (fun c73 => ?_)
      ·
        refine r_iload_n C dc_M_done_80 rfl rfl ?_
        exact r_iret C dp hr dc_M_done_81 (Nat.le_refl _) ⟨by unfold mDone; rw [if_neg (show ¬ x 22 j = nI 1 from c73)], by unfold mDone; rw [if_neg (show ¬ (x 22 j = nI 1 ∨ (x 22 j = nI 2 ∧ x 13 (8 * t + wd) = x 24 j)) from fun z => z.elim c31 (fun z => c41 z.1))], rfl⟩
      ·
        refine r_iconst (v := nI 0) C dc_M_done_76 (by decide) ?_
        refine r_goto (tgt := 81) C dc_M_done_77 (by decide) ?_
        exact r_iret C dp hr dc_M_done_81 (Nat.le_refl _) ⟨by unfold mDone; rw [if_pos (show x 22 j = nI 1 from c73)], by unfold mDone; rw [if_neg (show ¬ (x 22 j = nI 1 ∨ (x 22 j = nI 2 ∧ x 13 (8 * t + wd) = x 24 j)) from fun z => z.elim c31 (fun z => c41 z.1))], rfl⟩
    ·
      refine r_iload_n C dc_M_done_44 rfl rfl ?_
      first | refine r_aload_n C dc_M_done_45 rfl rfl ?_ | refine r_aload_nq C dc_M_done_45 rfl rfl ?_
      refine r_get C dc_M_done_46 fl_M_80 mh_0 rfl ?_
      refine r_iload_n C dc_M_done_49 rfl rfl ?_
      refine r_ialdN C dc_M_done_50 mh_24 (by omega) (by decide) ?_
      refine r_icmp_ne (tgt := 66) C dc_M_done_51 (by decide) (fun c51 => ?_) (fun c51 => ?_)
      ·
        first | refine r_aload_n C dc_M_done_66 rfl rfl ?_ | refine r_aload_nq C dc_M_done_66 rfl rfl ?_
        refine r_get C dc_M_done_67 fl_M_74 mh_0 rfl ?_
        refine r_iload_n C dc_M_done_70 rfl rfl ?_
        refine r_ialdN C dc_M_done_71 mh_22 (by omega) (by decide) ?_
        refine r_iconst (v := nI 1) C dc_M_done_72 (by decide) ?_
        refine r_icmp_ne (tgt := 80) C dc_M_done_73 (by decide) (fun c73 => ?_) (fun c73 => ?_)
        ·
          refine r_iload_n C dc_M_done_80 rfl rfl ?_
          exact r_iret C dp hr dc_M_done_81 (Nat.le_refl _) ⟨by unfold mDone; rw [if_neg (show ¬ x 22 j = nI 1 from c73)], by unfold mDone; rw [if_neg (show ¬ (x 22 j = nI 1 ∨ (x 22 j = nI 2 ∧ x 13 (8 * t + wd) = x 24 j)) from fun z => z.elim c31 (fun z => c51 z.2))], rfl⟩
        ·
          refine r_iconst (v := nI 0) C dc_M_done_76 (by decide) ?_
          refine r_goto (tgt := 81) C dc_M_done_77 (by decide) ?_
          exact r_iret C dp hr dc_M_done_81 (Nat.le_refl _) ⟨by unfold mDone; rw [if_pos (show x 22 j = nI 1 from c73)], by unfold mDone; rw [if_neg (show ¬ (x 22 j = nI 1 ∨ (x 22 j = nI 2 ∧ x 13 (8 * t + wd) = x 24 j)) from fun z => z.elim c31 (fun z => c51 z.2))], rfl⟩
      ·
        first | refine r_aload_n C dc_M_done_54 rfl rfl ?_ | refine r_aload_nq C dc_M_done_54 rfl rfl ?_
        refine r_get C dc_M_done_55 fl_M_47 mh_0 rfl ?_
        refine r_iload_n C dc_M_done_58 rfl rfl ?_
        first | refine r_aload_n C dc_M_done_59 rfl rfl ?_ | refine r_aload_nq C dc_M_done_59 rfl rfl ?_
        refine r_get C dc_M_done_60 fl_M_83 mh_0 rfl ?_
        refine r_iload_n C dc_M_done_63 rfl rfl ?_
        refine r_ialdN C dc_M_done_64 mh_25 (by omega) (by decide) ?_
        refine r_iast C dc_M_done_65 mh_13 rfl (by omega) (by decide) ?_
        rw [ms_13]
        first | refine r_aload_n C dc_M_done_66 rfl rfl ?_ | refine r_aload_nq C dc_M_done_66 rfl rfl ?_
        refine r_get C dc_M_done_67 fl_M_74 mh_0 rfl ?_
        refine r_iload_n C dc_M_done_70 rfl rfl ?_
        refine r_ialdN C dc_M_done_71 mh_22 (by omega) (by decide) ?_
        refine r_iconst (v := nI 1) C dc_M_done_72 (by decide) ?_
        refine r_icmp_ne (tgt := 80) C dc_M_done_73 (by decide) (fun c73 => ?_) (fun c73 => ?_)
        ·
          refine r_iload_n C dc_M_done_80 rfl rfl ?_
          exact r_iret C dp hr dc_M_done_81 (Nat.le_refl _) ⟨by unfold mDone; rw [if_neg (show ¬ x 22 j = nI 1 from c73)], by unfold mDone; rw [if_pos (show (x 22 j = nI 1 ∨ (x 22 j = nI 2 ∧ x 13 (8 * t + wd) = x 24 j)) from Or.inr ⟨c41, c51⟩)], rfl⟩
        ·
          refine r_iconst (v := nI 0) C dc_M_done_76 (by decide) ?_
          refine r_goto (tgt := 81) C dc_M_done_77 (by decide) ?_
          exact r_iret C dp hr dc_M_done_81 (Nat.le_refl _) ⟨by unfold mDone; rw [if_pos (show x 22 j = nI 1 from c73)], by unfold mDone; rw [if_pos (show (x 22 j = nI 1 ∨ (x 22 j = nI 2 ∧ x 13 (8 * t + wd) = x 24 j)) from Or.inr ⟨c41, c51⟩)], rfl⟩
end Model3
