section Model2
variable {l : Launch} {D : va_G} {A : Nat → ClassId} {G : Heap} {h : Hp} {n mm df : Nat} {x : Nat → Nat → Int32}
set_option maxRecDepth 4000 in
theorem k_M_nextBit (hl : l.stackTraces = false) {a pl : Nat} (ha : a < 12) (hp : x 4 a = nI pl) (hpl : pl < 16) : Ct l D A G my_M_nextBit cd_M_nextBit 3 (some (.int)) df 0 0 [.ref mm, .int (nI a)] (MH A mm x h) n (fun v h' n' => v = some (.int (x 3 a >>> (nI pl &&& 31) &&& nI 1)) ∧ h' = MH A mm (ur x 4 (upd (x 4) a (nI ((pl + 1) % 16)))) h ∧ n' = n) (fun _ _ _ => False) := by
  refine Ct.of (by decide) hl (Nat.le_of_ble_eq_true rfl) ?_
  intro p e s m args below meth c C hr hnm ht dp
  first | refine r_aload_n C dc_M_nextBit_0 rfl rfl ?_ | refine r_aload_nq C dc_M_nextBit_0 rfl rfl ?_
  refine r_get C dc_M_nextBit_1 fl_M_17 mh_0 rfl ?_
  refine r_iload_n C dc_M_nextBit_4 rfl rfl ?_
  refine r_ialdN C dc_M_nextBit_5 mh_3 (by omega) (by decide) ?_
  first | refine r_aload_n C dc_M_nextBit_6 rfl rfl ?_ | refine r_aload_nq C dc_M_nextBit_6 rfl rfl ?_
  refine r_get C dc_M_nextBit_7 fl_M_20 mh_0 rfl ?_
  refine r_iload_n C dc_M_nextBit_10 rfl rfl ?_
  refine r_ialdN C dc_M_nextBit_11 mh_4 (by omega) (by decide) ?_
  rw [hp]
  refine r_ishr C dc_M_nextBit_12 ?_
  refine r_iconst (v := nI 1) C dc_M_nextBit_13 (by decide) ?_
  refine r_iand C dc_M_nextBit_14 ?_
  refine r_istore_n C dc_M_nextBit_15 rfl (by decide) (nw_of rfl) ?_
  first | refine r_aload_n C dc_M_nextBit_16 rfl rfl ?_ | refine r_aload_nq C dc_M_nextBit_16 rfl rfl ?_
  refine r_get C dc_M_nextBit_17 fl_M_20 mh_0 rfl ?_
  refine r_iload_n C dc_M_nextBit_20 rfl rfl ?_
  first | refine r_aload_n C dc_M_nextBit_21 rfl rfl ?_ | refine r_aload_nq C dc_M_nextBit_21 rfl rfl ?_
  refine r_get C dc_M_nextBit_22 fl_M_20 mh_0 rfl ?_
  refine r_iload_n C dc_M_nextBit_25 rfl rfl ?_
  refine r_ialdN C dc_M_nextBit_26 mh_4 (by omega) (by decide) ?_
  rw [hp]
  refine r_iconst (v := nI 1) C dc_M_nextBit_27 (by decide) ?_
  first | refine r_iaddN C dc_M_nextBit_28 ?_ | refine r_iadd C dc_M_nextBit_28 ?_
  refine r_bipush (v := nI 16) C dc_M_nextBit_29 (by decide) ?_
  first | refine r_iremN C dc_M_nextBit_31 (by omega) (by decide) (by decide) ?_ | refine r_irem C dc_M_nextBit_31 (by decide) ?_
  refine r_iast C dc_M_nextBit_32 mh_4 rfl (by omega) (by decide) ?_
  rw [ms_4]
  refine r_iload_n C dc_M_nextBit_33 rfl rfl ?_
  exact r_iret C dp hr dc_M_nextBit_34 (Nat.le_refl _) ⟨rfl, rfl, rfl⟩
set_option maxRecDepth 4000 in
theorem k_M_close (hl : l.stackTraces = false) {a c0 : Nat} (ha : a < 36) (hc : c0 < 36) : Ct l D A G my_M_close cd_M_close 3 none df 0 0 [.ref mm, .int (nI a), .int (nI c0)] (MH A mm x h) n (fun v h' n' => v = none ∧ h' = MH A mm (ur (ur (ur x 2 (upd (x 2) c0 (nI 0))) 2 (upd (upd (x 2) c0 (nI 0)) a (nI 0))) 14 (upd (x 14) (a / 3) (nI (c0 / 3)))) h ∧ n' = n) (fun _ _ _ => False) := by
  refine Ct.of (by decide) hl (Nat.le_of_ble_eq_true rfl) ?_
  intro p e s m args below meth c C hr hnm ht dp
  first | refine r_aload_n C dc_M_close_0 rfl rfl ?_ | refine r_aload_nq C dc_M_close_0 rfl rfl ?_
  refine r_get C dc_M_close_1 fl_M_13 mh_0 rfl ?_
  refine r_iload_n C dc_M_close_4 rfl rfl ?_
  first | refine r_aload_n C dc_M_close_5 rfl rfl ?_ | refine r_aload_nq C dc_M_close_5 rfl rfl ?_
  refine r_get C dc_M_close_6 fl_M_13 mh_0 rfl ?_
  refine r_iload_n C dc_M_close_9 rfl rfl ?_
  refine r_iconst (v := nI 0) C dc_M_close_10 (by decide) ?_
  refine r_dup_x2 C dc_M_close_11 rfl rfl rfl ?_
  refine r_zast C dc_M_close_12 mh_2 rfl (by omega) (by decide) (by first | exact zi_01 _ | exact zv_0 | exact zv_1 | assumption | decide) ?_
  rw [ms_2]
  refine r_zast C dc_M_close_13 mh_2 rfl (by omega) (by decide) (by first | exact zi_01 _ | exact zv_0 | exact zv_1 | assumption | decide) ?_
  rw [ms_2]
  first | refine r_aload_n C dc_M_close_14 rfl rfl ?_ | refine r_aload_nq C dc_M_close_14 rfl rfl ?_
  refine r_get C dc_M_close_15 fl_M_50 mh_0 rfl ?_
  refine r_iload_n C dc_M_close_18 rfl rfl ?_
  refine r_iconst (v := nI 3) C dc_M_close_19 (by decide) ?_
  first | refine r_idivN C dc_M_close_20 (by omega) (by decide) (by decide) ?_ | refine r_idiv C dc_M_close_20 (by decide) ?_
  refine r_iload_n C dc_M_close_21 rfl rfl ?_
  refine r_iconst (v := nI 3) C dc_M_close_22 (by decide) ?_
  first | refine r_idivN C dc_M_close_23 (by omega) (by decide) (by decide) ?_ | refine r_idiv C dc_M_close_23 (by decide) ?_
  refine r_iast C dc_M_close_24 mh_14 rfl (by omega) (by decide) ?_
  rw [ms_14]
  exact r_vret C dp hr dc_M_close_25 (Nat.le_refl _) ⟨rfl, rfl, rfl⟩
set_option maxRecDepth 4000 in
theorem k_M_time (hl : l.stackTraces = false) {v0 : Int32} : Ct l D A G my_M_time cd_M_time 2 none df 0 0 [.ref mm, .int v0] (MH A mm x h) n (fun v h' n' => v = none ∧ h' = MH A mm (if v0 < nI 2 ∨ nI 60 < v0 then ur x 0 (fun _ => nI 1) else ur (ur x 0 (fun _ => nI 0)) 37 (fun _ => v0)) h ∧ n' = n) (fun _ _ _ => False) := by
  refine Ct.of (by decide) hl (Nat.le_of_ble_eq_true rfl) ?_
  intro p e s m args below meth c C hr hnm ht dp
  first | refine r_aload_n C dc_M_time_0 rfl rfl ?_ | refine r_aload_nq C dc_M_time_0 rfl rfl ?_
  refine r_iconst (v := nI 0) C dc_M_time_1 (by decide) ?_
  refine r_put C dc_M_time_2 fl_M_117 mh_0 rfl rfl (Nat.le_of_ble_eq_true rfl) ?_
  rw [mp_0]
  refine r_iload_n C dc_M_time_5 rfl rfl ?_
  refine r_iconst (v := nI 2) C dc_M_time_6 (by decide) ?_
  refine r_icmp_lt (tgt := 16) C dc_M_time_7 (by decide) (fun c7 => ?_) (fun c7 => ?_)
  ·
    first | refine r_aload_n C dc_M_time_16 rfl rfl ?_ | refine r_aload_nq C dc_M_time_16 rfl rfl ?_
    refine r_iconst (v := nI 1) C dc_M_time_17 (by decide) ?_
    refine r_put C dc_M_time_18 fl_M_117 mh_0 rfl rfl (Nat.le_of_ble_eq_true rfl) ?_
    rw [mp_0]
    refine r_goto (tgt := 29) C dc_M_time_21 (by decide) ?_
    exact r_vret C dp hr dc_M_time_29 (Nat.le_refl _) ⟨rfl, by rw [if_pos (Or.inl c7), ur_ur], rfl⟩
  ·
    refine r_iload_n C dc_M_time_10 rfl rfl ?_
    refine r_bipush (v := nI 60) C dc_M_time_11 (by decide) ?_
    refine r_icmp_le (tgt := 24) C dc_M_time_13 (by decide) (fun c13 => ?_) (fun c13 => ?_)
    ·
      first | refine r_aload_n C dc_M_time_24 rfl rfl ?_ | refine r_aload_nq C dc_M_time_24 rfl rfl ?_
      refine r_iload_n C dc_M_time_25 rfl rfl ?_
      refine r_put C dc_M_time_26 fl_M_113 mh_0 rfl rfl (Nat.le_of_ble_eq_true rfl) ?_
      rw [mp_37]
      exact r_vret C dp hr dc_M_time_29 (Nat.le_refl _) ⟨rfl, by rw [if_neg (fun z => z.elim c7 (fun z => absurd c13 (Int32.not_le.mpr z)))], rfl⟩
    ·
      first | refine r_aload_n C dc_M_time_16 rfl rfl ?_ | refine r_aload_nq C dc_M_time_16 rfl rfl ?_
      refine r_iconst (v := nI 1) C dc_M_time_17 (by decide) ?_
      refine r_put C dc_M_time_18 fl_M_117 mh_0 rfl rfl (Nat.le_of_ble_eq_true rfl) ?_
      rw [mp_0]
      refine r_goto (tgt := 29) C dc_M_time_21 (by decide) ?_
      exact r_vret C dp hr dc_M_time_29 (Nat.le_refl _) ⟨rfl, by rw [if_pos (Or.inr (Int32.not_le.mp c13)), ur_ur], rfl⟩
theorem nd_of {v : Int32} {k : Nat} (q : ¬ (v < 0 ∨ nI k ≤ v)) (hk : k < 2 ^ 31 := by decide) : ∃ a, a < k ∧ v = nI a := by
  rcases pk_ix v hk with h1 | h1 | h1
  · exact absurd (Or.inl h1) q
  · exact absurd (Or.inr h1) q
  · exact h1
set_option maxRecDepth 4000 in
theorem k_M_talk (hl : l.stackTraces = false) {v0 v1 v2 : Int32} : Ct l D A G my_M_talk cd_M_talk 4 none (df + 1) 0 0 [.ref mm, .int v0, .int v1, .int v2] (MH A mm x h) n (fun v h' n' => v = none ∧ h' = MH A mm (if v0 < 0 ∨ nI 12 ≤ v0 then ur x 0 (fun _ => nI 1) else if (v1 < 0 ∨ nI 32 ≤ v1) ∨ (v2 < 0 ∨ nI 101 ≤ v2) then ur x 0 (fun _ => nI 2) else ur (ur (ur x 0 (fun _ => nI 0)) 6 (upd (x 6) v0.toNatClampNeg v1)) 7 (upd (x 7) v0.toNatClampNeg v2)) h ∧ n' = n) (fun _ _ _ => False) := by
  refine Ct.of (by decide) hl (Nat.le_of_ble_eq_true rfl) ?_
  intro p e s m args below meth c C hr hnm ht dp
  first | refine r_aload_n C dc_M_talk_0 rfl rfl ?_ | refine r_aload_nq C dc_M_talk_0 rfl rfl ?_
  refine r_iconst (v := nI 0) C dc_M_talk_1 (by decide) ?_
  refine r_put C dc_M_talk_2 fl_M_117 mh_0 rfl rfl (Nat.le_of_ble_eq_true rfl) ?_
  rw [mp_0]
  refine r_iload_n C dc_M_talk_5 rfl rfl ?_
  refine r_bipush (v := nI 12) C dc_M_talk_6 (by decide) ?_
  refine r_callS C dp dc_M_talk_8 cw_M_120 cs_M_out (k_M_out hl) (Nat.lt_succ_self _) rfl rfl (Nat.le_of_ble_eq_true rfl) (fun v8 h8 n8 q8 z8 => ?_) (fun _ _ _ _ z => z.elim)
  obtain ⟨y8, y8h, y8n⟩ := z8
  rw [y8, y8h, y8n]
  refine r_if_eqZ (tgt := 22) C dc_M_talk_11 (by decide) (fun c11 => ?_) (fun c11 => ?_)
  ·
    refine r_iload_n C dc_M_talk_22 rfl rfl ?_
    refine r_bipush (v := nI 32) C dc_M_talk_23 (by decide) ?_
    refine r_callS C dp dc_M_talk_25 cw_M_120 cs_M_out (k_M_out hl) (Nat.lt_succ_self _) rfl rfl (Nat.le_of_ble_eq_true rfl) (fun v25 h25 n25 q25 z25 => ?_) (fun _ _ _ _ z => z.elim)
    obtain ⟨y25, y25h, y25n⟩ := z25
    rw [y25, y25h, y25n]
    refine r_if_neZ (tgt := 40) C dc_M_talk_28 (by decide) (fun c28 => ?_) (fun c28 => ?_)
    ·
      first | refine r_aload_n C dc_M_talk_40 rfl rfl ?_ | refine r_aload_nq C dc_M_talk_40 rfl rfl ?_
      refine r_iconst (v := nI 2) C dc_M_talk_41 (by decide) ?_
      refine r_put C dc_M_talk_42 fl_M_117 mh_0 rfl rfl (Nat.le_of_ble_eq_true rfl) ?_
      rw [mp_0]
      refine r_goto (tgt := 62) C dc_M_talk_45 (by decide) ?_
      exact r_vret C dp hr dc_M_talk_62 (Nat.le_refl _) ⟨rfl, by rw [if_neg (of_decide_eq_false c11), if_pos (Or.inl (of_decide_eq_true c28)), ur_ur], rfl⟩
    ·
      refine r_iload_n C dc_M_talk_31 rfl rfl ?_
      refine r_bipush (v := nI 101) C dc_M_talk_32 (by decide) ?_
      refine r_callS C dp dc_M_talk_34 cw_M_120 cs_M_out (k_M_out hl) (Nat.lt_succ_self _) rfl rfl (Nat.le_of_ble_eq_true rfl) (fun v34 h34 n34 q34 z34 => ?_) (fun _ _ _ _ z => z.elim)
      obtain ⟨y34, y34h, y34n⟩ := z34
      rw [y34, y34h, y34n]
      refine r_if_eqZ (tgt := 48) C dc_M_talk_37 (by decide) (fun c37 => ?_) (fun c37 => ?_)
      ·
        obtain ⟨a, ha, rfl⟩ := nd_of (of_decide_eq_false c11)
        first | refine r_aload_n C dc_M_talk_48 rfl rfl ?_ | refine r_aload_nq C dc_M_talk_48 rfl rfl ?_
        refine r_get C dc_M_talk_49 fl_M_26 mh_0 rfl ?_
        refine r_iload_n C dc_M_talk_52 rfl rfl ?_
        refine r_iload_n C dc_M_talk_53 rfl rfl ?_
        refine r_iast C dc_M_talk_54 mh_6 rfl (by omega) (by decide) ?_
        rw [ms_6]
        first | refine r_aload_n C dc_M_talk_55 rfl rfl ?_ | refine r_aload_nq C dc_M_talk_55 rfl rfl ?_
        refine r_get C dc_M_talk_56 fl_M_29 mh_0 rfl ?_
        refine r_iload_n C dc_M_talk_59 rfl rfl ?_
        refine r_iload_n C dc_M_talk_60 rfl rfl ?_
        refine r_iast C dc_M_talk_61 mh_7 rfl (by omega) (by decide) ?_
        rw [ms_7]
        exact r_vret C dp hr dc_M_talk_62 (Nat.le_refl _) ⟨rfl, by rw [if_neg (of_decide_eq_false c11), if_neg (fun z => z.elim (of_decide_eq_false c28) (of_decide_eq_false c37)), nI_clamp (by omega)]; rfl, rfl⟩
      ·
        first | refine r_aload_n C dc_M_talk_40 rfl rfl ?_ | refine r_aload_nq C dc_M_talk_40 rfl rfl ?_
        refine r_iconst (v := nI 2) C dc_M_talk_41 (by decide) ?_
        refine r_put C dc_M_talk_42 fl_M_117 mh_0 rfl rfl (Nat.le_of_ble_eq_true rfl) ?_
        rw [mp_0]
        refine r_goto (tgt := 62) C dc_M_talk_45 (by decide) ?_
        exact r_vret C dp hr dc_M_talk_62 (Nat.le_refl _) ⟨rfl, by rw [if_neg (of_decide_eq_false c11), if_pos (Or.inr (of_decide_eq_true c37)), ur_ur], rfl⟩
  ·
    first | refine r_aload_n C dc_M_talk_14 rfl rfl ?_ | refine r_aload_nq C dc_M_talk_14 rfl rfl ?_
    refine r_iconst (v := nI 1) C dc_M_talk_15 (by decide) ?_
    refine r_put C dc_M_talk_16 fl_M_117 mh_0 rfl rfl (Nat.le_of_ble_eq_true rfl) ?_
    rw [mp_0]
    refine r_goto (tgt := 62) C dc_M_talk_19 (by decide) ?_
    exact r_vret C dp hr dc_M_talk_62 (Nat.le_refl _) ⟨rfl, by rw [if_pos (of_decide_eq_true c11), ur_ur], rfl⟩
end Model2
