theorem tb_lo {v : Int32} (z : v < 0) : v.toInt < 0 := Int32.lt_iff_toInt_lt.mp z
theorem tb_hi {v : Int32} {n : Nat} (hn : n < 2 ^ 31) (z : nI n ≤ v) : (n : Int) ≤ v.toInt := by
  have := Int32.le_iff_toInt_le.mp z
  rwa [nI_toInt hn] at this
theorem cntT_t {P : Nat → Bool} {k : Nat} (q : P k = true) : cntT P (k + 1) = cntT P k + 1 := by
  show cntT P k + (bif P k then 1 else 0) = _
  rw [q]
  rfl
theorem cntT_f {P : Nat → Bool} {k : Nat} (q : P k = false) : cntT P (k + 1) = cntT P k := by
  show cntT P k + (bif P k then 1 else 0) = _
  rw [q]
  rfl
def mAbJ (y : Nat → Nat → Int32) (a : Nat) : Nat → Option Int32
  | 0 => some (if y 12 a = 0 then (bif mDirty y (y 18 a) then -1 else y 15 a) else -1)
  | 1 => some (y 14 a)
  | 2 => some (y 16 a)
  | 3 => some (y 17 a)
  | 4 => some (y 35 a)
  | 5 => some (y 5 a)
  | 6 => some (y 4 a)
  | 7 => some (nI (cntT (fun k => decide (y 20 (4 * a + k) = -1)) 4))
  | 8 => some (if y 10 a = 0 then nI 0 else nI 1)
  | _ => none
def mAb (y : Nat → Nat → Int32) (a : Nat) (v : Int32) : Int32 × (Nat → Nat → Int32) := if v < 0 ∨ nI 9 ≤ v then (nI 0, th y 2) else match mAbJ y a (cl v) with
  | some r => (r, y)
  | none => (nI 0, th y 2)
theorem mAb_o {y : Nat → Nat → Int32} {a : Nat} {v : Int32} (q : v < 0 ∨ nI 9 ≤ v) : mAb y a v = (nI 0, th y 2) := if_pos q
theorem mAb_i {y : Nat → Nat → Int32} {a j : Nat} {r : Int32} (hj : j < 9) (q : mAbJ y a j = some r) : mAb y a (nI j) = (r, y) := by
  have q1 : ¬ (nI j < 0 ∨ nI 9 ≤ nI j) := by
    intro z
    rcases z with z | z
    · exact nI_lt0 (by omega) z
    · have z1 := tb_hi (by decide) z
      rw [nI_toInt (by omega)] at z1
      omega
  unfold mAb
  rw [if_neg q1, cl_nI (by omega), q]
def mCnt (y : Nat → Nat → Int32) : Nat → Int32
  | 0 => nI (cntT (fun k => decide (nI k < y 1 k)) 36)
  | 1 => nI (cntT (fun k => decide (y 18 k = nI k)) 12)
  | 2 => y 36 0
  | 3 => y 38 0
  | 4 => y 39 0
  | 5 => y 40 0
  | 6 => y 41 0
  | 7 => nI (cntT (fun k => decide (y 18 k = nI k ∧ ¬ y 12 k = 0 ∧ mDirty y (nI k) = false)) 12)
  | _ => -1
def mCo (y : Nat → Nat → Int32) (v : Int32) : Int32 := if v < 0 ∨ nI 8 ≤ v then -1 else mCnt y (cl v)
theorem mCo_i {y : Nat → Nat → Int32} {j : Nat} (hj : j < 8) : mCo y (nI j) = mCnt y j := by
  have q1 : ¬ (nI j < 0 ∨ nI 8 ≤ nI j) := by
    intro z
    rcases z with z | z
    · exact nI_lt0 (by omega) z
    · have z1 := tb_hi (by decide) z
      rw [nI_toInt (by omega)] at z1
      omega
  unfold mCo
  rw [if_neg q1, cl_nI (by omega)]
section Model19
variable {l : Launch} {D : va_G} {A : Nat → ClassId} {G : Heap} {h : Hp} {n mm df : Nat} {x : Nat → Nat → Int32}
set_option maxRecDepth 4000 in
set_option maxHeartbeats 1000000 in
theorem k_M_about (hl : l.stackTraces = false) {v0 v1 : Int32} {ot : Nat → Option Nat} (hot : ∀ k, k < 36 → x 1 k = oi (ot k)) (ht36 : ∀ k t, k < 36 → ot k = some t → t < 36) : Ct l D A G my_M_about cd_M_about 3 (some (.int)) (df + 1) 0 0 [.ref mm, .int v0, .int v1] (MH A mm x h) n (fun v h' n' => ((ou v0 12 ∧ v = some (.int (nI 0)) ∧ h' = MH A mm (th x 1) h) ∨ (¬ ou v0 12 ∧ ∃ N, gP ot (itP ot N) 36 = itP ot N ∧ v = some (.int (mAb (mTx ot x N) (cl v0) v1).1) ∧ h' = MH A mm (mAb (mTx ot x N) (cl v0) v1).2 h)) ∧ n' = n) (fun _ _ _ => False) := by
  refine Ct.of (by decide) hl (Nat.le_of_ble_eq_true rfl) ?_
  intro p e s m args below meth c C hr hnm ht dp
  first | refine r_aload_n C dc_M_about_0 rfl rfl ?_ | refine r_aload_nq C dc_M_about_0 rfl rfl ?_
  refine r_iconst (v := nI 0) C dc_M_about_1 (by decide) ?_
  refine r_put C dc_M_about_2 fl_M_117 mh_0 rfl rfl (Nat.le_of_ble_eq_true rfl) ?_
  rw [mp_0]
  refine r_iload_n C dc_M_about_5 rfl rfl ?_
  refine r_bipush (v := nI 12) C dc_M_about_6 (by decide) ?_
  refine r_callS C dp dc_M_about_8 cw_M_120 cs_M_out (k_M_out (df := df) hl) (by omega) rfl rfl (Nat.le_of_ble_eq_true rfl) (fun v8 h8 n8 q8 z8 => ?_) (fun _ _ _ _ z => z.elim)
  obtain ⟨y8, y8h, y8n⟩ := z8
  rw [y8, y8h, y8n]
  refine r_if_eqZ (tgt := 20) C dc_M_about_11 (by decide) (fun c11 => ?_) (fun c11 => ?_)
  ·
    have hou : ¬ ou v0 12 := of_decide_eq_false c11
    obtain ⟨a, ha, rfl⟩ := nd_of hou
    first | refine r_aload_n C dc_M_about_20 rfl rfl ?_ | refine r_aload_nq C dc_M_about_20 rfl rfl ?_
    refine r_callV C dp dc_M_about_21 cw_M_221 cm_M_findBuses cv_M_findBuses rfl mh_0 (k_M_findBuses (df := df) (ot := ot) (x := th x 0) hl hot ht36) (by omega) rfl rfl (Nat.le_of_ble_eq_true rfl) (fun v9 h9 n9 q9 z9 => ?_) (fun _ _ _ _ z => z.elim)
    obtain ⟨y1, ⟨N, hfx, y2⟩, y3⟩ := z9
    rw [y1, y2, y3]
    refine rw_h (y' := mTx ot x N) rfl ?_
    generalize hY : mTx ot x N = y
    refine r_iload_n C dc_M_about_24 rfl rfl ?_
    rcases pk_ix v1 (n := 9) (by decide) with z | z | ⟨j, hj, rfl⟩
    ·
      refine r_tableOut (tgt := 172) C dc_M_about_25 (Or.inl (tb_lo z)) (by decide) ?_
      first | refine r_aload_n C dc_M_about_172 rfl rfl ?_ | refine r_aload_nq C dc_M_about_172 rfl rfl ?_
      refine r_iconst (v := nI 2) C dc_M_about_173 (by decide) ?_
      refine r_callV C dp dc_M_about_174 cw_M_124 cm_M_fail cv_M_fail rfl (mh_0) (k_M_fail (df := df) hl) (by omega) rfl rfl (Nat.le_of_ble_eq_true rfl) (fun v174 h174 n174 q174 z174 => ?_) (fun _ _ _ _ z => z.elim)
      obtain ⟨y174, y174h, y174n⟩ := z174
      rw [y174, y174h, y174n]
      exact r_iret C dp hr dc_M_about_177 (Nat.le_refl _) ⟨Or.inr ⟨hou, N, hfx, by rw [cl_nI (k := a) (by omega), hY, mAb_o (Or.inl z)], by rw [cl_nI (k := a) (by omega), hY, mAb_o (Or.inl z)]⟩, rfl⟩
    ·
      refine r_tableOut (tgt := 172) C dc_M_about_25 (Or.inr (by have := tb_hi (by decide) z; omega)) (by decide) ?_
      first | refine r_aload_n C dc_M_about_172 rfl rfl ?_ | refine r_aload_nq C dc_M_about_172 rfl rfl ?_
      refine r_iconst (v := nI 2) C dc_M_about_173 (by decide) ?_
      refine r_callV C dp dc_M_about_174 cw_M_124 cm_M_fail cv_M_fail rfl (mh_0) (k_M_fail (df := df) hl) (by omega) rfl rfl (Nat.le_of_ble_eq_true rfl) (fun v174 h174 n174 q174 z174 => ?_) (fun _ _ _ _ z => z.elim)
      obtain ⟨y174, y174h, y174n⟩ := z174
      rw [y174, y174h, y174n]
      exact r_iret C dp hr dc_M_about_177 (Nat.le_refl _) ⟨Or.inr ⟨hou, N, hfx, by rw [cl_nI (k := a) (by omega), hY, mAb_o (Or.inr z)], by rw [cl_nI (k := a) (by omega), hY, mAb_o (Or.inr z)]⟩, rfl⟩
    ·
      have e9 : j = 0 ∨ j = 1 ∨ j = 2 ∨ j = 3 ∨ j = 4 ∨ j = 5 ∨ j = 6 ∨ j = 7 ∨ j = 8 := by omega
      rcases e9 with rfl | rfl | rfl | rfl | rfl | rfl | rfl | rfl | rfl
      ·
        refine r_tableIn (tgt := 76) C dc_M_about_25 (by decide) (by decide) rfl (by decide) ?_
        first | refine r_aload_n C dc_M_about_76 rfl rfl ?_ | refine r_aload_nq C dc_M_about_76 rfl rfl ?_
        refine r_get C dc_M_about_77 fl_M_44 mh_0 rfl ?_
        refine r_iload_n C dc_M_about_80 rfl rfl ?_
        refine r_zaldN C dc_M_about_81 mh_12 (by omega) (by decide) ?_
        refine r_if_ne (tgt := 98) C dc_M_about_82 (by decide) (fun c82 => ?_) (fun c82 => ?_)
        ·
          refine r_iconst (v := -1) C dc_M_about_98 (by decide) ?_
          refine r_goto (tgt := 108) C dc_M_about_99 (by decide) ?_
          exact r_iret C dp hr dc_M_about_108 (Nat.le_refl _) ⟨Or.inr ⟨hou, N, hfx, by rw [cl_nI (k := a) (by omega), hY, mAb_i (j := 0) (by decide) (congrArg some (if_neg c82))], by rw [cl_nI (k := a) (by omega), hY, mAb_i (j := 0) (by decide) (congrArg some (if_neg c82))]⟩, rfl⟩
        ·
          first | refine r_aload_n C dc_M_about_85 rfl rfl ?_ | refine r_aload_nq C dc_M_about_85 rfl rfl ?_
          first | refine r_aload_n C dc_M_about_86 rfl rfl ?_ | refine r_aload_nq C dc_M_about_86 rfl rfl ?_
          refine r_get C dc_M_about_87 fl_M_62 mh_0 rfl ?_
          refine r_iload_n C dc_M_about_90 rfl rfl ?_
          refine r_ialdN C dc_M_about_91 mh_18 (by omega) (by decide) ?_
          refine r_callV C dp dc_M_about_92 cw_M_209 cm_M_busDirty cv_M_busDirty rfl (mh_0) (k_M_busDirty (df := df) hl) (by omega) rfl rfl (Nat.le_of_ble_eq_true rfl) (fun v92 h92 n92 q92 z92 => ?_) (fun _ _ _ _ z => z.elim)
          obtain ⟨y92, y92h, y92n⟩ := z92
          rw [y92, y92h, y92n]
          have hD : anyT (fun k => decide (y 18 k = y 18 a ∧ ¬ y 11 k = 0)) 12 = mDirty y (y 18 a) := rfl
          rw [hD]
          refine r_if_eqZ (tgt := 102) C dc_M_about_95 (by decide) (fun c95 => ?_) (fun c95 => ?_)
          ·
            first | refine r_aload_n C dc_M_about_102 rfl rfl ?_ | refine r_aload_nq C dc_M_about_102 rfl rfl ?_
            refine r_get C dc_M_about_103 fl_M_53 mh_0 rfl ?_
            refine r_iload_n C dc_M_about_106 rfl rfl ?_
            refine r_ialdN C dc_M_about_107 mh_15 (by omega) (by decide) ?_
            exact r_iret C dp hr dc_M_about_108 (Nat.le_refl _) ⟨Or.inr ⟨hou, N, hfx, by rw [cl_nI (k := a) (by omega), hY, mAb_i (j := 0) (r := y 15 a) (by decide) (congrArg some ((if_pos c82).trans (by rw [c95]; rfl)))], by rw [cl_nI (k := a) (by omega), hY, mAb_i (j := 0) (r := y 15 a) (by decide) (congrArg some ((if_pos c82).trans (by rw [c95]; rfl)))]⟩, rfl⟩
          ·
            refine r_iconst (v := -1) C dc_M_about_98 (by decide) ?_
            refine r_goto (tgt := 108) C dc_M_about_99 (by decide) ?_
            exact r_iret C dp hr dc_M_about_108 (Nat.le_refl _) ⟨Or.inr ⟨hou, N, hfx, by rw [cl_nI (k := a) (by omega), hY, mAb_i (j := 0) (r := -1) (by decide) (congrArg some ((if_pos c82).trans (by rw [c95]; rfl)))], by rw [cl_nI (k := a) (by omega), hY, mAb_i (j := 0) (r := -1) (by decide) (congrArg some ((if_pos c82).trans (by rw [c95]; rfl)))]⟩, rfl⟩
      ·
        refine r_tableIn (tgt := 109) C dc_M_about_25 (by decide) (by decide) rfl (by decide) ?_
        first | refine r_aload_n C dc_M_about_109 rfl rfl ?_ | refine r_aload_nq C dc_M_about_109 rfl rfl ?_
        refine r_get C dc_M_about_110 fl_M_50 mh_0 rfl ?_
        refine r_iload_n C dc_M_about_113 rfl rfl ?_
        refine r_ialdN C dc_M_about_114 mh_14 (by omega) (by decide) ?_
        exact r_iret C dp hr dc_M_about_115 (Nat.le_refl _) ⟨Or.inr ⟨hou, N, hfx, by rw [cl_nI (k := a) (by omega), hY, mAb_i (j := 1) (by decide) (rfl)], by rw [cl_nI (k := a) (by omega), hY, mAb_i (j := 1) (by decide) (rfl)]⟩, rfl⟩
      ·
        refine r_tableIn (tgt := 116) C dc_M_about_25 (by decide) (by decide) rfl (by decide) ?_
        first | refine r_aload_n C dc_M_about_116 rfl rfl ?_ | refine r_aload_nq C dc_M_about_116 rfl rfl ?_
        refine r_get C dc_M_about_117 fl_M_56 mh_0 rfl ?_
        refine r_iload_n C dc_M_about_120 rfl rfl ?_
        refine r_ialdN C dc_M_about_121 mh_16 (by omega) (by decide) ?_
        exact r_iret C dp hr dc_M_about_122 (Nat.le_refl _) ⟨Or.inr ⟨hou, N, hfx, by rw [cl_nI (k := a) (by omega), hY, mAb_i (j := 2) (by decide) (rfl)], by rw [cl_nI (k := a) (by omega), hY, mAb_i (j := 2) (by decide) (rfl)]⟩, rfl⟩
      ·
        refine r_tableIn (tgt := 123) C dc_M_about_25 (by decide) (by decide) rfl (by decide) ?_
        first | refine r_aload_n C dc_M_about_123 rfl rfl ?_ | refine r_aload_nq C dc_M_about_123 rfl rfl ?_
        refine r_get C dc_M_about_124 fl_M_59 mh_0 rfl ?_
        refine r_iload_n C dc_M_about_127 rfl rfl ?_
        refine r_ialdN C dc_M_about_128 mh_17 (by omega) (by decide) ?_
        exact r_iret C dp hr dc_M_about_129 (Nat.le_refl _) ⟨Or.inr ⟨hou, N, hfx, by rw [cl_nI (k := a) (by omega), hY, mAb_i (j := 3) (by decide) (rfl)], by rw [cl_nI (k := a) (by omega), hY, mAb_i (j := 3) (by decide) (rfl)]⟩, rfl⟩
      ·
        refine r_tableIn (tgt := 130) C dc_M_about_25 (by decide) (by decide) rfl (by decide) ?_
        first | refine r_aload_n C dc_M_about_130 rfl rfl ?_ | refine r_aload_nq C dc_M_about_130 rfl rfl ?_
        refine r_get C dc_M_about_131 fl_M_110 mh_0 rfl ?_
        refine r_iload_n C dc_M_about_134 rfl rfl ?_
        refine r_ialdN C dc_M_about_135 mh_35 (by omega) (by decide) ?_
        exact r_iret C dp hr dc_M_about_136 (Nat.le_refl _) ⟨Or.inr ⟨hou, N, hfx, by rw [cl_nI (k := a) (by omega), hY, mAb_i (j := 4) (by decide) (rfl)], by rw [cl_nI (k := a) (by omega), hY, mAb_i (j := 4) (by decide) (rfl)]⟩, rfl⟩
      ·
        refine r_tableIn (tgt := 137) C dc_M_about_25 (by decide) (by decide) rfl (by decide) ?_
        first | refine r_aload_n C dc_M_about_137 rfl rfl ?_ | refine r_aload_nq C dc_M_about_137 rfl rfl ?_
        refine r_get C dc_M_about_138 fl_M_23 mh_0 rfl ?_
        refine r_iload_n C dc_M_about_141 rfl rfl ?_
        refine r_ialdN C dc_M_about_142 mh_5 (by omega) (by decide) ?_
        exact r_iret C dp hr dc_M_about_143 (Nat.le_refl _) ⟨Or.inr ⟨hou, N, hfx, by rw [cl_nI (k := a) (by omega), hY, mAb_i (j := 5) (by decide) (rfl)], by rw [cl_nI (k := a) (by omega), hY, mAb_i (j := 5) (by decide) (rfl)]⟩, rfl⟩
      ·
        refine r_tableIn (tgt := 144) C dc_M_about_25 (by decide) (by decide) rfl (by decide) ?_
        first | refine r_aload_n C dc_M_about_144 rfl rfl ?_ | refine r_aload_nq C dc_M_about_144 rfl rfl ?_
        refine r_get C dc_M_about_145 fl_M_20 mh_0 rfl ?_
        refine r_iload_n C dc_M_about_148 rfl rfl ?_
        refine r_ialdN C dc_M_about_149 mh_4 (by omega) (by decide) ?_
        exact r_iret C dp hr dc_M_about_150 (Nat.le_refl _) ⟨Or.inr ⟨hou, N, hfx, by rw [cl_nI (k := a) (by omega), hY, mAb_i (j := 6) (by decide) (rfl)], by rw [cl_nI (k := a) (by omega), hY, mAb_i (j := 6) (by decide) (rfl)]⟩, rfl⟩
      ·
        refine r_tableIn (tgt := 151) C dc_M_about_25 (by decide) (by decide) rfl (by decide) ?_
        first | refine r_aload_n C dc_M_about_151 rfl rfl ?_ | refine r_aload_nq C dc_M_about_151 rfl rfl ?_
        refine r_iload_n C dc_M_about_152 rfl rfl ?_
        refine r_callV C dp dc_M_about_153 cw_M_230 cm_M_waiting cv_M_waiting rfl (mh_0) (k_M_waiting (df := df) hl ha) (by omega) rfl rfl (Nat.le_of_ble_eq_true rfl) (fun v153 h153 n153 q153 z153 => ?_) (fun _ _ _ _ z => z.elim)
        obtain ⟨y153, y153h, y153n⟩ := z153
        rw [y153, y153h, y153n]
        exact r_iret C dp hr dc_M_about_156 (Nat.le_refl _) ⟨Or.inr ⟨hou, N, hfx, by rw [cl_nI (k := a) (by omega), hY, mAb_i (j := 7) (by decide) (rfl)], by rw [cl_nI (k := a) (by omega), hY, mAb_i (j := 7) (by decide) (rfl)]⟩, rfl⟩
      ·
        refine r_tableIn (tgt := 157) C dc_M_about_25 (by decide) (by decide) rfl (by decide) ?_
        first | refine r_aload_n C dc_M_about_157 rfl rfl ?_ | refine r_aload_nq C dc_M_about_157 rfl rfl ?_
        refine r_get C dc_M_about_158 fl_M_38 mh_0 rfl ?_
        refine r_iload_n C dc_M_about_161 rfl rfl ?_
        refine r_zaldN C dc_M_about_162 mh_10 (by omega) (by decide) ?_
        refine r_if_eq (tgt := 170) C dc_M_about_163 (by decide) (fun c163 => ?_) (fun c163 => ?_)
        ·
          refine r_iconst (v := nI 0) C dc_M_about_170 (by decide) ?_
          exact r_iret C dp hr dc_M_about_171 (Nat.le_refl _) ⟨Or.inr ⟨hou, N, hfx, by rw [cl_nI (k := a) (by omega), hY, mAb_i (j := 8) (by decide) (congrArg some (if_pos c163))], by rw [cl_nI (k := a) (by omega), hY, mAb_i (j := 8) (by decide) (congrArg some (if_pos c163))]⟩, rfl⟩
        ·
          refine r_iconst (v := nI 1) C dc_M_about_166 (by decide) ?_
          refine r_goto (tgt := 171) C dc_M_about_167 (by decide) ?_
          exact r_iret C dp hr dc_M_about_171 (Nat.le_refl _) ⟨Or.inr ⟨hou, N, hfx, by rw [cl_nI (k := a) (by omega), hY, mAb_i (j := 8) (by decide) (congrArg some (if_neg c163))], by rw [cl_nI (k := a) (by omega), hY, mAb_i (j := 8) (by decide) (congrArg some (if_neg c163))]⟩, rfl⟩
  ·
    first | refine r_aload_n C dc_M_about_14 rfl rfl ?_ | refine r_aload_nq C dc_M_about_14 rfl rfl ?_
    refine r_iconst (v := nI 1) C dc_M_about_15 (by decide) ?_
    refine r_callV C dp dc_M_about_16 cw_M_124 cm_M_fail cv_M_fail rfl (mh_0) (k_M_fail (df := df) hl) (by omega) rfl rfl (Nat.le_of_ble_eq_true rfl) (fun v16 h16 n16 q16 z16 => ?_) (fun _ _ _ _ z => z.elim)
    obtain ⟨y16, y16h, y16n⟩ := z16
    rw [y16, y16h, y16n]
    exact r_iret C dp hr dc_M_about_19 (Nat.le_refl _) ⟨Or.inl ⟨of_decide_eq_true c11, rfl, by rw [ur_ur]⟩, rfl⟩
set_option maxRecDepth 4000 in
set_option maxHeartbeats 1000000 in
theorem k_M_count (hl : l.stackTraces = false) {v0 : Int32} {ot : Nat → Option Nat} (hot : ∀ k, k < 36 → x 1 k = oi (ot k)) (ht36 : ∀ k t, k < 36 → ot k = some t → t < 36) : Ct l D A G my_M_count cd_M_count 4 (some (.int)) (df + 1) 0 0 [.ref mm, .int v0] (MH A mm x h) n (fun v h' n' => (∃ N, gP ot (itP ot N) 36 = itP ot N ∧ v = some (.int (mCo (mTx ot x N) v0)) ∧ h' = MH A mm (mTx ot x N) h) ∧ n' = n) (fun _ _ _ => False) := by
  refine Ct.of (by decide) hl (Nat.le_of_ble_eq_true rfl) ?_
  intro p e s m args below meth c C hr hnm ht dp
  first | refine r_aload_n C dc_M_count_0 rfl rfl ?_ | refine r_aload_nq C dc_M_count_0 rfl rfl ?_
  refine r_iconst (v := nI 0) C dc_M_count_1 (by decide) ?_
  refine r_put C dc_M_count_2 fl_M_117 mh_0 rfl rfl (Nat.le_of_ble_eq_true rfl) ?_
  rw [mp_0]
  first | refine r_aload_n C dc_M_count_5 rfl rfl ?_ | refine r_aload_nq C dc_M_count_5 rfl rfl ?_
  refine r_callV C dp dc_M_count_6 cw_M_221 cm_M_findBuses cv_M_findBuses rfl mh_0 (k_M_findBuses (df := df) (ot := ot) (x := th x 0) hl hot ht36) (by omega) rfl rfl (Nat.le_of_ble_eq_true rfl) (fun v9 h9 n9 q9 z9 => ?_) (fun _ _ _ _ z => z.elim)
  obtain ⟨y1, ⟨N, hfx, y2⟩, y3⟩ := z9
  rw [y1, y2, y3]
  refine rw_h (y' := mTx ot x N) rfl ?_
  generalize hY : mTx ot x N = y
  refine r_iconst (v := nI 0) C dc_M_count_9 (by decide) ?_
  refine r_istore_n C dc_M_count_10 rfl (by decide) (nw_of rfl) ?_
  refine r_iload_n C dc_M_count_11 rfl rfl ?_
  rcases pk_ix v0 (n := 8) (by decide) with z | z | ⟨j, hj, rfl⟩
  ·
    refine r_tableOut (tgt := 165) C dc_M_count_12 (Or.inl (tb_lo z)) (by decide) ?_
    refine r_iconst (v := -1) C dc_M_count_165 (by decide) ?_
    exact r_iret C dp hr dc_M_count_166 (Nat.le_refl _) ⟨⟨N, hfx, by rw [hY]; exact congrArg (fun t => some (Value.int t)) (if_pos (Or.inl z)).symm, by rw [hY]⟩, rfl⟩
  ·
    refine r_tableOut (tgt := 165) C dc_M_count_12 (Or.inr (by have := tb_hi (by decide) z; omega)) (by decide) ?_
    refine r_iconst (v := -1) C dc_M_count_165 (by decide) ?_
    exact r_iret C dp hr dc_M_count_166 (Nat.le_refl _) ⟨⟨N, hfx, by rw [hY]; exact congrArg (fun t => some (Value.int t)) (if_pos (Or.inr z)).symm, by rw [hY]⟩, rfl⟩
  ·
    have e9 : j = 0 ∨ j = 1 ∨ j = 2 ∨ j = 3 ∨ j = 4 ∨ j = 5 ∨ j = 6 ∨ j = 7 := by omega
    rcases e9 with rfl | rfl | rfl | rfl | rfl | rfl | rfl | rfl
    ·
      refine r_tableIn (tgt := 60) C dc_M_count_12 (by decide) (by decide) rfl (by decide) ?_
      first | refine r_aload_n C dc_M_count_60 rfl rfl ?_ | refine r_aload_nq C dc_M_count_60 rfl rfl ?_
      refine r_callV C dp dc_M_count_61 cw_M_128 cm_M_cables cv_M_cables rfl (mh_0) (k_M_cables (df := df) hl) (by omega) rfl rfl (Nat.le_of_ble_eq_true rfl) (fun v61 h61 n61 q61 z61 => ?_) (fun _ _ _ _ z => z.elim)
      obtain ⟨y61, y61h, y61n⟩ := z61
      rw [y61, y61h, y61n]
      exact r_iret C dp hr dc_M_count_64 (Nat.le_refl _) ⟨⟨N, hfx, by rw [hY, mCo_i (j := 0) (by decide)]; rfl, by rw [hY]⟩, rfl⟩
    ·
      refine r_tableIn (tgt := 65) C dc_M_count_12 (by decide) (by decide) rfl (by decide) ?_
      have lp : ∀ k, k ≤ 12 → Rw p l e (cR (df + 1) 0 0) s m args below meth c (CQ D G n (fun v h' n' => (∃ N, gP ot (itP ot N) 36 = itP ot N ∧ v = some (.int (mCo (mTx ot x N) (nI 1))) ∧ h' = MH A mm (mTx ot x N) h) ∧ n' = n) (fun _ _ _ => False) below args s 0 0) D G 4 0 0 (MH A mm y h) n [(0, .ref mm), (1, .int (nI 1)), (2, .int (nI (cntT (fun k => decide (y 18 k = nI k)) k))), (3, .int (nI k))] 67 [] := by
        refine r_loop 12 _ ?_ ?_
        ·
          refine r_iload_n C dc_M_count_67 rfl rfl ?_
          refine r_bipush (v := nI 12) C dc_M_count_68 (by decide) ?_
          refine r_icmp_geN (tgt := 92) C dc_M_count_70 (by decide) (by omega) (by omega) (fun c70 => ?_) (fun c70 => ?_)
          ·
            refine r_iload_n C dc_M_count_92 rfl rfl ?_
            exact r_iret C dp hr dc_M_count_93 (Nat.le_refl _) ⟨⟨N, hfx, by rw [hY, mCo_i (j := 1) (by decide)]; rfl, by rw [hY]⟩, rfl⟩
          · exact absurd c70 (by omega)
        ·
          intro k hk ih
          refine r_iload_n C dc_M_count_67 rfl rfl ?_
          refine r_bipush (v := nI 12) C dc_M_count_68 (by decide) ?_
          refine r_icmp_geN (tgt := 92) C dc_M_count_70 (by decide) (by omega) (by omega) (fun c70 => ?_) (fun c70 => ?_)
          · exact absurd c70 (by omega)
          ·
            have hcn := cntT_le (fun k => decide (y 18 k = nI k)) k
            first | refine r_aload_n C dc_M_count_73 rfl rfl ?_ | refine r_aload_nq C dc_M_count_73 rfl rfl ?_
            refine r_get C dc_M_count_74 fl_M_62 mh_0 rfl ?_
            refine r_iload_n C dc_M_count_77 rfl rfl ?_
            refine r_ialdN C dc_M_count_78 mh_18 (by omega) (by decide) ?_
            refine r_iload_n C dc_M_count_79 rfl rfl ?_
            refine r_icmp_ne (tgt := 86) C dc_M_count_80 (by decide) (fun c80 => ?_) (fun c80 => ?_)
            ·
              rw [show cntT (fun k => decide (y 18 k = nI k)) k = cntT (fun k => decide (y 18 k = nI k)) (k + 1) from (cntT_f (decide_eq_false (fun z => absurd z c80))).symm]
              first | refine r_iincN C dc_M_count_86 rfl (by decide) (nw_of rfl) ?_ | refine r_iinc C dc_M_count_86 rfl rfl (by decide) (nw_of rfl) ?_
              refine r_goto (tgt := 67) C dc_M_count_89 (by decide) ?_
              refine r_weak ?_ (ih)
              exact wl_c (rfl) (wl_c (rfl) (wl_c (rfl) (wl_c (rfl) (wl_n))))
            ·
              first | refine r_iincN C dc_M_count_83 rfl (by decide) (nw_of rfl) ?_ | refine r_iinc C dc_M_count_83 rfl rfl (by decide) (nw_of rfl) ?_
              rw [show cntT (fun k => decide (y 18 k = nI k)) k + 1 = cntT (fun k => decide (y 18 k = nI k)) (k + 1) from (cntT_t (decide_eq_true c80)).symm]
              first | refine r_iincN C dc_M_count_86 rfl (by decide) (nw_of rfl) ?_ | refine r_iinc C dc_M_count_86 rfl rfl (by decide) (nw_of rfl) ?_
              refine r_goto (tgt := 67) C dc_M_count_89 (by decide) ?_
              refine r_weak ?_ (ih)
              exact wl_c (rfl) (wl_c (rfl) (wl_c (rfl) (wl_c (rfl) (wl_n))))
      refine r_iconst (v := nI 0) C dc_M_count_65 (by decide) ?_
      refine r_istore_n C dc_M_count_66 rfl (by decide) (nw_of rfl) ?_
      refine r_weak ?_ (lp 0 (by omega))
      exact wl_c (rfl) (wl_c (rfl) (wl_c (rfl) (wl_c (rfl) (wl_n))))
    ·
      refine r_tableIn (tgt := 94) C dc_M_count_12 (by decide) (by decide) rfl (by decide) ?_
      first | refine r_aload_n C dc_M_count_94 rfl rfl ?_ | refine r_aload_nq C dc_M_count_94 rfl rfl ?_
      refine r_get C dc_M_count_95 fl_M_136 mh_0 rfl ?_
      exact r_iret C dp hr dc_M_count_98 (Nat.le_refl _) ⟨⟨N, hfx, by rw [hY, mCo_i (j := 2) (by decide)]; rfl, by rw [hY]⟩, rfl⟩
    ·
      refine r_tableIn (tgt := 99) C dc_M_count_12 (by decide) (by decide) rfl (by decide) ?_
      first | refine r_aload_n C dc_M_count_99 rfl rfl ?_ | refine r_aload_nq C dc_M_count_99 rfl rfl ?_
      refine r_get C dc_M_count_100 fl_M_174 mh_0 rfl ?_
      exact r_iret C dp hr dc_M_count_103 (Nat.le_refl _) ⟨⟨N, hfx, by rw [hY, mCo_i (j := 3) (by decide)]; rfl, by rw [hY]⟩, rfl⟩
    ·
      refine r_tableIn (tgt := 104) C dc_M_count_12 (by decide) (by decide) rfl (by decide) ?_
      first | refine r_aload_n C dc_M_count_104 rfl rfl ?_ | refine r_aload_nq C dc_M_count_104 rfl rfl ?_
      refine r_get C dc_M_count_105 fl_M_150 mh_0 rfl ?_
      exact r_iret C dp hr dc_M_count_108 (Nat.le_refl _) ⟨⟨N, hfx, by rw [hY, mCo_i (j := 4) (by decide)]; rfl, by rw [hY]⟩, rfl⟩
    ·
      refine r_tableIn (tgt := 109) C dc_M_count_12 (by decide) (by decide) rfl (by decide) ?_
      first | refine r_aload_n C dc_M_count_109 rfl rfl ?_ | refine r_aload_nq C dc_M_count_109 rfl rfl ?_
      refine r_get C dc_M_count_110 fl_M_206 mh_0 rfl ?_
      exact r_iret C dp hr dc_M_count_113 (Nat.le_refl _) ⟨⟨N, hfx, by rw [hY, mCo_i (j := 5) (by decide)]; rfl, by rw [hY]⟩, rfl⟩
    ·
      refine r_tableIn (tgt := 114) C dc_M_count_12 (by decide) (by decide) rfl (by decide) ?_
      first | refine r_aload_n C dc_M_count_114 rfl rfl ?_ | refine r_aload_nq C dc_M_count_114 rfl rfl ?_
      refine r_get C dc_M_count_115 fl_M_198 mh_0 rfl ?_
      exact r_iret C dp hr dc_M_count_118 (Nat.le_refl _) ⟨⟨N, hfx, by rw [hY, mCo_i (j := 6) (by decide)]; rfl, by rw [hY]⟩, rfl⟩
    ·
      refine r_tableIn (tgt := 119) C dc_M_count_12 (by decide) (by decide) rfl (by decide) ?_
      have lp : ∀ k, k ≤ 12 → Rw p l e (cR (df + 1) 0 0) s m args below meth c (CQ D G n (fun v h' n' => (∃ N, gP ot (itP ot N) 36 = itP ot N ∧ v = some (.int (mCo (mTx ot x N) (nI 7))) ∧ h' = MH A mm (mTx ot x N) h) ∧ n' = n) (fun _ _ _ => False) below args s 0 0) D G 4 0 0 (MH A mm y h) n [(0, .ref mm), (1, .int (nI 7)), (2, .int (nI (cntT (fun k => decide (y 18 k = nI k ∧ ¬ y 12 k = 0 ∧ mDirty y (nI k) = false)) k))), (3, .int (nI k))] 121 [] := by
        refine r_loop 12 _ ?_ ?_
        ·
          refine r_iload_n C dc_M_count_121 rfl rfl ?_
          refine r_bipush (v := nI 12) C dc_M_count_122 (by decide) ?_
          refine r_icmp_geN (tgt := 163) C dc_M_count_124 (by decide) (by omega) (by omega) (fun c124 => ?_) (fun c124 => ?_)
          ·
            refine r_iload_n C dc_M_count_163 rfl rfl ?_
            exact r_iret C dp hr dc_M_count_164 (Nat.le_refl _) ⟨⟨N, hfx, by rw [hY, mCo_i (j := 7) (by decide)]; rfl, by rw [hY]⟩, rfl⟩
          · exact absurd c124 (by omega)
        ·
          intro k hk ih
          refine r_iload_n C dc_M_count_121 rfl rfl ?_
          refine r_bipush (v := nI 12) C dc_M_count_122 (by decide) ?_
          refine r_icmp_geN (tgt := 163) C dc_M_count_124 (by decide) (by omega) (by omega) (fun c124 => ?_) (fun c124 => ?_)
          · exact absurd c124 (by omega)
          ·
            have hcn := cntT_le (fun k => decide (y 18 k = nI k ∧ ¬ y 12 k = 0 ∧ mDirty y (nI k) = false)) k
            first | refine r_aload_n C dc_M_count_127 rfl rfl ?_ | refine r_aload_nq C dc_M_count_127 rfl rfl ?_
            refine r_get C dc_M_count_128 fl_M_62 mh_0 rfl ?_
            refine r_iload_n C dc_M_count_131 rfl rfl ?_
            refine r_ialdN C dc_M_count_132 mh_18 (by omega) (by decide) ?_
            refine r_iload_n C dc_M_count_133 rfl rfl ?_
            refine r_icmp_ne (tgt := 157) C dc_M_count_134 (by decide) (fun c134 => ?_) (fun c134 => ?_)
            ·
              rw [show cntT (fun k => decide (y 18 k = nI k ∧ ¬ y 12 k = 0 ∧ mDirty y (nI k) = false)) k = cntT (fun k => decide (y 18 k = nI k ∧ ¬ y 12 k = 0 ∧ mDirty y (nI k) = false)) (k + 1) from (cntT_f (decide_eq_false (fun z => absurd z.1 c134))).symm]
              first | refine r_iincN C dc_M_count_157 rfl (by decide) (nw_of rfl) ?_ | refine r_iinc C dc_M_count_157 rfl rfl (by decide) (nw_of rfl) ?_
              refine r_goto (tgt := 121) C dc_M_count_160 (by decide) ?_
              refine r_weak ?_ (ih)
              exact wl_c (rfl) (wl_c (rfl) (wl_c (rfl) (wl_c (rfl) (wl_n))))
            ·
              first | refine r_aload_n C dc_M_count_137 rfl rfl ?_ | refine r_aload_nq C dc_M_count_137 rfl rfl ?_
              refine r_get C dc_M_count_138 fl_M_44 mh_0 rfl ?_
              refine r_iload_n C dc_M_count_141 rfl rfl ?_
              refine r_zaldN C dc_M_count_142 mh_12 (by omega) (by decide) ?_
              refine r_if_eq (tgt := 157) C dc_M_count_143 (by decide) (fun c143 => ?_) (fun c143 => ?_)
              ·
                rw [show cntT (fun k => decide (y 18 k = nI k ∧ ¬ y 12 k = 0 ∧ mDirty y (nI k) = false)) k = cntT (fun k => decide (y 18 k = nI k ∧ ¬ y 12 k = 0 ∧ mDirty y (nI k) = false)) (k + 1) from (cntT_f (decide_eq_false (fun z => absurd c143 z.2.1))).symm]
                first | refine r_iincN C dc_M_count_157 rfl (by decide) (nw_of rfl) ?_ | refine r_iinc C dc_M_count_157 rfl rfl (by decide) (nw_of rfl) ?_
                refine r_goto (tgt := 121) C dc_M_count_160 (by decide) ?_
                refine r_weak ?_ (ih)
                exact wl_c (rfl) (wl_c (rfl) (wl_c (rfl) (wl_c (rfl) (wl_n))))
              ·
                first | refine r_aload_n C dc_M_count_146 rfl rfl ?_ | refine r_aload_nq C dc_M_count_146 rfl rfl ?_
                refine r_iload_n C dc_M_count_147 rfl rfl ?_
                refine r_callV C dp dc_M_count_148 cw_M_209 cm_M_busDirty cv_M_busDirty rfl (mh_0) (k_M_busDirty (df := df) hl) (by omega) rfl rfl (Nat.le_of_ble_eq_true rfl) (fun v148 h148 n148 q148 z148 => ?_) (fun _ _ _ _ z => z.elim)
                obtain ⟨y148, y148h, y148n⟩ := z148
                rw [y148, y148h, y148n]
                have hD : anyT (fun t => decide (y 18 t = nI k ∧ ¬ y 11 t = 0)) 12 = mDirty y (nI k) := rfl
                rw [hD]
                refine r_if_neZ (tgt := 157) C dc_M_count_151 (by decide) (fun c151 => ?_) (fun c151 => ?_)
                ·
                  rw [show cntT (fun k => decide (y 18 k = nI k ∧ ¬ y 12 k = 0 ∧ mDirty y (nI k) = false)) k = cntT (fun k => decide (y 18 k = nI k ∧ ¬ y 12 k = 0 ∧ mDirty y (nI k) = false)) (k + 1) from (cntT_f (decide_eq_false (fun z => absurd (z.2.2.symm.trans c151) (by decide)))).symm]
                  first | refine r_iincN C dc_M_count_157 rfl (by decide) (nw_of rfl) ?_ | refine r_iinc C dc_M_count_157 rfl rfl (by decide) (nw_of rfl) ?_
                  refine r_goto (tgt := 121) C dc_M_count_160 (by decide) ?_
                  refine r_weak ?_ (ih)
                  exact wl_c (rfl) (wl_c (rfl) (wl_c (rfl) (wl_c (rfl) (wl_n))))
                ·
                  first | refine r_iincN C dc_M_count_154 rfl (by decide) (nw_of rfl) ?_ | refine r_iinc C dc_M_count_154 rfl rfl (by decide) (nw_of rfl) ?_
                  rw [show cntT (fun k => decide (y 18 k = nI k ∧ ¬ y 12 k = 0 ∧ mDirty y (nI k) = false)) k + 1 = cntT (fun k => decide (y 18 k = nI k ∧ ¬ y 12 k = 0 ∧ mDirty y (nI k) = false)) (k + 1) from (cntT_t (decide_eq_true ⟨c134, c143, c151⟩)).symm]
                  first | refine r_iincN C dc_M_count_157 rfl (by decide) (nw_of rfl) ?_ | refine r_iinc C dc_M_count_157 rfl rfl (by decide) (nw_of rfl) ?_
                  refine r_goto (tgt := 121) C dc_M_count_160 (by decide) ?_
                  refine r_weak ?_ (ih)
                  exact wl_c (rfl) (wl_c (rfl) (wl_c (rfl) (wl_c (rfl) (wl_n))))
      refine r_iconst (v := nI 0) C dc_M_count_119 (by decide) ?_
      refine r_istore_n C dc_M_count_120 rfl (by decide) (nw_of rfl) ?_
      refine r_weak ?_ (lp 0 (by omega))
      exact wl_c (rfl) (wl_c (rfl) (wl_c (rfl) (wl_c (rfl) (wl_n))))
end Model19
