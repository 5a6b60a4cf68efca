def up35 (c : CS) : CS := (ur c.1 35 (fun _ => c.1 35 0 + nI 1), c.2.1, c.2.2)
def cBs (ot : Nat → Option Nat) (g : Nat → Nat) (c : CS) : Nat → CS
  | 0 => c
  | k + 1 => if g k = k then cTB ot (cBs ot g c k) k else cBs ot g c k
def cTk (ot : Nat → Option Nat) (g : Nat → Nat) (c : CS) : Nat → CS
  | 0 => c
  | t + 1 => cLt (up35 (cBs ot g (cTk ot g c t) 12)) 12
theorem cBs_J {ot : Nat → Option Nat} {g : Nat → Nat} {J : CS → Prop} (hJ1 : ∀ c b0, J c → b0 < 12 → g b0 = b0 → J (cTB ot c b0)) {c : CS} (hc : J c) : ∀ k, k ≤ 12 → J (cBs ot g c k) := by
  intro k
  induction k with
  | zero => intro _; exact hc
  | succ k ih =>
    intro hk
    have h1 := ih (by omega)
    show J (if g k = k then cTB ot (cBs ot g c k) k else cBs ot g c k)
    split
    · rename_i e
      exact hJ1 _ k h1 (by omega) e
    · exact h1
theorem cTk_J {ot : Nat → Option Nat} {g : Nat → Nat} {J : Nat → CS → Prop} (hJ1 : ∀ t c b0, t < 50 → J t c → b0 < 12 → g b0 = b0 → J t (cTB ot c b0)) (hJ2 : ∀ t c, t < 50 → J t c → J (t + 1) (cLt (up35 c) 12)) {c : CS} (hc : J 0 c) : ∀ k, k ≤ 50 → J k (cTk ot g c k) := by
  intro k
  induction k with
  | zero => intro _; exact hc
  | succ k ih =>
    intro hk
    exact hJ2 k _ (by omega) (cBs_J (fun c b0 => hJ1 k c b0 (by omega)) (ih (by omega)) 12 (Nat.le_refl _))
section Cls11
variable {l : Launch} {D : va_G} {A : Nat → ClassId} {G : Heap} {b n df : Nat} {z : Nat → Nat → Int32} {r : Nat → Nat → Option Nat} {S : Nat → Bool} {q : Nat → Nat → Int32} {h : Hp}
set_option maxRecDepth 4000 in
set_option maxHeartbeats 1000000 in
theorem k_S_about (hl : l.stackTraces = false) {a v1 : Int32} (hv : RV b r S) : Ct l D A G my_S_about cd_S_about 4 (some (.int)) (df + 2) 2 12 [.ref b, .int a, .int v1] (CH A b z r (RH S q h)) n (fun v h' n' => (abC a v1) = 0 ∧ v = some (.int (cAbJ z r q (cl a) (cl v1))) ∧ h' = CH A b z r (RH S q h) ∧ n' = n) (fun E h' n' => ¬ (abC a v1) = 0 ∧ E = exN (abC a v1) ∧ h' = (CH A b z r (RH S q h)) ∧ n ≤ n') := by
  refine Ct.of (by decide) hl (Nat.le_of_ble_eq_true rfl) ?_
  intro p e s m args below meth c C hr hnm ht dp
  refine r_iload_n C dc_S_about_0 rfl rfl ?_
  refine r_callS C dp dc_S_about_1 cw_S_34 cs_S_checkNode (k_S_checkNode (df := df) (vv := a) hl) (by omega) rfl rfl (Nat.le_of_ble_eq_true rfl) (fun v9 h9 n9 q9 z9 => ?_) (fun E hE nE qE zE => ?_)
  rotate_left
  · have hcd : (abC a v1) = 1 := by unfold abC; rw [if_pos zE.2.1]
    exact x_out C dp ht zE.2.2.2 ⟨by rw [hcd]; decide, by rw [hcd]; exact zE.1, zE.2.2.1, zE.2.2.2⟩
  obtain ⟨y1, ng1, y2, y3⟩ := z9
  rw [y1, y2, y3]
  obtain ⟨i, hi, rfl⟩ := ou_n (by decide) ng1
  have ci : cl (nI i) = i := cl_nI (by omega)
  first | refine r_aload_n C dc_S_about_4 rfl rfl ?_ | refine r_aload_nq C dc_S_about_4 rfl rfl ?_
  refine r_get C dc_S_about_5 fl_S_25 ch_S rfl ?_
  refine r_iload_n C dc_S_about_8 rfl rfl ?_
  refine r_nald C dc_S_about_9 (by omega) ?_
  first | refine r_astore_n C dc_S_about_10 rfl (by decide) (nw_of rfl) ?_ | refine r_astore_nN C dc_S_about_10 rfl (by decide) (nw_of rfl) ?_ | refine r_astore_nq C dc_S_about_10 rfl (by decide) (nw_of rfl) ?_
  refine r_iload_n C dc_S_about_11 rfl rfl ?_
  rcases pk_ix v1 (n := 9) (by decide) with z9 | z9 | ⟨j, hj, rfl⟩
  ·
    refine r_tableOut (tgt := 139) C dc_S_about_12 (Or.inl (tb_lo z9)) (by decide) ?_
    have hcd : (abC (nI i) v1) = 2 := by unfold abC; rw [if_neg ng1, if_pos (Or.inl z9)]
    exact r_throw (names := exM) (cls := exN 2) (text := "nothing is told about that") C dp ht dc_S_about_139 dc_S_about_142 dc_S_about_143 dc_S_about_145 dc_S_about_148 ex_f2 ex_m (by decide) ex_w2 (by decide +kernel) (Nat.le_refl _) (Nat.le_of_ble_eq_true rfl) ⟨by omega, by omega⟩ (fun n' hn' => ⟨by rw [hcd]; decide, by rw [hcd], rfl, hn'⟩)
  ·
    refine r_tableOut (tgt := 139) C dc_S_about_12 (Or.inr (by have := tb_hi (by decide) z9; omega)) (by decide) ?_
    have hcd : (abC (nI i) v1) = 2 := by unfold abC; rw [if_neg ng1, if_pos (Or.inr z9)]
    exact r_throw (names := exM) (cls := exN 2) (text := "nothing is told about that") C dp ht dc_S_about_139 dc_S_about_142 dc_S_about_143 dc_S_about_145 dc_S_about_148 ex_f2 ex_m (by decide) ex_w2 (by decide +kernel) (Nat.le_refl _) (Nat.le_of_ble_eq_true rfl) ⟨by omega, by omega⟩ (fun n' hn' => ⟨by rw [hcd]; decide, by rw [hcd], rfl, hn'⟩)
  ·
    have e9 : j = 0 ∨ j = 1 ∨ j = 2 ∨ j = 3 ∨ j = 4 ∨ j = 5 ∨ j = 6 ∨ j = 7 ∨ j = 8 := by omega
    rcases e9 with rfl | rfl | rfl | rfl | rfl | rfl | rfl | rfl | rfl
    ·
      refine r_tableIn (tgt := 64) C dc_S_about_12 (by decide) (by decide) rfl (by decide) ?_
      first | refine r_aload_n C dc_S_about_64 rfl rfl ?_ | refine r_aload_nq C dc_S_about_64 rfl rfl ?_
      first | refine r_aload_n C dc_S_about_65 rfl rfl ?_ | refine r_aload_nq C dc_S_about_65 rfl rfl ?_
      refine r_get C dc_S_about_66 fl_S_12 ch_S rfl ?_
      refine r_iload_n C dc_S_about_69 rfl rfl ?_
      refine r_callV C dp dc_S_about_70 cw_S_168 cm_W_busOf cv_W_busOf rfl (ch_W) (k_W_busOf (df := df) (i := i) hl ch_W ch_bus hi) (by omega) rfl rfl (Nat.le_of_ble_eq_true rfl) (fun v70 h70 n70 q70 z70 => ?_) (fun _ _ _ _ z => z.elim)
      obtain ⟨y70, y70h, y70n⟩ := z70
      rw [y70, y70h, y70n]
      refine r_callV C dp dc_S_about_73 cw_S_172 cm_S_isDirty cv_S_isDirty rfl (ch_S) (k_S_isDirty (df := df) (v0 := z 31 i) hl) (by omega) rfl rfl (Nat.le_of_ble_eq_true rfl) (fun v73 h73 n73 q73 z73 => ?_) (fun _ _ _ _ z => z.elim)
      obtain ⟨y73, y73h, y73n⟩ := z73
      rw [y73, y73h, y73n]
      refine r_if_eqZ (tgt := 83) C dc_S_about_76 (by decide) (fun c76 => ?_) (fun c76 => ?_)
      ·
        first | refine r_aload_n C dc_S_about_83 rfl rfl ?_ | refine r_aload_nq C dc_S_about_83 rfl rfl ?_
        refine r_get C dc_S_about_84 fl_S_175 (ch_node (by omega)) rfl ?_
        exact r_iret C dp hr dc_S_about_87 (Nat.le_refl _) ⟨by unfold abC; rw [if_neg ng1, if_neg (by decide)], by rw [ci, cl_nI (show 0 < 2 ^ 31 by decide)]; unfold cAbJ; rw [c76]; rfl, rfl, rfl⟩
      ·
        refine r_iconst (v := -1) C dc_S_about_79 (by decide) ?_
        refine r_goto (tgt := 87) C dc_S_about_80 (by decide) ?_
        exact r_iret C dp hr dc_S_about_87 (Nat.le_refl _) ⟨by unfold abC; rw [if_neg ng1, if_neg (by decide)], by rw [ci, cl_nI (show 0 < 2 ^ 31 by decide)]; unfold cAbJ; rw [c76]; rfl, rfl, rfl⟩
    ·
      refine r_tableIn (tgt := 88) C dc_S_about_12 (by decide) (by decide) rfl (by decide) ?_
      first | refine r_aload_n C dc_S_about_88 rfl rfl ?_ | refine r_aload_nq C dc_S_about_88 rfl rfl ?_
      refine r_get C dc_S_about_89 fl_S_178 (ch_node (by omega)) rfl ?_
      exact r_iret C dp hr dc_S_about_92 (Nat.le_refl _) ⟨by unfold abC; rw [if_neg ng1, if_neg (by decide)], by rw [ci, cl_nI (show 1 < 2 ^ 31 by decide)]; rfl, rfl, rfl⟩
    ·
      refine r_tableIn (tgt := 93) C dc_S_about_12 (by decide) (by decide) rfl (by decide) ?_
      first | refine r_aload_n C dc_S_about_93 rfl rfl ?_ | refine r_aload_nq C dc_S_about_93 rfl rfl ?_
      refine r_get C dc_S_about_94 fl_S_181 (ch_node (by omega)) rfl ?_
      exact r_iret C dp hr dc_S_about_97 (Nat.le_refl _) ⟨by unfold abC; rw [if_neg ng1, if_neg (by decide)], by rw [ci, cl_nI (show 2 < 2 ^ 31 by decide)]; rfl, rfl, rfl⟩
    ·
      refine r_tableIn (tgt := 98) C dc_S_about_12 (by decide) (by decide) rfl (by decide) ?_
      first | refine r_aload_n C dc_S_about_98 rfl rfl ?_ | refine r_aload_nq C dc_S_about_98 rfl rfl ?_
      refine r_get C dc_S_about_99 fl_S_184 (ch_node (by omega)) rfl ?_
      exact r_iret C dp hr dc_S_about_102 (Nat.le_refl _) ⟨by unfold abC; rw [if_neg ng1, if_neg (by decide)], by rw [ci, cl_nI (show 3 < 2 ^ 31 by decide)]; rfl, rfl, rfl⟩
    ·
      refine r_tableIn (tgt := 103) C dc_S_about_12 (by decide) (by decide) rfl (by decide) ?_
      first | refine r_aload_n C dc_S_about_103 rfl rfl ?_ | refine r_aload_nq C dc_S_about_103 rfl rfl ?_
      refine r_get C dc_S_about_104 fl_S_98 (ch_node (by omega)) rfl ?_
      refine r_get C dc_S_about_107 fl_S_187 (ch_queue (by omega)) rfl ?_
      exact r_iret C dp hr dc_S_about_110 (Nat.le_refl _) ⟨by unfold abC; rw [if_neg ng1, if_neg (by decide)], by rw [ci, cl_nI (show 4 < 2 ^ 31 by decide)]; rfl, rfl, rfl⟩
    ·
      refine r_tableIn (tgt := 111) C dc_S_about_12 (by decide) (by decide) rfl (by decide) ?_
      first | refine r_aload_n C dc_S_about_111 rfl rfl ?_ | refine r_aload_nq C dc_S_about_111 rfl rfl ?_
      refine r_get C dc_S_about_112 fl_S_190 (ch_node (by omega)) rfl ?_
      exact r_iret C dp hr dc_S_about_115 (Nat.le_refl _) ⟨by unfold abC; rw [if_neg ng1, if_neg (by decide)], by rw [ci, cl_nI (show 5 < 2 ^ 31 by decide)]; rfl, rfl, rfl⟩
    ·
      refine r_tableIn (tgt := 116) C dc_S_about_12 (by decide) (by decide) rfl (by decide) ?_
      first | refine r_aload_n C dc_S_about_116 rfl rfl ?_ | refine r_aload_nq C dc_S_about_116 rfl rfl ?_
      refine r_get C dc_S_about_117 fl_S_78 (ch_node (by omega)) rfl ?_
      exact r_iret C dp hr dc_S_about_120 (Nat.le_refl _) ⟨by unfold abC; rw [if_neg ng1, if_neg (by decide)], by rw [ci, cl_nI (show 6 < 2 ^ 31 by decide)]; rfl, rfl, rfl⟩
    ·
      refine r_tableIn (tgt := 121) C dc_S_about_12 (by decide) (by decide) rfl (by decide) ?_
      first | refine r_aload_n C dc_S_about_121 rfl rfl ?_ | refine r_aload_nq C dc_S_about_121 rfl rfl ?_
      refine r_callV C dp dc_S_about_122 cw_S_193 cm_N_waitingRequests cv_N_waitingRequests rfl (ch_node hi) (k_N_waiting (df := df) (i := i) hl hi hv) (by omega) rfl rfl (Nat.le_of_ble_eq_true rfl) (fun v122 h122 n122 q122 z122 => ?_) (fun _ _ _ _ z => z.elim)
      obtain ⟨y122, y122h, y122n⟩ := z122
      rw [y122, y122h, y122n]
      exact r_iret C dp hr dc_S_about_125 (Nat.le_refl _) ⟨by unfold abC; rw [if_neg ng1, if_neg (by decide)], by rw [ci, cl_nI (show 7 < 2 ^ 31 by decide)]; rfl, rfl, rfl⟩
    ·
      refine r_tableIn (tgt := 126) C dc_S_about_12 (by decide) (by decide) rfl (by decide) ?_
      first | refine r_aload_n C dc_S_about_126 rfl rfl ?_ | refine r_aload_nq C dc_S_about_126 rfl rfl ?_
      refine r_get C dc_S_about_127 fl_S_196 (ch_node (by omega)) rfl ?_
      refine r_if_eq (tgt := 137) C dc_S_about_130 (by decide) (fun c130 => ?_) (fun c130 => ?_)
      ·
        refine r_iconst (v := nI 0) C dc_S_about_137 (by decide) ?_
        exact r_iret C dp hr dc_S_about_138 (Nat.le_refl _) ⟨by unfold abC; rw [if_neg ng1, if_neg (by decide)], by rw [ci, cl_nI (show 8 < 2 ^ 31 by decide)]; unfold cAbJ; rw [if_pos c130]; rfl, rfl, rfl⟩
      ·
        refine r_iconst (v := nI 1) C dc_S_about_133 (by decide) ?_
        refine r_goto (tgt := 138) C dc_S_about_134 (by decide) ?_
        exact r_iret C dp hr dc_S_about_138 (Nat.le_refl _) ⟨by unfold abC; rw [if_neg ng1, if_neg (by decide)], by rw [ci, cl_nI (show 8 < 2 ^ 31 by decide)]; unfold cAbJ; rw [if_neg c130]; rfl, rfl, rfl⟩
set_option maxRecDepth 4000 in
set_option maxHeartbeats 1000000 in
theorem k_S_count (hl : l.stackTraces = false) {v0 : Int32} {g : Nat → Nat} (hg : ∀ j, j < 12 → z 31 j = nI (g j)) (hg12 : ∀ j, j < 12 → g j < 12) : Ct l D A G my_S_count cd_S_count 2 (some (.int)) (df + 3) 0 0 [.ref b, .int v0] (CH A b z r (RH S q h)) n (fun v h' n' => v = some (.int (if v0 < 0 ∨ nI 8 ≤ v0 then -1 else cCnJ z g (cl v0))) ∧ h' = CH A b z r (RH S q h) ∧ n' = n) (fun _ _ _ => False) := by
  refine Ct.of (by decide) hl (Nat.le_of_ble_eq_true rfl) ?_
  intro p e s m args below meth c C hr hnm ht dp
  refine r_iload_n C dc_S_count_0 rfl rfl ?_
  rcases pk_ix v0 (n := 8) (by decide) with z9 | z9 | ⟨j, hj, rfl⟩
  ·
    refine r_tableOut (tgt := 94) C dc_S_count_1 (Or.inl (tb_lo z9)) (by decide) ?_
    refine r_iconst (v := -1) C dc_S_count_94 (by decide) ?_
    exact r_iret C dp hr dc_S_count_95 (Nat.le_refl _) ⟨by rw [if_pos (Or.inl z9)], rfl, rfl⟩
  ·
    refine r_tableOut (tgt := 94) C dc_S_count_1 (Or.inr (by have := tb_hi (by decide) z9; omega)) (by decide) ?_
    refine r_iconst (v := -1) C dc_S_count_94 (by decide) ?_
    exact r_iret C dp hr dc_S_count_95 (Nat.le_refl _) ⟨by rw [if_pos (Or.inr z9)], rfl, rfl⟩
  ·
    have e9 : j = 0 ∨ j = 1 ∨ j = 2 ∨ j = 3 ∨ j = 4 ∨ j = 5 ∨ j = 6 ∨ j = 7 := by omega
    rcases e9 with rfl | rfl | rfl | rfl | rfl | rfl | rfl | rfl
    ·
      refine r_tableIn (tgt := 48) C dc_S_count_1 (by decide) (by decide) rfl (by decide) ?_
      first | refine r_aload_n C dc_S_count_48 rfl rfl ?_ | refine r_aload_nq C dc_S_count_48 rfl rfl ?_
      refine r_get C dc_S_count_49 fl_S_12 ch_S rfl ?_
      refine r_get C dc_S_count_52 fl_S_65 ch_W rfl ?_
      exact r_iret C dp hr dc_S_count_55 (Nat.le_refl _) ⟨by rw [if_neg (by decide), cl_nI (show 0 < 2 ^ 31 by decide)]; rfl, rfl, rfl⟩
    ·
      refine r_tableIn (tgt := 56) C dc_S_count_1 (by decide) (by decide) rfl (by decide) ?_
      first | refine r_aload_n C dc_S_count_56 rfl rfl ?_ | refine r_aload_nq C dc_S_count_56 rfl rfl ?_
      refine r_get C dc_S_count_57 fl_S_12 ch_S rfl ?_
      refine r_callV C dp dc_S_count_60 cw_S_205 cm_W_buses cv_W_buses rfl (ch_W) (k_W_buses (df := df) hl hg hg12) (by omega) rfl rfl (Nat.le_of_ble_eq_true rfl) (fun v60 h60 n60 q60 z60 => ?_) (fun _ _ _ _ z => z.elim)
      obtain ⟨y60, y60h, y60n⟩ := z60
      rw [y60, y60h, y60n]
      exact r_iret C dp hr dc_S_count_63 (Nat.le_refl _) ⟨by rw [if_neg (by decide), cl_nI (show 1 < 2 ^ 31 by decide)]; rfl, rfl, rfl⟩
    ·
      refine r_tableIn (tgt := 64) C dc_S_count_1 (by decide) (by decide) rfl (by decide) ?_
      first | refine r_aload_n C dc_S_count_64 rfl rfl ?_ | refine r_aload_nq C dc_S_count_64 rfl rfl ?_
      refine r_get C dc_S_count_65 fl_S_115 ch_S rfl ?_
      exact r_iret C dp hr dc_S_count_68 (Nat.le_refl _) ⟨by rw [if_neg (by decide), cl_nI (show 2 < 2 ^ 31 by decide)]; rfl, rfl, rfl⟩
    ·
      refine r_tableIn (tgt := 69) C dc_S_count_1 (by decide) (by decide) rfl (by decide) ?_
      first | refine r_aload_n C dc_S_count_69 rfl rfl ?_ | refine r_aload_nq C dc_S_count_69 rfl rfl ?_
      refine r_get C dc_S_count_70 fl_S_208 ch_S rfl ?_
      exact r_iret C dp hr dc_S_count_73 (Nat.le_refl _) ⟨by rw [if_neg (by decide), cl_nI (show 3 < 2 ^ 31 by decide)]; rfl, rfl, rfl⟩
    ·
      refine r_tableIn (tgt := 74) C dc_S_count_1 (by decide) (by decide) rfl (by decide) ?_
      first | refine r_aload_n C dc_S_count_74 rfl rfl ?_ | refine r_aload_nq C dc_S_count_74 rfl rfl ?_
      refine r_get C dc_S_count_75 fl_S_211 ch_S rfl ?_
      exact r_iret C dp hr dc_S_count_78 (Nat.le_refl _) ⟨by rw [if_neg (by decide), cl_nI (show 4 < 2 ^ 31 by decide)]; rfl, rfl, rfl⟩
    ·
      refine r_tableIn (tgt := 79) C dc_S_count_1 (by decide) (by decide) rfl (by decide) ?_
      first | refine r_aload_n C dc_S_count_79 rfl rfl ?_ | refine r_aload_nq C dc_S_count_79 rfl rfl ?_
      refine r_get C dc_S_count_80 fl_S_214 ch_S rfl ?_
      exact r_iret C dp hr dc_S_count_83 (Nat.le_refl _) ⟨by rw [if_neg (by decide), cl_nI (show 5 < 2 ^ 31 by decide)]; rfl, rfl, rfl⟩
    ·
      refine r_tableIn (tgt := 84) C dc_S_count_1 (by decide) (by decide) rfl (by decide) ?_
      first | refine r_aload_n C dc_S_count_84 rfl rfl ?_ | refine r_aload_nq C dc_S_count_84 rfl rfl ?_
      refine r_get C dc_S_count_85 fl_S_217 ch_S rfl ?_
      exact r_iret C dp hr dc_S_count_88 (Nat.le_refl _) ⟨by rw [if_neg (by decide), cl_nI (show 6 < 2 ^ 31 by decide)]; rfl, rfl, rfl⟩
    ·
      refine r_tableIn (tgt := 89) C dc_S_count_1 (by decide) (by decide) rfl (by decide) ?_
      first | refine r_aload_n C dc_S_count_89 rfl rfl ?_ | refine r_aload_nq C dc_S_count_89 rfl rfl ?_
      refine r_callV C dp dc_S_count_90 cw_S_220 cm_S_loopedBuses cv_S_loopedBuses rfl (ch_S) (k_S_looped (df := df) hl hg hg12) (by omega) rfl rfl (Nat.le_of_ble_eq_true rfl) (fun v90 h90 n90 q90 z90 => ?_) (fun _ _ _ _ z => z.elim)
      obtain ⟨y90, y90h, y90n⟩ := z90
      rw [y90, y90h, y90n]
      exact r_iret C dp hr dc_S_count_93 (Nat.le_refl _) ⟨by rw [if_neg (by decide), cl_nI (show 7 < 2 ^ 31 by decide)]; rfl, rfl, rfl⟩
set_option maxRecDepth 4000 in
set_option maxHeartbeats 1000000 in
theorem k_S_plug (hl : l.stackTraces = false) {a p0 c0 q0 : Int32} {ot : Nat → Option Nat} (hot : ∀ k, k < 36 → z 30 k = oi (ot k)) (ht36 : ∀ k t, k < 36 → ot k = some t → t < 36) : Ct l D A G my_S_plug cd_S_plug 5 (some (.int)) (df + 3) 5 30 [.ref b, .int a, .int p0, .int c0, .int q0] (CH A b z r (RH S q h)) n (fun v h' n' => (plC ot a p0 c0 q0) = 0 ∧ v = some (.int (z 32 0 + nI 1)) ∧ h' = CH A b (plZ ot z (cl a) (cl p0) (cl c0) (cl q0)) r (RH S q h) ∧ n' = n) (fun E h' n' => ¬ (plC ot a p0 c0 q0) = 0 ∧ E = exN (plC ot a p0 c0 q0) ∧ h' = (CH A b z r (RH S q h)) ∧ n ≤ n') := by
  refine Ct.of (by decide) hl (Nat.le_of_ble_eq_true rfl) ?_
  intro p e s m args below meth c C hr hnm ht dp
  refine r_iload_n C dc_S_plug_0 rfl rfl ?_
  refine r_callS C dp dc_S_plug_1 cw_S_34 cs_S_checkNode (k_S_checkNode (df := df) (vv := a) hl) (by omega) rfl rfl (Nat.le_of_ble_eq_true rfl) (fun v9 h9 n9 q9 z9 => ?_) (fun E hE nE qE zE => ?_)
  rotate_left
  · have hcd : (plC ot a p0 c0 q0) = 1 := by unfold plC; rw [if_pos zE.2.1]
    exact x_out C dp ht zE.2.2.2 ⟨by rw [hcd]; decide, by rw [hcd]; exact zE.1, zE.2.2.1, zE.2.2.2⟩
  obtain ⟨y1, ng1, y2, y3⟩ := z9
  rw [y1, y2, y3]
  refine r_iload_n C dc_S_plug_4 rfl rfl ?_
  refine r_callS C dp dc_S_plug_5 cw_S_34 cs_S_checkNode (k_S_checkNode (df := df) (vv := c0) hl) (by omega) rfl rfl (Nat.le_of_ble_eq_true rfl) (fun v9 h9 n9 q9 z9 => ?_) (fun E hE nE qE zE => ?_)
  rotate_left
  · have hcd : (plC ot a p0 c0 q0) = 1 := by unfold plC; rw [if_neg ng1, if_pos zE.2.1]
    exact x_out C dp ht zE.2.2.2 ⟨by rw [hcd]; decide, by rw [hcd]; exact zE.1, zE.2.2.1, zE.2.2.2⟩
  obtain ⟨y1, ng2, y2, y3⟩ := z9
  rw [y1, y2, y3]
  refine r_iload_n C dc_S_plug_8 rfl rfl ?_
  refine r_callS C dp dc_S_plug_9 cw_S_38 cs_S_checkPort (k_S_checkPort (df := df) (vv := p0) hl) (by omega) rfl rfl (Nat.le_of_ble_eq_true rfl) (fun v9 h9 n9 q9 z9 => ?_) (fun E hE nE qE zE => ?_)
  rotate_left
  · have hcd : (plC ot a p0 c0 q0) = 2 := by unfold plC; rw [if_neg ng1, if_neg ng2, if_pos zE.2.1]
    exact x_out C dp ht zE.2.2.2 ⟨by rw [hcd]; decide, by rw [hcd]; exact zE.1, zE.2.2.1, zE.2.2.2⟩
  obtain ⟨y1, ng3, y2, y3⟩ := z9
  rw [y1, y2, y3]
  refine r_iload C dc_S_plug_12 rfl ?_
  refine r_callS C dp dc_S_plug_14 cw_S_38 cs_S_checkPort (k_S_checkPort (df := df) (vv := q0) hl) (by omega) rfl rfl (Nat.le_of_ble_eq_true rfl) (fun v9 h9 n9 q9 z9 => ?_) (fun E hE nE qE zE => ?_)
  rotate_left
  · have hcd : (plC ot a p0 c0 q0) = 2 := by unfold plC; rw [if_neg ng1, if_neg ng2, if_neg ng3, if_pos zE.2.1]
    exact x_out C dp ht zE.2.2.2 ⟨by rw [hcd]; decide, by rw [hcd]; exact zE.1, zE.2.2.1, zE.2.2.2⟩
  obtain ⟨y1, ng4, y2, y3⟩ := z9
  rw [y1, y2, y3]
  refine r_iload_n C dc_S_plug_17 rfl rfl ?_
  refine r_iload_n C dc_S_plug_18 rfl rfl ?_
  refine r_icmp_ne (tgt := 32) C dc_S_plug_19 (by decide) (fun c19 => ?_) (fun c19 => ?_)
  ·
    have hcd1 : (plC ot a p0 c0 q0) = match ot (3 * cl a + cl p0) with | some _ => 3 | none => match ot (3 * cl c0 + cl q0) with | some _ => 3 | none => 0 := by
      unfold plC; rw [if_neg ng1, if_neg ng2, if_neg ng3, if_neg ng4, if_neg c19]
      cases ot (3 * cl a + cl p0) with
      | some _ => rfl
      | none => cases ot (3 * cl c0 + cl q0) <;> rfl
    obtain ⟨i, hi, rfl⟩ := ou_n (by decide) ng1
    have ci : cl (nI i) = i := cl_nI (by omega)
    obtain ⟨j, hj, rfl⟩ := ou_n (by decide) ng2
    have cj : cl (nI j) = j := cl_nI (by omega)
    obtain ⟨pi, hpi, rfl⟩ := ou_n (by decide) ng3
    have cpi : cl (nI pi) = pi := cl_nI (by omega)
    obtain ⟨pj, hpj, rfl⟩ := ou_n (by decide) ng4
    have cpj : cl (nI pj) = pj := cl_nI (by omega)
    rw [ci, cj, cpi, cpj] at hcd1 ⊢
    first | refine r_aload_n C dc_S_plug_32 rfl rfl ?_ | refine r_aload_nq C dc_S_plug_32 rfl rfl ?_
    refine r_get C dc_S_plug_33 fl_S_12 ch_S rfl ?_
    refine r_iload_n C dc_S_plug_36 rfl rfl ?_
    refine r_iload_n C dc_S_plug_37 rfl rfl ?_
    refine r_callV C dp dc_S_plug_38 cw_S_48 cm_W_farNode cv_W_farNode rfl (ch_W) (k_W_farNode (df := df) (ot := ot) (i := i) (pt := pi) hl hi hpi hot ht36) (by omega) rfl rfl (Nat.le_of_ble_eq_true rfl) (fun v38 h38 n38 q38 z38 => ?_) (fun _ _ _ _ z => z.elim)
    obtain ⟨y38, y38h, y38n⟩ := z38
    rw [y38, y38h, y38n]
    cases eo : ot (3 * i + pi) with
    | some t =>
      have h36 := ht36 _ _ (by omega) eo
      rw [eo] at hcd1
      refine sb_at (P := fun v => Rw _ _ _ _ _ _ _ _ _ _ _ _ _ _ _ _ _ _ _ _ (.int v :: _)) (show oi (fN ot (3 * i + pi)) = nI (t / 3) from by unfold fN; rw [eo]; rfl) ?_
      refine r_iconst (v := -1) C dc_S_plug_41 (by decide) ?_
      refine r_icmp_ne (tgt := 59) C dc_S_plug_42 (by decide) (fun c42 => ?_) (fun c42 => ?_)
      ·
        have hcd : (plC ot (nI i) (nI pi) (nI j) (nI pj)) = 3 := hcd1
        exact r_throw (names := exM) (cls := exN 3) (text := "a port is not free") C dp ht dc_S_plug_59 dc_S_plug_62 dc_S_plug_63 dc_S_plug_65 dc_S_plug_68 ex_f3 ex_m (by decide) ex_w3 (by decide +kernel) (Nat.le_refl _) (Nat.le_of_ble_eq_true rfl) ⟨by omega, by omega⟩ (fun n' hn' => ⟨by rw [hcd]; decide, by rw [hcd], rfl, hn'⟩)
      · exact absurd c42 (nI_m1 (by omega))
    | none =>
      rw [eo] at hcd1
      dsimp only at hcd1
      refine sb_at (P := fun v => Rw _ _ _ _ _ _ _ _ _ _ _ _ _ _ _ _ _ _ _ _ (.int v :: _)) (show oi (fN ot (3 * i + pi)) = -1 from by unfold fN; rw [eo]; rfl) ?_
      refine r_iconst (v := -1) C dc_S_plug_41 (by decide) ?_
      refine r_icmp_ne (tgt := 59) C dc_S_plug_42 (by decide) (fun c42 => ?_) (fun c42 => ?_)
      · exact absurd rfl c42
      ·
        first | refine r_aload_n C dc_S_plug_45 rfl rfl ?_ | refine r_aload_nq C dc_S_plug_45 rfl rfl ?_
        refine r_get C dc_S_plug_46 fl_S_12 ch_S rfl ?_
        refine r_iload_n C dc_S_plug_49 rfl rfl ?_
        refine r_iload C dc_S_plug_50 rfl ?_
        refine r_callV C dp dc_S_plug_52 cw_S_48 cm_W_farNode cv_W_farNode rfl (ch_W) (k_W_farNode (df := df) (ot := ot) (i := j) (pt := pj) hl hj hpj hot ht36) (by omega) rfl rfl (Nat.le_of_ble_eq_true rfl) (fun v52 h52 n52 q52 z52 => ?_) (fun _ _ _ _ z => z.elim)
        obtain ⟨y52, y52h, y52n⟩ := z52
        rw [y52, y52h, y52n]
        cases eo2 : ot (3 * j + pj) with
        | some t =>
          have h36 := ht36 _ _ (by omega) eo2
          rw [eo2] at hcd1
          refine sb_at (P := fun v => Rw _ _ _ _ _ _ _ _ _ _ _ _ _ _ _ _ _ _ _ _ (.int v :: _)) (show oi (fN ot (3 * j + pj)) = nI (t / 3) from by unfold fN; rw [eo2]; rfl) ?_
          refine r_iconst (v := -1) C dc_S_plug_55 (by decide) ?_
          refine r_icmp_eq (tgt := 69) C dc_S_plug_56 (by decide) (fun c56 => ?_) (fun c56 => ?_)
          · exact absurd c56 (nI_m1 (by omega))
          ·
            have hcd : (plC ot (nI i) (nI pi) (nI j) (nI pj)) = 3 := hcd1
            exact r_throw (names := exM) (cls := exN 3) (text := "a port is not free") C dp ht dc_S_plug_59 dc_S_plug_62 dc_S_plug_63 dc_S_plug_65 dc_S_plug_68 ex_f3 ex_m (by decide) ex_w3 (by decide +kernel) (Nat.le_refl _) (Nat.le_of_ble_eq_true rfl) ⟨by omega, by omega⟩ (fun n' hn' => ⟨by rw [hcd]; decide, by rw [hcd], rfl, hn'⟩)
        | none =>
          rw [eo2] at hcd1
          refine sb_at (P := fun v => Rw _ _ _ _ _ _ _ _ _ _ _ _ _ _ _ _ _ _ _ _ (.int v :: _)) (show oi (fN ot (3 * j + pj)) = -1 from by unfold fN; rw [eo2]; rfl) ?_
          refine r_iconst (v := -1) C dc_S_plug_55 (by decide) ?_
          refine r_icmp_eq (tgt := 69) C dc_S_plug_56 (by decide) (fun c56 => ?_) (fun c56 => ?_)
          ·
            first | refine r_aload_n C dc_S_plug_69 rfl rfl ?_ | refine r_aload_nq C dc_S_plug_69 rfl rfl ?_
            refine r_get C dc_S_plug_70 fl_S_12 ch_S rfl ?_
            refine r_iload_n C dc_S_plug_73 rfl rfl ?_
            refine r_iload_n C dc_S_plug_74 rfl rfl ?_
            refine r_iload_n C dc_S_plug_75 rfl rfl ?_
            refine r_iload C dc_S_plug_76 rfl ?_
            refine r_callV C dp dc_S_plug_78 cw_S_57 cm_W_join cv_W_join rfl (ch_W) (k_W_join (df := df) (i := i) (pi := pi) (j := j) (pj := pj) (ot := otP ot (3 * i + pi) (3 * j + pj)) hl hi hpi hj hpj (otP_z hot) (otP_36 ht36 (by omega) (by omega))) (by omega) rfl rfl (Nat.le_of_ble_eq_true rfl) (fun v78 h78 n78 q78 z78 => ?_) (fun _ _ _ _ z => z.elim)
            obtain ⟨y78, y78h, y78n⟩ := z78
            rw [y78, y78h, y78n]
            generalize hz1 : ur (ur (ur z 30 (upd (upd (z 30) (3 * i + pi) (nI (3 * j + pj))) (3 * j + pj) (nI (3 * i + pi)))) 32 (fun _ => z 32 0 + nI 1)) 31 (rN (itP (otP ot (3 * i + pi) (3 * j + pj)) 11) (z 31)) = z1
            have h32 : z1 32 0 = z 32 0 + nI 1 := by rw [← hz1]; rfl
            first | refine r_aload_n C dc_S_plug_81 rfl rfl ?_ | refine r_aload_nq C dc_S_plug_81 rfl rfl ?_
            refine r_get C dc_S_plug_82 fl_S_25 ch_S rfl ?_
            refine r_iload_n C dc_S_plug_85 rfl rfl ?_
            refine r_nald C dc_S_plug_86 (by omega) ?_
            refine r_iconst (v := nI 1) C dc_S_plug_87 (by decide) ?_
            refine r_put C dc_S_plug_88 fl_S_61 (ch_node (by omega)) (by first | exact zi_n _ | rfl) (by first | exact zi_f _ | rfl) (Nat.le_of_ble_eq_true rfl) ?_
            refine rw_hh (cs_n11 (by omega)) ?_
            first | refine r_aload_n C dc_S_plug_91 rfl rfl ?_ | refine r_aload_nq C dc_S_plug_91 rfl rfl ?_
            refine r_get C dc_S_plug_92 fl_S_25 ch_S rfl ?_
            refine r_iload_n C dc_S_plug_95 rfl rfl ?_
            refine r_nald C dc_S_plug_96 (by omega) ?_
            refine r_iconst (v := nI 1) C dc_S_plug_97 (by decide) ?_
            refine r_put C dc_S_plug_98 fl_S_61 (ch_node (by omega)) (by first | exact zi_n _ | rfl) (by first | exact zi_f _ | rfl) (Nat.le_of_ble_eq_true rfl) ?_
            refine rw_hh (cs_n11 (by omega)) ?_
            first | refine r_aload_n C dc_S_plug_101 rfl rfl ?_ | refine r_aload_nq C dc_S_plug_101 rfl rfl ?_
            refine r_get C dc_S_plug_102 fl_S_12 ch_S rfl ?_
            refine r_get C dc_S_plug_105 fl_S_65 ch_W rfl ?_
            exact r_iret C dp hr dc_S_plug_108 (Nat.le_refl _) ⟨hcd1, congrArg (fun v => some (Value.int v)) h32, by unfold plZ; rw [hz1]; rfl, rfl⟩
          · exact absurd rfl c56
  ·
    have hcd : (plC ot a p0 c0 q0) = 2 := by unfold plC; rw [if_neg ng1, if_neg ng2, if_neg ng3, if_neg ng4, if_pos c19]
    exact r_throw (names := exM) (cls := exN 2) (text := "a cable joins different nodes") C dp ht dc_S_plug_22 dc_S_plug_25 dc_S_plug_26 dc_S_plug_28 dc_S_plug_31 ex_f2 ex_m (by decide) ex_w2 (by decide +kernel) (Nat.le_refl _) (Nat.le_of_ble_eq_true rfl) ⟨by omega, by omega⟩ (fun n' hn' => ⟨by rw [hcd]; decide, by rw [hcd], rfl, hn'⟩)
set_option maxRecDepth 4000 in
set_option maxHeartbeats 1000000 in
theorem k_S_unplug (hl : l.stackTraces = false) {a p0 : Int32} {ot : Nat → Option Nat} (hot : ∀ k, k < 36 → z 30 k = oi (ot k)) (ht36 : ∀ k t, k < 36 → ot k = some t → t < 36) : Ct l D A G my_S_unplug cd_S_unplug 4 (some (.int)) (df + 3) 3 18 [.ref b, .int a, .int p0] (CH A b z r (RH S q h)) n (fun v h' n' => (unC ot a p0) = 0 ∧ ∃ t, ot (3 * cl a + cl p0) = some t ∧ v = some (.int (nI (t / 3))) ∧ h' = CH A b (unZ ot z (cl a) (cl p0) t) r (RH S q h) ∧ n' = n) (fun E h' n' => ¬ (unC ot a p0) = 0 ∧ E = exN (unC ot a p0) ∧ h' = (CH A b z r (RH S q h)) ∧ n ≤ n') := by
  refine Ct.of (by decide) hl (Nat.le_of_ble_eq_true rfl) ?_
  intro p e s m args below meth c C hr hnm ht dp
  refine r_iload_n C dc_S_unplug_0 rfl rfl ?_
  refine r_callS C dp dc_S_unplug_1 cw_S_34 cs_S_checkNode (k_S_checkNode (df := df) (vv := a) hl) (by omega) rfl rfl (Nat.le_of_ble_eq_true rfl) (fun v9 h9 n9 q9 z9 => ?_) (fun E hE nE qE zE => ?_)
  rotate_left
  · have hcd : (unC ot a p0) = 1 := by unfold unC; rw [if_pos zE.2.1]
    exact x_out C dp ht zE.2.2.2 ⟨by rw [hcd]; decide, by rw [hcd]; exact zE.1, zE.2.2.1, zE.2.2.2⟩
  obtain ⟨y1, ng1, y2, y3⟩ := z9
  rw [y1, y2, y3]
  refine r_iload_n C dc_S_unplug_4 rfl rfl ?_
  refine r_callS C dp dc_S_unplug_5 cw_S_38 cs_S_checkPort (k_S_checkPort (df := df) (vv := p0) hl) (by omega) rfl rfl (Nat.le_of_ble_eq_true rfl) (fun v9 h9 n9 q9 z9 => ?_) (fun E hE nE qE zE => ?_)
  rotate_left
  · have hcd : (unC ot a p0) = 2 := by unfold unC; rw [if_neg ng1, if_pos zE.2.1]
    exact x_out C dp ht zE.2.2.2 ⟨by rw [hcd]; decide, by rw [hcd]; exact zE.1, zE.2.2.1, zE.2.2.2⟩
  obtain ⟨y1, ng2, y2, y3⟩ := z9
  rw [y1, y2, y3]
  have hcd1 : (unC ot a p0) = match ot (3 * cl a + cl p0) with | none => 3 | some _ => 0 := by unfold unC; rw [if_neg ng1, if_neg ng2]; cases ot (3 * cl a + cl p0) <;> rfl
  obtain ⟨i, hi, rfl⟩ := ou_n (by decide) ng1
  have ci : cl (nI i) = i := cl_nI (by omega)
  obtain ⟨pi, hpi, rfl⟩ := ou_n (by decide) ng2
  have cpi : cl (nI pi) = pi := cl_nI (by omega)
  rw [ci, cpi] at hcd1 ⊢
  first | refine r_aload_n C dc_S_unplug_8 rfl rfl ?_ | refine r_aload_nq C dc_S_unplug_8 rfl rfl ?_
  refine r_get C dc_S_unplug_9 fl_S_12 ch_S rfl ?_
  refine r_iload_n C dc_S_unplug_12 rfl rfl ?_
  refine r_iload_n C dc_S_unplug_13 rfl rfl ?_
  refine r_callV C dp dc_S_unplug_14 cw_S_48 cm_W_farNode cv_W_farNode rfl (ch_W) (k_W_farNode (df := df) (ot := ot) (i := i) (pt := pi) hl hi hpi hot ht36) (by omega) rfl rfl (Nat.le_of_ble_eq_true rfl) (fun v14 h14 n14 q14 z14 => ?_) (fun _ _ _ _ z => z.elim)
  obtain ⟨y14, y14h, y14n⟩ := z14
  rw [y14, y14h, y14n]
  cases eo : ot (3 * i + pi) with
  | none =>
    rw [eo] at hcd1
    refine sb_at (P := fun v => Rw _ _ _ _ _ _ _ _ _ _ _ _ _ _ _ _ _ _ _ _ (.int v :: _)) (show oi (fN ot (3 * i + pi)) = -1 from by unfold fN; rw [eo]; rfl) ?_
    refine r_istore_n C dc_S_unplug_17 rfl (by decide) (nw_of rfl) ?_
    refine r_iload_n C dc_S_unplug_18 rfl rfl ?_
    refine r_iconst (v := -1) C dc_S_unplug_19 (by decide) ?_
    refine r_icmp_ne (tgt := 33) C dc_S_unplug_20 (by decide) (fun c20 => ?_) (fun c20 => ?_)
    · exact absurd rfl c20
    ·
      have hcd : (unC ot (nI i) (nI pi)) = 3 := hcd1
      exact r_throw (names := exM) (cls := exN 3) (text := "the port is free") C dp ht dc_S_unplug_23 dc_S_unplug_26 dc_S_unplug_27 dc_S_unplug_29 dc_S_unplug_32 ex_f3 ex_m (by decide) ex_w3 (by decide +kernel) (Nat.le_refl _) (Nat.le_of_ble_eq_true rfl) ⟨by omega, by omega⟩ (fun n' hn' => ⟨by rw [hcd]; decide, by rw [hcd], rfl, hn'⟩)
  | some t =>
    have h36 := ht36 _ _ (by omega) eo
    rw [eo] at hcd1
    refine sb_at (P := fun v => Rw _ _ _ _ _ _ _ _ _ _ _ _ _ _ _ _ _ _ _ _ (.int v :: _)) (show oi (fN ot (3 * i + pi)) = nI (t / 3) from by unfold fN; rw [eo]; rfl) ?_
    refine r_istore_n C dc_S_unplug_17 rfl (by decide) (nw_of rfl) ?_
    refine r_iload_n C dc_S_unplug_18 rfl rfl ?_
    refine r_iconst (v := -1) C dc_S_unplug_19 (by decide) ?_
    refine r_icmp_ne (tgt := 33) C dc_S_unplug_20 (by decide) (fun c20 => ?_) (fun c20 => ?_)
    ·
      first | refine r_aload_n C dc_S_unplug_33 rfl rfl ?_ | refine r_aload_nq C dc_S_unplug_33 rfl rfl ?_
      refine r_get C dc_S_unplug_34 fl_S_12 ch_S rfl ?_
      refine r_iload_n C dc_S_unplug_37 rfl rfl ?_
      refine r_iload_n C dc_S_unplug_38 rfl rfl ?_
      refine r_callV C dp dc_S_unplug_39 cw_S_70 cm_W_part cv_W_part rfl (ch_W) (k_W_part (df := df) (i := i) (pi := pi) (t := t) (ot := otU ot (3 * i + pi) t) hl hi hpi ((hot _ (by omega)).trans (by rw [eo]; rfl)) h36 (otU_z hot) (otU_36 ht36)) (by omega) rfl rfl (Nat.le_of_ble_eq_true rfl) (fun v39 h39 n39 q39 z39 => ?_) (fun _ _ _ _ z => z.elim)
      obtain ⟨y39, y39h, y39n⟩ := z39
      rw [y39, y39h, y39n]
      generalize hz1 : ur (ur (ur z 30 (upd (upd (z 30) (3 * i + pi) (-1)) t (-1))) 32 (fun _ => z 32 0 - nI 1)) 31 (rN (itP (otU ot (3 * i + pi) t) 11) (z 31)) = z1
      first | refine r_aload_n C dc_S_unplug_42 rfl rfl ?_ | refine r_aload_nq C dc_S_unplug_42 rfl rfl ?_
      refine r_get C dc_S_unplug_43 fl_S_25 ch_S rfl ?_
      refine r_iload_n C dc_S_unplug_46 rfl rfl ?_
      refine r_nald C dc_S_unplug_47 (by omega) ?_
      refine r_iconst (v := nI 1) C dc_S_unplug_48 (by decide) ?_
      refine r_put C dc_S_unplug_49 fl_S_61 (ch_node (by omega)) (by first | exact zi_n _ | rfl) (by first | exact zi_f _ | rfl) (Nat.le_of_ble_eq_true rfl) ?_
      refine rw_hh (cs_n11 (by omega)) ?_
      first | refine r_aload_n C dc_S_unplug_52 rfl rfl ?_ | refine r_aload_nq C dc_S_unplug_52 rfl rfl ?_
      refine r_get C dc_S_unplug_53 fl_S_25 ch_S rfl ?_
      refine r_iload_n C dc_S_unplug_56 rfl rfl ?_
      refine r_nald C dc_S_unplug_57 (by omega) ?_
      refine r_iconst (v := nI 1) C dc_S_unplug_58 (by decide) ?_
      refine r_put C dc_S_unplug_59 fl_S_61 (ch_node (by omega)) (by first | exact zi_n _ | rfl) (by first | exact zi_f _ | rfl) (Nat.le_of_ble_eq_true rfl) ?_
      refine rw_hh (cs_n11 (by omega)) ?_
      refine r_iload_n C dc_S_unplug_62 rfl rfl ?_
      exact r_iret C dp hr dc_S_unplug_63 (Nat.le_refl _) ⟨hcd1, t, rfl, rfl, by unfold unZ; rw [hz1]; rfl, rfl⟩
    · exact absurd c20 (nI_m1 (by omega))
set_option maxRecDepth 4000 in
set_option maxHeartbeats 1000000 in
theorem k_S_tick (hl : l.stackTraces = false) {v0 : Int32} {ot : Nat → Option Nat} {g : Nat → Nat} {J : Nat → CS → Prop} (ht36 : ∀ k t, k < 36 → ot k = some t → t < 36) (hne0 : ∀ k t, k < 36 → ot k = some t → k / 3 ≠ t / 3) (hg12 : ∀ j, j < 12 → g j < 12) (hJ0 : J 0 (z, r, q)) (hJg : ∀ t c, J t c → ∀ j, j < 12 → c.1 31 j = nI (g j)) (hJ1 : ∀ t c b0, t < 50 → J t c → b0 < 12 → g b0 = b0 → CBok ot b S c b0 ∧ J t (cTB ot c b0)) (hJ2 : ∀ t c, t < 50 → J t c → Cok b S (up35 c) ∧ J (t + 1) (cLt (up35 c) 12)) : Ct l D A G my_S_tick cd_S_tick 4 (some (.int)) (df + 17) 1 6 [.ref b, .int v0] (CH A b z r (RH S q h)) n (fun v h' n' => (rgC v0 1 50) = 0 ∧ v = some (.int ((cTk ot g (z, r, q) (cl v0)).1 35 0)) ∧ h' = CH A b (cTk ot g (z, r, q) (cl v0)).1 (cTk ot g (z, r, q) (cl v0)).2.1 (RH S (cTk ot g (z, r, q) (cl v0)).2.2 h) ∧ n' = n) (fun E h' n' => ¬ (rgC v0 1 50) = 0 ∧ E = exN (rgC v0 1 50) ∧ h' = (CH A b z r (RH S q h)) ∧ n ≤ n') := by
  refine Ct.of (by decide) hl (Nat.le_of_ble_eq_true rfl) ?_
  intro p e s m args below meth c C hr hnm ht dp
  refine r_iload_n C dc_S_tick_0 rfl rfl ?_
  refine r_iconst (v := nI 1) C dc_S_tick_1 (by decide) ?_
  refine r_icmp_lt (tgt := 11) C dc_S_tick_2 (by decide) (fun c2 => ?_) (fun c2 => ?_)
  ·
    have hcd : (rgC v0 1 50) = 2 := by unfold rgC; rw [if_pos (Or.inl c2)]
    exact r_throw (names := exM) (cls := exN 2) (text := "no such number of ticks") C dp ht dc_S_tick_11 dc_S_tick_14 dc_S_tick_15 dc_S_tick_17 dc_S_tick_20 ex_f2 ex_m (by decide) ex_w2 (by decide +kernel) (Nat.le_refl _) (Nat.le_of_ble_eq_true rfl) ⟨by omega, by omega⟩ (fun n' hn' => ⟨by rw [hcd]; decide, by rw [hcd], rfl, hn'⟩)
  ·
    refine r_iload_n C dc_S_tick_5 rfl rfl ?_
    refine r_bipush (v := nI 50) C dc_S_tick_6 (by decide) ?_
    refine r_icmp_le (tgt := 21) C dc_S_tick_8 (by decide) (fun c8 => ?_) (fun c8 => ?_)
    ·
      have hcd0 : (rgC v0 1 50) = 0 := by unfold rgC; rw [if_neg (fun z => z.elim c2 (fun z => absurd c8 (Int32.not_le.mpr z)))]
      obtain ⟨nn, hnn, rfl⟩ : ∃ nn, nn ≤ 50 ∧ v0 = nI nn := by
        rcases pk_ix v0 (n := 51) (by decide) with z | z | ⟨j, hj, z⟩
        · exact absurd (Int32.lt_trans z (by decide)) c2
        · exact absurd (Int32.le_trans z c8) (by decide)
        · exact ⟨j, by omega, z⟩
      have cnn : cl (nI nn) = nn := cl_nI (by omega)
      rw [cnn]
      have hT := cTk_J (J := J) (ot := ot) (g := g) (fun t c b0 h1 h2 h3 h4 => (hJ1 t c b0 h1 h2 h3 h4).2) (fun t c h1 h2 => (hJ2 t c h1 h2).2) hJ0
      have lt : ∀ k, k ≤ nn → Rw p l e (cR (df + 17) 1 6) s m args below meth c (CQ D G n (fun v h' n' => (rgC (nI nn) 1 50) = 0 ∧ v = some (.int ((cTk ot g (z, r, q) nn).1 35 0)) ∧ h' = CH A b (cTk ot g (z, r, q) nn).1 (cTk ot g (z, r, q) nn).2.1 (RH S (cTk ot g (z, r, q) nn).2.2 h) ∧ n' = n) (fun E h' n' => ¬ (rgC (nI nn) 1 50) = 0 ∧ E = exN (rgC (nI nn) 1 50) ∧ h' = (CH A b z r (RH S q h)) ∧ n ≤ n') below args s 1 6) D G 4 1 6 (CH A b (cTk ot g (z, r, q) k).1 (cTk ot g (z, r, q) k).2.1 (RH S (cTk ot g (z, r, q) k).2.2 h)) n [(0, .ref b), (1, .int (nI nn)), (2, .int (nI k))] 23 [] := by
        refine r_loop nn _ ?_ ?_
        ·
          refine r_iload_n C dc_S_tick_23 rfl rfl ?_
          refine r_iload_n C dc_S_tick_24 rfl rfl ?_
          refine r_icmp_geN (tgt := 78) C dc_S_tick_25 (by decide) (by omega) (by omega) (fun c25 => ?_) (fun c25 => ?_)
          ·
            first | refine r_aload_n C dc_S_tick_78 rfl rfl ?_ | refine r_aload_nq C dc_S_tick_78 rfl rfl ?_
            refine r_get C dc_S_tick_79 fl_S_115 ch_S rfl ?_
            exact r_iret C dp hr dc_S_tick_82 (Nat.le_refl _) ⟨hcd0, rfl, rfl, rfl⟩
          · exact absurd c25 (by omega)
        ·
          intro k hk ih
          refine r_iload_n C dc_S_tick_23 rfl rfl ?_
          refine r_iload_n C dc_S_tick_24 rfl rfl ?_
          refine r_icmp_geN (tgt := 78) C dc_S_tick_25 (by decide) (by omega) (by omega) (fun c25 => ?_) (fun c25 => ?_)
          · exact absurd c25 (by omega)
          ·
            have hJt := hT k (by omega)
            have hKs : (cTk ot g (z, r, q) (k + 1)) = cLt (up35 (cBs ot g (cTk ot g (z, r, q) k) 12)) 12 := rfl
            generalize hyy : (cTk ot g (z, r, q) k) = y at hJt hKs ⊢
            have hB := cBs_J (J := J k) (ot := ot) (g := g) (fun c b0 h2 h3 h4 => (hJ1 k c b0 (by omega) h2 h3 h4).2) hJt
            have lb : ∀ t, t ≤ 12 → Rw p l e (cR (df + 17) 1 6) s m args below meth c (CQ D G n (fun v h' n' => (rgC (nI nn) 1 50) = 0 ∧ v = some (.int ((cTk ot g (z, r, q) nn).1 35 0)) ∧ h' = CH A b (cTk ot g (z, r, q) nn).1 (cTk ot g (z, r, q) nn).2.1 (RH S (cTk ot g (z, r, q) nn).2.2 h) ∧ n' = n) (fun E h' n' => ¬ (rgC (nI nn) 1 50) = 0 ∧ E = exN (rgC (nI nn) 1 50) ∧ h' = (CH A b z r (RH S q h)) ∧ n ≤ n') below args s 1 6) D G 4 1 6 (CH A b (cBs ot g y t).1 (cBs ot g y t).2.1 (RH S (cBs ot g y t).2.2 h)) n [(0, .ref b), (1, .int (nI nn)), (2, .int (nI k)), (3, .int (nI t))] 30 [] := by
              refine r_loop 12 _ ?_ ?_
              ·
                refine r_iload_n C dc_S_tick_30 rfl rfl ?_
                refine r_bipush (v := nI 12) C dc_S_tick_31 (by decide) ?_
                refine r_icmp_geN (tgt := 58) C dc_S_tick_33 (by decide) (by omega) (by omega) (fun c33 => ?_) (fun c33 => ?_)
                ·
                  have hJ12 := hB 12 (Nat.le_refl _)
                  have hL := (hJ2 k _ (by omega) hJ12).1
                  generalize hyz : (cBs ot g y 12) = yz at hJ12 hKs hL ⊢
                  obtain ⟨z1, r1, q1⟩ := yz
                  show Rw p l e (cR (df + 17) 1 6) s m args below meth c (CQ D G n (fun v h' n' => (rgC (nI nn) 1 50) = 0 ∧ v = some (.int ((cTk ot g (z, r, q) nn).1 35 0)) ∧ h' = CH A b (cTk ot g (z, r, q) nn).1 (cTk ot g (z, r, q) nn).2.1 (RH S (cTk ot g (z, r, q) nn).2.2 h) ∧ n' = n) (fun E h' n' => ¬ (rgC (nI nn) 1 50) = 0 ∧ E = exN (rgC (nI nn) 1 50) ∧ h' = (CH A b z r (RH S q h)) ∧ n ≤ n') below args s 1 6) D G 4 1 6 (CH A b z1 r1 (RH S q1 h)) n _ 58 []
                  first | refine r_aload_n C dc_S_tick_58 rfl rfl ?_ | refine r_aload_nq C dc_S_tick_58 rfl rfl ?_
                  refine r_dup C dc_S_tick_59 rfl ?_
                  refine r_get C dc_S_tick_60 fl_S_115 ch_S rfl ?_
                  refine r_iconst (v := nI 1) C dc_S_tick_63 (by decide) ?_
                  first | refine r_iaddN C dc_S_tick_64 ?_ | refine r_iadd C dc_S_tick_64 ?_
                  refine r_put C dc_S_tick_65 fl_S_115 ch_S rfl rfl (Nat.le_of_ble_eq_true rfl) ?_
                  refine rw_hh cs_s35 ?_
                  first | refine r_aload_n C dc_S_tick_68 rfl rfl ?_ | refine r_aload_nq C dc_S_tick_68 rfl rfl ?_
                  refine r_callV C dp dc_S_tick_69 cw_S_150 cm_S_endLateRequests cv_S_endLateRequests rfl (ch_S) (k_S_endLate (df := df) (z := ur z1 35 (fun _ => z1 35 0 + nI 1)) (r := r1) (q := q1) hl hL) (by omega) rfl rfl (Nat.le_of_ble_eq_true rfl) (fun v69 h69 n69 q69 z69 => ?_) (fun _ _ _ _ z => z.elim)
                  obtain ⟨y69, y69h, y69n⟩ := z69
                  rw [y69, y69h, y69n]
                  refine rw_hh (h' := CH A b (cTk ot g (z, r, q) (k + 1)).1 (cTk ot g (z, r, q) (k + 1)).2.1 (RH S (cTk ot g (z, r, q) (k + 1)).2.2 h)) (by rw [hKs]; rfl) ?_
                  first | refine r_iincN C dc_S_tick_72 rfl (by decide) (nw_of rfl) ?_ | refine r_iinc C dc_S_tick_72 rfl rfl (by decide) (nw_of rfl) ?_
                  refine r_goto (tgt := 23) C dc_S_tick_75 (by decide) ?_
                  refine r_weak ?_ (ih)
                  exact wl_c (rfl) (wl_c (rfl) (wl_c (rfl) (wl_n)))
                · exact absurd c33 (by omega)
              ·
                intro t ht iht
                have hJb := hB t (by omega)
                have hs : (cBs ot g y (t + 1)) = if g t = t then cTB ot (cBs ot g y t) t else (cBs ot g y t) := rfl
                have hg := hJg k _ hJb
                refine r_iload_n C dc_S_tick_30 rfl rfl ?_
                refine r_bipush (v := nI 12) C dc_S_tick_31 (by decide) ?_
                refine r_icmp_geN (tgt := 58) C dc_S_tick_33 (by decide) (by omega) (by omega) (fun c33 => ?_) (fun c33 => ?_)
                · exact absurd c33 (by omega)
                ·
                  first | refine r_aload_n C dc_S_tick_36 rfl rfl ?_ | refine r_aload_nq C dc_S_tick_36 rfl rfl ?_
                  refine r_get C dc_S_tick_37 fl_S_12 ch_S rfl ?_
                  refine r_iload_n C dc_S_tick_40 rfl rfl ?_
                  refine r_callV C dp dc_S_tick_41 cw_S_143 cm_W_isBus cv_W_isBus rfl (ch_W) (k_W_isBus (df := df) (i := t) hl ch_W ch_bus ht hg hg12) (by omega) rfl rfl (Nat.le_of_ble_eq_true rfl) (fun v41 h41 n41 q41 z41 => ?_) (fun _ _ _ _ z => z.elim)
                  obtain ⟨y41, y41h, y41n⟩ := z41
                  rw [y41, y41h, y41n]
                  refine r_if_eqZ (tgt := 52) C dc_S_tick_44 (by decide) (fun c44 => ?_) (fun c44 => ?_)
                  ·
                    refine rw_hh (h' := CH A b (cBs ot g y (t + 1)).1 (cBs ot g y (t + 1)).2.1 (RH S (cBs ot g y (t + 1)).2.2 h)) (by rw [hs, if_neg (of_decide_eq_false c44)]) ?_
                    first | refine r_iincN C dc_S_tick_52 rfl (by decide) (nw_of rfl) ?_ | refine r_iinc C dc_S_tick_52 rfl rfl (by decide) (nw_of rfl) ?_
                    refine r_goto (tgt := 30) C dc_S_tick_55 (by decide) ?_
                    refine r_weak ?_ (iht)
                    exact wl_c (rfl) (wl_c (rfl) (wl_c (rfl) (wl_c (rfl) (wl_n))))
                  ·
                    have hok := (hJ1 k _ t (by omega) hJb ht (of_decide_eq_true c44)).1
                    rw [if_pos (of_decide_eq_true c44)] at hs
                    generalize hyb : (cBs ot g y t) = yb at hok hs ⊢
                    obtain ⟨z1, r1, q1⟩ := yb
                    show Rw p l e (cR (df + 17) 1 6) s m args below meth c (CQ D G n (fun v h' n' => (rgC (nI nn) 1 50) = 0 ∧ v = some (.int ((cTk ot g (z, r, q) nn).1 35 0)) ∧ h' = CH A b (cTk ot g (z, r, q) nn).1 (cTk ot g (z, r, q) nn).2.1 (RH S (cTk ot g (z, r, q) nn).2.2 h) ∧ n' = n) (fun E h' n' => ¬ (rgC (nI nn) 1 50) = 0 ∧ E = exN (rgC (nI nn) 1 50) ∧ h' = (CH A b z r (RH S q h)) ∧ n ≤ n') below args s 1 6) D G 4 1 6 (CH A b z1 r1 (RH S q1 h)) n _ 47 []
                    first | refine r_aload_n C dc_S_tick_47 rfl rfl ?_ | refine r_aload_nq C dc_S_tick_47 rfl rfl ?_
                    refine r_iload_n C dc_S_tick_48 rfl rfl ?_
                    refine r_callV C dp dc_S_tick_49 cw_S_147 cm_S_runBus cv_S_runBus rfl (ch_S) (k_S_runBus (df := df) (ot := ot) (b0 := t) hl ht ht36 hne0 hok) (by omega) rfl rfl (Nat.le_of_ble_eq_true rfl) (fun v49 h49 n49 q49 z49 => ?_) (fun _ _ _ _ z => z.elim)
                    obtain ⟨y49, y49h, y49n⟩ := z49
                    rw [y49, y49h, y49n]
                    refine rw_hh (h' := CH A b (cBs ot g y (t + 1)).1 (cBs ot g y (t + 1)).2.1 (RH S (cBs ot g y (t + 1)).2.2 h)) (by rw [hs]) ?_
                    first | refine r_iincN C dc_S_tick_52 rfl (by decide) (nw_of rfl) ?_ | refine r_iinc C dc_S_tick_52 rfl rfl (by decide) (nw_of rfl) ?_
                    refine r_goto (tgt := 30) C dc_S_tick_55 (by decide) ?_
                    refine r_weak ?_ (iht)
                    exact wl_c (rfl) (wl_c (rfl) (wl_c (rfl) (wl_c (rfl) (wl_n))))
            refine r_iconst (v := nI 0) C dc_S_tick_28 (by decide) ?_
            refine r_istore_n C dc_S_tick_29 rfl (by decide) (nw_of rfl) ?_
            refine r_weak ?_ (lb 0 (by omega))
            exact wl_c (rfl) (wl_c (rfl) (wl_c (rfl) (wl_c (rfl) (wl_n))))
      refine r_iconst (v := nI 0) C dc_S_tick_21 (by decide) ?_
      refine r_istore_n C dc_S_tick_22 rfl (by decide) (nw_of rfl) ?_
      refine r_weak ?_ (lt 0 (by omega))
      exact wl_c (rfl) (wl_c (rfl) (wl_c (rfl) (wl_n)))
    ·
      have hcd : (rgC v0 1 50) = 2 := by unfold rgC; rw [if_pos (Or.inr (Int32.not_le.mp c8))]
      exact r_throw (names := exM) (cls := exN 2) (text := "no such number of ticks") C dp ht dc_S_tick_11 dc_S_tick_14 dc_S_tick_15 dc_S_tick_17 dc_S_tick_20 ex_f2 ex_m (by decide) ex_w2 (by decide +kernel) (Nat.le_refl _) (Nat.le_of_ble_eq_true rfl) ⟨by omega, by omega⟩ (fun n' hn' => ⟨by rw [hcd]; decide, by rw [hcd], rfl, hn'⟩)
end Cls11
