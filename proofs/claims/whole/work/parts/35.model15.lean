/-- the last below k that has it -/
def lstT (P : Nat → Bool) : Nat → Option Nat
  | 0 => none
  | k + 1 => bif P k then some k else lstT P k
theorem lst_1 {P : Nat → Bool} {k : Nat} (q : P k = true) : lstT P (k + 1) = some k := by
  show (bif P k then _ else _) = _
  rw [q]; rfl
theorem lst_0 {P : Nat → Bool} {k : Nat} (q : P k = false) : lstT P (k + 1) = lstT P k := by
  show (bif P k then _ else _) = _
  rw [q]; rfl
/-- what the nodes c learn: root, manager, looped or not; looped: no parents -/
def mLn (x : Nat → Nat → Int32) (c : Nat → Bool) (tp ch : Int32) (tr : Bool) : Nat → Nat → Int32 := ur (ur (ur (ur x 16 (ov c 1 (fun _ => tp) (x 16))) 17 (ov c 1 (fun _ => ch) (x 17))) 12 (ov c 1 (fun _ => zi (!tr)) (x 12))) 14 (bif tr then x 14 else ov c 1 (fun _ => -1) (x 14))
theorem mLn_f (x : Nat → Nat → Int32) (tp ch : Int32) (tr : Bool) : mLn x (fun _ => false) tp ch tr = x := by
  unfold mLn
  simp only [ov_f]
  have e : (bif tr then x 14 else x 14) = x 14 := by cases tr <;> rfl
  rw [e]
  funext j
  unfold ur
  split <;> rename_i e1
  · rw [e1]
  split <;> rename_i e2
  · rw [e2]
  split <;> rename_i e3
  · rw [e3]
  split <;> rename_i e4
  · rw [e4]
  rfl
theorem mLn_row {x y : Nat → Nat → Int32} {c : Nat → Bool} {tp ch : Int32} {tr : Bool} (h16 : y 16 = ov c 1 (fun _ => tp) (x 16)) (h17 : y 17 = ov c 1 (fun _ => ch) (x 17)) (h12 : y 12 = ov c 1 (fun _ => zi (!tr)) (x 12)) (h14 : y 14 = (bif tr then x 14 else ov c 1 (fun _ => -1) (x 14))) (hr : ∀ j, j ≠ 16 → j ≠ 17 → j ≠ 12 → j ≠ 14 → y j = x j) : y = mLn x c tp ch tr := by
  funext j
  unfold mLn
  by_cases e14 : j = 14
  · rw [e14, ur_eq, h14]
  rw [ur_ne e14]
  by_cases e12 : j = 12
  · rw [e12, ur_eq, h12]
  rw [ur_ne e12]
  by_cases e17 : j = 17
  · rw [e17, ur_eq, h17]
  rw [ur_ne e17]
  by_cases e16 : j = 16
  · rw [e16, ur_eq, h16]
  rw [ur_ne e16]
  exact hr j e16 e17 e12 e14
def mTop (x : Nat → Nat → Int32) (v : Int32) : Nat → Option Nat := lstT (fun k => decide (x 18 k = v ∧ x 14 k < 0))
def mChief (x : Nat → Nat → Int32) (v : Int32) : Nat → Option Nat := bstT (fun k => decide (x 18 k = v ∧ ¬ x 9 k = 0)) (x 15)
section Model15
variable {l : Launch} {D : va_G} {A : Nat → ClassId} {G : Heap} {h : Hp} {n mm df : Nat} {x : Nat → Nat → Int32}
set_option maxRecDepth 4000 in
set_option maxHeartbeats 1000000 in
theorem k_M_settleF (hl : l.stackTraces = false) {v0 : Int32} : Ct l D A G my_M_settle cd_M_settle 6 none (df + 2) 0 0 [.ref mm, .int v0, .int (zi false)] (MH A mm x h) n (fun v h' n' => v = none ∧ h' = MH A mm (mLn x (cB x v0 12) (-1) (-1) false) h ∧ n' = n) (fun _ _ _ => False) := by
  refine Ct.of (by decide) hl (Nat.le_of_ble_eq_true rfl) ?_
  intro p e s m args below meth c C hr hnm ht dp
  have lp3 : ∀ k, k ≤ 12 → Rw p l e (cR (df + 2) 0 0) s m args below meth c (CQ D G n (fun v h' n' => v = none ∧ h' = MH A mm (mLn x (cB x v0 12) (-1) (-1) false) h ∧ n' = n) (fun _ _ _ => False) below args s 0 0) D G 6 0 0 (MH A mm (mLn x (cB x v0 k) (-1) (-1) false) h) n [(0, .ref mm), (1, .int v0), (2, .int (zi false)), (3, .int (-1)), (4, .int (-1)), (5, .int (nI k))] 128 [] := by
    refine r_loop 12 _ ?_ ?_
    ·
      refine r_iload C dc_M_settle_128 rfl ?_
      refine r_bipush (v := nI 12) C dc_M_settle_130 (by decide) ?_
      refine r_icmp_geN (tgt := 200) C dc_M_settle_132 (by decide) (by omega) (by omega) (fun c132 => ?_) (fun c132 => ?_)
      ·
        exact r_vret C dp hr dc_M_settle_200 (Nat.le_refl _) ⟨rfl, rfl, rfl⟩
      · exact absurd c132 (by omega)
    ·
      intro k hk ih
      refine r_iload C dc_M_settle_128 rfl ?_
      refine r_bipush (v := nI 12) C dc_M_settle_130 (by decide) ?_
      refine r_icmp_geN (tgt := 200) C dc_M_settle_132 (by decide) (by omega) (by omega) (fun c132 => ?_) (fun c132 => ?_)
      · exact absurd c132 (by omega)
      ·
        first | refine r_aload_n C dc_M_settle_135 rfl rfl ?_ | refine r_aload_nq C dc_M_settle_135 rfl rfl ?_
        refine r_get C dc_M_settle_136 fl_M_62 mh_0 rfl ?_
        refine r_iload C dc_M_settle_139 rfl ?_
        refine r_ialdN C dc_M_settle_141 mh_18 (by omega) (by decide) ?_
        refine r_iload_n C dc_M_settle_142 rfl rfl ?_
        refine r_icmp_eq (tgt := 149) C dc_M_settle_143 (by decide) (fun c143 => ?_) (fun c143 => ?_)
        ·
          have cq : x 18 k = v0 := c143
          first | refine r_aload_n C dc_M_settle_149 rfl rfl ?_ | refine r_aload_nq C dc_M_settle_149 rfl rfl ?_
          refine r_get C dc_M_settle_150 fl_M_56 mh_0 rfl ?_
          refine r_iload C dc_M_settle_153 rfl ?_
          refine r_iload_n C dc_M_settle_155 rfl rfl ?_
          refine r_iast C dc_M_settle_156 mh_16 rfl (by omega) (by decide) ?_
          rw [ms_16]
          first | refine r_aload_n C dc_M_settle_157 rfl rfl ?_ | refine r_aload_nq C dc_M_settle_157 rfl rfl ?_
          refine r_get C dc_M_settle_158 fl_M_59 mh_0 rfl ?_
          refine r_iload C dc_M_settle_161 rfl ?_
          refine r_iload C dc_M_settle_163 rfl ?_
          refine r_iast C dc_M_settle_165 mh_17 rfl (by omega) (by decide) ?_
          rw [ms_17]
          first | refine r_aload_n C dc_M_settle_166 rfl rfl ?_ | refine r_aload_nq C dc_M_settle_166 rfl rfl ?_
          refine r_get C dc_M_settle_167 fl_M_44 mh_0 rfl ?_
          refine r_iload C dc_M_settle_170 rfl ?_
          refine r_iload_n C dc_M_settle_172 rfl rfl ?_
          refine r_if_neZ (tgt := 180) C dc_M_settle_173 (by decide) (fun c173 => ?_) (fun c173 => ?_)
          · exact absurd c173 (by decide)
          ·
            refine r_iconst (v := nI 1) C dc_M_settle_176 (by decide) ?_
            refine r_goto (tgt := 181) C dc_M_settle_177 (by decide) ?_
            refine r_zast C dc_M_settle_181 mh_12 rfl (by omega) (by decide) (by first | exact zi_01 _ | exact zv_0 | exact zv_1 | assumption | decide) ?_
            rw [ms_12]
            refine r_iload_n C dc_M_settle_182 rfl rfl ?_
            refine r_if_neZ (tgt := 194) C dc_M_settle_183 (by decide) (fun c183 => ?_) (fun c183 => ?_)
            · exact absurd c183 (by decide)
            ·
              first | refine r_aload_n C dc_M_settle_186 rfl rfl ?_ | refine r_aload_nq C dc_M_settle_186 rfl rfl ?_
              refine r_get C dc_M_settle_187 fl_M_50 mh_0 rfl ?_
              refine r_iload C dc_M_settle_190 rfl ?_
              refine r_iconst (v := -1) C dc_M_settle_192 (by decide) ?_
              refine r_iast C dc_M_settle_193 mh_14 rfl (by omega) (by decide) ?_
              rw [ms_14]
              refine rw_h (y' := (mLn x (cB x v0 (k + 1)) (-1) (-1) false)) (mLn_row (ov_1 (nw := fun _ => (-1)) cq) (ov_1 (nw := fun _ => (-1)) cq) (ov_1 (nw := fun _ => zi (!false)) cq) (ov_1 (nw := fun _ => -1) cq) (fun j e16 e17 e12 e14 => ?_)) ?_
              · unfold mLn
                simp only [ur, e16, e17, e12, e14, if_false]
              first | refine r_iincN C dc_M_settle_194 rfl (by decide) (nw_of rfl) ?_ | refine r_iinc C dc_M_settle_194 rfl rfl (by decide) (nw_of rfl) ?_
              refine r_goto (tgt := 128) C dc_M_settle_197 (by decide) ?_
              refine r_weak ?_ (ih)
              exact wl_c (rfl) (wl_c (rfl) (wl_c (rfl) (wl_c (rfl) (wl_c (rfl) (wl_c (rfl) (wl_n))))))
        ·
          refine rw_h (y' := (mLn x (cB x v0 (k + 1)) (-1) (-1) false)) (by rw [cB_n (show ¬ x 18 k = v0 from c143)]) ?_
          refine r_goto (tgt := 194) C dc_M_settle_146 (by decide) ?_
          first | refine r_iincN C dc_M_settle_194 rfl (by decide) (nw_of rfl) ?_ | refine r_iinc C dc_M_settle_194 rfl rfl (by decide) (nw_of rfl) ?_
          refine r_goto (tgt := 128) C dc_M_settle_197 (by decide) ?_
          refine r_weak ?_ (ih)
          exact wl_c (rfl) (wl_c (rfl) (wl_c (rfl) (wl_c (rfl) (wl_c (rfl) (wl_c (rfl) (wl_n))))))
  have lp2 : ∀ k, k ≤ 12 → Rw p l e (cR (df + 2) 0 0) s m args below meth c (CQ D G n (fun v h' n' => v = none ∧ h' = MH A mm (mLn x (cB x v0 12) (-1) (-1) false) h ∧ n' = n) (fun _ _ _ => False) below args s 0 0) D G 6 0 0 (MH A mm x h) n [(0, .ref mm), (1, .int v0), (2, .int (zi false)), (3, .int (-1)), (4, .int (-1)), (5, .int (nI k))] 61 [] := by
    refine r_loop 12 _ ?_ ?_
    ·
      refine r_iload C dc_M_settle_61 rfl ?_
      refine r_bipush (v := nI 12) C dc_M_settle_63 (by decide) ?_
      refine r_icmp_geN (tgt := 125) C dc_M_settle_65 (by decide) (by omega) (by omega) (fun c65 => ?_) (fun c65 => ?_)
      ·
        refine r_iconst (v := nI 0) C dc_M_settle_125 (by decide) ?_
        refine r_istore C dc_M_settle_126 (by decide) (nw_of rfl) ?_
        refine rw_h (y' := (mLn x (cB x v0 0) (-1) (-1) false)) (by rw [cB_0, mLn_f]) ?_
        refine r_weak ?_ (lp3 0 (by omega))
        exact wl_c (rfl) (wl_c (rfl) (wl_c (rfl) (wl_c (rfl) (wl_c (rfl) (wl_c (rfl) (wl_n))))))
      · exact absurd c65 (by omega)
    ·
      intro k hk ih
      refine r_iload C dc_M_settle_61 rfl ?_
      refine r_bipush (v := nI 12) C dc_M_settle_63 (by decide) ?_
      refine r_icmp_geN (tgt := 125) C dc_M_settle_65 (by decide) (by omega) (by omega) (fun c65 => ?_) (fun c65 => ?_)
      · exact absurd c65 (by omega)
      ·
        first | refine r_aload_n C dc_M_settle_68 rfl rfl ?_ | refine r_aload_nq C dc_M_settle_68 rfl rfl ?_
        refine r_get C dc_M_settle_69 fl_M_62 mh_0 rfl ?_
        refine r_iload C dc_M_settle_72 rfl ?_
        refine r_ialdN C dc_M_settle_74 mh_18 (by omega) (by decide) ?_
        refine r_iload_n C dc_M_settle_75 rfl rfl ?_
        refine r_icmp_ne (tgt := 119) C dc_M_settle_76 (by decide) (fun c76 => ?_) (fun c76 => ?_)
        ·
          first | refine r_iincN C dc_M_settle_119 rfl (by decide) (nw_of rfl) ?_ | refine r_iinc C dc_M_settle_119 rfl rfl (by decide) (nw_of rfl) ?_
          refine r_goto (tgt := 61) C dc_M_settle_122 (by decide) ?_
          refine r_weak ?_ (ih)
          exact wl_c (rfl) (wl_c (rfl) (wl_c (rfl) (wl_c (rfl) (wl_c (rfl) (wl_c (rfl) (wl_n))))))
        ·
          refine r_iload_n C dc_M_settle_79 rfl rfl ?_
          refine r_if_eqZ (tgt := 119) C dc_M_settle_80 (by decide) (fun c80 => ?_) (fun c80 => ?_)
          ·
            first | refine r_iincN C dc_M_settle_119 rfl (by decide) (nw_of rfl) ?_ | refine r_iinc C dc_M_settle_119 rfl rfl (by decide) (nw_of rfl) ?_
            refine r_goto (tgt := 61) C dc_M_settle_122 (by decide) ?_
            refine r_weak ?_ (ih)
            exact wl_c (rfl) (wl_c (rfl) (wl_c (rfl) (wl_c (rfl) (wl_c (rfl) (wl_c (rfl) (wl_n))))))
          · exact absurd c80 (by decide)
  have lp1 : ∀ k, k ≤ 12 → Rw p l e (cR (df + 2) 0 0) s m args below meth c (CQ D G n (fun v h' n' => v = none ∧ h' = MH A mm (mLn x (cB x v0 12) (-1) (-1) false) h ∧ n' = n) (fun _ _ _ => False) below args s 0 0) D G 6 0 0 (MH A mm x h) n [(0, .ref mm), (1, .int v0), (2, .int (zi false)), (3, .int (-1)), (4, .int (-1)), (5, .int (nI k))] 8 [] := by
    refine r_loop 12 _ ?_ ?_
    ·
      refine r_iload C dc_M_settle_8 rfl ?_
      refine r_bipush (v := nI 12) C dc_M_settle_10 (by decide) ?_
      refine r_icmp_geN (tgt := 49) C dc_M_settle_12 (by decide) (by omega) (by omega) (fun c12 => ?_) (fun c12 => ?_)
      ·
        refine r_iload_n C dc_M_settle_49 rfl rfl ?_
        refine r_if_eqZ (tgt := 58) C dc_M_settle_50 (by decide) (fun c50 => ?_) (fun c50 => ?_)
        ·
          refine r_iconst (v := nI 0) C dc_M_settle_58 (by decide) ?_
          refine r_istore C dc_M_settle_59 (by decide) (nw_of rfl) ?_
          refine r_weak ?_ (lp2 0 (by omega))
          exact wl_c (rfl) (wl_c (rfl) (wl_c (rfl) (wl_c (rfl) (wl_c (rfl) (wl_c (rfl) (wl_n))))))
        · exact absurd c50 (by decide)
      · exact absurd c12 (by omega)
    ·
      intro k hk ih
      refine r_iload C dc_M_settle_8 rfl ?_
      refine r_bipush (v := nI 12) C dc_M_settle_10 (by decide) ?_
      refine r_icmp_geN (tgt := 49) C dc_M_settle_12 (by decide) (by omega) (by omega) (fun c12 => ?_) (fun c12 => ?_)
      · exact absurd c12 (by omega)
      ·
        first | refine r_aload_n C dc_M_settle_15 rfl rfl ?_ | refine r_aload_nq C dc_M_settle_15 rfl rfl ?_
        refine r_get C dc_M_settle_16 fl_M_62 mh_0 rfl ?_
        refine r_iload C dc_M_settle_19 rfl ?_
        refine r_ialdN C dc_M_settle_21 mh_18 (by omega) (by decide) ?_
        refine r_iload_n C dc_M_settle_22 rfl rfl ?_
        refine r_icmp_ne (tgt := 43) C dc_M_settle_23 (by decide) (fun c23 => ?_) (fun c23 => ?_)
        ·
          first | refine r_iincN C dc_M_settle_43 rfl (by decide) (nw_of rfl) ?_ | refine r_iinc C dc_M_settle_43 rfl rfl (by decide) (nw_of rfl) ?_
          refine r_goto (tgt := 8) C dc_M_settle_46 (by decide) ?_
          refine r_weak ?_ (ih)
          exact wl_c (rfl) (wl_c (rfl) (wl_c (rfl) (wl_c (rfl) (wl_c (rfl) (wl_c (rfl) (wl_n))))))
        ·
          refine r_iload_n C dc_M_settle_26 rfl rfl ?_
          refine r_if_eqZ (tgt := 43) C dc_M_settle_27 (by decide) (fun c27 => ?_) (fun c27 => ?_)
          ·
            first | refine r_iincN C dc_M_settle_43 rfl (by decide) (nw_of rfl) ?_ | refine r_iinc C dc_M_settle_43 rfl rfl (by decide) (nw_of rfl) ?_
            refine r_goto (tgt := 8) C dc_M_settle_46 (by decide) ?_
            refine r_weak ?_ (ih)
            exact wl_c (rfl) (wl_c (rfl) (wl_c (rfl) (wl_c (rfl) (wl_c (rfl) (wl_c (rfl) (wl_n))))))
          · exact absurd c27 (by decide)
  refine r_iconst (v := -1) C dc_M_settle_0 (by decide) ?_
  refine r_istore_n C dc_M_settle_1 rfl (by decide) (nw_of rfl) ?_
  refine r_iconst (v := -1) C dc_M_settle_2 (by decide) ?_
  refine r_istore C dc_M_settle_3 (by decide) (nw_of rfl) ?_
  refine r_iconst (v := nI 0) C dc_M_settle_5 (by decide) ?_
  refine r_istore C dc_M_settle_6 (by decide) (nw_of rfl) ?_
  refine r_weak ?_ (lp1 0 (by omega))
  exact wl_c (rfl) (wl_c (rfl) (wl_c (rfl) (wl_c (rfl) (wl_c (rfl) (wl_c (rfl) (wl_n))))))
set_option maxRecDepth 4000 in
set_option maxHeartbeats 1000000 in
theorem k_M_settleT (hl : l.stackTraces = false) {v0 : Int32} {top d0 : Nat} {ot pa : Nat → Option Nat} {rk : Nat → Nat} {B : Nat → Prop} (hBt : B top) (htp : mTop x v0 12 = some top) (hot : ∀ k, k < 36 → x 1 k = oi (ot k)) (ht36 : ∀ k t, k < 36 → ot k = some t → t < 36) (hpa : ∀ a, a < 12 → x 14 a = oi (pa a)) (htop : top < 12) (hroot : pa top = none) (hd0 : rk top < d0)
    (hup : ∀ a b, a < 12 → B a → pa a = some b → b < 12 ∧ ∃ p1, p1 < 3 ∧ ∃ t1, ot (3 * b + p1) = some t1 ∧ t1 / 3 = a)
    (hdn : ∀ c0 a, c0 < 12 → a < 12 → B a → x 14 c0 = nI a → ∀ p t, p < 3 → ot (3 * a + p) = some t → t / 3 = c0 → B c0 ∧ rk c0 < rk a ∧ pa c0 = some a ∧ ∀ p' t', p' < 3 → ot (3 * a + p') = some t' → t' / 3 = c0 → p' = p) : Ct l D A G my_M_settle cd_M_settle 6 none (df + 2) 0 0 [.ref mm, .int v0, .int (zi true)] (MH A mm x h) n (fun v h' n' => v = none ∧ h' = MH A mm (mLn (ur x 15 (gN ot x d0 top (0, x 15)).2) (cB (ur x 15 (gN ot x d0 top (0, x 15)).2) v0 12) (nI top) (oi (mChief (ur x 15 (gN ot x d0 top (0, x 15)).2) v0 12)) true) h ∧ n' = n) (fun _ _ _ => False) := by
  refine Ct.of (by decide) hl (Nat.le_of_ble_eq_true rfl) ?_
  intro p e s m args below meth c C hr hnm ht dp
  have lp3 : ∀ k, k ≤ 12 → Rw p l e (cR (df + 2) 0 0) s m args below meth c (CQ D G n (fun v h' n' => v = none ∧ h' = MH A mm (mLn (ur x 15 (gN ot x d0 top (0, x 15)).2) (cB (ur x 15 (gN ot x d0 top (0, x 15)).2) v0 12) (nI top) (oi (mChief (ur x 15 (gN ot x d0 top (0, x 15)).2) v0 12)) true) h ∧ n' = n) (fun _ _ _ => False) below args s 0 0) D G 6 0 0 (MH A mm (mLn (ur x 15 (gN ot x d0 top (0, x 15)).2) (cB (ur x 15 (gN ot x d0 top (0, x 15)).2) v0 k) (nI top) (oi (mChief (ur x 15 (gN ot x d0 top (0, x 15)).2) v0 12)) true) h) n [(0, .ref mm), (1, .int v0), (2, .int (zi true)), (3, .int (nI top)), (4, .int (oi (mChief (ur x 15 (gN ot x d0 top (0, x 15)).2) v0 12))), (5, .int (nI k))] 128 [] := by
    refine r_loop 12 _ ?_ ?_
    ·
      refine r_iload C dc_M_settle_128 rfl ?_
      refine r_bipush (v := nI 12) C dc_M_settle_130 (by decide) ?_
      refine r_icmp_geN (tgt := 200) C dc_M_settle_132 (by decide) (by omega) (by omega) (fun c132 => ?_) (fun c132 => ?_)
      ·
        exact r_vret C dp hr dc_M_settle_200 (Nat.le_refl _) ⟨rfl, rfl, rfl⟩
      · exact absurd c132 (by omega)
    ·
      intro k hk ih
      refine r_iload C dc_M_settle_128 rfl ?_
      refine r_bipush (v := nI 12) C dc_M_settle_130 (by decide) ?_
      refine r_icmp_geN (tgt := 200) C dc_M_settle_132 (by decide) (by omega) (by omega) (fun c132 => ?_) (fun c132 => ?_)
      · exact absurd c132 (by omega)
      ·
        first | refine r_aload_n C dc_M_settle_135 rfl rfl ?_ | refine r_aload_nq C dc_M_settle_135 rfl rfl ?_
        refine r_get C dc_M_settle_136 fl_M_62 mh_0 rfl ?_
        refine r_iload C dc_M_settle_139 rfl ?_
        refine r_ialdN C dc_M_settle_141 mh_18 (by omega) (by decide) ?_
        refine r_iload_n C dc_M_settle_142 rfl rfl ?_
        refine r_icmp_eq (tgt := 149) C dc_M_settle_143 (by decide) (fun c143 => ?_) (fun c143 => ?_)
        ·
          have cq : (ur x 15 (gN ot x d0 top (0, x 15)).2) 18 k = v0 := c143
          first | refine r_aload_n C dc_M_settle_149 rfl rfl ?_ | refine r_aload_nq C dc_M_settle_149 rfl rfl ?_
          refine r_get C dc_M_settle_150 fl_M_56 mh_0 rfl ?_
          refine r_iload C dc_M_settle_153 rfl ?_
          refine r_iload_n C dc_M_settle_155 rfl rfl ?_
          refine r_iast C dc_M_settle_156 mh_16 rfl (by omega) (by decide) ?_
          rw [ms_16]
          first | refine r_aload_n C dc_M_settle_157 rfl rfl ?_ | refine r_aload_nq C dc_M_settle_157 rfl rfl ?_
          refine r_get C dc_M_settle_158 fl_M_59 mh_0 rfl ?_
          refine r_iload C dc_M_settle_161 rfl ?_
          refine r_iload C dc_M_settle_163 rfl ?_
          refine r_iast C dc_M_settle_165 mh_17 rfl (by omega) (by decide) ?_
          rw [ms_17]
          first | refine r_aload_n C dc_M_settle_166 rfl rfl ?_ | refine r_aload_nq C dc_M_settle_166 rfl rfl ?_
          refine r_get C dc_M_settle_167 fl_M_44 mh_0 rfl ?_
          refine r_iload C dc_M_settle_170 rfl ?_
          refine r_iload_n C dc_M_settle_172 rfl rfl ?_
          refine r_if_neZ (tgt := 180) C dc_M_settle_173 (by decide) (fun c173 => ?_) (fun c173 => ?_)
          ·
            refine r_iconst (v := nI 0) C dc_M_settle_180 (by decide) ?_
            refine r_zast C dc_M_settle_181 mh_12 rfl (by omega) (by decide) (by first | exact zi_01 _ | exact zv_0 | exact zv_1 | assumption | decide) ?_
            rw [ms_12]
            refine r_iload_n C dc_M_settle_182 rfl rfl ?_
            refine r_if_neZ (tgt := 194) C dc_M_settle_183 (by decide) (fun c183 => ?_) (fun c183 => ?_)
            ·
              refine rw_h (y' := (mLn (ur x 15 (gN ot x d0 top (0, x 15)).2) (cB (ur x 15 (gN ot x d0 top (0, x 15)).2) v0 (k + 1)) (nI top) (oi (mChief (ur x 15 (gN ot x d0 top (0, x 15)).2) v0 12)) true)) (mLn_row (ov_1 (nw := fun _ => (nI top)) cq) (ov_1 (nw := fun _ => (oi (mChief (ur x 15 (gN ot x d0 top (0, x 15)).2) v0 12))) cq) (ov_1 (nw := fun _ => zi (!true)) cq) (rfl) (fun j e16 e17 e12 e14 => ?_)) ?_
              · unfold mLn
                simp only [ur, e16, e17, e12, e14, if_false]
              first | refine r_iincN C dc_M_settle_194 rfl (by decide) (nw_of rfl) ?_ | refine r_iinc C dc_M_settle_194 rfl rfl (by decide) (nw_of rfl) ?_
              refine r_goto (tgt := 128) C dc_M_settle_197 (by decide) ?_
              refine r_weak ?_ (ih)
              exact wl_c (rfl) (wl_c (rfl) (wl_c (rfl) (wl_c (rfl) (wl_c (rfl) (wl_c (rfl) (wl_n))))))
            · exact absurd c183 (by decide)
          · exact absurd c173 (by decide)
        ·
          refine rw_h (y' := (mLn (ur x 15 (gN ot x d0 top (0, x 15)).2) (cB (ur x 15 (gN ot x d0 top (0, x 15)).2) v0 (k + 1)) (nI top) (oi (mChief (ur x 15 (gN ot x d0 top (0, x 15)).2) v0 12)) true)) (by rw [cB_n (show ¬ (ur x 15 (gN ot x d0 top (0, x 15)).2) 18 k = v0 from c143)]) ?_
          refine r_goto (tgt := 194) C dc_M_settle_146 (by decide) ?_
          first | refine r_iincN C dc_M_settle_194 rfl (by decide) (nw_of rfl) ?_ | refine r_iinc C dc_M_settle_194 rfl rfl (by decide) (nw_of rfl) ?_
          refine r_goto (tgt := 128) C dc_M_settle_197 (by decide) ?_
          refine r_weak ?_ (ih)
          exact wl_c (rfl) (wl_c (rfl) (wl_c (rfl) (wl_c (rfl) (wl_c (rfl) (wl_c (rfl) (wl_n))))))
  have lp2 : ∀ k, k ≤ 12 → Rw p l e (cR (df + 2) 0 0) s m args below meth c (CQ D G n (fun v h' n' => v = none ∧ h' = MH A mm (mLn (ur x 15 (gN ot x d0 top (0, x 15)).2) (cB (ur x 15 (gN ot x d0 top (0, x 15)).2) v0 12) (nI top) (oi (mChief (ur x 15 (gN ot x d0 top (0, x 15)).2) v0 12)) true) h ∧ n' = n) (fun _ _ _ => False) below args s 0 0) D G 6 0 0 (MH A mm (ur x 15 (gN ot x d0 top (0, x 15)).2) h) n [(0, .ref mm), (1, .int v0), (2, .int (zi true)), (3, .int (nI top)), (4, .int (oi (mChief (ur x 15 (gN ot x d0 top (0, x 15)).2) v0 k))), (5, .int (nI k))] 61 [] := by
    refine r_loop 12 _ ?_ ?_
    ·
      refine r_iload C dc_M_settle_61 rfl ?_
      refine r_bipush (v := nI 12) C dc_M_settle_63 (by decide) ?_
      refine r_icmp_geN (tgt := 125) C dc_M_settle_65 (by decide) (by omega) (by omega) (fun c65 => ?_) (fun c65 => ?_)
      ·
        refine r_iconst (v := nI 0) C dc_M_settle_125 (by decide) ?_
        refine r_istore C dc_M_settle_126 (by decide) (nw_of rfl) ?_
        refine rw_h (y' := (mLn (ur x 15 (gN ot x d0 top (0, x 15)).2) (cB (ur x 15 (gN ot x d0 top (0, x 15)).2) v0 0) (nI top) (oi (mChief (ur x 15 (gN ot x d0 top (0, x 15)).2) v0 12)) true)) (by rw [cB_0, mLn_f]) ?_
        refine r_weak ?_ (lp3 0 (by omega))
        exact wl_c (rfl) (wl_c (rfl) (wl_c (rfl) (wl_c (rfl) (wl_c (rfl) (wl_c (rfl) (wl_n))))))
      · exact absurd c65 (by omega)
    ·
      intro k hk ih
      refine r_iload C dc_M_settle_61 rfl ?_
      refine r_bipush (v := nI 12) C dc_M_settle_63 (by decide) ?_
      refine r_icmp_geN (tgt := 125) C dc_M_settle_65 (by decide) (by omega) (by omega) (fun c65 => ?_) (fun c65 => ?_)
      · exact absurd c65 (by omega)
      ·
        first | refine r_aload_n C dc_M_settle_68 rfl rfl ?_ | refine r_aload_nq C dc_M_settle_68 rfl rfl ?_
        refine r_get C dc_M_settle_69 fl_M_62 mh_0 rfl ?_
        refine r_iload C dc_M_settle_72 rfl ?_
        refine r_ialdN C dc_M_settle_74 mh_18 (by omega) (by decide) ?_
        refine r_iload_n C dc_M_settle_75 rfl rfl ?_
        refine r_icmp_ne (tgt := 119) C dc_M_settle_76 (by decide) (fun c76 => ?_) (fun c76 => ?_)
        ·
          have e9 : mChief (ur x 15 (gN ot x d0 top (0, x 15)).2) v0 (k + 1) = mChief (ur x 15 (gN ot x d0 top (0, x 15)).2) v0 k := bst_0 (E := (fun k => decide ((ur x 15 (gN ot x d0 top (0, x 15)).2) 18 k = v0 ∧ ¬ (ur x 15 (gN ot x d0 top (0, x 15)).2) 9 k = 0))) (decide_eq_false (fun z => c76 z.1))
          first | refine r_iincN C dc_M_settle_119 rfl (by decide) (nw_of rfl) ?_ | refine r_iinc C dc_M_settle_119 rfl rfl (by decide) (nw_of rfl) ?_
          refine r_goto (tgt := 61) C dc_M_settle_122 (by decide) ?_
          refine r_weak ?_ (ih)
          exact wl_c (rfl) (wl_c (rfl) (wl_c (rfl) (wl_c (rfl) (wl_c (by rw [e9]; rfl) (wl_c (rfl) (wl_n))))))
        ·
          refine r_iload_n C dc_M_settle_79 rfl rfl ?_
          refine r_if_eqZ (tgt := 119) C dc_M_settle_80 (by decide) (fun c80 => ?_) (fun c80 => ?_)
          · exact absurd c80 (by decide)
          ·
            first | refine r_aload_n C dc_M_settle_83 rfl rfl ?_ | refine r_aload_nq C dc_M_settle_83 rfl rfl ?_
            refine r_get C dc_M_settle_84 fl_M_35 mh_0 rfl ?_
            refine r_iload C dc_M_settle_87 rfl ?_
            refine r_zaldN C dc_M_settle_89 mh_9 (by omega) (by decide) ?_
            refine r_if_eq (tgt := 119) C dc_M_settle_90 (by decide) (fun c90 => ?_) (fun c90 => ?_)
            ·
              have e9 : mChief (ur x 15 (gN ot x d0 top (0, x 15)).2) v0 (k + 1) = mChief (ur x 15 (gN ot x d0 top (0, x 15)).2) v0 k := bst_0 (E := (fun k => decide ((ur x 15 (gN ot x d0 top (0, x 15)).2) 18 k = v0 ∧ ¬ (ur x 15 (gN ot x d0 top (0, x 15)).2) 9 k = 0))) (decide_eq_false (fun z => z.2 c90))
              first | refine r_iincN C dc_M_settle_119 rfl (by decide) (nw_of rfl) ?_ | refine r_iinc C dc_M_settle_119 rfl rfl (by decide) (nw_of rfl) ?_
              refine r_goto (tgt := 61) C dc_M_settle_122 (by decide) ?_
              refine r_weak ?_ (ih)
              exact wl_c (rfl) (wl_c (rfl) (wl_c (rfl) (wl_c (rfl) (wl_c (by rw [e9]; rfl) (wl_c (rfl) (wl_n))))))
            ·
              have eE : (fun k => decide ((ur x 15 (gN ot x d0 top (0, x 15)).2) 18 k = v0 ∧ ¬ (ur x 15 (gN ot x d0 top (0, x 15)).2) 9 k = 0)) k = true := decide_eq_true ⟨c76, c90⟩
              cases eb : mChief (ur x 15 (gN ot x d0 top (0, x 15)).2) v0 k with
              | none =>
                have e9 : mChief (ur x 15 (gN ot x d0 top (0, x 15)).2) v0 (k + 1) = some k := bst_1 eE eb
                refine r_weak (lo' := [(0, .ref mm), (1, .int v0), (2, .int (zi true)), (3, .int (nI top)), (4, .int (oi none)), (5, .int (nI k))]) (wl_c (rfl) (wl_c (rfl) (wl_c (rfl) (wl_c (rfl) (wl_c (rfl) (wl_c (rfl) (wl_n))))))) ?_
                refine r_iload C dc_M_settle_93 rfl ?_
                refine r_if_lt (tgt := 115) C dc_M_settle_95 (by decide) (fun c95 => ?_) (fun c95 => ?_)
                ·
                  refine r_iload C dc_M_settle_115 rfl ?_
                  refine r_istore C dc_M_settle_117 (by decide) (nw_of rfl) ?_
                  first | refine r_iincN C dc_M_settle_119 rfl (by decide) (nw_of rfl) ?_ | refine r_iinc C dc_M_settle_119 rfl rfl (by decide) (nw_of rfl) ?_
                  refine r_goto (tgt := 61) C dc_M_settle_122 (by decide) ?_
                  refine r_weak ?_ (ih)
                  exact wl_c (rfl) (wl_c (rfl) (wl_c (rfl) (wl_c (rfl) (wl_c (by rw [e9]; rfl) (wl_c (rfl) (wl_n))))))
                · exact absurd m1_lt0 c95
              | some j =>
                have hj := bst_lt eb
                refine r_weak (lo' := [(0, .ref mm), (1, .int v0), (2, .int (zi true)), (3, .int (nI top)), (4, .int (nI j)), (5, .int (nI k))]) (wl_c (rfl) (wl_c (rfl) (wl_c (rfl) (wl_c (rfl) (wl_c (rfl) (wl_c (rfl) (wl_n))))))) ?_
                refine r_iload C dc_M_settle_93 rfl ?_
                refine r_if_lt (tgt := 115) C dc_M_settle_95 (by decide) (fun c95 => ?_) (fun c95 => ?_)
                · exact absurd c95 (nI_lt0 (by omega))
                ·
                  first | refine r_aload_n C dc_M_settle_98 rfl rfl ?_ | refine r_aload_nq C dc_M_settle_98 rfl rfl ?_
                  refine r_get C dc_M_settle_99 fl_M_53 mh_0 rfl ?_
                  refine r_iload C dc_M_settle_102 rfl ?_
                  refine r_ialdN C dc_M_settle_104 mh_15 (by omega) (by decide) ?_
                  first | refine r_aload_n C dc_M_settle_105 rfl rfl ?_ | refine r_aload_nq C dc_M_settle_105 rfl rfl ?_
                  refine r_get C dc_M_settle_106 fl_M_53 mh_0 rfl ?_
                  refine r_iload C dc_M_settle_109 rfl ?_
                  refine r_ialdN C dc_M_settle_111 mh_15 (by omega) (by decide) ?_
                  refine r_icmp_le (tgt := 119) C dc_M_settle_112 (by decide) (fun c112 => ?_) (fun c112 => ?_)
                  ·
                    have e9 : mChief (ur x 15 (gN ot x d0 top (0, x 15)).2) v0 (k + 1) = some j := bst_2 eE eb c112
                    first | refine r_iincN C dc_M_settle_119 rfl (by decide) (nw_of rfl) ?_ | refine r_iinc C dc_M_settle_119 rfl rfl (by decide) (nw_of rfl) ?_
                    refine r_goto (tgt := 61) C dc_M_settle_122 (by decide) ?_
                    refine r_weak ?_ (ih)
                    exact wl_c (rfl) (wl_c (rfl) (wl_c (rfl) (wl_c (rfl) (wl_c (by rw [e9]; rfl) (wl_c (rfl) (wl_n))))))
                  ·
                    have e9 : mChief (ur x 15 (gN ot x d0 top (0, x 15)).2) v0 (k + 1) = some k := bst_3 eE eb c112
                    refine r_iload C dc_M_settle_115 rfl ?_
                    refine r_istore C dc_M_settle_117 (by decide) (nw_of rfl) ?_
                    first | refine r_iincN C dc_M_settle_119 rfl (by decide) (nw_of rfl) ?_ | refine r_iinc C dc_M_settle_119 rfl rfl (by decide) (nw_of rfl) ?_
                    refine r_goto (tgt := 61) C dc_M_settle_122 (by decide) ?_
                    refine r_weak ?_ (ih)
                    exact wl_c (rfl) (wl_c (rfl) (wl_c (rfl) (wl_c (rfl) (wl_c (by rw [e9]; rfl) (wl_c (rfl) (wl_n))))))
  have lp1 : ∀ k, k ≤ 12 → Rw p l e (cR (df + 2) 0 0) s m args below meth c (CQ D G n (fun v h' n' => v = none ∧ h' = MH A mm (mLn (ur x 15 (gN ot x d0 top (0, x 15)).2) (cB (ur x 15 (gN ot x d0 top (0, x 15)).2) v0 12) (nI top) (oi (mChief (ur x 15 (gN ot x d0 top (0, x 15)).2) v0 12)) true) h ∧ n' = n) (fun _ _ _ => False) below args s 0 0) D G 6 0 0 (MH A mm x h) n [(0, .ref mm), (1, .int v0), (2, .int (zi true)), (3, .int (oi (mTop x v0 k))), (4, .int (-1)), (5, .int (nI k))] 8 [] := by
    refine r_loop 12 _ ?_ ?_
    ·
      refine r_iload C dc_M_settle_8 rfl ?_
      refine r_bipush (v := nI 12) C dc_M_settle_10 (by decide) ?_
      refine r_icmp_geN (tgt := 49) C dc_M_settle_12 (by decide) (by omega) (by omega) (fun c12 => ?_) (fun c12 => ?_)
      ·
        rw [htp]
        refine r_iload_n C dc_M_settle_49 rfl rfl ?_
        refine r_if_eqZ (tgt := 58) C dc_M_settle_50 (by decide) (fun c50 => ?_) (fun c50 => ?_)
        · exact absurd c50 (by decide)
        ·
          first | refine r_aload_n C dc_M_settle_53 rfl rfl ?_ | refine r_aload_nq C dc_M_settle_53 rfl rfl ?_
          refine r_iload_n C dc_M_settle_54 rfl rfl ?_
          refine r_callV C dp dc_M_settle_55 cw_M_170 cm_M_giveNumbers cv_M_giveNumbers rfl (mh_0) (k_M_giveNumbers (df := df) (ot := ot) (pa := pa) (rk := rk) (d0 := d0) (top := top) hl hBt hot ht36 hpa htop hroot hd0 hup hdn) (by omega) rfl rfl (Nat.le_of_ble_eq_true rfl) (fun v55 h55 n55 q55 z55 => ?_) (fun _ _ _ _ z => z.elim)
          obtain ⟨y55, y55h, y55n⟩ := z55
          rw [y55, y55h, y55n]
          refine r_iconst (v := nI 0) C dc_M_settle_58 (by decide) ?_
          refine r_istore C dc_M_settle_59 (by decide) (nw_of rfl) ?_
          refine r_weak ?_ (lp2 0 (by omega))
          exact wl_c (rfl) (wl_c (rfl) (wl_c (rfl) (wl_c (rfl) (wl_c (rfl) (wl_c (rfl) (wl_n))))))
      · exact absurd c12 (by omega)
    ·
      intro k hk ih
      refine r_iload C dc_M_settle_8 rfl ?_
      refine r_bipush (v := nI 12) C dc_M_settle_10 (by decide) ?_
      refine r_icmp_geN (tgt := 49) C dc_M_settle_12 (by decide) (by omega) (by omega) (fun c12 => ?_) (fun c12 => ?_)
      · exact absurd c12 (by omega)
      ·
        first | refine r_aload_n C dc_M_settle_15 rfl rfl ?_ | refine r_aload_nq C dc_M_settle_15 rfl rfl ?_
        refine r_get C dc_M_settle_16 fl_M_62 mh_0 rfl ?_
        refine r_iload C dc_M_settle_19 rfl ?_
        refine r_ialdN C dc_M_settle_21 mh_18 (by omega) (by decide) ?_
        refine r_iload_n C dc_M_settle_22 rfl rfl ?_
        refine r_icmp_ne (tgt := 43) C dc_M_settle_23 (by decide) (fun c23 => ?_) (fun c23 => ?_)
        ·
          have e9 : mTop x v0 (k + 1) = mTop x v0 k := lst_0 (P := (fun k => decide (x 18 k = v0 ∧ x 14 k < 0))) (decide_eq_false (fun z => c23 z.1))
          first | refine r_iincN C dc_M_settle_43 rfl (by decide) (nw_of rfl) ?_ | refine r_iinc C dc_M_settle_43 rfl rfl (by decide) (nw_of rfl) ?_
          refine r_goto (tgt := 8) C dc_M_settle_46 (by decide) ?_
          refine r_weak ?_ (ih)
          exact wl_c (rfl) (wl_c (rfl) (wl_c (rfl) (wl_c (by rw [e9]; rfl) (wl_c (rfl) (wl_c (rfl) (wl_n))))))
        ·
          refine r_iload_n C dc_M_settle_26 rfl rfl ?_
          refine r_if_eqZ (tgt := 43) C dc_M_settle_27 (by decide) (fun c27 => ?_) (fun c27 => ?_)
          · exact absurd c27 (by decide)
          ·
            first | refine r_aload_n C dc_M_settle_30 rfl rfl ?_ | refine r_aload_nq C dc_M_settle_30 rfl rfl ?_
            refine r_get C dc_M_settle_31 fl_M_50 mh_0 rfl ?_
            refine r_iload C dc_M_settle_34 rfl ?_
            refine r_ialdN C dc_M_settle_36 mh_14 (by omega) (by decide) ?_
            refine r_if_ge (tgt := 43) C dc_M_settle_37 (by decide) (fun c37 => ?_) (fun c37 => ?_)
            ·
              have e9 : mTop x v0 (k + 1) = mTop x v0 k := lst_0 (P := (fun k => decide (x 18 k = v0 ∧ x 14 k < 0))) (decide_eq_false (fun z => absurd z.2 (Int32.not_lt.mpr c37)))
              first | refine r_iincN C dc_M_settle_43 rfl (by decide) (nw_of rfl) ?_ | refine r_iinc C dc_M_settle_43 rfl rfl (by decide) (nw_of rfl) ?_
              refine r_goto (tgt := 8) C dc_M_settle_46 (by decide) ?_
              refine r_weak ?_ (ih)
              exact wl_c (rfl) (wl_c (rfl) (wl_c (rfl) (wl_c (by rw [e9]; rfl) (wl_c (rfl) (wl_c (rfl) (wl_n))))))
            ·
              have e9 : mTop x v0 (k + 1) = some k := lst_1 (P := (fun k => decide (x 18 k = v0 ∧ x 14 k < 0))) (decide_eq_true ⟨c23, Int32.not_le.mp c37⟩)
              refine r_iload C dc_M_settle_40 rfl ?_
              refine r_istore_n C dc_M_settle_42 rfl (by decide) (nw_of rfl) ?_
              first | refine r_iincN C dc_M_settle_43 rfl (by decide) (nw_of rfl) ?_ | refine r_iinc C dc_M_settle_43 rfl rfl (by decide) (nw_of rfl) ?_
              refine r_goto (tgt := 8) C dc_M_settle_46 (by decide) ?_
              refine r_weak ?_ (ih)
              exact wl_c (rfl) (wl_c (rfl) (wl_c (rfl) (wl_c (by rw [e9]; rfl) (wl_c (rfl) (wl_c (rfl) (wl_n))))))
  refine r_iconst (v := -1) C dc_M_settle_0 (by decide) ?_
  refine r_istore_n C dc_M_settle_1 rfl (by decide) (nw_of rfl) ?_
  refine r_iconst (v := -1) C dc_M_settle_2 (by decide) ?_
  refine r_istore C dc_M_settle_3 (by decide) (nw_of rfl) ?_
  refine r_iconst (v := nI 0) C dc_M_settle_5 (by decide) ?_
  refine r_istore C dc_M_settle_6 (by decide) (nw_of rfl) ?_
  refine r_weak ?_ (lp1 0 (by omega))
  exact wl_c (rfl) (wl_c (rfl) (wl_c (rfl) (wl_c (rfl) (wl_c (rfl) (wl_c (rfl) (wl_n))))))
end Model15
