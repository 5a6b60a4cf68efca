theorem shR_of {f : Nat → Int32} {i k j : Nat} : shR f i k j = f j ∨ (j < k ∧ shR f i k j = f (j + 1)) := by
  unfold shR
  by_cases e : i ≤ j ∧ j < k
  · rw [if_pos e]; exact Or.inr ⟨e.2, rfl⟩
  · rw [if_neg e]; exact Or.inl rfl
theorem MV.take {x : Nat → Nat → Int32} (v : MV x) {a pl q : Nat} (ha : a < 12) (hq6 : q ≤ 6) : MV (mTake x a pl q) := by
  obtain ⟨h1, h2, h3, h4, h5⟩ := v
  refine ⟨?_, ?_, ?_, ?_, ?_⟩
  · intro b hb
    rw [mTake_35]
    by_cases e : b = a
    · exact ⟨q - 1, by omega, if_pos e⟩
    · obtain ⟨k, k6, ek⟩ := h1 b hb
      exact ⟨k, k6, (if_neg e).trans ek⟩
  · intro k hk
    show shR (x 34) (6 * a + pl) (6 * a + (q - 1)) k = 0 ∨ shR (x 34) (6 * a + pl) (6 * a + (q - 1)) k = 1
    rcases shR_of (f := x 34) (i := 6 * a + pl) (k := 6 * a + (q - 1)) (j := k) with e | ⟨e0, e⟩
    · rw [e]; exact h2 k hk
    · rw [e]; exact h2 (k + 1) (by omega)
  · intro k hk
    show ∃ j, j < 48 ∧ shR (x 30) (6 * a + pl) (6 * a + (q - 1)) k = nI j
    rcases shR_of (f := x 30) (i := 6 * a + pl) (k := 6 * a + (q - 1)) (j := k) with e | ⟨e0, e⟩
    · rw [e]; exact h3 k hk
    · rw [e]; exact h3 (k + 1) (by omega)
  · rw [mTake_ne (by omega)]; exact h4
  · rw [mTake_ne (by omega)]; exact h5
def prd (k : Nat) : Option Nat := match k with
  | 0 => none
  | k + 1 => some k
theorem prd_dec (k : Nat) : nI k + Int32.ofInt (-1) = oi (prd k) := by
  cases k with
  | zero => rfl
  | succ k => exact pk_m1 k
theorem prd_sub (k : Nat) : nI k - nI 1 = oi (prd k) := by
  cases k with
  | zero => rfl
  | succ k => rw [pk_sub (by omega)]; rfl
/-- of the first k packets of node a, from the last on, those that are no answer and of serial s go -/
def mDr (a : Nat) (s : Int32) : Nat → (Nat → Nat → Int32) → (Nat → Nat → Int32)
  | 0, x => x
  | k + 1, x => mDr a s k (if x 34 (6 * a + k) = 0 ∧ x 31 (6 * a + k) = s then mTake x a k (cl (x 35 a)) else x)
theorem mDr_ne {a : Nat} {s : Int32} {i : Nat} (z : ¬ (30 ≤ i ∧ i ≤ 35)) : ∀ k x, mDr a s k x i = x i := by
  intro k
  induction k with
  | zero => intro x; rfl
  | succ k ih =>
    intro x
    show mDr a s k _ i = x i
    rw [ih]
    split
    · exact mTake_ne z
    · rfl
theorem mDr_MV {a : Nat} {s : Int32} (ha : a < 12) : ∀ k x, MV x → MV (mDr a s k x) := by
  intro k
  induction k with
  | zero => intro x v; exact v
  | succ k ih =>
    intro x v
    refine ih _ ?_
    split
    · obtain ⟨q, q6, eq⟩ := v.1 a ha
      rw [eq, cl_nI (by omega)]
      exact v.take ha q6
    · exact v
def mLate (x : Nat → Nat → Int32) : Nat → (Nat → Nat → Int32)
  | 0 => x
  | j + 1 => if mLate x j 20 j = -1 ∧ mLate x j 27 j = mLate x j 36 0 then mDr (j / 4) (mLate x j 28 j) (cl (mLate x j 35 (j / 4))) (ur (mLate x j) 20 (upd (mLate x j 20) j (nI 4))) else mLate x j
theorem mLate_MV {x : Nat → Nat → Int32} (v : MV x) : ∀ j, j ≤ 48 → MV (mLate x j) := by
  intro j
  induction j with
  | zero => intro _; exact v
  | succ j ih =>
    intro hj
    have h1 := ih (by omega)
    show MV (if _ then _ else _)
    split
    · exact mDr_MV (by omega) _ _ (h1.ur (by decide))
    · exact h1
section Model11
variable {l : Launch} {D : va_G} {A : Nat → ClassId} {G : Heap} {h : Hp} {n mm df : Nat} {x : Nat → Nat → Int32}
set_option maxRecDepth 4000 in
set_option maxHeartbeats 1000000 in
theorem k_M_comeLate (hl : l.stackTraces = false) (hv0 : MV x) : Ct l D A G my_M_comeLate cd_M_comeLate 4 none (df + 1) 0 0 [.ref mm] (MH A mm x h) n (fun v h' n' => v = none ∧ h' = MH A mm (mLate x 48) h ∧ n' = n) (fun _ _ _ => False) := by
  refine Ct.of (by decide) hl (Nat.le_of_ble_eq_true rfl) ?_
  intro p e s m args below meth c C hr hnm ht dp
  have loop : ∀ k, k ≤ 48 → Rw p l e (cR (df + 1) 0 0) s m args below meth c (CQ D G n (fun v h' n' => v = none ∧ h' = MH A mm (mLate x 48) h ∧ n' = n) (fun _ _ _ => False) below args s 0 0) D G 4 0 0 (MH A mm (mLate x k) h) n [(0, .ref mm), (1, .int (nI k))] 2 [] := by
    refine r_loop 48 _ ?_ ?_
    ·
      refine r_iload_n C dc_M_comeLate_2 rfl rfl ?_
      refine r_bipush (v := nI 48) C dc_M_comeLate_3 (by decide) ?_
      refine r_icmp_geN (tgt := 110) C dc_M_comeLate_5 (by decide) (by omega) (by omega) (fun c5 => ?_) (fun c5 => ?_)
      ·
        exact r_vret C dp hr dc_M_comeLate_110 (Nat.le_refl _) ⟨rfl, rfl, rfl⟩
      · exact absurd c5 (by omega)
    ·
      intro k hk ih
      refine r_iload_n C dc_M_comeLate_2 rfl rfl ?_
      refine r_bipush (v := nI 48) C dc_M_comeLate_3 (by decide) ?_
      refine r_icmp_geN (tgt := 110) C dc_M_comeLate_5 (by decide) (by omega) (by omega) (fun c5 => ?_) (fun c5 => ?_)
      · exact absurd c5 (by omega)
      ·
        first | refine r_aload_n C dc_M_comeLate_8 rfl rfl ?_ | refine r_aload_nq C dc_M_comeLate_8 rfl rfl ?_
        refine r_get C dc_M_comeLate_9 fl_M_68 mh_0 rfl ?_
        refine r_iload_n C dc_M_comeLate_12 rfl rfl ?_
        refine r_ialdN C dc_M_comeLate_13 mh_20 (by omega) (by decide) ?_
        refine r_iconst (v := -1) C dc_M_comeLate_14 (by decide) ?_
        refine r_icmp_ne (tgt := 104) C dc_M_comeLate_15 (by decide) (fun c15 => ?_) (fun c15 => ?_)
        ·
          have e9 : mLate x (k + 1) = mLate x k := if_neg (fun z => c15 z.1)
          refine rw_h (y' := mLate x (k + 1)) e9.symm ?_
          first | refine r_iincN C dc_M_comeLate_104 rfl (by decide) (nw_of rfl) ?_ | refine r_iinc C dc_M_comeLate_104 rfl rfl (by decide) (nw_of rfl) ?_
          refine r_goto (tgt := 2) C dc_M_comeLate_107 (by decide) ?_
          refine r_weak ?_ (ih)
          exact wl_c (rfl) (wl_c (rfl) (wl_n))
        ·
          first | refine r_aload_n C dc_M_comeLate_18 rfl rfl ?_ | refine r_aload_nq C dc_M_comeLate_18 rfl rfl ?_
          refine r_get C dc_M_comeLate_19 fl_M_89 mh_0 rfl ?_
          refine r_iload_n C dc_M_comeLate_22 rfl rfl ?_
          refine r_ialdN C dc_M_comeLate_23 mh_27 (by omega) (by decide) ?_
          first | refine r_aload_n C dc_M_comeLate_24 rfl rfl ?_ | refine r_aload_nq C dc_M_comeLate_24 rfl rfl ?_
          refine r_get C dc_M_comeLate_25 fl_M_136 mh_0 rfl ?_
          refine r_icmp_eq (tgt := 34) C dc_M_comeLate_28 (by decide) (fun c28 => ?_) (fun c28 => ?_)
          ·
            have e9 : mLate x (k + 1) = mDr (k / 4) (mLate x k 28 k) (cl (mLate x k 35 (k / 4))) (ur (mLate x k) 20 (upd (mLate x k 20) k (nI 4))) := if_pos ⟨c15, c28⟩
            have hv := mLate_MV hv0 k (by omega)
            obtain ⟨qq, qq6, eqq⟩ := hv.1 (k / 4) (by omega)
            rw [eqq, cl_nI (by omega)] at e9
            have inn : ∀ t y qy, MV y → y 35 (k / 4) = nI qy → qy ≤ 6 → t ≤ qy → y 28 = mLate x k 28 → mDr (k / 4) (mLate x k 28 k) t y = mLate x (k + 1) → Rw p l e (cR (df + 1) 0 0) s m args below meth c (CQ D G n (fun v h' n' => v = none ∧ h' = MH A mm (mLate x 48) h ∧ n' = n) (fun _ _ _ => False) below args s 0 0) D G 4 0 0 (MH A mm y h) n [(0, .ref mm), (1, .int (nI k)), (2, .int (nI (k / 4))), (3, .int (oi (prd t)))] 54 [] := by
              intro t
              induction t with
              | zero =>
                intro y qy hvy eqy qy6 htq y28 hdr
                refine r_iload_n C dc_M_comeLate_54 rfl rfl ?_
                refine r_if_lt (tgt := 104) C dc_M_comeLate_55 (by decide) (fun c55 => ?_) (fun c55 => ?_)
                ·
                  refine rw_h (y' := mLate x (k + 1)) hdr ?_
                  first | refine r_iincN C dc_M_comeLate_104 rfl (by decide) (nw_of rfl) ?_ | refine r_iinc C dc_M_comeLate_104 rfl rfl (by decide) (nw_of rfl) ?_
                  refine r_goto (tgt := 2) C dc_M_comeLate_107 (by decide) ?_
                  refine r_weak ?_ (ih)
                  exact wl_c (rfl) (wl_c (rfl) (wl_n))
                · exact absurd m1_lt0 c55
              | succ t iht =>
                intro y qy hvy eqy qy6 htq y28 hdr
                refine r_weak (lo' := [(0, .ref mm), (1, .int (nI k)), (2, .int (nI (k / 4))), (3, .int (nI t))]) (wl_c (rfl) (wl_c (rfl) (wl_c (rfl) (wl_c (rfl) (wl_n))))) ?_
                refine r_iload_n C dc_M_comeLate_54 rfl rfl ?_
                refine r_if_lt (tgt := 104) C dc_M_comeLate_55 (by decide) (fun c55 => ?_) (fun c55 => ?_)
                · exact absurd c55 (nI_lt0 (by omega))
                ·
                  first | refine r_aload_n C dc_M_comeLate_58 rfl rfl ?_ | refine r_aload_nq C dc_M_comeLate_58 rfl rfl ?_
                  refine r_get C dc_M_comeLate_59 fl_M_107 mh_0 rfl ?_
                  refine r_bipush (v := nI 6) C dc_M_comeLate_62 (by decide) ?_
                  refine r_iload_n C dc_M_comeLate_64 rfl rfl ?_
                  first | refine r_imulN C dc_M_comeLate_65 ?_ | refine r_imul C dc_M_comeLate_65 ?_
                  refine r_iload_n C dc_M_comeLate_66 rfl rfl ?_
                  first | refine r_iaddN C dc_M_comeLate_67 ?_ | refine r_iadd C dc_M_comeLate_67 ?_
                  refine r_zaldN C dc_M_comeLate_68 mh_34 (by omega) (by decide) ?_
                  refine r_if_ne (tgt := 98) C dc_M_comeLate_69 (by decide) (fun c69 => ?_) (fun c69 => ?_)
                  ·
                    have h9 : mDr (k / 4) (mLate x k 28 k) (t + 1) y = mDr (k / 4) (mLate x k 28 k) t y := by
                      show mDr _ _ t (if _ then _ else _) = _
                      rw [if_neg (fun z => c69 z.1)]
                    refine r_iinc C dc_M_comeLate_98 rfl (prd_dec t) (by decide) (nw_of rfl) ?_
                    refine r_goto (tgt := 54) C dc_M_comeLate_101 (by decide) ?_
                    refine r_weak ?_ (iht y qy hvy eqy (by omega) (by omega) y28 (h9.symm.trans hdr))
                    exact wl_c (rfl) (wl_c (rfl) (wl_c (rfl) (wl_c (rfl) (wl_n))))
                  ·
                    first | refine r_aload_n C dc_M_comeLate_72 rfl rfl ?_ | refine r_aload_nq C dc_M_comeLate_72 rfl rfl ?_
                    refine r_get C dc_M_comeLate_73 fl_M_98 mh_0 rfl ?_
                    refine r_bipush (v := nI 6) C dc_M_comeLate_76 (by decide) ?_
                    refine r_iload_n C dc_M_comeLate_78 rfl rfl ?_
                    first | refine r_imulN C dc_M_comeLate_79 ?_ | refine r_imul C dc_M_comeLate_79 ?_
                    refine r_iload_n C dc_M_comeLate_80 rfl rfl ?_
                    first | refine r_iaddN C dc_M_comeLate_81 ?_ | refine r_iadd C dc_M_comeLate_81 ?_
                    refine r_ialdN C dc_M_comeLate_82 mh_31 (by omega) (by decide) ?_
                    first | refine r_aload_n C dc_M_comeLate_83 rfl rfl ?_ | refine r_aload_nq C dc_M_comeLate_83 rfl rfl ?_
                    refine r_get C dc_M_comeLate_84 fl_M_92 mh_0 rfl ?_
                    refine r_iload_n C dc_M_comeLate_87 rfl rfl ?_
                    refine r_ialdN C dc_M_comeLate_88 mh_28 (by omega) (by decide) ?_
                    refine r_icmp_ne (tgt := 98) C dc_M_comeLate_89 (by decide) (fun c89 => ?_) (fun c89 => ?_)
                    ·
                      have h9 : mDr (k / 4) (mLate x k 28 k) (t + 1) y = mDr (k / 4) (mLate x k 28 k) t y := by
                        show mDr _ _ t (if _ then _ else _) = _
                        rw [if_neg (fun z => c89 (z.2.trans (congrFun y28 k).symm))]
                      refine r_iinc C dc_M_comeLate_98 rfl (prd_dec t) (by decide) (nw_of rfl) ?_
                      refine r_goto (tgt := 54) C dc_M_comeLate_101 (by decide) ?_
                      refine r_weak ?_ (iht y qy hvy eqy (by omega) (by omega) y28 (h9.symm.trans hdr))
                      exact wl_c (rfl) (wl_c (rfl) (wl_c (rfl) (wl_c (rfl) (wl_n))))
                    ·
                      have h9 : mDr (k / 4) (mLate x k 28 k) (t + 1) y = mDr (k / 4) (mLate x k 28 k) t (mTake y (k / 4) t qy) := by
                        show mDr _ _ t (if _ then _ else _) = _
                        rw [if_pos ⟨c69, c89.trans (congrFun y28 k)⟩, eqy, cl_nI (by omega)]
                      first | refine r_aload_n C dc_M_comeLate_92 rfl rfl ?_ | refine r_aload_nq C dc_M_comeLate_92 rfl rfl ?_
                      refine r_iload_n C dc_M_comeLate_93 rfl rfl ?_
                      refine r_iload_n C dc_M_comeLate_94 rfl rfl ?_
                      refine r_callV C dp dc_M_comeLate_95 cw_M_146 cm_M_take cv_M_take rfl (mh_0) (k_M_take hl (by omega) eqy qy6 (by omega) hvy.2.1) (Nat.lt_succ_self _) rfl rfl (Nat.le_of_ble_eq_true rfl) (fun v95 h95 n95 q95 z95 => ?_) (fun _ _ _ _ z => z.elim)
                      obtain ⟨y95, y95h, y95n⟩ := z95
                      rw [y95, y95h, y95n]
                      refine r_iinc C dc_M_comeLate_98 rfl (prd_dec t) (by decide) (nw_of rfl) ?_
                      refine r_goto (tgt := 54) C dc_M_comeLate_101 (by decide) ?_
                      refine r_weak ?_ (iht (mTake y (k / 4) t qy) (qy - 1) (hvy.take (by omega) qy6) (if_pos rfl) (by omega) (by omega) ((mTake_ne (by omega)).trans y28) (h9.symm.trans hdr))
                      exact wl_c (rfl) (wl_c (rfl) (wl_c (rfl) (wl_c (rfl) (wl_n))))
            first | refine r_aload_n C dc_M_comeLate_34 rfl rfl ?_ | refine r_aload_nq C dc_M_comeLate_34 rfl rfl ?_
            refine r_get C dc_M_comeLate_35 fl_M_68 mh_0 rfl ?_
            refine r_iload_n C dc_M_comeLate_38 rfl rfl ?_
            refine r_iconst (v := nI 4) C dc_M_comeLate_39 (by decide) ?_
            refine r_iast C dc_M_comeLate_40 mh_20 rfl (by omega) (by decide) ?_
            rw [ms_20]
            refine r_iload_n C dc_M_comeLate_41 rfl rfl ?_
            refine r_iconst (v := nI 4) C dc_M_comeLate_42 (by decide) ?_
            first | refine r_idivN C dc_M_comeLate_43 (by omega) (by decide) (by decide) ?_ | refine r_idiv C dc_M_comeLate_43 (by decide) ?_
            refine r_istore_n C dc_M_comeLate_44 rfl (by decide) (nw_of rfl) ?_
            first | refine r_aload_n C dc_M_comeLate_45 rfl rfl ?_ | refine r_aload_nq C dc_M_comeLate_45 rfl rfl ?_
            refine r_get C dc_M_comeLate_46 fl_M_110 mh_0 rfl ?_
            refine r_iload_n C dc_M_comeLate_49 rfl rfl ?_
            refine r_ialdN C dc_M_comeLate_50 mh_35 (by omega) (by decide) ?_
            refine sb_at (P := fun v => Rw _ _ _ _ _ _ _ _ _ _ _ _ _ _ _ _ _ _ _ _ (.int v :: _)) (show _ = nI qq from eqq) ?_
            refine r_iconst (v := nI 1) C dc_M_comeLate_51 (by decide) ?_
            refine r_isub C dc_M_comeLate_52 ?_
            refine sb_at (P := fun v => Rw _ _ _ _ _ _ _ _ _ _ _ _ _ _ _ _ _ _ _ _ (.int v :: _)) (prd_sub qq) ?_
            refine r_istore_n C dc_M_comeLate_53 rfl (by decide) (nw_of rfl) ?_
            refine r_weak ?_ (inn qq _ qq (hv.ur (by decide)) eqq qq6 (Nat.le_refl _) rfl e9.symm)
            exact wl_c (rfl) (wl_c (rfl) (wl_c (rfl) (wl_c (rfl) (wl_n))))
          ·
            have e9 : mLate x (k + 1) = mLate x k := if_neg (fun z => c28 z.2)
            refine rw_h (y' := mLate x (k + 1)) e9.symm ?_
            refine r_goto (tgt := 104) C dc_M_comeLate_31 (by decide) ?_
            first | refine r_iincN C dc_M_comeLate_104 rfl (by decide) (nw_of rfl) ?_ | refine r_iinc C dc_M_comeLate_104 rfl rfl (by decide) (nw_of rfl) ?_
            refine r_goto (tgt := 2) C dc_M_comeLate_107 (by decide) ?_
            refine r_weak ?_ (ih)
            exact wl_c (rfl) (wl_c (rfl) (wl_n))
  refine r_iconst (v := nI 0) C dc_M_comeLate_0 (by decide) ?_
  refine r_istore_n C dc_M_comeLate_1 rfl (by decide) (nw_of rfl) ?_
  refine r_weak ?_ (loop 0 (by omega))
  exact wl_c (rfl) (wl_c (rfl) (wl_n))
end Model11
