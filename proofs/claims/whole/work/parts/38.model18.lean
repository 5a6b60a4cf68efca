/-- the state behind findBuses, N passes -/
def mTx (ot : Nat → Option Nat) (x : Nat → Nat → Int32) (N : Nat) : Nat → Nat → Int32 := ur (th x 0) 18 (rN (itP ot N) (x 18))
theorem mBs_J {ot : Nat → Option Nat} {J : (Nat → Nat → Int32) → Prop} (hJ1 : ∀ y b, J y → b < 12 → y 18 b = nI b → TBok ot y b ∧ J (mTB ot y b)) {y : Nat → Nat → Int32} (hy : J y) : ∀ k, k ≤ 12 → J (mBs ot y k) := by
  intro k
  induction k with
  | zero => intro _; exact hy
  | succ k ih =>
    intro hk
    have h1 := ih (by omega)
    show J (if _ then _ else _)
    split
    · rename_i e
      exact (hJ1 _ k h1 (by omega) e).2
    · exact h1
theorem mTk_J {ot : Nat → Option Nat} {J : Nat → (Nat → Nat → Int32) → Prop} (hJ1 : ∀ t y b, t < 50 → J t y → b < 12 → y 18 b = nI b → TBok ot y b ∧ J t (mTB ot y b)) (hJ2 : ∀ t y, t < 50 → J t y → MV (ur y 36 (fun _ => y 36 0 + nI 1)) ∧ J (t + 1) (mLate (ur y 36 (fun _ => y 36 0 + nI 1)) 48)) {y : Nat → Nat → Int32} (hy : J 0 y) : ∀ k, k ≤ 50 → J k (mTk ot y k) := by
  intro k
  induction k with
  | zero => intro _; exact hy
  | succ k ih =>
    intro hk
    exact (hJ2 k _ (by omega) (mBs_J (fun y b => hJ1 k y b (by omega)) (ih (by omega)) 12 (Nat.le_refl _))).2
section Model18
variable {l : Launch} {D : va_G} {A : Nat → ClassId} {G : Heap} {h : Hp} {n mm df : Nat} {x : Nat → Nat → Int32}
set_option maxRecDepth 4000 in
set_option maxHeartbeats 1000000 in
theorem k_M_tick (hl : l.stackTraces = false) {v0 : Int32} {ot : Nat → Option Nat} {J : Nat → (Nat → Nat → Int32) → Prop} (hot : ∀ k, k < 36 → x 1 k = oi (ot k)) (ht36 : ∀ k t, k < 36 → ot k = some t → t < 36) (hJ0 : ∀ N, gP ot (itP ot N) 36 = itP ot N → J 0 (mTx ot x N)) (hJ1 : ∀ t y b, t < 50 → J t y → b < 12 → y 18 b = nI b → TBok ot y b ∧ J t (mTB ot y b)) (hJ2 : ∀ t y, t < 50 → J t y → MV (ur y 36 (fun _ => y 36 0 + nI 1)) ∧ J (t + 1) (mLate (ur y 36 (fun _ => y 36 0 + nI 1)) 48)) : Ct l D A G my_M_tick cd_M_tick 4 (some (.int)) (df + 5) 0 0 [.ref mm, .int v0] (MH A mm x h) n (fun v h' n' => (((v0 < nI 1 ∨ nI 50 < v0) ∧ v = some (.int (nI 0)) ∧ h' = MH A mm (th x 1) h) ∨ (¬ (v0 < nI 1 ∨ nI 50 < v0) ∧ ∃ N, gP ot (itP ot N) 36 = itP ot N ∧ v = some (.int (mTk ot (mTx ot x N) (cl v0) 36 0)) ∧ h' = MH A mm (mTk ot (mTx ot x N) (cl v0)) h)) ∧ n' = n) (fun _ _ _ => False) := by
  refine Ct.of (by decide) hl (Nat.le_of_ble_eq_true rfl) ?_
  intro p e s m args below meth c C hr hnm ht dp
  first | refine r_aload_n C dc_M_tick_0 rfl rfl ?_ | refine r_aload_nq C dc_M_tick_0 rfl rfl ?_
  refine r_iconst (v := nI 0) C dc_M_tick_1 (by decide) ?_
  refine r_put C dc_M_tick_2 fl_M_117 mh_0 rfl rfl (Nat.le_of_ble_eq_true rfl) ?_
  rw [mp_0]
  refine r_iload_n C dc_M_tick_5 rfl rfl ?_
  refine r_iconst (v := nI 1) C dc_M_tick_6 (by decide) ?_
  refine r_icmp_lt (tgt := 16) C dc_M_tick_7 (by decide) (fun c7 => ?_) (fun c7 => ?_)
  ·
    first | refine r_aload_n C dc_M_tick_16 rfl rfl ?_ | refine r_aload_nq C dc_M_tick_16 rfl rfl ?_
    refine r_iconst (v := nI 1) C dc_M_tick_17 (by decide) ?_
    refine r_callV C dp dc_M_tick_18 cw_M_124 cm_M_fail cv_M_fail rfl (mh_0) (k_M_fail (df := df) hl) (by omega) rfl rfl (Nat.le_of_ble_eq_true rfl) (fun v18 h18 n18 q18 z18 => ?_) (fun _ _ _ _ z => z.elim)
    obtain ⟨y18, y18h, y18n⟩ := z18
    rw [y18, y18h, y18n]
    exact r_iret C dp hr dc_M_tick_21 (Nat.le_refl _) ⟨Or.inl ⟨Or.inl c7, rfl, by rw [ur_ur]⟩, rfl⟩
  ·
    refine r_iload_n C dc_M_tick_10 rfl rfl ?_
    refine r_bipush (v := nI 50) C dc_M_tick_11 (by decide) ?_
    refine r_icmp_le (tgt := 22) C dc_M_tick_13 (by decide) (fun c13 => ?_) (fun c13 => ?_)
    ·
      obtain ⟨nn, hnn, rfl⟩ : ∃ nn, nn ≤ 50 ∧ v0 = nI nn := by
        rcases pk_ix v0 (n := 51) (by decide) with z | z | ⟨j, hj, z⟩
        · exact absurd (Int32.lt_trans z (by decide)) c7
        · exact absurd (Int32.le_trans z c13) (by decide)
        · exact ⟨j, by omega, z⟩
      have hbad : ¬ (nI nn < nI 1 ∨ nI 50 < nI nn) := fun z => z.elim c7 (fun z => absurd c13 (Int32.not_le.mpr z))
      first | refine r_aload_n C dc_M_tick_22 rfl rfl ?_ | refine r_aload_nq C dc_M_tick_22 rfl rfl ?_
      refine r_callV C dp dc_M_tick_23 cw_M_221 cm_M_findBuses cv_M_findBuses rfl mh_0 (k_M_findBuses (df := df) (ot := ot) (x := th x 0) hl hot ht36) (by omega) rfl rfl (Nat.le_of_ble_eq_true rfl) (fun v9 h9 n9 q9 z9 => ?_) (fun _ _ _ _ z => z.elim)
      obtain ⟨y1, ⟨N, hfx, y2⟩, y3⟩ := z9
      rw [y1, y2, y3]
      have hT := mTk_J hJ1 hJ2 (hJ0 N hfx)
      have lt : ∀ k, k ≤ nn → Rw p l e (cR (df + 5) 0 0) s m args below meth c (CQ D G n (fun v h' n' => ((((nI nn) < nI 1 ∨ nI 50 < (nI nn)) ∧ v = some (.int (nI 0)) ∧ h' = MH A mm (th x 1) h) ∨ (¬ ((nI nn) < nI 1 ∨ nI 50 < (nI nn)) ∧ ∃ N, gP ot (itP ot N) 36 = itP ot N ∧ v = some (.int (mTk ot (mTx ot x N) (cl (nI nn)) 36 0)) ∧ h' = MH A mm (mTk ot (mTx ot x N) (cl (nI nn))) h)) ∧ n' = n) (fun _ _ _ => False) below args s 0 0) D G 4 0 0 (MH A mm (mTk ot (mTx ot x N) k) h) n [(0, .ref mm), (1, .int (nI nn)), (2, .int (nI k))] 28 [] := by
        refine r_loop nn _ ?_ ?_
        ·
          refine r_iload_n C dc_M_tick_28 rfl rfl ?_
          refine r_iload_n C dc_M_tick_29 rfl rfl ?_
          refine r_icmp_geN (tgt := 82) C dc_M_tick_30 (by decide) (by omega) (by omega) (fun c30 => ?_) (fun c30 => ?_)
          ·
            first | refine r_aload_n C dc_M_tick_82 rfl rfl ?_ | refine r_aload_nq C dc_M_tick_82 rfl rfl ?_
            refine r_get C dc_M_tick_83 fl_M_136 mh_0 rfl ?_
            exact r_iret C dp hr dc_M_tick_86 (Nat.le_refl _) ⟨Or.inr ⟨hbad, N, hfx, by rw [cl_nI (by omega)], by rw [cl_nI (by omega)]⟩, rfl⟩
          · exact absurd c30 (by omega)
        ·
          intro k hk ih
          refine r_iload_n C dc_M_tick_28 rfl rfl ?_
          refine r_iload_n C dc_M_tick_29 rfl rfl ?_
          refine r_icmp_geN (tgt := 82) C dc_M_tick_30 (by decide) (by omega) (by omega) (fun c30 => ?_) (fun c30 => ?_)
          · exact absurd c30 (by omega)
          ·
            have hJt := hT k (by omega)
            have hKs : (mTk ot (mTx ot x N) (k + 1)) = mT1 ot (mTk ot (mTx ot x N) k) := rfl
            generalize hyy : (mTk ot (mTx ot x N) k) = y at hJt hKs ⊢
            have lb : ∀ b, b ≤ 12 → Rw p l e (cR (df + 5) 0 0) s m args below meth c (CQ D G n (fun v h' n' => ((((nI nn) < nI 1 ∨ nI 50 < (nI nn)) ∧ v = some (.int (nI 0)) ∧ h' = MH A mm (th x 1) h) ∨ (¬ ((nI nn) < nI 1 ∨ nI 50 < (nI nn)) ∧ ∃ N, gP ot (itP ot N) 36 = itP ot N ∧ v = some (.int (mTk ot (mTx ot x N) (cl (nI nn)) 36 0)) ∧ h' = MH A mm (mTk ot (mTx ot x N) (cl (nI nn))) h)) ∧ n' = n) (fun _ _ _ => False) below args s 0 0) D G 4 0 0 (MH A mm (mBs ot y b) h) n [(0, .ref mm), (1, .int (nI nn)), (2, .int (nI k)), (3, .int (nI b))] 35 [] := by
              refine r_loop 12 _ ?_ ?_
              ·
                refine r_iload_n C dc_M_tick_35 rfl rfl ?_
                refine r_bipush (v := nI 12) C dc_M_tick_36 (by decide) ?_
                refine r_icmp_geN (tgt := 62) C dc_M_tick_38 (by decide) (by omega) (by omega) (fun c38 => ?_) (fun c38 => ?_)
                ·
                  have hJ12 := mBs_J (fun y b => hJ1 k y b (by omega)) hJt 12 (Nat.le_refl _)
                  have hKz : (mTk ot (mTx ot x N) (k + 1)) = mLate (ur (mBs ot y 12) 36 (fun _ => mBs ot y 12 36 0 + nI 1)) 48 := hKs
                  generalize hyz : mBs ot y 12 = yz at hJ12 hKz ⊢
                  first | refine r_aload_n C dc_M_tick_62 rfl rfl ?_ | refine r_aload_nq C dc_M_tick_62 rfl rfl ?_
                  refine r_dup C dc_M_tick_63 rfl ?_
                  refine r_get C dc_M_tick_64 fl_M_136 mh_0 rfl ?_
                  refine r_iconst (v := nI 1) C dc_M_tick_67 (by decide) ?_
                  first | refine r_iaddN C dc_M_tick_68 ?_ | refine r_iadd C dc_M_tick_68 ?_
                  refine r_put C dc_M_tick_69 fl_M_136 mh_0 rfl rfl (Nat.le_of_ble_eq_true rfl) ?_
                  rw [mp_36]
                  first | refine r_aload_n C dc_M_tick_72 rfl rfl ?_ | refine r_aload_nq C dc_M_tick_72 rfl rfl ?_
                  refine r_callV C dp dc_M_tick_73 cw_M_227 cm_M_comeLate cv_M_comeLate rfl (mh_0) (k_M_comeLate (df := df) hl (hJ2 k _ (by omega) hJ12).1) (by omega) rfl rfl (Nat.le_of_ble_eq_true rfl) (fun v73 h73 n73 q73 z73 => ?_) (fun _ _ _ _ z => z.elim)
                  obtain ⟨y73, y73h, y73n⟩ := z73
                  rw [y73, y73h, y73n]
                  refine rw_h (y' := (mTk ot (mTx ot x N) (k + 1))) hKz.symm ?_
                  first | refine r_iincN C dc_M_tick_76 rfl (by decide) (nw_of rfl) ?_ | refine r_iinc C dc_M_tick_76 rfl rfl (by decide) (nw_of rfl) ?_
                  refine r_goto (tgt := 28) C dc_M_tick_79 (by decide) ?_
                  refine r_weak ?_ (ih)
                  exact wl_c (rfl) (wl_c (rfl) (wl_c (rfl) (wl_n)))
                · exact absurd c38 (by omega)
              ·
                intro b hb ihb
                refine r_iload_n C dc_M_tick_35 rfl rfl ?_
                refine r_bipush (v := nI 12) C dc_M_tick_36 (by decide) ?_
                refine r_icmp_geN (tgt := 62) C dc_M_tick_38 (by decide) (by omega) (by omega) (fun c38 => ?_) (fun c38 => ?_)
                · exact absurd c38 (by omega)
                ·
                  first | refine r_aload_n C dc_M_tick_41 rfl rfl ?_ | refine r_aload_nq C dc_M_tick_41 rfl rfl ?_
                  refine r_get C dc_M_tick_42 fl_M_62 mh_0 rfl ?_
                  refine r_iload_n C dc_M_tick_45 rfl rfl ?_
                  refine r_ialdN C dc_M_tick_46 mh_18 (by omega) (by decide) ?_
                  refine r_iload_n C dc_M_tick_47 rfl rfl ?_
                  refine r_icmp_ne (tgt := 56) C dc_M_tick_48 (by decide) (fun c48 => ?_) (fun c48 => ?_)
                  ·
                    refine rw_h (y' := mBs ot y (b + 1)) (show _ = (if _ then _ else _) from (if_neg c48).symm) ?_
                    first | refine r_iincN C dc_M_tick_56 rfl (by decide) (nw_of rfl) ?_ | refine r_iinc C dc_M_tick_56 rfl rfl (by decide) (nw_of rfl) ?_
                    refine r_goto (tgt := 35) C dc_M_tick_59 (by decide) ?_
                    refine r_weak ?_ (ihb)
                    exact wl_c (rfl) (wl_c (rfl) (wl_c (rfl) (wl_c (rfl) (wl_n))))
                  ·
                    first | refine r_aload_n C dc_M_tick_51 rfl rfl ?_ | refine r_aload_nq C dc_M_tick_51 rfl rfl ?_
                    refine r_iload_n C dc_M_tick_52 rfl rfl ?_
                    refine r_callV C dp dc_M_tick_53 cw_M_224 cm_M_tickBus cv_M_tickBus rfl (mh_0) (k_M_tickBus (df := df) (ot := ot) (x := mBs ot y b) hl hb ht36 (hJ1 k _ b (by omega) (mBs_J (fun y b => hJ1 k y b (by omega)) hJt b (by omega)) hb c48).1) (by omega) rfl rfl (Nat.le_of_ble_eq_true rfl) (fun v53 h53 n53 q53 z53 => ?_) (fun _ _ _ _ z => z.elim)
                    obtain ⟨y53, y53h, y53n⟩ := z53
                    rw [y53, y53h, y53n]
                    refine rw_h (y' := mBs ot y (b + 1)) (show _ = (if _ then _ else _) from (if_pos c48).symm) ?_
                    first | refine r_iincN C dc_M_tick_56 rfl (by decide) (nw_of rfl) ?_ | refine r_iinc C dc_M_tick_56 rfl rfl (by decide) (nw_of rfl) ?_
                    refine r_goto (tgt := 35) C dc_M_tick_59 (by decide) ?_
                    refine r_weak ?_ (ihb)
                    exact wl_c (rfl) (wl_c (rfl) (wl_c (rfl) (wl_c (rfl) (wl_n))))
            refine r_iconst (v := nI 0) C dc_M_tick_33 (by decide) ?_
            refine r_istore_n C dc_M_tick_34 rfl (by decide) (nw_of rfl) ?_
            refine r_weak ?_ (lb 0 (by omega))
            exact wl_c (rfl) (wl_c (rfl) (wl_c (rfl) (wl_c (rfl) (wl_n))))
      refine r_iconst (v := nI 0) C dc_M_tick_26 (by decide) ?_
      refine r_istore_n C dc_M_tick_27 rfl (by decide) (nw_of rfl) ?_
      refine r_weak ?_ (lt 0 (by omega))
      exact wl_c (rfl) (wl_c (rfl) (wl_c (rfl) (wl_n)))
    ·
      first | refine r_aload_n C dc_M_tick_16 rfl rfl ?_ | refine r_aload_nq C dc_M_tick_16 rfl rfl ?_
      refine r_iconst (v := nI 1) C dc_M_tick_17 (by decide) ?_
      refine r_callV C dp dc_M_tick_18 cw_M_124 cm_M_fail cv_M_fail rfl (mh_0) (k_M_fail (df := df) hl) (by omega) rfl rfl (Nat.le_of_ble_eq_true rfl) (fun v18 h18 n18 q18 z18 => ?_) (fun _ _ _ _ z => z.elim)
      obtain ⟨y18, y18h, y18n⟩ := z18
      rw [y18, y18h, y18n]
      exact r_iret C dp hr dc_M_tick_21 (Nat.le_refl _) ⟨Or.inl ⟨Or.inr (Int32.not_le.mp c13), rfl, by rw [ur_ur]⟩, rfl⟩
end Model18
