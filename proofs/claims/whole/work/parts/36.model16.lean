def mAny (x : Nat → Nat → Int32) (v : Int32) : Bool := anyT (fun k => decide (x 18 (k / 3) = v ∧ ¬ x 2 k = 0)) 36
/-- k rounds; how many are done, of at most d more after k -/
def mRs (ot : Nat → Option Nat) (v : Int32) (x : Nat → Nat → Int32) : Nat → (Nat → Nat → Int32)
  | 0 => x
  | k + 1 => mRound ot (mRs ot v x k) v (nI (k + 1))
def mRn (ot : Nat → Option Nat) (v : Int32) (x : Nat → Nat → Int32) : Nat → Nat → Nat
  | 0, k => k
  | d + 1, k => bif mAny (mRs ot v x k) v then mRn ot v x d (k + 1) else k
/-- the parents of the bus are a tree under the one without parent -/
def TrOK (ot : Nat → Option Nat) (y : Nat → Nat → Int32) (v : Int32) : Prop := ∃ (top : Nat) (pa : Nat → Option Nat) (rk : Nat → Nat), y 18 top = v ∧ mTop y v 12 = some top ∧ (∀ a, a < 12 → y 14 a = oi (pa a)) ∧ top < 12 ∧ pa top = none ∧ rk top < 12 ∧
    (∀ a b, a < 12 → y 18 a = v → pa a = some b → b < 12 ∧ ∃ p1, p1 < 3 ∧ ∃ t1, ot (3 * b + p1) = some t1 ∧ t1 / 3 = a) ∧
    (∀ c0 a, c0 < 12 → a < 12 → y 18 a = v → y 14 c0 = nI a → ∀ p t, p < 3 → ot (3 * a + p) = some t → t / 3 = c0 → y 18 c0 = v ∧ rk c0 < rk a ∧ pa c0 = some a ∧ ∀ p' t', p' < 3 → ot (3 * a + p') = some t' → t' / 3 = c0 → p' = p)
def mX1 (ot : Nat → Option Nat) (y : Nat → Nat → Int32) (top : Nat) : Nat → Nat → Int32 := ur y 15 (gN ot y 12 top (0, y 15)).2
def mEndR (ot : Nat → Option Nat) (v : Int32) (y : Nat → Nat → Int32) : Nat → Nat → Int32 := bif mAny y v then mLn y (cB y v 12) (-1) (-1) false else match mTop y v 12 with
  | none => y
  | some top => mLn (mX1 ot y top) (cB (mX1 ot y top) v 12) (nI top) (oi (mChief (mX1 ot y top) v 12)) true
def mX0 (ot : Nat → Option Nat) (v : Int32) (x : Nat → Nat → Int32) : Nat → Nat → Int32 := mCl ot (ur x 38 (fun _ => x 38 0 + nI 1)) (cB (ur x 38 (fun _ => x 38 0 + nI 1)) v 12)
def mLast (ot : Nat → Option Nat) (v : Int32) (x : Nat → Nat → Int32) : Nat → Nat → Int32 := mRs ot v (mX0 ot v x) (mRn ot v (mX0 ot v x) 24 0)
def mResetB (ot : Nat → Option Nat) (v : Int32) (x : Nat → Nat → Int32) : Nat → Nat → Int32 := mEndR ot v (mLast ot v x)
theorem mRs_1 {ot : Nat → Option Nat} {v : Int32} {x : Nat → Nat → Int32} : ∀ k, mRs ot v x k 1 = x 1 := by
  intro k
  induction k with
  | zero => rfl
  | succ k ih =>
    show mRd ot v (mAs (mRs ot v x k) v (nI (k + 1)) 12) 36 1 = x 1
    rw [mRd_1]
    exact ih
theorem mRs_s (ot : Nat → Option Nat) (v : Int32) (x : Nat → Nat → Int32) (k : Nat) : mRs ot v x (k + 1) = mRound ot (mRs ot v x k) v (nI (k + 1)) := rfl
theorem mRs_PV {ot : Nat → Option Nat} {v : Int32} {x : Nat → Nat → Int32} (q : PV x) : ∀ k, PV (mRs ot v x k) := by
  intro k
  induction k with
  | zero => exact q
  | succ k ih =>
    have h1 : PV (mAs (mRs ot v x k) v (nI (k + 1)) 12) := PV.ur (k := 19) ih (by decide)
    rw [mRs_s]
    unfold mRound
    generalize mAs (mRs ot v x k) v (nI (k + 1)) 12 = y at h1
    exact PV.rd h1 36
theorem mRn_0 {ot : Nat → Option Nat} {v : Int32} {x : Nat → Nat → Int32} {k : Nat} (hk : k < 24) (q : mAny (mRs ot v x k) v = false) : mRn ot v x (24 - k) k = k := by
  rw [show 24 - k = (24 - (k + 1)) + 1 by omega]
  show (bif _ then _ else k) = k
  rw [q]; rfl
theorem mRn_1 {ot : Nat → Option Nat} {v : Int32} {x : Nat → Nat → Int32} {k : Nat} (hk : k < 24) (q : mAny (mRs ot v x k) v = true) : mRn ot v x (24 - k) k = mRn ot v x (24 - (k + 1)) (k + 1) := by
  rw [show 24 - k = (24 - (k + 1)) + 1 by omega]
  show (bif _ then mRn ot v x (24 - (k + 1)) (k + 1) else k) = _
  rw [q]; rfl
section Model16
variable {l : Launch} {D : va_G} {A : Nat → ClassId} {G : Heap} {h : Hp} {n mm df : Nat} {x : Nat → Nat → Int32}
set_option maxRecDepth 4000 in
set_option maxHeartbeats 1000000 in
theorem k_M_resetBus (hl : l.stackTraces = false) {v0 : Int32} {ot : Nat → Option Nat} (hot : ∀ k, k < 36 → x 1 k = oi (ot k)) (ht36 : ∀ k t, k < 36 → ot k = some t → t < 36) (hpv : PV x) (htr : mAny (mLast ot v0 x) v0 = false → TrOK ot (mLast ot v0 x) v0) : Ct l D A G my_M_resetBus cd_M_resetBus 3 none (df + 3) 0 0 [.ref mm, .int v0] (MH A mm x h) n (fun v h' n' => v = none ∧ h' = MH A mm (mResetB ot v0 x) h ∧ n' = n) (fun _ _ _ => False) := by
  refine Ct.of (by decide) hl (Nat.le_of_ble_eq_true rfl) ?_
  intro p e s m args below meth c C hr hnm ht dp
  have h1 : ∀ k j, j < 36 → (mRs ot v0 (mX0 ot v0 x) k) 1 j = oi (ot j) := fun k j hj => (congrFun (mRs_1 k) j).trans (hot j hj)
  have hp : ∀ k, PV (mRs ot v0 (mX0 ot v0 x) k) := mRs_PV (x := (mX0 ot v0 x)) (show PV (mX0 ot v0 x) from hpv)
  have ex : ∀ k, mRn ot v0 (mX0 ot v0 x) 24 0 = k → Rw p l e (cR (df + 3) 0 0) s m args below meth c (CQ D G n (fun v h' n' => v = none ∧ h' = MH A mm (mResetB ot v0 x) h ∧ n' = n) (fun _ _ _ => False) below args s 0 0) D G 3 0 0 (MH A mm (mRs ot v0 (mX0 ot v0 x) k) h) n [(0, .ref mm), (1, .int v0), (2, .int (nI (k + 1)))] 43 [] := by
    intro k hk
    have hlast : mLast ot v0 x = (mRs ot v0 (mX0 ot v0 x) k) := by
      unfold mLast
      rw [hk]
    rw [hlast] at htr
    have hfin : mResetB ot v0 x = mEndR ot v0 (mRs ot v0 (mX0 ot v0 x) k) := by
      unfold mResetB
      rw [hlast]
    first | refine r_aload_n C dc_M_resetBus_43 rfl rfl ?_ | refine r_aload_nq C dc_M_resetBus_43 rfl rfl ?_
    refine r_iload_n C dc_M_resetBus_44 rfl rfl ?_
    first | refine r_aload_n C dc_M_resetBus_45 rfl rfl ?_ | refine r_aload_nq C dc_M_resetBus_45 rfl rfl ?_
    refine r_iload_n C dc_M_resetBus_46 rfl rfl ?_
    refine r_callV C dp dc_M_resetBus_47 cw_M_180 cm_M_anyOpen cv_M_anyOpen rfl (mh_0) (k_M_anyOpen (df := df) hl) (by omega) rfl rfl (Nat.le_of_ble_eq_true rfl) (fun v47 h47 n47 q47 z47 => ?_) (fun _ _ _ _ z => z.elim)
    obtain ⟨y47, y47h, y47n⟩ := z47
    rw [y47, y47h, y47n]
    have hA : anyT (fun k_1 => decide ((mRs ot v0 (mX0 ot v0 x) k) 18 (k_1 / 3) = v0 ∧ ¬ (mRs ot v0 (mX0 ot v0 x) k) 2 k_1 = 0)) 36 = mAny (mRs ot v0 (mX0 ot v0 x) k) v0 := rfl
    rw [hA]
    refine r_if_neZ (tgt := 57) C dc_M_resetBus_50 (by decide) (fun c50 => ?_) (fun c50 => ?_)
    ·
      refine r_iconst (v := nI 0) C dc_M_resetBus_57 (by decide) ?_
      refine r_callV C dp dc_M_resetBus_58 cw_M_187 cm_M_settle cv_M_settle rfl (mh_0) (k_M_settleF (df := df) hl) (by omega) rfl rfl (Nat.le_of_ble_eq_true rfl) (fun v58 h58 n58 q58 z58 => ?_) (fun _ _ _ _ z => z.elim)
      obtain ⟨y58, y58h, y58n⟩ := z58
      rw [y58, y58h, y58n]
      exact r_vret C dp hr dc_M_resetBus_61 (Nat.le_refl _) ⟨rfl, by rw [hfin]; unfold mEndR; rw [c50]; rfl, rfl⟩
    ·
      obtain ⟨top, pa, rk, t0, t1, t2, t3, t4, t5, t6, t7⟩ := htr c50
      refine r_iconst (v := nI 1) C dc_M_resetBus_53 (by decide) ?_
      refine r_goto (tgt := 58) C dc_M_resetBus_54 (by decide) ?_
      refine r_callV C dp dc_M_resetBus_58 cw_M_187 cm_M_settle cv_M_settle rfl (mh_0) (k_M_settleT (df := df) (ot := ot) (pa := pa) (rk := rk) (d0 := 12) (B := fun a => (mRs ot v0 (mX0 ot v0 x) k) 18 a = v0) hl t0 t1 (h1 k) ht36 t2 t3 t4 t5 t6 t7) (by omega) rfl rfl (Nat.le_of_ble_eq_true rfl) (fun v58 h58 n58 q58 z58 => ?_) (fun _ _ _ _ z => z.elim)
      obtain ⟨y58, y58h, y58n⟩ := z58
      rw [y58, y58h, y58n]
      exact r_vret C dp hr dc_M_resetBus_61 (Nat.le_refl _) ⟨rfl, by rw [hfin]; unfold mEndR; rw [c50, t1]; rfl, rfl⟩
  have loop : ∀ k, k ≤ 24 → mRn ot v0 (mX0 ot v0 x) 24 0 = mRn ot v0 (mX0 ot v0 x) (24 - k) k → Rw p l e (cR (df + 3) 0 0) s m args below meth c (CQ D G n (fun v h' n' => v = none ∧ h' = MH A mm (mResetB ot v0 x) h ∧ n' = n) (fun _ _ _ => False) below args s 0 0) D G 3 0 0 (MH A mm (mRs ot v0 (mX0 ot v0 x) k) h) n [(0, .ref mm), (1, .int v0), (2, .int (nI (k + 1)))] 17 [] := by
    refine r_loop 24 _ ?_ ?_
    ·
      intro hpre
      refine r_iload_n C dc_M_resetBus_17 rfl rfl ?_
      refine r_bipush (v := nI 24) C dc_M_resetBus_18 (by decide) ?_
      refine r_icmp_gtN (tgt := 43) C dc_M_resetBus_20 (by decide) (by omega) (by omega) (fun c20 => ?_) (fun c20 => ?_)
      · exact ex 24 (by rw [hpre]; rfl)
      · exact absurd c20 (by omega)
    ·
      intro k hk ih hpre
      refine r_iload_n C dc_M_resetBus_17 rfl rfl ?_
      refine r_bipush (v := nI 24) C dc_M_resetBus_18 (by decide) ?_
      refine r_icmp_gtN (tgt := 43) C dc_M_resetBus_20 (by decide) (by omega) (by omega) (fun c20 => ?_) (fun c20 => ?_)
      · exact absurd c20 (by omega)
      ·
        first | refine r_aload_n C dc_M_resetBus_23 rfl rfl ?_ | refine r_aload_nq C dc_M_resetBus_23 rfl rfl ?_
        refine r_iload_n C dc_M_resetBus_24 rfl rfl ?_
        refine r_callV C dp dc_M_resetBus_25 cw_M_180 cm_M_anyOpen cv_M_anyOpen rfl (mh_0) (k_M_anyOpen (df := df) hl) (by omega) rfl rfl (Nat.le_of_ble_eq_true rfl) (fun v25 h25 n25 q25 z25 => ?_) (fun _ _ _ _ z => z.elim)
        obtain ⟨y25, y25h, y25n⟩ := z25
        rw [y25, y25h, y25n]
        have hA : anyT (fun k_1 => decide ((mRs ot v0 (mX0 ot v0 x) k) 18 (k_1 / 3) = v0 ∧ ¬ (mRs ot v0 (mX0 ot v0 x) k) 2 k_1 = 0)) 36 = mAny (mRs ot v0 (mX0 ot v0 x) k) v0 := rfl
        rw [hA]
        refine r_if_eqZ (tgt := 43) C dc_M_resetBus_28 (by decide) (fun c28 => ?_) (fun c28 => ?_)
        · exact ex k (hpre.trans (mRn_0 hk c28))
        ·
          first | refine r_aload_n C dc_M_resetBus_31 rfl rfl ?_ | refine r_aload_nq C dc_M_resetBus_31 rfl rfl ?_
          refine r_iload_n C dc_M_resetBus_32 rfl rfl ?_
          refine r_iload_n C dc_M_resetBus_33 rfl rfl ?_
          refine r_callV C dp dc_M_resetBus_34 cw_M_184 cm_M_round cv_M_round rfl (mh_0) (k_M_round (df := df) (ot := ot) hl (h1 k) ht36 (hp k)) (by omega) rfl rfl (Nat.le_of_ble_eq_true rfl) (fun v34 h34 n34 q34 z34 => ?_) (fun _ _ _ _ z => z.elim)
          obtain ⟨y34, y34h, y34n⟩ := z34
          rw [y34, y34h, y34n]
          first | refine r_iincN C dc_M_resetBus_37 rfl (by decide) (nw_of rfl) ?_ | refine r_iinc C dc_M_resetBus_37 rfl rfl (by decide) (nw_of rfl) ?_
          refine r_goto (tgt := 17) C dc_M_resetBus_40 (by decide) ?_
          refine r_weak ?_ (ih (hpre.trans (mRn_1 hk c28)))
          exact wl_c (rfl) (wl_c (rfl) (wl_c (rfl) (wl_n)))
  first | refine r_aload_n C dc_M_resetBus_0 rfl rfl ?_ | refine r_aload_nq C dc_M_resetBus_0 rfl rfl ?_
  refine r_dup C dc_M_resetBus_1 rfl ?_
  refine r_get C dc_M_resetBus_2 fl_M_174 mh_0 rfl ?_
  refine r_iconst (v := nI 1) C dc_M_resetBus_5 (by decide) ?_
  first | refine r_iaddN C dc_M_resetBus_6 ?_ | refine r_iadd C dc_M_resetBus_6 ?_
  refine r_put C dc_M_resetBus_7 fl_M_174 mh_0 rfl rfl (Nat.le_of_ble_eq_true rfl) ?_
  rw [mp_38]
  first | refine r_aload_n C dc_M_resetBus_10 rfl rfl ?_ | refine r_aload_nq C dc_M_resetBus_10 rfl rfl ?_
  refine r_iload_n C dc_M_resetBus_11 rfl rfl ?_
  refine r_callV C dp dc_M_resetBus_12 cw_M_177 cm_M_clean cv_M_clean rfl (mh_0) (k_M_clean (df := df) (ot := ot) hl (by exact hot) ht36) (by omega) rfl rfl (Nat.le_of_ble_eq_true rfl) (fun v12 h12 n12 q12 z12 => ?_) (fun _ _ _ _ z => z.elim)
  obtain ⟨y12, y12h, y12n⟩ := z12
  rw [y12, y12h, y12n]
  refine r_iconst (v := nI 1) C dc_M_resetBus_15 (by decide) ?_
  refine r_istore_n C dc_M_resetBus_16 rfl (by decide) (nw_of rfl) ?_
  refine r_weak ?_ (loop 0 (by omega) rfl)
  exact wl_c (rfl) (wl_c (rfl) (wl_c (rfl) (wl_n)))
end Model16
