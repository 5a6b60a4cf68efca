def mDirty (x : Nat → Nat → Int32) (v : Int32) : Bool := anyT (fun k => decide (x 18 k = v ∧ ¬ x 11 k = 0)) 12
/-- one tick of the bus of node b0 -/
def mTB (ot : Nat → Option Nat) (x : Nat → Nat → Int32) (b0 : Nat) : Nat → Nat → Int32 := bif mDirty x (nI b0) then mResetB ot (nI b0) x
  else if x 12 b0 = 0 then
    if nI (cl (x 36 0) % 8) = 0 then if x 17 b0 < 0 then mSlot x (nI b0) else mCycle x (nI b0) (cl (x 17 b0))
    else mSlot x (nI b0)
  else x
/-- what a tick of the bus of b0 wants of the state -/
def TBok (ot : Nat → Option Nat) (x : Nat → Nat → Int32) (b0 : Nat) : Prop := (∀ k, k < 36 → x 1 k = oi (ot k)) ∧ PV x ∧ MV x ∧ (∃ ck, ck < 2 ^ 31 ∧ x 36 0 = nI ck) ∧ (∃ mg : Option Nat, x 17 b0 = oi mg ∧ ∀ k, mg = some k → k < 12) ∧ (mAny (mLast ot (nI b0) x) (nI b0) = false → TrOK ot (mLast ot (nI b0) x) (nI b0))
def mBs (ot : Nat → Option Nat) (x : Nat → Nat → Int32) : Nat → (Nat → Nat → Int32)
  | 0 => x
  | k + 1 => if mBs ot x k 18 k = nI k then mTB ot (mBs ot x k) k else mBs ot x k
def mT1 (ot : Nat → Option Nat) (x : Nat → Nat → Int32) : Nat → Nat → Int32 := mLate (ur (mBs ot x 12) 36 (fun _ => mBs ot x 12 36 0 + nI 1)) 48
def mTk (ot : Nat → Option Nat) (x : Nat → Nat → Int32) : Nat → (Nat → Nat → Int32)
  | 0 => x
  | t + 1 => mT1 ot (mTk ot x t)
section Model17
variable {l : Launch} {D : va_G} {A : Nat → ClassId} {G : Heap} {h : Hp} {n mm df : Nat} {x : Nat → Nat → Int32}
set_option maxRecDepth 4000 in
set_option maxHeartbeats 1000000 in
theorem k_M_tickBus (hl : l.stackTraces = false) {b0 : Nat} {ot : Nat → Option Nat} (hb : b0 < 12) (ht36 : ∀ k t, k < 36 → ot k = some t → t < 36) (hok : TBok ot x b0) : Ct l D A G my_M_tickBus cd_M_tickBus 2 none (df + 4) 0 0 [.ref mm, .int (nI b0)] (MH A mm x h) n (fun v h' n' => v = none ∧ h' = MH A mm (mTB ot x b0) h ∧ n' = n) (fun _ _ _ => False) := by
  refine Ct.of (by decide) hl (Nat.le_of_ble_eq_true rfl) ?_
  intro p e s m args below meth c C hr hnm ht dp
  obtain ⟨hot, hpv, hmv, ⟨ck, hck, eck⟩, ⟨mg, emg, hmg⟩, htr⟩ := hok
  first | refine r_aload_n C dc_M_tickBus_0 rfl rfl ?_ | refine r_aload_nq C dc_M_tickBus_0 rfl rfl ?_
  refine r_iload_n C dc_M_tickBus_1 rfl rfl ?_
  refine r_callV C dp dc_M_tickBus_2 cw_M_209 cm_M_busDirty cv_M_busDirty rfl (mh_0) (k_M_busDirty (df := df) hl) (by omega) rfl rfl (Nat.le_of_ble_eq_true rfl) (fun v2 h2 n2 q2 z2 => ?_) (fun _ _ _ _ z => z.elim)
  obtain ⟨y2, y2h, y2n⟩ := z2
  rw [y2, y2h, y2n]
  have hA : anyT (fun k => decide (x 18 k = nI b0 ∧ ¬ x 11 k = 0)) 12 = mDirty x (nI b0) := rfl
  rw [hA]
  refine r_if_eqZ (tgt := 16) C dc_M_tickBus_5 (by decide) (fun c5 => ?_) (fun c5 => ?_)
  ·
    first | refine r_aload_n C dc_M_tickBus_16 rfl rfl ?_ | refine r_aload_nq C dc_M_tickBus_16 rfl rfl ?_
    refine r_get C dc_M_tickBus_17 fl_M_44 mh_0 rfl ?_
    refine r_iload_n C dc_M_tickBus_20 rfl rfl ?_
    refine r_zaldN C dc_M_tickBus_21 mh_12 (by omega) (by decide) ?_
    refine r_if_eq (tgt := 26) C dc_M_tickBus_22 (by decide) (fun c22 => ?_) (fun c22 => ?_)
    ·
      refine r_aload_n C dc_M_tickBus_26 rfl rfl ?_
      refine r_get C dc_M_tickBus_27 fl_M_136 mh_0 rfl ?_
      refine sb_at (P := fun v => Rw _ _ _ _ _ _ _ _ _ _ _ _ _ _ _ _ _ _ _ _ (.int v :: _)) eck ?_
      refine r_bipush (v := nI 8) C dc_M_tickBus_30 (by decide) ?_
      first | refine r_iremN C dc_M_tickBus_32 (by omega) (by decide) (by decide) ?_ | refine r_irem C dc_M_tickBus_32 (by decide) ?_
      refine r_if_ne (tgt := 53) C dc_M_tickBus_33 (by decide) (fun c33 => ?_) (fun c33 => ?_)
      ·
        first | refine r_aload_n C dc_M_tickBus_53 rfl rfl ?_ | refine r_aload_nq C dc_M_tickBus_53 rfl rfl ?_
        refine r_iload_n C dc_M_tickBus_54 rfl rfl ?_
        refine r_callV C dp dc_M_tickBus_55 cw_M_218 cm_M_slot cv_M_slot rfl (mh_0) (k_M_slot (df := df) hl hmv) (by omega) rfl rfl (Nat.le_of_ble_eq_true rfl) (fun v55 h55 n55 q55 z55 => ?_) (fun _ _ _ _ z => z.elim)
        obtain ⟨y55, y55h, y55n⟩ := z55
        rw [y55, y55h, y55n]
        exact r_vret C dp hr dc_M_tickBus_58 (Nat.le_refl _) ⟨rfl, by unfold mTB; rw [c5]; refine congrArg (fun y => MH A mm y h) ?_; refine Eq.symm ?_; exact (if_pos c22).trans (if_neg (by rw [eck, cl_nI hck]; exact c33)), rfl⟩
      ·
        first | refine r_aload_n C dc_M_tickBus_36 rfl rfl ?_ | refine r_aload_nq C dc_M_tickBus_36 rfl rfl ?_
        refine r_get C dc_M_tickBus_37 fl_M_59 mh_0 rfl ?_
        refine r_iload_n C dc_M_tickBus_40 rfl rfl ?_
        refine r_ialdN C dc_M_tickBus_41 mh_17 (by omega) (by decide) ?_
        refine sb_at (P := fun v => Rw _ _ _ _ _ _ _ _ _ _ _ _ _ _ _ _ _ _ _ _ (.int v :: _)) emg ?_
        cases emm : mg with
        | none =>
          rw [emm] at emg
          refine r_if_lt (tgt := 53) C dc_M_tickBus_42 (by decide) (fun c42 => ?_) (fun c42 => ?_)
          ·
            first | refine r_aload_n C dc_M_tickBus_53 rfl rfl ?_ | refine r_aload_nq C dc_M_tickBus_53 rfl rfl ?_
            refine r_iload_n C dc_M_tickBus_54 rfl rfl ?_
            refine r_callV C dp dc_M_tickBus_55 cw_M_218 cm_M_slot cv_M_slot rfl (mh_0) (k_M_slot (df := df) hl hmv) (by omega) rfl rfl (Nat.le_of_ble_eq_true rfl) (fun v55 h55 n55 q55 z55 => ?_) (fun _ _ _ _ z => z.elim)
            obtain ⟨y55, y55h, y55n⟩ := z55
            rw [y55, y55h, y55n]
            exact r_vret C dp hr dc_M_tickBus_58 (Nat.le_refl _) ⟨rfl, by unfold mTB; rw [c5]; refine congrArg (fun y => MH A mm y h) ?_; refine Eq.symm ?_; exact (if_pos c22).trans ((if_pos (by rw [eck, cl_nI hck]; exact c33)).trans (if_pos (by rw [emg]; exact c42))), rfl⟩
          · exact absurd m1_lt0 c42
        | some ch =>
          have hch := hmg ch emm
          rw [emm] at emg
          refine sb_at (P := fun v => Rw _ _ _ _ _ _ _ _ _ _ _ _ _ _ _ _ _ _ _ _ (.int v :: _)) (show oi (some ch) = nI ch from rfl) ?_
          refine r_if_lt (tgt := 53) C dc_M_tickBus_42 (by decide) (fun c42 => ?_) (fun c42 => ?_)
          · exact absurd c42 (nI_lt0 (by omega))
          ·
            first | refine r_aload_n C dc_M_tickBus_45 rfl rfl ?_ | refine r_aload_nq C dc_M_tickBus_45 rfl rfl ?_
            refine r_iload_n C dc_M_tickBus_46 rfl rfl ?_
            refine r_callV C dp dc_M_tickBus_47 cw_M_215 cm_M_cycle cv_M_cycle rfl (mh_0) (k_M_cycle (df := df) hl hb (show x 17 b0 = nI ch from emg) hch) (by omega) rfl rfl (Nat.le_of_ble_eq_true rfl) (fun v47 h47 n47 q47 z47 => ?_) (fun _ _ _ _ z => z.elim)
            obtain ⟨y47, y47h, y47n⟩ := z47
            rw [y47, y47h, y47n]
            refine r_goto (tgt := 58) C dc_M_tickBus_50 (by decide) ?_
            exact r_vret C dp hr dc_M_tickBus_58 (Nat.le_refl _) ⟨rfl, by unfold mTB; rw [c5]; refine congrArg (fun y => MH A mm y h) ?_; refine Eq.symm ((if_pos c22).trans ((if_pos (by rw [eck, cl_nI hck]; exact c33)).trans ((if_neg (by rw [emg]; exact nI_lt0 (by omega))).trans (by rw [show x 17 b0 = nI ch from emg, cl_nI (by omega)])))), rfl⟩
    ·
      exact r_vret C dp hr dc_M_tickBus_25 (Nat.le_refl _) ⟨rfl, by unfold mTB; rw [c5]; exact congrArg (fun y => MH A mm y h) (if_neg c22).symm, rfl⟩
  ·
    first | refine r_aload_n C dc_M_tickBus_8 rfl rfl ?_ | refine r_aload_nq C dc_M_tickBus_8 rfl rfl ?_
    refine r_iload_n C dc_M_tickBus_9 rfl rfl ?_
    refine r_callV C dp dc_M_tickBus_10 cw_M_212 cm_M_resetBus cv_M_resetBus rfl (mh_0) (k_M_resetBus (df := df) (ot := ot) hl hot ht36 hpv htr) (by omega) rfl rfl (Nat.le_of_ble_eq_true rfl) (fun v10 h10 n10 q10 z10 => ?_) (fun _ _ _ _ z => z.elim)
    obtain ⟨y10, y10h, y10n⟩ := z10
    rw [y10, y10h, y10n]
    refine r_goto (tgt := 58) C dc_M_tickBus_13 (by decide) ?_
    exact r_vret C dp hr dc_M_tickBus_58 (Nat.le_refl _) ⟨rfl, by unfold mTB; rw [c5]; rfl, rfl⟩
end Model17
